def X4_partOfFraction_L9 (k : Int64 → Option (Int64)) : Nat → Int64 → Int64 → Int32 → Option (Int64)
  | 0, _, _, _ => none
  | n + 1, x5, x7, x9 =>
  if (100 : Int32) ≤ x9 then
  k x5
  else
  if (lg_cmp x7 (0 : Int64)) = (0 : Int32) then
  k x5
  else
  if x7 = 0 then none else
  X4_partOfFraction_L9 k n x7 (x5 - x5 / x7 * x7) (x9 + (1 : Int32))
def X4_partOfFraction (p0 : Int64) (p1 : Int64) (p2 : Int32) : Option (Int64) :=
  X4_partOfFraction_L9 (fun y5_1 =>
  if p2 = (0 : Int32) then
  if (lg_cmp y5_1 (0 : Int64)) = (0 : Int32) then
  some p0
  else
  if y5_1 = 0 then none else
  some (p0 / y5_1)
  else
  if (lg_cmp y5_1 (0 : Int64)) = (0 : Int32) then
  some p1
  else
  if y5_1 = 0 then none else
  some (p1 / y5_1)) 1000 p0 p1 (0 : Int32)
set_option maxRecDepth 100000 in
set_option maxHeartbeats 4000000 in
theorem l_X4_partOfFraction_L9 {l : Launch} {p : Program} {e : Env} {s : State} {m : MethodId} {args : Array Value} {below : List Frame} {meth : Method} {c : Code} {A : Nat → Prop} {G : Gx} {w : va_W} {x0 : Int64} {x2 : Int64} {x4 : Int32} {k : Int64 → Option (Int64)} {out : Int64} (C : Cx p s m args meth c cX4_partOfFraction RX4 12 (some .long) G) : ∀ (n : Nat) (x5 : Int64) (x7 : Int64) (x9 : Int32), X4_partOfFraction_L9 k n x5 x7 x9 = some out → ∀ (H : Heap) (locs : List Loc), St G A s.heap H locs w → ∀ ls : Array Slot, lv_has ls 12 [(0, .long x0), (2, .long x2), (4, .int x4), (5, .long x5), (7, .long x7), (9, .int x9)] → (∀ (y5 : Int64), k y5 = some out → ∀ (H : Heap) (locs : List Loc), St G A s.heap H locs w → ∀ ls : Array Slot, lv_has ls 12 [(0, .long x0), (2, .long x2), (4, .int x4), (5, .long y5)] → W p l e (rmOf 0 0) s m args below meth c H locs 0 0 (MQ below (Qof G A (some (.long out)) w) args s 0 0 A) (F0 m 44 ls [])) → W p l e (rmOf 0 0) s m args below meth c H locs 0 0 (MQ below (Qof G A (some (.long out)) w) args s 0 0 A) (F0 m 9 ls []) := by
  obtain ⟨hx, hb, hml, hown, hts, hK, hret, hlk⟩ := id C
  intro n
  induction n with
  | zero => intro x5 x7 x9 hf; cases hf
  | succ n ih =>
    intro x5 x7 x9 hf H locs hs ls hl hk
    rw [X4_partOfFraction_L9] at hf
    refine lv_iload hx hb (dk hX4_partOfFraction_0 6 rfl) (lv_at hl 5 rfl) ?_
    refine lv_bipush (v := (100 : Int32)) hx hb (dk hX4_partOfFraction_0 7 rfl) (by decide) ?_
    refine lv_icmp_ge (tgt := 44) hx hb (dk hX4_partOfFraction_0 8 rfl) (by decide) (fun hc => ?_) (fun hc => ?_)
    · replace hf := ip hf hc
      exact hk _ hf _ _ hs _ (lv_sub hl [0, 1, 2, 3] rfl)
    · replace hf := in_ hf hc
      refine lv_lload hx hb (dk hX4_partOfFraction_0 9 rfl) (lv_at hl 4 rfl) ?_
      refine lv_lconst (v := (0 : Int64)) hx hb (dk hX4_partOfFraction_0 10 rfl) (by decide) ?_
      refine W.lcmp hx hb (dk hX4_partOfFraction_0 11 rfl) ?_
      refine lv_if_eq (tgt := 44) hx hb (dk hX4_partOfFraction_0 12 rfl) (by decide) (fun hc => ?_) (fun hc => ?_)
      · replace hf := ip hf hc
        exact hk _ hf _ _ hs _ (lv_sub hl [0, 1, 2, 3] rfl)
      · replace hf := in_ hf hc
        refine lv_lload hx hb (dk hX4_partOfFraction_0 13 rfl) (lv_at hl 3 rfl) ?_
        refine lv_lload hx hb (dk hX4_partOfFraction_0 14 rfl) (lv_at hl 4 rfl) ?_
        obtain ⟨hne, hf⟩ := idn hf
        refine lv_lrem hx hb (dk hX4_partOfFraction_0 15 rfl) hne ?_
        refine lv_lstore (lv' := [(10, .long (x5 - x5 / x7 * x7)), (0, .long x0), (2, .long x2), (4, .int x4), (5, .long x5), (7, .long x7), (9, .int x9)]) hx hb (dk hX4_partOfFraction_0 16 rfl) hl (by decide) rfl (fun ls hl => ?_)
        refine lv_lload hx hb (dk hX4_partOfFraction_0 17 rfl) (lv_at hl 5 rfl) ?_
        refine lv_lstore (lv' := [(5, .long x7), (10, .long (x5 - x5 / x7 * x7)), (0, .long x0), (2, .long x2), (4, .int x4), (7, .long x7), (9, .int x9)]) hx hb (dk hX4_partOfFraction_0 18 rfl) hl (by decide) rfl (fun ls hl => ?_)
        refine lv_lload hx hb (dk hX4_partOfFraction_0 19 rfl) (lv_at hl 1 rfl) ?_
        refine lv_lstore (lv' := [(7, .long (x5 - x5 / x7 * x7)), (5, .long x7), (10, .long (x5 - x5 / x7 * x7)), (0, .long x0), (2, .long x2), (4, .int x4), (9, .int x9)]) hx hb (dk hX4_partOfFraction_0 20 rfl) hl (by decide) rfl (fun ls hl => ?_)
        refine lv_iinc (v := (x9 + (1 : Int32))) (lv' := [(9, .int (x9 + (1 : Int32))), (7, .long (x5 - x5 / x7 * x7)), (5, .long x7), (10, .long (x5 - x5 / x7 * x7)), (0, .long x0), (2, .long x2), (4, .int x4)]) hx hb (dk hX4_partOfFraction_0 21 rfl) hl (k := 6) rfl (by first | rfl | decide) (by decide) rfl (fun ls hl => ?_)
        refine lv_goto (tgt := 9) hx hb (dk hX4_partOfFraction_0 22 rfl) (by decide) ?_
        exact ih _ _ _ hf _ _ hs _ (lv_sub hl [4, 5, 6, 2, 1, 0] rfl) hk
set_option maxRecDepth 100000 in
set_option maxHeartbeats 4000000 in
theorem c_X4_partOfFraction {l : Launch} {G : Gx} {w : va_W} {p0 : Int64} {p1 : Int64} {p2 : Int32} {out : Int64} (hf : X4_partOfFraction p0 p1 p2 = some out) : Ct l G yX4_partOfFraction cX4_partOfFraction 12 (some .long) 0 0 [.long p0, .long p1, .int p2] w (some (.long out)) w := by
  refine Ct.intro RX4 rfl (plainFor_of_name (by decide)) (Nat.le_of_ble_eq_true rfl) rfl ?_
  intro p e s m args below meth c A C H locs hs ls hl
  obtain ⟨hx, hb, hml, hown, hts, hK, hret, hlk⟩ := id C
  have hl : lv_has ls 12 [(0, .long p0), (2, .long p1), (4, .int p2)] := hl
  unfold X4_partOfFraction at hf
  refine lv_lload_n hx hb (dk hX4_partOfFraction_0 0 rfl) rfl (lv_at hl 0 rfl) ?_
  refine lv_lstore (lv' := [(5, .long p0), (0, .long p0), (2, .long p1), (4, .int p2)]) hx hb (dk hX4_partOfFraction_0 1 rfl) hl (by decide) rfl (fun ls hl => ?_)
  refine lv_lload_n hx hb (dk hX4_partOfFraction_0 2 rfl) rfl (lv_at hl 2 rfl) ?_
  refine lv_lstore (lv' := [(7, .long p1), (5, .long p0), (0, .long p0), (2, .long p1), (4, .int p2)]) hx hb (dk hX4_partOfFraction_0 3 rfl) hl (by decide) rfl (fun ls hl => ?_)
  refine lv_iconst (v := (0 : Int32)) hx hb (dk hX4_partOfFraction_0 4 rfl) (by decide) ?_
  refine lv_istore (lv' := [(9, .int (0 : Int32)), (7, .long p1), (5, .long p0), (0, .long p0), (2, .long p1), (4, .int p2)]) hx hb (dk hX4_partOfFraction_0 5 rfl) hl (by decide) rfl (fun ls hl => ?_)
  refine l_X4_partOfFraction_L9 C 1000 _ _ _ hf _ _ hs _ (lv_sub hl [3, 4, 5, 2, 1, 0] rfl) (fun y5_1 hf H locs hs ls hl => ?_)
  refine lv_iload hx hb (dk hX4_partOfFraction_0 23 rfl) (lv_at hl 2 rfl) ?_
  refine lv_if_ne (tgt := 53) hx hb (dk hX4_partOfFraction_0 24 rfl) (by decide) (fun hc => ?_) (fun hc => ?_)
  · replace hf := in_ hf hc
    refine lv_lload_n hx hb (dk hX4_partOfFraction_0 27 rfl) rfl (lv_at hl 1 rfl) ?_
    refine lv_lstore (lv' := [(9, .long p1), (0, .long p0), (2, .long p1), (4, .int p2), (5, .long y5_1)]) hx hb (dk hX4_partOfFraction_0 28 rfl) hl (by decide) rfl (fun ls hl => ?_)
    refine lv_lload hx hb (dk hX4_partOfFraction_0 29 rfl) (lv_at hl 4 rfl) ?_
    refine lv_lconst (v := (0 : Int64)) hx hb (dk hX4_partOfFraction_0 30 rfl) (by decide) ?_
    refine W.lcmp hx hb (dk hX4_partOfFraction_0 31 rfl) ?_
    refine lv_if_eq (tgt := 71) hx hb (dk hX4_partOfFraction_0 32 rfl) (by decide) (fun hc => ?_) (fun hc => ?_)
    · replace hf := ip hf hc
      refine lv_lload hx hb (dk hX4_partOfFraction_0 37 rfl) (lv_at hl 0 rfl) ?_
      cases hf
      exact rl C hs (dk hX4_partOfFraction_0 38 rfl)
    · replace hf := in_ hf hc
      refine lv_lload hx hb (dk hX4_partOfFraction_0 33 rfl) (lv_at hl 0 rfl) ?_
      refine lv_lload hx hb (dk hX4_partOfFraction_0 34 rfl) (lv_at hl 4 rfl) ?_
      obtain ⟨hne, hf⟩ := idn hf
      refine lv_ldiv hx hb (dk hX4_partOfFraction_0 35 rfl) hne ?_
      refine lv_goto (tgt := 73) hx hb (dk hX4_partOfFraction_0 36 rfl) (by decide) ?_
      cases hf
      exact rl C hs (dk hX4_partOfFraction_0 38 rfl)
  · replace hf := ip hf hc
    refine lv_lload_n hx hb (dk hX4_partOfFraction_0 25 rfl) rfl (lv_at hl 0 rfl) ?_
    refine lv_goto (tgt := 54) hx hb (dk hX4_partOfFraction_0 26 rfl) (by decide) ?_
    refine lv_lstore (lv' := [(9, .long p0), (0, .long p0), (2, .long p1), (4, .int p2), (5, .long y5_1)]) hx hb (dk hX4_partOfFraction_0 28 rfl) hl (by decide) rfl (fun ls hl => ?_)
    refine lv_lload hx hb (dk hX4_partOfFraction_0 29 rfl) (lv_at hl 4 rfl) ?_
    refine lv_lconst (v := (0 : Int64)) hx hb (dk hX4_partOfFraction_0 30 rfl) (by decide) ?_
    refine W.lcmp hx hb (dk hX4_partOfFraction_0 31 rfl) ?_
    refine lv_if_eq (tgt := 71) hx hb (dk hX4_partOfFraction_0 32 rfl) (by decide) (fun hc => ?_) (fun hc => ?_)
    · replace hf := ip hf hc
      refine lv_lload hx hb (dk hX4_partOfFraction_0 37 rfl) (lv_at hl 0 rfl) ?_
      cases hf
      exact rl C hs (dk hX4_partOfFraction_0 38 rfl)
    · replace hf := in_ hf hc
      refine lv_lload hx hb (dk hX4_partOfFraction_0 33 rfl) (lv_at hl 0 rfl) ?_
      refine lv_lload hx hb (dk hX4_partOfFraction_0 34 rfl) (lv_at hl 4 rfl) ?_
      obtain ⟨hne, hf⟩ := idn hf
      refine lv_ldiv hx hb (dk hX4_partOfFraction_0 35 rfl) hne ?_
      refine lv_goto (tgt := 73) hx hb (dk hX4_partOfFraction_0 36 rfl) (by decide) ?_
      cases hf
      exact rl C hs (dk hX4_partOfFraction_0 38 rfl)

def X4_isInThrough_L9 (k : List Int32 → Int32 → Int32 → Int32 → Option (List Int32 × List Int32 × List Int32 × List Int32 × List Int32 × List Int32 × List Int32 × Int32 × Int32 × Int32 × Int32 × Int32)) (m_used : List Int32) (m_hidden : List Int32) (m_kind : List Int32) (m_figure : List Int32) (m_cargo : List Int32) (m_load : List Int32) (m_ships : Int32) (x2 : Int32) (x3 : Int32) : Nat → Int32 → List Int32 → Int32 → Int32 → Int32 → Option (List Int32 × List Int32 × List Int32 × List Int32 × List Int32 × List Int32 × List Int32 × Int32 × Int32 × Int32 × Int32 × Int32)
  | 0, _, _, _, _, _ => none
  | n + 1, x5, m_there, m_inn, m_coughs, m_day =>
  if x2 ≤ x5 then
  k m_there m_inn m_coughs m_day
  else
  if ((x3 >>> (x5 &&& 31)) &&& (1 : Int32)) = (0 : Int32) then
  (X0_passDay m_there m_used m_hidden m_kind m_figure m_cargo m_load m_ships m_inn m_coughs m_day (0 : Int32)).bind fun u_3 =>
  X4_isInThrough_L9 k m_used m_hidden m_kind m_figure m_cargo m_load m_ships x2 x3 n (x5 + (1 : Int32)) u_3.1 u_3.2.1 u_3.2.2.1 u_3.2.2.2
  else
  (X0_passDay m_there m_used m_hidden m_kind m_figure m_cargo m_load m_ships m_inn m_coughs m_day (127 : Int32)).bind fun u_5 =>
  X4_isInThrough_L9 k m_used m_hidden m_kind m_figure m_cargo m_load m_ships x2 x3 n (x5 + (1 : Int32)) u_5.1 u_5.2.1 u_5.2.2.1 u_5.2.2.2
def X4_isInThrough (m_there : List Int32) (m_used : List Int32) (m_hidden : List Int32) (m_kind : List Int32) (m_figure : List Int32) (m_cargo : List Int32) (m_load : List Int32) (n_there : List Int32) (n_used : List Int32) (n_hidden : List Int32) (n_kind : List Int32) (n_figure : List Int32) (n_cargo : List Int32) (n_load : List Int32) (m_ships : Int32) (m_inn : Int32) (m_coughs : Int32) (m_day : Int32) (n_ships : Int32) (n_inn : Int32) (n_coughs : Int32) (n_day : Int32) (p0 : Int32) (p1 : Int32) (p2 : Int32) : Option (List Int32 × List Int32 × List Int32 × List Int32 × List Int32 × List Int32 × List Int32 × Int32 × Int32 × Int32 × Int32 × Int32) :=
  (X4_fromNow m_there m_used m_hidden m_kind m_figure m_cargo m_load n_there n_used n_hidden n_kind n_figure n_cargo n_load m_ships m_inn m_coughs m_day n_ships n_inn n_coughs n_day).bind fun u_1 =>
  X4_isInThrough_L9 (fun m_there_7 m_inn_8 m_coughs_9 m_day_10 =>
  (X0_isIn m_inn_8 p0).bind fun u_11 =>
  (c01 u_11).bind fun b_13 =>
  some (m_there_7, u_1.2.1, u_1.2.2.1, u_1.2.2.2.1, u_1.2.2.2.2.1, u_1.2.2.2.2.2.1, u_1.2.2.2.2.2.2.1, u_1.2.2.2.2.2.2.2.1, m_inn_8, m_coughs_9, m_day_10, b_13)) u_1.2.1 u_1.2.2.1 u_1.2.2.2.1 u_1.2.2.2.2.1 u_1.2.2.2.2.2.1 u_1.2.2.2.2.2.2.1 u_1.2.2.2.2.2.2.2.1 p1 p2 1000 (0 : Int32) u_1.1 u_1.2.2.2.2.2.2.2.2.1 u_1.2.2.2.2.2.2.2.2.2.1 u_1.2.2.2.2.2.2.2.2.2.2
set_option maxRecDepth 100000 in
set_option maxHeartbeats 4000000 in
theorem l_X4_isInThrough_L9 {l : Launch} {p : Program} {e : Env} {s : State} {m : MethodId} {args : Array Value} {below : List Frame} {meth : Method} {c : Code} {A : Nat → Prop} {G : Gx} {ad adt adb ade adm adn adk adp : Nat → Nat} {adr : Nat → Nat → Nat} {refusals tcells lcells m_used m_hidden m_kind m_figure m_cargo m_load n_there n_used n_hidden n_kind n_figure n_cargo n_load k_there k_used k_hidden k_kind k_figure k_cargo k_load : List Int32} {isKept tlen llen m_ships n_ships n_inn n_coughs n_day k_ships k_inn k_coughs k_day held : Int32} {perm : Nat → Nat} {hist : Nat → Hs} {x1 : Int32} {x2 : Int32} {x3 : Int32} {k : List Int32 → Int32 → Int32 → Int32 → Option (List Int32 × List Int32 × List Int32 × List Int32 × List Int32 × List Int32 × List Int32 × Int32 × Int32 × Int32 × Int32 × Int32)} {out : List Int32 × List Int32 × List Int32 × List Int32 × List Int32 × List Int32 × List Int32 × Int32 × Int32 × Int32 × Int32 × Int32} (C : Cx p s m args meth c cX4_isInThrough RX4 6 (some .boolean) G) : ∀ (n : Nat) (x5 : Int32) (m_there : List Int32) (m_inn : Int32) (m_coughs : Int32) (m_day : Int32), X4_isInThrough_L9 k m_used m_hidden m_kind m_figure m_cargo m_load m_ships x2 x3 n x5 m_there m_inn m_coughs m_day = some out → ∀ (H : Heap) (locs : List Loc), St G A s.heap H locs (wT G ad adt adb ade adm adn adk adp adr refusals tcells lcells m_there m_used m_hidden m_kind m_figure m_cargo m_load n_there n_used n_hidden n_kind n_figure n_cargo n_load k_there k_used k_hidden k_kind k_figure k_cargo k_load isKept tlen llen m_ships m_inn m_coughs m_day n_ships n_inn n_coughs n_day k_ships k_inn k_coughs k_day held perm hist) → ∀ ls : Array Slot, lv_has ls 6 [(1, .int x1), (2, .int x2), (3, .int x3), (4, .ref (adm 0)), (5, .int x5)] → (∀ (z_m_there : List Int32) (z_m_inn : Int32) (z_m_coughs : Int32) (z_m_day : Int32), k z_m_there z_m_inn z_m_coughs z_m_day = some out → ∀ (H : Heap) (locs : List Loc), St G A s.heap H locs (wT G ad adt adb ade adm adn adk adp adr refusals tcells lcells z_m_there m_used m_hidden m_kind m_figure m_cargo m_load n_there n_used n_hidden n_kind n_figure n_cargo n_load k_there k_used k_hidden k_kind k_figure k_cargo k_load isKept tlen llen m_ships z_m_inn z_m_coughs z_m_day n_ships n_inn n_coughs n_day k_ships k_inn k_coughs k_day held perm hist) → ∀ ls : Array Slot, lv_has ls 6 [(1, .int x1), (4, .ref (adm 0))] → W p l e (rmOf 4 89) s m args below meth c H locs 0 0 (MQ below (Qof G A (some (.int out.2.2.2.2.2.2.2.2.2.2.2)) (wT G ad adt adb ade adm adn adk adp adr refusals tcells lcells out.1 out.2.1 out.2.2.1 out.2.2.2.1 out.2.2.2.2.1 out.2.2.2.2.2.1 out.2.2.2.2.2.2.1 n_there n_used n_hidden n_kind n_figure n_cargo n_load k_there k_used k_hidden k_kind k_figure k_cargo k_load isKept tlen llen out.2.2.2.2.2.2.2.1 out.2.2.2.2.2.2.2.2.1 out.2.2.2.2.2.2.2.2.2.1 out.2.2.2.2.2.2.2.2.2.2.1 n_ships n_inn n_coughs n_day k_ships k_inn k_coughs k_day held perm hist)) args s 0 0 A) (F0 m 41 ls [])) → W p l e (rmOf 4 89) s m args below meth c H locs 0 0 (MQ below (Qof G A (some (.int out.2.2.2.2.2.2.2.2.2.2.2)) (wT G ad adt adb ade adm adn adk adp adr refusals tcells lcells out.1 out.2.1 out.2.2.1 out.2.2.2.1 out.2.2.2.2.1 out.2.2.2.2.2.1 out.2.2.2.2.2.2.1 n_there n_used n_hidden n_kind n_figure n_cargo n_load k_there k_used k_hidden k_kind k_figure k_cargo k_load isKept tlen llen out.2.2.2.2.2.2.2.1 out.2.2.2.2.2.2.2.2.1 out.2.2.2.2.2.2.2.2.2.1 out.2.2.2.2.2.2.2.2.2.2.1 n_ships n_inn n_coughs n_day k_ships k_inn k_coughs k_day held perm hist)) args s 0 0 A) (F0 m 9 ls []) := by
  obtain ⟨hx, hb, hml, hown, hts, hK, hret, hlk⟩ := id C
  intro n
  induction n with
  | zero => intro x5 m_there m_inn m_coughs m_day hf; cases hf
  | succ n ih =>
    intro x5 m_there m_inn m_coughs m_day hf H locs hs ls hl hk
    rw [X4_isInThrough_L9] at hf
    refine lv_iload hx hb (dk hX4_isInThrough_0 5 rfl) (lv_at hl 4 rfl) ?_
    refine lv_iload_n hx hb (dk hX4_isInThrough_0 6 rfl) rfl (lv_at hl 1 rfl) ?_
    refine lv_icmp_ge (tgt := 41) hx hb (dk hX4_isInThrough_0 7 rfl) (by decide) (fun hc => ?_) (fun hc => ?_)
    · replace hf := ip hf hc
      exact hk _ _ _ _ hf _ _ hs _ (lv_sub hl [0, 3] rfl)
    · replace hf := in_ hf hc
      refine lv_aload hx hb (dk hX4_isInThrough_0 8 rfl) (lv_at hl 3 rfl) ?_
      refine lv_iload_n hx hb (dk hX4_isInThrough_0 9 rfl) rfl (lv_at hl 2 rfl) ?_
      refine lv_iload hx hb (dk hX4_isInThrough_0 10 rfl) (lv_at hl 4 rfl) ?_
      refine lv_ishr hx hb (dk hX4_isInThrough_0 11 rfl) ?_
      refine lv_iconst (v := (1 : Int32)) hx hb (dk hX4_isInThrough_0 12 rfl) (by decide) ?_
      refine lv_iand hx hb (dk hX4_isInThrough_0 13 rfl) ?_
      refine lv_if_eq (tgt := 31) hx hb (dk hX4_isInThrough_0 14 rfl) (by decide) (fun hc => ?_) (fun hc => ?_)
      · replace hf := ip hf hc
        refine lv_iconst (v := (0 : Int32)) hx hb (dk hX4_isInThrough_0 17 rfl) (by decide) ?_
        obtain ⟨u_3, e_4, hf⟩ := Option.bind_eq_some_iff.mp hf
        refine Ct.V (As := [.int (0 : Int32)]) (rest := []) (st1 := []) (w1 := (wT G ad adt adb ade adm adn adk adp adr refusals tcells lcells u_3.1 m_used m_hidden m_kind m_figure m_cargo m_load n_there n_used n_hidden n_kind n_figure n_cargo n_load k_there k_used k_hidden k_kind k_figure k_cargo k_load isKept tlen llen m_ships u_3.2.1 u_3.2.2.1 u_3.2.2.2 n_ships n_inn n_coughs n_day k_ships k_inn k_coughs k_day held perm hist)) C hs (c_X0_passDay__mind e_4) tw_479 tw_329 tw_330 tw_80 tw_331 nq_X0_passDay (by decide) 7 0 rfl rfl rfl rfl hl.1 rfl (Nat.le_of_ble_eq_true rfl) (dk hX4_isInThrough_0 18 rfl) ⟨Nat.zero_le _, Nat.zero_le _⟩ rfl (fun H locs hs => ?_)
        refine lv_iinc (v := (x5 + (1 : Int32))) (lv' := [(5, .int (x5 + (1 : Int32))), (1, .int x1), (2, .int x2), (3, .int x3), (4, .ref (adm 0))]) hx hb (dk hX4_isInThrough_0 19 rfl) hl (k := 4) rfl (by first | rfl | decide) (by decide) rfl (fun ls hl => ?_)
        refine lv_goto (tgt := 9) hx hb (dk hX4_isInThrough_0 20 rfl) (by decide) ?_
        exact ih _ _ _ _ _ hf _ _ hs _ (lv_sub hl [1, 2, 3, 4, 0] rfl) hk
      · replace hf := in_ hf hc
        refine lv_bipush (v := (127 : Int32)) hx hb (dk hX4_isInThrough_0 15 rfl) (by decide) ?_
        refine lv_goto (tgt := 32) hx hb (dk hX4_isInThrough_0 16 rfl) (by decide) ?_
        obtain ⟨u_5, e_6, hf⟩ := Option.bind_eq_some_iff.mp hf
        refine Ct.V (As := [.int (127 : Int32)]) (rest := []) (st1 := []) (w1 := (wT G ad adt adb ade adm adn adk adp adr refusals tcells lcells u_5.1 m_used m_hidden m_kind m_figure m_cargo m_load n_there n_used n_hidden n_kind n_figure n_cargo n_load k_there k_used k_hidden k_kind k_figure k_cargo k_load isKept tlen llen m_ships u_5.2.1 u_5.2.2.1 u_5.2.2.2 n_ships n_inn n_coughs n_day k_ships k_inn k_coughs k_day held perm hist)) C hs (c_X0_passDay__mind e_6) tw_479 tw_329 tw_330 tw_80 tw_331 nq_X0_passDay (by decide) 7 0 rfl rfl rfl rfl hl.1 rfl (Nat.le_of_ble_eq_true rfl) (dk hX4_isInThrough_0 18 rfl) ⟨Nat.zero_le _, Nat.zero_le _⟩ rfl (fun H locs hs => ?_)
        refine lv_iinc (v := (x5 + (1 : Int32))) (lv' := [(5, .int (x5 + (1 : Int32))), (1, .int x1), (2, .int x2), (3, .int x3), (4, .ref (adm 0))]) hx hb (dk hX4_isInThrough_0 19 rfl) hl (k := 4) rfl (by first | rfl | decide) (by decide) rfl (fun ls hl => ?_)
        refine lv_goto (tgt := 9) hx hb (dk hX4_isInThrough_0 20 rfl) (by decide) ?_
        exact ih _ _ _ _ _ hf _ _ hs _ (lv_sub hl [1, 2, 3, 4, 0] rfl) hk
set_option maxRecDepth 100000 in
set_option maxHeartbeats 4000000 in
theorem c_X4_isInThrough {l : Launch} {G : Gx} {ad adt adb ade adm adn adk adp : Nat → Nat} {adr : Nat → Nat → Nat} {refusals tcells lcells m_there m_used m_hidden m_kind m_figure m_cargo m_load n_there n_used n_hidden n_kind n_figure n_cargo n_load k_there k_used k_hidden k_kind k_figure k_cargo k_load : List Int32} {isKept tlen llen m_ships m_inn m_coughs m_day n_ships n_inn n_coughs n_day k_ships k_inn k_coughs k_day held : Int32} {perm : Nat → Nat} {hist : Nat → Hs} {p0 : Int32} {p1 : Int32} {p2 : Int32} {out : List Int32 × List Int32 × List Int32 × List Int32 × List Int32 × List Int32 × List Int32 × Int32 × Int32 × Int32 × Int32 × Int32} (hf : X4_isInThrough m_there m_used m_hidden m_kind m_figure m_cargo m_load n_there n_used n_hidden n_kind n_figure n_cargo n_load m_ships m_inn m_coughs m_day n_ships n_inn n_coughs n_day p0 p1 p2 = some out) : Ct l G yX4_isInThrough cX4_isInThrough 6 (some .boolean) 4 89 [.ref (ad 0), .int p0, .int p1, .int p2] (wT G ad adt adb ade adm adn adk adp adr refusals tcells lcells m_there m_used m_hidden m_kind m_figure m_cargo m_load n_there n_used n_hidden n_kind n_figure n_cargo n_load k_there k_used k_hidden k_kind k_figure k_cargo k_load isKept tlen llen m_ships m_inn m_coughs m_day n_ships n_inn n_coughs n_day k_ships k_inn k_coughs k_day held perm hist) (some (.int out.2.2.2.2.2.2.2.2.2.2.2)) (wT G ad adt adb ade adm adn adk adp adr refusals tcells lcells out.1 out.2.1 out.2.2.1 out.2.2.2.1 out.2.2.2.2.1 out.2.2.2.2.2.1 out.2.2.2.2.2.2.1 n_there n_used n_hidden n_kind n_figure n_cargo n_load k_there k_used k_hidden k_kind k_figure k_cargo k_load isKept tlen llen out.2.2.2.2.2.2.2.1 out.2.2.2.2.2.2.2.2.1 out.2.2.2.2.2.2.2.2.2.1 out.2.2.2.2.2.2.2.2.2.2.1 n_ships n_inn n_coughs n_day k_ships k_inn k_coughs k_day held perm hist) := by
  refine Ct.intro RX4 rfl (plainFor_of_name (by decide)) (Nat.le_of_ble_eq_true rfl) rfl ?_
  intro p e s m args below meth c A C H locs hs ls hl
  obtain ⟨hx, hb, hml, hown, hts, hK, hret, hlk⟩ := id C
  have hl : lv_has ls 6 [(0, .ref (ad 0)), (1, .int p0), (2, .int p1), (3, .int p2)] := hl
  unfold X4_isInThrough at hf
  refine lv_aload_n hx hb (dk hX4_isInThrough_0 0 rfl) rfl (lv_at hl 0 rfl) ?_
  obtain ⟨u_1, e_2, hf⟩ := Option.bind_eq_some_iff.mp hf
  refine Ct.V (As := []) (rest := []) (st1 := [.ref (adm 0)]) (w1 := (wT G ad adt adb ade adm adn adk adp adr refusals tcells lcells u_1.1 u_1.2.1 u_1.2.2.1 u_1.2.2.2.1 u_1.2.2.2.2.1 u_1.2.2.2.2.2.1 u_1.2.2.2.2.2.2.1 n_there n_used n_hidden n_kind n_figure n_cargo n_load k_there k_used k_hidden k_kind k_figure k_cargo k_load isKept tlen llen u_1.2.2.2.2.2.2.2.1 u_1.2.2.2.2.2.2.2.2.1 u_1.2.2.2.2.2.2.2.2.2.1 u_1.2.2.2.2.2.2.2.2.2.2 n_ships n_inn n_coughs n_day k_ships k_inn k_coughs k_day held perm hist)) C hs (c_X4_fromNow e_2) tw_246 tw_248 tw_1 tw_79 tw_249 nq_X4_fromNow (by decide) 0 4 rfl rfl rfl rfl hl.1 rfl (Nat.le_of_ble_eq_true rfl) (dk hX4_isInThrough_0 1 rfl) ⟨Nat.zero_le _, Nat.zero_le _⟩ rfl (fun H locs hs => ?_)
  refine lv_astore (lv' := [(4, .ref (adm 0)), (0, .ref (ad 0)), (1, .int p0), (2, .int p1), (3, .int p2)]) hx hb (dk hX4_isInThrough_0 2 rfl) hl (by decide) rfl (fun ls hl => ?_)
  refine lv_iconst (v := (0 : Int32)) hx hb (dk hX4_isInThrough_0 3 rfl) (by decide) ?_
  refine lv_istore (lv' := [(5, .int (0 : Int32)), (4, .ref (adm 0)), (0, .ref (ad 0)), (1, .int p0), (2, .int p1), (3, .int p2)]) hx hb (dk hX4_isInThrough_0 4 rfl) hl (by decide) rfl (fun ls hl => ?_)
  refine l_X4_isInThrough_L9 C 1000 _ _ _ _ _ hf _ _ hs _ (lv_sub hl [3, 4, 5, 1, 0] rfl) (fun m_there_7 m_inn_8 m_coughs_9 m_day_10 hf H locs hs ls hl => ?_)
  refine lv_aload hx hb (dk hX4_isInThrough_0 21 rfl) (lv_at hl 1 rfl) ?_
  refine lv_iload_n hx hb (dk hX4_isInThrough_0 22 rfl) rfl (lv_at hl 0 rfl) ?_
  obtain ⟨u_11, e_12, hf⟩ := Option.bind_eq_some_iff.mp hf
  refine Ct.V (As := [.int p0]) (rest := []) (st1 := [.int u_11]) (w1 := (wT G ad adt adb ade adm adn adk adp adr refusals tcells lcells m_there_7 u_1.2.1 u_1.2.2.1 u_1.2.2.2.1 u_1.2.2.2.2.1 u_1.2.2.2.2.2.1 u_1.2.2.2.2.2.2.1 n_there n_used n_hidden n_kind n_figure n_cargo n_load k_there k_used k_hidden k_kind k_figure k_cargo k_load isKept tlen llen u_1.2.2.2.2.2.2.2.1 m_inn_8 m_coughs_9 m_day_10 n_ships n_inn n_coughs n_day k_ships k_inn k_coughs k_day held perm hist)) C hs (c_X0_isIn__mind e_12) tw_394 tw_298 tw_299 tw_80 tw_300 nq_X0_isIn (by decide) 7 0 rfl rfl rfl rfl hl.1 rfl (Nat.le_of_ble_eq_true rfl) (dk hX4_isInThrough_0 23 rfl) ⟨Nat.zero_le _, Nat.zero_le _⟩ rfl (fun H locs hs => ?_)
  obtain ⟨b_13, hz_14, hf⟩ := Option.bind_eq_some_iff.mp hf
  obtain ⟨hxe, hz⟩ := c01_z hz_14
  replace hxe := hxe.symm
  subst hxe
  cases hf
  exact rz hz C hs (dk hX4_isInThrough_0 24 rfl)

def X4_storms_L76 (k : Int64 → List Int32 → List Int32 → List Int32 → List Int32 → List Int32 → List Int32 → List Int32 → Int32 → Int32 → Int32 → Int32 → Option (List Int32 × List Int32 × List Int32 × List Int32 × List Int32 × List Int32 × List Int32 × List Int32 × Int32 × Int32 × Int32 × Int32 × Int64)) (n_there : List Int32) (n_used : List Int32) (n_hidden : List Int32) (n_kind : List Int32) (n_figure : List Int32) (n_cargo : List Int32) (n_load : List Int32) (n_ships : Int32) (n_inn : Int32) (n_coughs : Int32) (n_day : Int32) (x1 : Int32) (x2 : Int32) (x3 : Int32) : Nat → Int64 → Int32 → List Int32 → List Int32 → List Int32 → List Int32 → List Int32 → List Int32 → List Int32 → Int32 → Int32 → Int32 → Int32 → Option (List Int32 × List Int32 × List Int32 × List Int32 × List Int32 × List Int32 × List Int32 × List Int32 × Int32 × Int32 × Int32 × Int32 × Int64)
  | 0, _, _, _, _, _, _, _, _, _, _, _, _, _ => none
  | n + 1, x5, x7, m_there, m_used, m_hidden, m_kind, m_figure, m_cargo, m_load, m_ships, m_inn, m_coughs, m_day =>
  if ((1 : Int32) <<< (x2 &&& 31)) ≤ x7 then
  k x5 m_there m_used m_hidden m_kind m_figure m_cargo m_load m_ships m_inn m_coughs m_day
  else
  (X4_isInThrough m_there m_used m_hidden m_kind m_figure m_cargo m_load n_there n_used n_hidden n_kind n_figure n_cargo n_load m_ships m_inn m_coughs m_day n_ships n_inn n_coughs n_day x1 x2 x7).bind fun u_9 =>
  if u_9.2.2.2.2.2.2.2.2.2.2.2 = (0 : Int32) then
  X4_storms_L76 k n_there n_used n_hidden n_kind n_figure n_cargo n_load n_ships n_inn n_coughs n_day x1 x2 x3 n x5 (x7 + (1 : Int32)) u_9.1 u_9.2.1 u_9.2.2.1 u_9.2.2.2.1 u_9.2.2.2.2.1 u_9.2.2.2.2.2.1 u_9.2.2.2.2.2.2.1 u_9.2.2.2.2.2.2.2.1 u_9.2.2.2.2.2.2.2.2.1 u_9.2.2.2.2.2.2.2.2.2.1 u_9.2.2.2.2.2.2.2.2.2.2.1
  else
  (J6_bitCount_0f7a4 x7).bind fun u_11 =>
  (X4_power (x3 - (1 : Int32)) (x2 - u_11)).bind fun u_13 =>
  X4_storms_L76 k n_there n_used n_hidden n_kind n_figure n_cargo n_load n_ships n_inn n_coughs n_day x1 x2 x3 n (x5 + u_13) (x7 + (1 : Int32)) u_9.1 u_9.2.1 u_9.2.2.1 u_9.2.2.2.1 u_9.2.2.2.2.1 u_9.2.2.2.2.2.1 u_9.2.2.2.2.2.2.1 u_9.2.2.2.2.2.2.2.1 u_9.2.2.2.2.2.2.2.2.1 u_9.2.2.2.2.2.2.2.2.2.1 u_9.2.2.2.2.2.2.2.2.2.2.1
def X4_storms (refusals : List Int32) (m_there : List Int32) (m_used : List Int32) (m_hidden : List Int32) (m_kind : List Int32) (m_figure : List Int32) (m_cargo : List Int32) (m_load : List Int32) (n_there : List Int32) (n_used : List Int32) (n_hidden : List Int32) (n_kind : List Int32) (n_figure : List Int32) (n_cargo : List Int32) (n_load : List Int32) (m_ships : Int32) (m_inn : Int32) (m_coughs : Int32) (m_day : Int32) (n_ships : Int32) (n_inn : Int32) (n_coughs : Int32) (n_day : Int32) (p0 : Int32) (p1 : Int32) (p2 : Int32) (p3 : Int32) : Option (List Int32 × List Int32 × List Int32 × List Int32 × List Int32 × List Int32 × List Int32 × List Int32 × Int32 × Int32 × Int32 × Int32 × Int64) :=
  (X0_isShip n_ships p0).bind fun u_1 =>
  if u_1 = (0 : Int32) then
  (X4_refuseLong refusals (-1 : Int32)).bind fun u_37 =>
  some (u_37.1, m_there, m_used, m_hidden, m_kind, m_figure, m_cargo, m_load, m_ships, m_inn, m_coughs, m_day, u_37.2)
  else
  if p1 < (0 : Int32) then
  (X4_refuseLong refusals (-4 : Int32)).bind fun u_3 =>
  some (u_3.1, m_there, m_used, m_hidden, m_kind, m_figure, m_cargo, m_load, m_ships, m_inn, m_coughs, m_day, u_3.2)
  else
  if (2 : Int32) ≤ p2 then
  if (7 : Int32) < p1 then
  (X4_refuseLong refusals (-6 : Int32)).bind fun u_5 =>
  some (u_5.1, m_there, m_used, m_hidden, m_kind, m_figure, m_cargo, m_load, m_ships, m_inn, m_coughs, m_day, u_5.2)
  else
  if p2 ≤ (20 : Int32) then
  if p3 < (0 : Int32) then
  (X4_refuseLong refusals (-2 : Int32)).bind fun u_7 =>
  some (u_7.1, m_there, m_used, m_hidden, m_kind, m_figure, m_cargo, m_load, m_ships, m_inn, m_coughs, m_day, u_7.2)
  else
  if p3 ≤ (1 : Int32) then
  X4_storms_L76 (fun y5_15 m_there_16 m_used_17 m_hidden_18 m_kind_19 m_figure_20 m_cargo_21 m_load_22 m_ships_23 m_inn_24 m_coughs_25 m_day_26 =>
  (X4_power p2 p1).bind fun u_27 =>
  (X4_partOfFraction y5_15 u_27 p3).bind fun u_29 =>
  some (refusals, m_there_16, m_used_17, m_hidden_18, m_kind_19, m_figure_20, m_cargo_21, m_load_22, m_ships_23, m_inn_24, m_coughs_25, m_day_26, u_29)) n_there n_used n_hidden n_kind n_figure n_cargo n_load n_ships n_inn n_coughs n_day p0 p1 p2 1000 (0 : Int64) (0 : Int32) m_there m_used m_hidden m_kind m_figure m_cargo m_load m_ships m_inn m_coughs m_day
  else
  (X4_refuseLong refusals (-2 : Int32)).bind fun u_31 =>
  some (u_31.1, m_there, m_used, m_hidden, m_kind, m_figure, m_cargo, m_load, m_ships, m_inn, m_coughs, m_day, u_31.2)
  else
  (X4_refuseLong refusals (-6 : Int32)).bind fun u_33 =>
  some (u_33.1, m_there, m_used, m_hidden, m_kind, m_figure, m_cargo, m_load, m_ships, m_inn, m_coughs, m_day, u_33.2)
  else
  (X4_refuseLong refusals (-4 : Int32)).bind fun u_35 =>
  some (u_35.1, m_there, m_used, m_hidden, m_kind, m_figure, m_cargo, m_load, m_ships, m_inn, m_coughs, m_day, u_35.2)
set_option maxRecDepth 100000 in
set_option maxHeartbeats 4000000 in
theorem l_X4_storms_L76 {l : Launch} {p : Program} {e : Env} {s : State} {m : MethodId} {args : Array Value} {below : List Frame} {meth : Method} {c : Code} {A : Nat → Prop} {G : Gx} {ad adt adb ade adm adn adk adp : Nat → Nat} {adr : Nat → Nat → Nat} {refusals tcells lcells n_there n_used n_hidden n_kind n_figure n_cargo n_load k_there k_used k_hidden k_kind k_figure k_cargo k_load : List Int32} {isKept tlen llen n_ships n_inn n_coughs n_day k_ships k_inn k_coughs k_day held : Int32} {perm : Nat → Nat} {hist : Nat → Hs} {x1 : Int32} {x2 : Int32} {x3 : Int32} {x4 : Int32} {k : Int64 → List Int32 → List Int32 → List Int32 → List Int32 → List Int32 → List Int32 → List Int32 → Int32 → Int32 → Int32 → Int32 → Option (List Int32 × List Int32 × List Int32 × List Int32 × List Int32 × List Int32 × List Int32 × List Int32 × Int32 × Int32 × Int32 × Int32 × Int64)} {out : List Int32 × List Int32 × List Int32 × List Int32 × List Int32 × List Int32 × List Int32 × List Int32 × Int32 × Int32 × Int32 × Int32 × Int64} (C : Cx p s m args meth c cX4_storms RX4 8 (some .long) G) : ∀ (n : Nat) (x5 : Int64) (x7 : Int32) (m_there : List Int32) (m_used : List Int32) (m_hidden : List Int32) (m_kind : List Int32) (m_figure : List Int32) (m_cargo : List Int32) (m_load : List Int32) (m_ships : Int32) (m_inn : Int32) (m_coughs : Int32) (m_day : Int32), X4_storms_L76 k n_there n_used n_hidden n_kind n_figure n_cargo n_load n_ships n_inn n_coughs n_day x1 x2 x3 n x5 x7 m_there m_used m_hidden m_kind m_figure m_cargo m_load m_ships m_inn m_coughs m_day = some out → ∀ (H : Heap) (locs : List Loc), St G A s.heap H locs (wT G ad adt adb ade adm adn adk adp adr refusals tcells lcells m_there m_used m_hidden m_kind m_figure m_cargo m_load n_there n_used n_hidden n_kind n_figure n_cargo n_load k_there k_used k_hidden k_kind k_figure k_cargo k_load isKept tlen llen m_ships m_inn m_coughs m_day n_ships n_inn n_coughs n_day k_ships k_inn k_coughs k_day held perm hist) → ∀ ls : Array Slot, lv_has ls 8 [(0, .ref (ad 0)), (1, .int x1), (2, .int x2), (3, .int x3), (4, .int x4), (5, .long x5), (7, .int x7)] → (∀ (y5 : Int64) (z_m_there : List Int32) (z_m_used : List Int32) (z_m_hidden : List Int32) (z_m_kind : List Int32) (z_m_figure : List Int32) (z_m_cargo : List Int32) (z_m_load : List Int32) (z_m_ships : Int32) (z_m_inn : Int32) (z_m_coughs : Int32) (z_m_day : Int32), k y5 z_m_there z_m_used z_m_hidden z_m_kind z_m_figure z_m_cargo z_m_load z_m_ships z_m_inn z_m_coughs z_m_day = some out → ∀ (H : Heap) (locs : List Loc), St G A s.heap H locs (wT G ad adt adb ade adm adn adk adp adr refusals tcells lcells z_m_there z_m_used z_m_hidden z_m_kind z_m_figure z_m_cargo z_m_load n_there n_used n_hidden n_kind n_figure n_cargo n_load k_there k_used k_hidden k_kind k_figure k_cargo k_load isKept tlen llen z_m_ships z_m_inn z_m_coughs z_m_day n_ships n_inn n_coughs n_day k_ships k_inn k_coughs k_day held perm hist) → ∀ ls : Array Slot, lv_has ls 8 [(2, .int x2), (3, .int x3), (4, .int x4), (5, .long y5)] → W p l e (rmOf 5 114) s m args below meth c H locs 0 0 (MQ below (Qof G A (some (.long out.2.2.2.2.2.2.2.2.2.2.2.2)) (wT G ad adt adb ade adm adn adk adp adr out.1 tcells lcells out.2.1 out.2.2.1 out.2.2.2.1 out.2.2.2.2.1 out.2.2.2.2.2.1 out.2.2.2.2.2.2.1 out.2.2.2.2.2.2.2.1 n_there n_used n_hidden n_kind n_figure n_cargo n_load k_there k_used k_hidden k_kind k_figure k_cargo k_load isKept tlen llen out.2.2.2.2.2.2.2.2.1 out.2.2.2.2.2.2.2.2.2.1 out.2.2.2.2.2.2.2.2.2.2.1 out.2.2.2.2.2.2.2.2.2.2.2.1 n_ships n_inn n_coughs n_day k_ships k_inn k_coughs k_day held perm hist)) args s 0 0 A) (F0 m 119 ls [])) → W p l e (rmOf 5 114) s m args below meth c H locs 0 0 (MQ below (Qof G A (some (.long out.2.2.2.2.2.2.2.2.2.2.2.2)) (wT G ad adt adb ade adm adn adk adp adr out.1 tcells lcells out.2.1 out.2.2.1 out.2.2.2.1 out.2.2.2.2.1 out.2.2.2.2.2.1 out.2.2.2.2.2.2.1 out.2.2.2.2.2.2.2.1 n_there n_used n_hidden n_kind n_figure n_cargo n_load k_there k_used k_hidden k_kind k_figure k_cargo k_load isKept tlen llen out.2.2.2.2.2.2.2.2.1 out.2.2.2.2.2.2.2.2.2.1 out.2.2.2.2.2.2.2.2.2.2.1 out.2.2.2.2.2.2.2.2.2.2.2.1 n_ships n_inn n_coughs n_day k_ships k_inn k_coughs k_day held perm hist)) args s 0 0 A) (F0 m 76 ls []) := by
  obtain ⟨hx, hb, hml, hown, hts, hK, hret, hlk⟩ := id C
  intro n
  induction n with
  | zero => intro x5 x7 m_there m_used m_hidden m_kind m_figure m_cargo m_load m_ships m_inn m_coughs m_day hf; cases hf
  | succ n ih =>
    intro x5 x7 m_there m_used m_hidden m_kind m_figure m_cargo m_load m_ships m_inn m_coughs m_day hf H locs hs ls hl hk
    rw [X4_storms_L76] at hf
    refine lv_iload hx hb (dk hX4_storms_1 1 rfl) (lv_at hl 6 rfl) ?_
    refine lv_iconst (v := (1 : Int32)) hx hb (dk hX4_storms_1 2 rfl) (by decide) ?_
    refine lv_iload_n hx hb (dk hX4_storms_1 3 rfl) rfl (lv_at hl 2 rfl) ?_
    refine lv_ishl hx hb (dk hX4_storms_1 4 rfl) ?_
    refine lv_icmp_ge (tgt := 119) hx hb (dk hX4_storms_1 5 rfl) (by decide) (fun hc => ?_) (fun hc => ?_)
    · replace hf := ip hf hc
      exact hk _ _ _ _ _ _ _ _ _ _ _ _ hf _ _ hs _ (lv_sub hl [2, 3, 4, 5] rfl)
    · replace hf := in_ hf hc
      refine lv_aload_n hx hb (dk hX4_storms_1 6 rfl) rfl (lv_at hl 0 rfl) ?_
      refine lv_iload_n hx hb (dk hX4_storms_1 7 rfl) rfl (lv_at hl 1 rfl) ?_
      refine lv_iload_n hx hb (dk hX4_storms_1 8 rfl) rfl (lv_at hl 2 rfl) ?_
      refine lv_iload hx hb (dk hX4_storms_1 9 rfl) (lv_at hl 6 rfl) ?_
      obtain ⟨u_9, e_10, hf⟩ := Option.bind_eq_some_iff.mp hf
      refine Ct.V (As := [.int x1, .int x2, .int x7]) (rest := []) (st1 := [.int u_9.2.2.2.2.2.2.2.2.2.2.2]) (w1 := (wT G ad adt adb ade adm adn adk adp adr refusals tcells lcells u_9.1 u_9.2.1 u_9.2.2.1 u_9.2.2.2.1 u_9.2.2.2.2.1 u_9.2.2.2.2.2.1 u_9.2.2.2.2.2.2.1 n_there n_used n_hidden n_kind n_figure n_cargo n_load k_there k_used k_hidden k_kind k_figure k_cargo k_load isKept tlen llen u_9.2.2.2.2.2.2.2.1 u_9.2.2.2.2.2.2.2.2.1 u_9.2.2.2.2.2.2.2.2.2.1 u_9.2.2.2.2.2.2.2.2.2.2.1 n_ships n_inn n_coughs n_day k_ships k_inn k_coughs k_day held perm hist)) C hs (c_X4_isInThrough e_10) tw_587 tw_589 tw_20 tw_79 tw_590 nq_X4_isInThrough (by decide) 0 4 rfl rfl rfl rfl hl.1 rfl (Nat.le_of_ble_eq_true rfl) (dk hX4_storms_1 10 rfl) ⟨Nat.zero_le _, Nat.zero_le _⟩ rfl (fun H locs hs => ?_)
      refine lv_if_eq (tgt := 113) hx hb (dk hX4_storms_1 11 rfl) (by decide) (fun hc => ?_) (fun hc => ?_)
      · replace hf := ip hf hc
        refine lv_iinc (v := (x7 + (1 : Int32))) (lv' := [(7, .int (x7 + (1 : Int32))), (0, .ref (ad 0)), (1, .int x1), (2, .int x2), (3, .int x3), (4, .int x4), (5, .long x5)]) hx hb (dk hX4_storms_1 23 rfl) hl (k := 6) rfl (by first | rfl | decide) (by decide) rfl (fun ls hl => ?_)
        refine lv_goto (tgt := 76) hx hb (dk hX4_storms_1 24 rfl) (by decide) ?_
        exact ih _ _ _ _ _ _ _ _ _ _ _ _ _ hf _ _ hs _ (lv_sub hl [1, 2, 3, 4, 5, 6, 0] rfl) hk
      · replace hf := in_ hf hc
        refine lv_lload hx hb (dk hX4_storms_1 12 rfl) (lv_at hl 5 rfl) ?_
        refine lv_iload_n hx hb (dk hX4_storms_1 13 rfl) rfl (lv_at hl 3 rfl) ?_
        refine lv_iconst (v := (1 : Int32)) hx hb (dk hX4_storms_1 14 rfl) (by decide) ?_
        refine lv_isub hx hb (dk hX4_storms_1 15 rfl) ?_
        refine lv_iload_n hx hb (dk hX4_storms_1 16 rfl) rfl (lv_at hl 2 rfl) ?_
        refine lv_iload hx hb (dk hX4_storms_1 17 rfl) (lv_at hl 6 rfl) ?_
        obtain ⟨u_11, e_12, hf⟩ := Option.bind_eq_some_iff.mp hf
        refine Ct.S (As := [.int x7]) (rest := [.int x2, .int (x3 - (1 : Int32)), .long x5]) (st1 := [.int u_11, .int x2, .int (x3 - (1 : Int32)), .long x5]) (w1 := (wT G ad adt adb ade adm adn adk adp adr refusals tcells lcells u_9.1 u_9.2.1 u_9.2.2.1 u_9.2.2.2.1 u_9.2.2.2.2.1 u_9.2.2.2.2.2.1 u_9.2.2.2.2.2.2.1 n_there n_used n_hidden n_kind n_figure n_cargo n_load k_there k_used k_hidden k_kind k_figure k_cargo k_load isKept tlen llen u_9.2.2.2.2.2.2.2.1 u_9.2.2.2.2.2.2.2.2.1 u_9.2.2.2.2.2.2.2.2.2.1 u_9.2.2.2.2.2.2.2.2.2.2.1 n_ships n_inn n_coughs n_day k_ships k_inn k_coughs k_day held perm hist)) C hs (c_J6_bitCount_0f7a4 e_12) tw_445 tw_446 tw_86 tw_447 nq_J6_bitCount_0f7a4 (by decide) rfl hl.1 rfl (Nat.le_of_ble_eq_true rfl) (dk hX4_storms_1 18 rfl) ⟨Nat.zero_le _, Nat.zero_le _⟩ rfl (fun H locs hs => ?_)
        refine lv_isub hx hb (dk hX4_storms_1 19 rfl) ?_
        obtain ⟨u_13, e_14, hf⟩ := Option.bind_eq_some_iff.mp hf
        refine Ct.S (As := [.int (x3 - (1 : Int32)), .int (x2 - u_11)]) (rest := [.long x5]) (st1 := [.long u_13, .long x5]) (w1 := (wT G ad adt adb ade adm adn adk adp adr refusals tcells lcells u_9.1 u_9.2.1 u_9.2.2.1 u_9.2.2.2.1 u_9.2.2.2.2.1 u_9.2.2.2.2.2.1 u_9.2.2.2.2.2.2.1 n_there n_used n_hidden n_kind n_figure n_cargo n_load k_there k_used k_hidden k_kind k_figure k_cargo k_load isKept tlen llen u_9.2.2.2.2.2.2.2.1 u_9.2.2.2.2.2.2.2.2.1 u_9.2.2.2.2.2.2.2.2.2.1 u_9.2.2.2.2.2.2.2.2.2.2.1 n_ships n_inn n_coughs n_day k_ships k_inn k_coughs k_day held perm hist)) C hs (c_X4_power e_14) tw_591 tw_592 tw_79 tw_593 nq_X4_power (by decide) rfl hl.1 rfl (Nat.le_of_ble_eq_true rfl) (dk hX4_storms_1 20 rfl) ⟨Nat.zero_le _, Nat.zero_le _⟩ rfl (fun H locs hs => ?_)
        refine lv_ladd hx hb (dk hX4_storms_1 21 rfl) ?_
        refine lv_lstore (lv' := [(5, .long (x5 + u_13)), (0, .ref (ad 0)), (1, .int x1), (2, .int x2), (3, .int x3), (4, .int x4), (7, .int x7)]) hx hb (dk hX4_storms_1 22 rfl) hl (by decide) rfl (fun ls hl => ?_)
        refine lv_iinc (v := (x7 + (1 : Int32))) (lv' := [(7, .int (x7 + (1 : Int32))), (5, .long (x5 + u_13)), (0, .ref (ad 0)), (1, .int x1), (2, .int x2), (3, .int x3), (4, .int x4)]) hx hb (dk hX4_storms_1 23 rfl) hl (k := 6) rfl (by first | rfl | decide) (by decide) rfl (fun ls hl => ?_)
        refine lv_goto (tgt := 76) hx hb (dk hX4_storms_1 24 rfl) (by decide) ?_
        exact ih _ _ _ _ _ _ _ _ _ _ _ _ _ hf _ _ hs _ (lv_sub hl [2, 3, 4, 5, 6, 1, 0] rfl) hk
set_option maxRecDepth 100000 in
set_option maxHeartbeats 4000000 in
theorem c_X4_storms {l : Launch} {G : Gx} {ad adt adb ade adm adn adk adp : Nat → Nat} {adr : Nat → Nat → Nat} {refusals tcells lcells m_there m_used m_hidden m_kind m_figure m_cargo m_load n_there n_used n_hidden n_kind n_figure n_cargo n_load k_there k_used k_hidden k_kind k_figure k_cargo k_load : List Int32} {isKept tlen llen m_ships m_inn m_coughs m_day n_ships n_inn n_coughs n_day k_ships k_inn k_coughs k_day held : Int32} {perm : Nat → Nat} {hist : Nat → Hs} {p0 : Int32} {p1 : Int32} {p2 : Int32} {p3 : Int32} {out : List Int32 × List Int32 × List Int32 × List Int32 × List Int32 × List Int32 × List Int32 × List Int32 × Int32 × Int32 × Int32 × Int32 × Int64} (hf : X4_storms refusals m_there m_used m_hidden m_kind m_figure m_cargo m_load n_there n_used n_hidden n_kind n_figure n_cargo n_load m_ships m_inn m_coughs m_day n_ships n_inn n_coughs n_day p0 p1 p2 p3 = some out) : Ct l G yX4_storms cX4_storms 8 (some .long) 5 114 [.ref (ad 0), .int p0, .int p1, .int p2, .int p3] (wT G ad adt adb ade adm adn adk adp adr refusals tcells lcells m_there m_used m_hidden m_kind m_figure m_cargo m_load n_there n_used n_hidden n_kind n_figure n_cargo n_load k_there k_used k_hidden k_kind k_figure k_cargo k_load isKept tlen llen m_ships m_inn m_coughs m_day n_ships n_inn n_coughs n_day k_ships k_inn k_coughs k_day held perm hist) (some (.long out.2.2.2.2.2.2.2.2.2.2.2.2)) (wT G ad adt adb ade adm adn adk adp adr out.1 tcells lcells out.2.1 out.2.2.1 out.2.2.2.1 out.2.2.2.2.1 out.2.2.2.2.2.1 out.2.2.2.2.2.2.1 out.2.2.2.2.2.2.2.1 n_there n_used n_hidden n_kind n_figure n_cargo n_load k_there k_used k_hidden k_kind k_figure k_cargo k_load isKept tlen llen out.2.2.2.2.2.2.2.2.1 out.2.2.2.2.2.2.2.2.2.1 out.2.2.2.2.2.2.2.2.2.2.1 out.2.2.2.2.2.2.2.2.2.2.2.1 n_ships n_inn n_coughs n_day k_ships k_inn k_coughs k_day held perm hist) := by
  refine Ct.intro RX4 rfl (plainFor_of_name (by decide)) (Nat.le_of_ble_eq_true rfl) rfl ?_
  intro p e s m args below meth c A C H locs hs ls hl
  obtain ⟨hx, hb, hml, hown, hts, hK, hret, hlk⟩ := id C
  have hl : lv_has ls 8 [(0, .ref (ad 0)), (1, .int p0), (2, .int p1), (3, .int p2), (4, .int p3)] := hl
  unfold X4_storms at hf
  refine lv_aload_n hx hb (dk hX4_storms_0 0 rfl) rfl (lv_at hl 0 rfl) ?_
  refine rg ui4 rfl C hs 0 rfl 0 (by decide) tw_197 rfl rfl (dk hX4_storms_0 1 rfl) ?_
  refine lv_iload_n hx hb (dk hX4_storms_0 2 rfl) rfl (lv_at hl 1 rfl) ?_
  obtain ⟨u_1, e_2, hf⟩ := Option.bind_eq_some_iff.mp hf
  refine Ct.V (As := [.int p0]) (rest := []) (st1 := [.int u_1]) (w1 := (wT G ad adt adb ade adm adn adk adp adr refusals tcells lcells m_there m_used m_hidden m_kind m_figure m_cargo m_load n_there n_used n_hidden n_kind n_figure n_cargo n_load k_there k_used k_hidden k_kind k_figure k_cargo k_load isKept tlen llen m_ships m_inn m_coughs m_day n_ships n_inn n_coughs n_day k_ships k_inn k_coughs k_day held perm hist)) C hs (c_X0_isShip__now e_2) tw_393 tw_294 tw_295 tw_80 tw_296 nq_X0_isShip (by decide) 15 0 rfl rfl rfl rfl hl.1 rfl (Nat.le_of_ble_eq_true rfl) (dk hX4_storms_0 3 rfl) ⟨Nat.zero_le _, Nat.zero_le _⟩ rfl (fun H locs hs => ?_)
  refine lv_if_ne (tgt := 17) hx hb (dk hX4_storms_0 4 rfl) (by decide) (fun hc => ?_) (fun hc => ?_)
  · replace hf := in_ hf hc
    refine lv_iload_n hx hb (dk hX4_storms_0 9 rfl) rfl (lv_at hl 2 rfl) ?_
    refine lv_if_lt (tgt := 26) hx hb (dk hX4_storms_0 10 rfl) (by decide) (fun hc => ?_) (fun hc => ?_)
    · replace hf := ip hf hc
      refine lv_aload_n hx hb (dk hX4_storms_0 14 rfl) rfl (lv_at hl 0 rfl) ?_
      refine lv_bipush (v := (-4 : Int32)) hx hb (dk hX4_storms_0 15 rfl) (by decide) ?_
      obtain ⟨u_3, e_4, hf⟩ := Option.bind_eq_some_iff.mp hf
      refine Ct.V (As := [.int (-4 : Int32)]) (rest := []) (st1 := [.long u_3.2]) (w1 := (wT G ad adt adb ade adm adn adk adp adr u_3.1 tcells lcells m_there m_used m_hidden m_kind m_figure m_cargo m_load n_there n_used n_hidden n_kind n_figure n_cargo n_load k_there k_used k_hidden k_kind k_figure k_cargo k_load isKept tlen llen m_ships m_inn m_coughs m_day n_ships n_inn n_coughs n_day k_ships k_inn k_coughs k_day held perm hist)) C hs (c_X4_refuseLong e_4) tw_582 tw_584 tw_19 tw_79 tw_585 nq_X4_refuseLong (by decide) 0 4 rfl rfl rfl rfl hl.1 rfl (Nat.le_of_ble_eq_true rfl) (dk hX4_storms_0 16 rfl) ⟨Nat.zero_le _, Nat.zero_le _⟩ rfl (fun H locs hs => ?_)
      cases hf
      exact rl C hs (dk hX4_storms_0 17 rfl)
    · replace hf := in_ hf hc
      refine lv_iload_n hx hb (dk hX4_storms_0 11 rfl) rfl (lv_at hl 3 rfl) ?_
      refine lv_iconst (v := (2 : Int32)) hx hb (dk hX4_storms_0 12 rfl) (by decide) ?_
      refine lv_icmp_ge (tgt := 33) hx hb (dk hX4_storms_0 13 rfl) (by decide) (fun hc => ?_) (fun hc => ?_)
      · replace hf := ip hf hc
        refine lv_iload_n hx hb (dk hX4_storms_0 18 rfl) rfl (lv_at hl 2 rfl) ?_
        refine lv_bipush (v := (7 : Int32)) hx hb (dk hX4_storms_0 19 rfl) (by decide) ?_
        refine lv_icmp_gt (tgt := 45) hx hb (dk hX4_storms_0 20 rfl) (by decide) (fun hc => ?_) (fun hc => ?_)
        · replace hf := ip hf hc
          refine lv_aload_n hx hb (dk hX4_storms_0 24 rfl) rfl (lv_at hl 0 rfl) ?_
          refine lv_bipush (v := (-6 : Int32)) hx hb (dk hX4_storms_0 25 rfl) (by decide) ?_
          obtain ⟨u_5, e_6, hf⟩ := Option.bind_eq_some_iff.mp hf
          refine Ct.V (As := [.int (-6 : Int32)]) (rest := []) (st1 := [.long u_5.2]) (w1 := (wT G ad adt adb ade adm adn adk adp adr u_5.1 tcells lcells m_there m_used m_hidden m_kind m_figure m_cargo m_load n_there n_used n_hidden n_kind n_figure n_cargo n_load k_there k_used k_hidden k_kind k_figure k_cargo k_load isKept tlen llen m_ships m_inn m_coughs m_day n_ships n_inn n_coughs n_day k_ships k_inn k_coughs k_day held perm hist)) C hs (c_X4_refuseLong e_6) tw_582 tw_584 tw_19 tw_79 tw_585 nq_X4_refuseLong (by decide) 0 4 rfl rfl rfl rfl hl.1 rfl (Nat.le_of_ble_eq_true rfl) (dk hX4_storms_0 26 rfl) ⟨Nat.zero_le _, Nat.zero_le _⟩ rfl (fun H locs hs => ?_)
          cases hf
          exact rl C hs (dk hX4_storms_0 27 rfl)
        · replace hf := in_ hf hc
          refine lv_iload_n hx hb (dk hX4_storms_0 21 rfl) rfl (lv_at hl 3 rfl) ?_
          refine lv_bipush (v := (20 : Int32)) hx hb (dk hX4_storms_0 22 rfl) (by decide) ?_
          refine lv_icmp_le (tgt := 52) hx hb (dk hX4_storms_0 23 rfl) (by decide) (fun hc => ?_) (fun hc => ?_)
          · replace hf := ip hf hc
            refine lv_iload hx hb (dk hX4_storms_0 28 rfl) (lv_at hl 4 rfl) ?_
            refine lv_if_lt (tgt := 63) hx hb (dk hX4_storms_0 29 rfl) (by decide) (fun hc => ?_) (fun hc => ?_)
            · replace hf := ip hf hc
              refine lv_aload_n hx hb (dk hX4_storms_0 33 rfl) rfl (lv_at hl 0 rfl) ?_
              refine lv_bipush (v := (-2 : Int32)) hx hb (dk hX4_storms_0 34 rfl) (by decide) ?_
              obtain ⟨u_7, e_8, hf⟩ := Option.bind_eq_some_iff.mp hf
              refine Ct.V (As := [.int (-2 : Int32)]) (rest := []) (st1 := [.long u_7.2]) (w1 := (wT G ad adt adb ade adm adn adk adp adr u_7.1 tcells lcells m_there m_used m_hidden m_kind m_figure m_cargo m_load n_there n_used n_hidden n_kind n_figure n_cargo n_load k_there k_used k_hidden k_kind k_figure k_cargo k_load isKept tlen llen m_ships m_inn m_coughs m_day n_ships n_inn n_coughs n_day k_ships k_inn k_coughs k_day held perm hist)) C hs (c_X4_refuseLong e_8) tw_582 tw_584 tw_19 tw_79 tw_585 nq_X4_refuseLong (by decide) 0 4 rfl rfl rfl rfl hl.1 rfl (Nat.le_of_ble_eq_true rfl) (dk hX4_storms_0 35 rfl) ⟨Nat.zero_le _, Nat.zero_le _⟩ rfl (fun H locs hs => ?_)
              cases hf
              exact rl C hs (dk hX4_storms_0 36 rfl)
            · replace hf := in_ hf hc
              refine lv_iload hx hb (dk hX4_storms_0 30 rfl) (lv_at hl 4 rfl) ?_
              refine lv_iconst (v := (1 : Int32)) hx hb (dk hX4_storms_0 31 rfl) (by decide) ?_
              refine lv_icmp_le (tgt := 70) hx hb (dk hX4_storms_0 32 rfl) (by decide) (fun hc => ?_) (fun hc => ?_)
              · replace hf := ip hf hc
                refine lv_lconst (v := (0 : Int64)) hx hb (dk hX4_storms_0 37 rfl) (by decide) ?_
                refine lv_lstore (lv' := [(5, .long (0 : Int64)), (0, .ref (ad 0)), (1, .int p0), (2, .int p1), (3, .int p2), (4, .int p3)]) hx hb (dk hX4_storms_0 38 rfl) hl (by decide) rfl (fun ls hl => ?_)
                refine lv_iconst (v := (0 : Int32)) hx hb (dk hX4_storms_0 39 rfl) (by decide) ?_
                refine lv_istore (lv' := [(7, .int (0 : Int32)), (5, .long (0 : Int64)), (0, .ref (ad 0)), (1, .int p0), (2, .int p1), (3, .int p2), (4, .int p3)]) hx hb (dk hX4_storms_1 0 rfl) hl (by decide) rfl (fun ls hl => ?_)
                refine l_X4_storms_L76 C 1000 _ _ _ _ _ _ _ _ _ _ _ _ _ hf _ _ hs _ (lv_sub hl [2, 3, 4, 5, 6, 1, 0] rfl) (fun y5_15 m_there_16 m_used_17 m_hidden_18 m_kind_19 m_figure_20 m_cargo_21 m_load_22 m_ships_23 m_inn_24 m_coughs_25 m_day_26 hf H locs hs ls hl => ?_)
                refine lv_lload hx hb (dk hX4_storms_1 25 rfl) (lv_at hl 3 rfl) ?_
                refine lv_iload_n hx hb (dk hX4_storms_1 26 rfl) rfl (lv_at hl 1 rfl) ?_
                refine lv_iload_n hx hb (dk hX4_storms_1 27 rfl) rfl (lv_at hl 0 rfl) ?_
                obtain ⟨u_27, e_28, hf⟩ := Option.bind_eq_some_iff.mp hf
                refine Ct.S (As := [.int p2, .int p1]) (rest := [.long y5_15]) (st1 := [.long u_27, .long y5_15]) (w1 := (wT G ad adt adb ade adm adn adk adp adr refusals tcells lcells m_there_16 m_used_17 m_hidden_18 m_kind_19 m_figure_20 m_cargo_21 m_load_22 n_there n_used n_hidden n_kind n_figure n_cargo n_load k_there k_used k_hidden k_kind k_figure k_cargo k_load isKept tlen llen m_ships_23 m_inn_24 m_coughs_25 m_day_26 n_ships n_inn n_coughs n_day k_ships k_inn k_coughs k_day held perm hist)) C hs (c_X4_power e_28) tw_591 tw_592 tw_79 tw_593 nq_X4_power (by decide) rfl hl.1 rfl (Nat.le_of_ble_eq_true rfl) (dk hX4_storms_1 28 rfl) ⟨Nat.zero_le _, Nat.zero_le _⟩ rfl (fun H locs hs => ?_)
                refine lv_iload hx hb (dk hX4_storms_1 29 rfl) (lv_at hl 2 rfl) ?_
                obtain ⟨u_29, e_30, hf⟩ := Option.bind_eq_some_iff.mp hf
                refine Ct.S (As := [.long y5_15, .long u_27, .int p3]) (rest := []) (st1 := [.long u_29]) (w1 := (wT G ad adt adb ade adm adn adk adp adr refusals tcells lcells m_there_16 m_used_17 m_hidden_18 m_kind_19 m_figure_20 m_cargo_21 m_load_22 n_there n_used n_hidden n_kind n_figure n_cargo n_load k_there k_used k_hidden k_kind k_figure k_cargo k_load isKept tlen llen m_ships_23 m_inn_24 m_coughs_25 m_day_26 n_ships n_inn n_coughs n_day k_ships k_inn k_coughs k_day held perm hist)) C hs (c_X4_partOfFraction e_30) tw_594 tw_595 tw_79 tw_596 nq_X4_partOfFraction (by decide) rfl hl.1 rfl (Nat.le_of_ble_eq_true rfl) (dk hX4_storms_1 30 rfl) ⟨Nat.zero_le _, Nat.zero_le _⟩ rfl (fun H locs hs => ?_)
                cases hf
                exact rl C hs (dk hX4_storms_1 31 rfl)
              · replace hf := in_ hf hc
                refine lv_aload_n hx hb (dk hX4_storms_0 33 rfl) rfl (lv_at hl 0 rfl) ?_
                refine lv_bipush (v := (-2 : Int32)) hx hb (dk hX4_storms_0 34 rfl) (by decide) ?_
                obtain ⟨u_31, e_32, hf⟩ := Option.bind_eq_some_iff.mp hf
                refine Ct.V (As := [.int (-2 : Int32)]) (rest := []) (st1 := [.long u_31.2]) (w1 := (wT G ad adt adb ade adm adn adk adp adr u_31.1 tcells lcells m_there m_used m_hidden m_kind m_figure m_cargo m_load n_there n_used n_hidden n_kind n_figure n_cargo n_load k_there k_used k_hidden k_kind k_figure k_cargo k_load isKept tlen llen m_ships m_inn m_coughs m_day n_ships n_inn n_coughs n_day k_ships k_inn k_coughs k_day held perm hist)) C hs (c_X4_refuseLong e_32) tw_582 tw_584 tw_19 tw_79 tw_585 nq_X4_refuseLong (by decide) 0 4 rfl rfl rfl rfl hl.1 rfl (Nat.le_of_ble_eq_true rfl) (dk hX4_storms_0 35 rfl) ⟨Nat.zero_le _, Nat.zero_le _⟩ rfl (fun H locs hs => ?_)
                cases hf
                exact rl C hs (dk hX4_storms_0 36 rfl)
          · replace hf := in_ hf hc
            refine lv_aload_n hx hb (dk hX4_storms_0 24 rfl) rfl (lv_at hl 0 rfl) ?_
            refine lv_bipush (v := (-6 : Int32)) hx hb (dk hX4_storms_0 25 rfl) (by decide) ?_
            obtain ⟨u_33, e_34, hf⟩ := Option.bind_eq_some_iff.mp hf
            refine Ct.V (As := [.int (-6 : Int32)]) (rest := []) (st1 := [.long u_33.2]) (w1 := (wT G ad adt adb ade adm adn adk adp adr u_33.1 tcells lcells m_there m_used m_hidden m_kind m_figure m_cargo m_load n_there n_used n_hidden n_kind n_figure n_cargo n_load k_there k_used k_hidden k_kind k_figure k_cargo k_load isKept tlen llen m_ships m_inn m_coughs m_day n_ships n_inn n_coughs n_day k_ships k_inn k_coughs k_day held perm hist)) C hs (c_X4_refuseLong e_34) tw_582 tw_584 tw_19 tw_79 tw_585 nq_X4_refuseLong (by decide) 0 4 rfl rfl rfl rfl hl.1 rfl (Nat.le_of_ble_eq_true rfl) (dk hX4_storms_0 26 rfl) ⟨Nat.zero_le _, Nat.zero_le _⟩ rfl (fun H locs hs => ?_)
            cases hf
            exact rl C hs (dk hX4_storms_0 27 rfl)
      · replace hf := in_ hf hc
        refine lv_aload_n hx hb (dk hX4_storms_0 14 rfl) rfl (lv_at hl 0 rfl) ?_
        refine lv_bipush (v := (-4 : Int32)) hx hb (dk hX4_storms_0 15 rfl) (by decide) ?_
        obtain ⟨u_35, e_36, hf⟩ := Option.bind_eq_some_iff.mp hf
        refine Ct.V (As := [.int (-4 : Int32)]) (rest := []) (st1 := [.long u_35.2]) (w1 := (wT G ad adt adb ade adm adn adk adp adr u_35.1 tcells lcells m_there m_used m_hidden m_kind m_figure m_cargo m_load n_there n_used n_hidden n_kind n_figure n_cargo n_load k_there k_used k_hidden k_kind k_figure k_cargo k_load isKept tlen llen m_ships m_inn m_coughs m_day n_ships n_inn n_coughs n_day k_ships k_inn k_coughs k_day held perm hist)) C hs (c_X4_refuseLong e_36) tw_582 tw_584 tw_19 tw_79 tw_585 nq_X4_refuseLong (by decide) 0 4 rfl rfl rfl rfl hl.1 rfl (Nat.le_of_ble_eq_true rfl) (dk hX4_storms_0 16 rfl) ⟨Nat.zero_le _, Nat.zero_le _⟩ rfl (fun H locs hs => ?_)
        cases hf
        exact rl C hs (dk hX4_storms_0 17 rfl)
  · replace hf := ip hf hc
    refine lv_aload_n hx hb (dk hX4_storms_0 5 rfl) rfl (lv_at hl 0 rfl) ?_
    refine lv_iconst (v := (-1 : Int32)) hx hb (dk hX4_storms_0 6 rfl) (by decide) ?_
    obtain ⟨u_37, e_38, hf⟩ := Option.bind_eq_some_iff.mp hf
    refine Ct.V (As := [.int (-1 : Int32)]) (rest := []) (st1 := [.long u_37.2]) (w1 := (wT G ad adt adb ade adm adn adk adp adr u_37.1 tcells lcells m_there m_used m_hidden m_kind m_figure m_cargo m_load n_there n_used n_hidden n_kind n_figure n_cargo n_load k_there k_used k_hidden k_kind k_figure k_cargo k_load isKept tlen llen m_ships m_inn m_coughs m_day n_ships n_inn n_coughs n_day k_ships k_inn k_coughs k_day held perm hist)) C hs (c_X4_refuseLong e_38) tw_582 tw_584 tw_19 tw_79 tw_585 nq_X4_refuseLong (by decide) 0 4 rfl rfl rfl rfl hl.1 rfl (Nat.le_of_ble_eq_true rfl) (dk hX4_storms_0 7 rfl) ⟨Nat.zero_le _, Nat.zero_le _⟩ rfl (fun H locs hs => ?_)
    cases hf
    exact rl C hs (dk hX4_storms_0 8 rfl)

def X4_lots_L61 (k : Int32 → List Int32 → Option (List Int32 × List Int32 × List Int32 × List Int32 × List Int32 × List Int32 × List Int32 × List Int32 × Int32 × Int32 × Int32 × Int32 × Int32)) : Nat → Int32 → Int32 → List Int32 → Option (List Int32 × List Int32 × List Int32 × List Int32 × List Int32 × List Int32 × List Int32 × List Int32 × Int32 × Int32 × Int32 × Int32 × Int32)
  | 0, _, _, _ => none
  | n + 1, x6, x9, m_there =>
  if (6 : Int32) ≤ x9 then
  k x6 m_there
  else
  (wr m_there x9 (((((x6 * (1103515245 : Int32)) + (12345 : Int32)) &&& (2147483647 : Int32)) >>> ((16 : Int32) &&& 31)) - ((((x6 * (1103515245 : Int32)) + (12345 : Int32)) &&& (2147483647 : Int32)) >>> ((16 : Int32) &&& 31)) / (40 : Int32) * (40 : Int32))).bind fun m_there_7 =>
  X4_lots_L61 k n ((x6 * (1103515245 : Int32)) + (12345 : Int32)) (x9 + (1 : Int32)) m_there_7
def X4_lots_L46 (k : Int32 → List Int32 → List Int32 → List Int32 → List Int32 → List Int32 → List Int32 → List Int32 → Int32 → Int32 → Int32 → Int32 → Option (List Int32 × List Int32 × List Int32 × List Int32 × List Int32 × List Int32 × List Int32 × List Int32 × Int32 × Int32 × Int32 × Int32 × Int32)) (n_there : List Int32) (n_used : List Int32) (n_hidden : List Int32) (n_kind : List Int32) (n_figure : List Int32) (n_cargo : List Int32) (n_load : List Int32) (n_ships : Int32) (n_inn : Int32) (n_coughs : Int32) (n_day : Int32) (x1 : Int32) (x3 : Int32) : Nat → Int32 → Int32 → Int32 → List Int32 → List Int32 → List Int32 → List Int32 → List Int32 → List Int32 → List Int32 → Int32 → Int32 → Int32 → Int32 → Option (List Int32 × List Int32 × List Int32 × List Int32 × List Int32 × List Int32 × List Int32 × List Int32 × Int32 × Int32 × Int32 × Int32 × Int32)
  | 0, _, _, _, _, _, _, _, _, _, _, _, _, _, _ => none
  | n + 1, x5, x6, x7, m_there, m_used, m_hidden, m_kind, m_figure, m_cargo, m_load, m_ships, m_inn, m_coughs, m_day =>
  if x1 ≤ x7 then
  k x5 m_there m_used m_hidden m_kind m_figure m_cargo m_load m_ships m_inn m_coughs m_day
  else
  (X4_fromNow m_there m_used m_hidden m_kind m_figure m_cargo m_load n_there n_used n_hidden n_kind n_figure n_cargo n_load m_ships m_inn m_coughs m_day n_ships n_inn n_coughs n_day).bind fun u_5 =>
  X4_lots_L61 (fun y6_9 m_there_10 =>
  (X0_passDays m_there_10 u_5.2.1 u_5.2.2.1 u_5.2.2.2.1 u_5.2.2.2.2.1 u_5.2.2.2.2.2.1 u_5.2.2.2.2.2.2.1 u_5.2.2.2.2.2.2.2.1 u_5.2.2.2.2.2.2.2.2.1 u_5.2.2.2.2.2.2.2.2.2.1 u_5.2.2.2.2.2.2.2.2.2.2 (10 : Int32)).bind fun u_11 =>
  if x3 = (0 : Int32) then
  (J6_bitCount_0f7a4 u_11.2.1).bind fun u_15 =>
  X4_lots_L46 k n_there n_used n_hidden n_kind n_figure n_cargo n_load n_ships n_inn n_coughs n_day x1 x3 n (x5 + u_15) y6_9 (x7 + (1 : Int32)) u_11.1 u_5.2.1 u_5.2.2.1 u_5.2.2.2.1 u_5.2.2.2.2.1 u_5.2.2.2.2.2.1 u_5.2.2.2.2.2.2.1 u_5.2.2.2.2.2.2.2.1 u_11.2.1 u_11.2.2.1 u_11.2.2.2
  else
  (X0_lackOfAll u_11.1 u_5.2.1).bind fun u_13 =>
  X4_lots_L46 k n_there n_used n_hidden n_kind n_figure n_cargo n_load n_ships n_inn n_coughs n_day x1 x3 n (x5 + u_13) y6_9 (x7 + (1 : Int32)) u_11.1 u_5.2.1 u_5.2.2.1 u_5.2.2.2.1 u_5.2.2.2.2.1 u_5.2.2.2.2.2.1 u_5.2.2.2.2.2.2.1 u_5.2.2.2.2.2.2.2.1 u_11.2.1 u_11.2.2.1 u_11.2.2.2) 1000 x6 (0 : Int32) u_5.1
def X4_lots (refusals : List Int32) (m_there : List Int32) (m_used : List Int32) (m_hidden : List Int32) (m_kind : List Int32) (m_figure : List Int32) (m_cargo : List Int32) (m_load : List Int32) (n_there : List Int32) (n_used : List Int32) (n_hidden : List Int32) (n_kind : List Int32) (n_figure : List Int32) (n_cargo : List Int32) (n_load : List Int32) (m_ships : Int32) (m_inn : Int32) (m_coughs : Int32) (m_day : Int32) (n_ships : Int32) (n_inn : Int32) (n_coughs : Int32) (n_day : Int32) (p0 : Int32) (p1 : Int32) (p2 : Int32) : Option (List Int32 × List Int32 × List Int32 × List Int32 × List Int32 × List Int32 × List Int32 × List Int32 × Int32 × Int32 × Int32 × Int32 × Int32) :=
  (X4_misfit p0 (1 : Int32) (20 : Int32)).bind fun u_1 =>
  if u_1 = (0 : Int32) then
  if p2 < (0 : Int32) then
  (X4_refuse refusals (-2 : Int32)).bind fun u_3 =>
  some (u_3.1, m_there, m_used, m_hidden, m_kind, m_figure, m_cargo, m_load, m_ships, m_inn, m_coughs, m_day, u_3.2)
  else
  if p2 ≤ (1 : Int32) then
  X4_lots_L46 (fun y5_17 m_there_18 m_used_19 m_hidden_20 m_kind_21 m_figure_22 m_cargo_23 m_load_24 m_ships_25 m_inn_26 m_coughs_27 m_day_28 =>
  some (refusals, m_there_18, m_used_19, m_hidden_20, m_kind_21, m_figure_22, m_cargo_23, m_load_24, m_ships_25, m_inn_26, m_coughs_27, m_day_28, y5_17)) n_there n_used n_hidden n_kind n_figure n_cargo n_load n_ships n_inn n_coughs n_day p0 p2 1000 (0 : Int32) p1 (0 : Int32) m_there m_used m_hidden m_kind m_figure m_cargo m_load m_ships m_inn m_coughs m_day
  else
  (X4_refuse refusals (-2 : Int32)).bind fun u_29 =>
  some (u_29.1, m_there, m_used, m_hidden, m_kind, m_figure, m_cargo, m_load, m_ships, m_inn, m_coughs, m_day, u_29.2)
  else
  (X4_refuse refusals u_1).bind fun u_31 =>
  some (u_31.1, m_there, m_used, m_hidden, m_kind, m_figure, m_cargo, m_load, m_ships, m_inn, m_coughs, m_day, u_31.2)
set_option maxRecDepth 100000 in
set_option maxHeartbeats 4000000 in
theorem l_X4_lots_L61 {l : Launch} {p : Program} {e : Env} {s : State} {m : MethodId} {args : Array Value} {below : List Frame} {meth : Method} {c : Code} {A : Nat → Prop} {G : Gx} {ad adt adb ade adm adn adk adp : Nat → Nat} {adr : Nat → Nat → Nat} {refusals tcells lcells m_used m_hidden m_kind m_figure m_cargo m_load n_there n_used n_hidden n_kind n_figure n_cargo n_load k_there k_used k_hidden k_kind k_figure k_cargo k_load : List Int32} {isKept tlen llen m_ships m_inn m_coughs m_day n_ships n_inn n_coughs n_day k_ships k_inn k_coughs k_day held : Int32} {perm : Nat → Nat} {hist : Nat → Hs} {x1 : Int32} {x3 : Int32} {x5 : Int32} {x7 : Int32} {k : Int32 → List Int32 → Option (List Int32 × List Int32 × List Int32 × List Int32 × List Int32 × List Int32 × List Int32 × List Int32 × Int32 × Int32 × Int32 × Int32 × Int32)} {out : List Int32 × List Int32 × List Int32 × List Int32 × List Int32 × List Int32 × List Int32 × List Int32 × Int32 × Int32 × Int32 × Int32 × Int32} (C : Cx p s m args meth c cX4_lots RX4 10 (some .int) G) : ∀ (n : Nat) (x6 : Int32) (x9 : Int32) (m_there : List Int32), X4_lots_L61 k n x6 x9 m_there = some out → ∀ (H : Heap) (locs : List Loc), St G A s.heap H locs (wT G ad adt adb ade adm adn adk adp adr refusals tcells lcells m_there m_used m_hidden m_kind m_figure m_cargo m_load n_there n_used n_hidden n_kind n_figure n_cargo n_load k_there k_used k_hidden k_kind k_figure k_cargo k_load isKept tlen llen m_ships m_inn m_coughs m_day n_ships n_inn n_coughs n_day k_ships k_inn k_coughs k_day held perm hist) → ∀ ls : Array Slot, lv_has ls 10 [(0, .ref (ad 0)), (1, .int x1), (3, .int x3), (5, .int x5), (6, .int x6), (7, .int x7), (8, .ref (adm 0)), (9, .int x9)] → (∀ (y6 : Int32) (z_m_there : List Int32), k y6 z_m_there = some out → ∀ (H : Heap) (locs : List Loc), St G A s.heap H locs (wT G ad adt adb ade adm adn adk adp adr refusals tcells lcells z_m_there m_used m_hidden m_kind m_figure m_cargo m_load n_there n_used n_hidden n_kind n_figure n_cargo n_load k_there k_used k_hidden k_kind k_figure k_cargo k_load isKept tlen llen m_ships m_inn m_coughs m_day n_ships n_inn n_coughs n_day k_ships k_inn k_coughs k_day held perm hist) → ∀ ls : Array Slot, lv_has ls 10 [(0, .ref (ad 0)), (1, .int x1), (3, .int x3), (5, .int x5), (6, .int y6), (7, .int x7), (8, .ref (adm 0))] → W p l e (rmOf 5 111) s m args below meth c H locs 0 0 (MQ below (Qof G A (some (.int out.2.2.2.2.2.2.2.2.2.2.2.2)) (wT G ad adt adb ade adm adn adk adp adr out.1 tcells lcells out.2.1 out.2.2.1 out.2.2.2.1 out.2.2.2.2.1 out.2.2.2.2.2.1 out.2.2.2.2.2.2.1 out.2.2.2.2.2.2.2.1 n_there n_used n_hidden n_kind n_figure n_cargo n_load k_there k_used k_hidden k_kind k_figure k_cargo k_load isKept tlen llen out.2.2.2.2.2.2.2.2.1 out.2.2.2.2.2.2.2.2.2.1 out.2.2.2.2.2.2.2.2.2.2.1 out.2.2.2.2.2.2.2.2.2.2.2.1 n_ships n_inn n_coughs n_day k_ships k_inn k_coughs k_day held perm hist)) args s 0 0 A) (F0 m 104 ls [])) → W p l e (rmOf 5 111) s m args below meth c H locs 0 0 (MQ below (Qof G A (some (.int out.2.2.2.2.2.2.2.2.2.2.2.2)) (wT G ad adt adb ade adm adn adk adp adr out.1 tcells lcells out.2.1 out.2.2.1 out.2.2.2.1 out.2.2.2.2.1 out.2.2.2.2.2.1 out.2.2.2.2.2.2.1 out.2.2.2.2.2.2.2.1 n_there n_used n_hidden n_kind n_figure n_cargo n_load k_there k_used k_hidden k_kind k_figure k_cargo k_load isKept tlen llen out.2.2.2.2.2.2.2.2.1 out.2.2.2.2.2.2.2.2.2.1 out.2.2.2.2.2.2.2.2.2.2.1 out.2.2.2.2.2.2.2.2.2.2.2.1 n_ships n_inn n_coughs n_day k_ships k_inn k_coughs k_day held perm hist)) args s 0 0 A) (F0 m 61 ls []) := by
  obtain ⟨hx, hb, hml, hown, hts, hK, hret, hlk⟩ := id C
  intro n
  induction n with
  | zero => intro x6 x9 m_there hf; cases hf
  | succ n ih =>
    intro x6 x9 m_there hf H locs hs ls hl hk
    rw [X4_lots_L61] at hf
    refine lv_iload hx hb (dk hX4_lots_0 34 rfl) (lv_at hl 7 rfl) ?_
    refine lv_bipush (v := (6 : Int32)) hx hb (dk hX4_lots_0 35 rfl) (by decide) ?_
    refine lv_icmp_ge (tgt := 104) hx hb (dk hX4_lots_0 36 rfl) (by decide) (fun hc => ?_) (fun hc => ?_)
    · replace hf := ip hf hc
      exact hk _ _ hf _ _ hs _ (lv_sub hl [0, 1, 2, 3, 4, 5, 6] rfl)
    · replace hf := in_ hf hc
      refine lv_iload hx hb (dk hX4_lots_0 37 rfl) (lv_at hl 4 rfl) ?_
      refine lv_ldc (v := (1103515245 : Int32)) hx hb hown (hts _ tw_601) (dk hX4_lots_0 38 rfl) ?_
      refine lv_imul hx hb (dk hX4_lots_0 39 rfl) ?_
      refine lv_sipush (v := (12345 : Int32)) hx hb (dk hX4_lots_1 0 rfl) (by decide) ?_
      refine lv_iadd hx hb (dk hX4_lots_1 1 rfl) ?_
      refine lv_istore (lv' := [(6, .int ((x6 * (1103515245 : Int32)) + (12345 : Int32))), (0, .ref (ad 0)), (1, .int x1), (3, .int x3), (5, .int x5), (7, .int x7), (8, .ref (adm 0)), (9, .int x9)]) hx hb (dk hX4_lots_1 2 rfl) hl (by decide) rfl (fun ls hl => ?_)
      refine lv_aload hx hb (dk hX4_lots_1 3 rfl) (lv_at hl 6 rfl) ?_
      refine rg ui0 rfl C hs 7 rfl 0 (by decide) tw_102 rfl rfl (dk hX4_lots_1 4 rfl) ?_
      refine lv_iload hx hb (dk hX4_lots_1 5 rfl) (lv_at hl 7 rfl) ?_
      refine lv_iload hx hb (dk hX4_lots_1 6 rfl) (lv_at hl 0 rfl) ?_
      refine lv_ldc (v := (2147483647 : Int32)) hx hb hown (hts _ tw_602) (dk hX4_lots_1 7 rfl) ?_
      refine lv_iand hx hb (dk hX4_lots_1 8 rfl) ?_
      refine lv_bipush (v := (16 : Int32)) hx hb (dk hX4_lots_1 9 rfl) (by decide) ?_
      refine lv_ishr hx hb (dk hX4_lots_1 10 rfl) ?_
      refine lv_bipush (v := (40 : Int32)) hx hb (dk hX4_lots_1 11 rfl) (by decide) ?_
      refine lv_irem hx hb (dk hX4_lots_1 12 rfl) (by decide) ?_
      obtain ⟨m_there_7, e_8, hf⟩ := Option.bind_eq_some_iff.mp hf
      refine rist (w1 := (wT G ad adt adb ade adm adn adk adp adr refusals tcells lcells m_there_7 m_used m_hidden m_kind m_figure m_cargo m_load n_there n_used n_hidden n_kind n_figure n_cargo n_load k_there k_used k_hidden k_kind k_figure k_cargo k_load isKept tlen llen m_ships m_inn m_coughs m_day n_ships n_inn n_coughs n_day k_ships k_inn k_coughs k_day held perm hist)) C hs 8 rfl e_8 rfl (dk hX4_lots_1 13 rfl) (fun H locs hs => ?_)
      refine lv_iinc (v := (x9 + (1 : Int32))) (lv' := [(9, .int (x9 + (1 : Int32))), (6, .int ((x6 * (1103515245 : Int32)) + (12345 : Int32))), (0, .ref (ad 0)), (1, .int x1), (3, .int x3), (5, .int x5), (7, .int x7), (8, .ref (adm 0))]) hx hb (dk hX4_lots_1 14 rfl) hl (k := 7) rfl (by first | rfl | decide) (by decide) rfl (fun ls hl => ?_)
      refine lv_goto (tgt := 61) hx hb (dk hX4_lots_1 15 rfl) (by decide) ?_
      exact ih _ _ _ hf _ _ hs _ (lv_sub hl [2, 3, 4, 5, 1, 6, 7, 0] rfl) hk
set_option maxRecDepth 100000 in
set_option maxHeartbeats 4000000 in
theorem l_X4_lots_L46 {l : Launch} {p : Program} {e : Env} {s : State} {m : MethodId} {args : Array Value} {below : List Frame} {meth : Method} {c : Code} {A : Nat → Prop} {G : Gx} {ad adt adb ade adm adn adk adp : Nat → Nat} {adr : Nat → Nat → Nat} {refusals tcells lcells n_there n_used n_hidden n_kind n_figure n_cargo n_load k_there k_used k_hidden k_kind k_figure k_cargo k_load : List Int32} {isKept tlen llen n_ships n_inn n_coughs n_day k_ships k_inn k_coughs k_day held : Int32} {perm : Nat → Nat} {hist : Nat → Hs} {x1 : Int32} {x3 : Int32} {k : Int32 → List Int32 → List Int32 → List Int32 → List Int32 → List Int32 → List Int32 → List Int32 → Int32 → Int32 → Int32 → Int32 → Option (List Int32 × List Int32 × List Int32 × List Int32 × List Int32 × List Int32 × List Int32 × List Int32 × Int32 × Int32 × Int32 × Int32 × Int32)} {out : List Int32 × List Int32 × List Int32 × List Int32 × List Int32 × List Int32 × List Int32 × List Int32 × Int32 × Int32 × Int32 × Int32 × Int32} (C : Cx p s m args meth c cX4_lots RX4 10 (some .int) G) : ∀ (n : Nat) (x5 : Int32) (x6 : Int32) (x7 : Int32) (m_there : List Int32) (m_used : List Int32) (m_hidden : List Int32) (m_kind : List Int32) (m_figure : List Int32) (m_cargo : List Int32) (m_load : List Int32) (m_ships : Int32) (m_inn : Int32) (m_coughs : Int32) (m_day : Int32), X4_lots_L46 k n_there n_used n_hidden n_kind n_figure n_cargo n_load n_ships n_inn n_coughs n_day x1 x3 n x5 x6 x7 m_there m_used m_hidden m_kind m_figure m_cargo m_load m_ships m_inn m_coughs m_day = some out → ∀ (H : Heap) (locs : List Loc), St G A s.heap H locs (wT G ad adt adb ade adm adn adk adp adr refusals tcells lcells m_there m_used m_hidden m_kind m_figure m_cargo m_load n_there n_used n_hidden n_kind n_figure n_cargo n_load k_there k_used k_hidden k_kind k_figure k_cargo k_load isKept tlen llen m_ships m_inn m_coughs m_day n_ships n_inn n_coughs n_day k_ships k_inn k_coughs k_day held perm hist) → ∀ ls : Array Slot, lv_has ls 10 [(0, .ref (ad 0)), (1, .int x1), (3, .int x3), (5, .int x5), (6, .int x6), (7, .int x7)] → (∀ (y5 : Int32) (z_m_there : List Int32) (z_m_used : List Int32) (z_m_hidden : List Int32) (z_m_kind : List Int32) (z_m_figure : List Int32) (z_m_cargo : List Int32) (z_m_load : List Int32) (z_m_ships : Int32) (z_m_inn : Int32) (z_m_coughs : Int32) (z_m_day : Int32), k y5 z_m_there z_m_used z_m_hidden z_m_kind z_m_figure z_m_cargo z_m_load z_m_ships z_m_inn z_m_coughs z_m_day = some out → ∀ (H : Heap) (locs : List Loc), St G A s.heap H locs (wT G ad adt adb ade adm adn adk adp adr refusals tcells lcells z_m_there z_m_used z_m_hidden z_m_kind z_m_figure z_m_cargo z_m_load n_there n_used n_hidden n_kind n_figure n_cargo n_load k_there k_used k_hidden k_kind k_figure k_cargo k_load isKept tlen llen z_m_ships z_m_inn z_m_coughs z_m_day n_ships n_inn n_coughs n_day k_ships k_inn k_coughs k_day held perm hist) → ∀ ls : Array Slot, lv_has ls 10 [(5, .int y5)] → W p l e (rmOf 5 111) s m args below meth c H locs 0 0 (MQ below (Qof G A (some (.int out.2.2.2.2.2.2.2.2.2.2.2.2)) (wT G ad adt adb ade adm adn adk adp adr out.1 tcells lcells out.2.1 out.2.2.1 out.2.2.2.1 out.2.2.2.2.1 out.2.2.2.2.2.1 out.2.2.2.2.2.2.1 out.2.2.2.2.2.2.2.1 n_there n_used n_hidden n_kind n_figure n_cargo n_load k_there k_used k_hidden k_kind k_figure k_cargo k_load isKept tlen llen out.2.2.2.2.2.2.2.2.1 out.2.2.2.2.2.2.2.2.2.1 out.2.2.2.2.2.2.2.2.2.2.1 out.2.2.2.2.2.2.2.2.2.2.2.1 n_ships n_inn n_coughs n_day k_ships k_inn k_coughs k_day held perm hist)) args s 0 0 A) (F0 m 142 ls [])) → W p l e (rmOf 5 111) s m args below meth c H locs 0 0 (MQ below (Qof G A (some (.int out.2.2.2.2.2.2.2.2.2.2.2.2)) (wT G ad adt adb ade adm adn adk adp adr out.1 tcells lcells out.2.1 out.2.2.1 out.2.2.2.1 out.2.2.2.2.1 out.2.2.2.2.2.1 out.2.2.2.2.2.2.1 out.2.2.2.2.2.2.2.1 n_there n_used n_hidden n_kind n_figure n_cargo n_load k_there k_used k_hidden k_kind k_figure k_cargo k_load isKept tlen llen out.2.2.2.2.2.2.2.2.1 out.2.2.2.2.2.2.2.2.2.1 out.2.2.2.2.2.2.2.2.2.2.1 out.2.2.2.2.2.2.2.2.2.2.2.1 n_ships n_inn n_coughs n_day k_ships k_inn k_coughs k_day held perm hist)) args s 0 0 A) (F0 m 46 ls []) := by
  obtain ⟨hx, hb, hml, hown, hts, hK, hret, hlk⟩ := id C
  intro n
  induction n with
  | zero => intro x5 x6 x7 m_there m_used m_hidden m_kind m_figure m_cargo m_load m_ships m_inn m_coughs m_day hf; cases hf
  | succ n ih =>
    intro x5 x6 x7 m_there m_used m_hidden m_kind m_figure m_cargo m_load m_ships m_inn m_coughs m_day hf H locs hs ls hl hk
    rw [X4_lots_L46] at hf
    refine lv_iload hx hb (dk hX4_lots_0 26 rfl) (lv_at hl 5 rfl) ?_
    refine lv_iload_n hx hb (dk hX4_lots_0 27 rfl) rfl (lv_at hl 1 rfl) ?_
    refine lv_icmp_ge (tgt := 142) hx hb (dk hX4_lots_0 28 rfl) (by decide) (fun hc => ?_) (fun hc => ?_)
    · replace hf := ip hf hc
      exact hk _ _ _ _ _ _ _ _ _ _ _ _ hf _ _ hs _ (lv_sub hl [3] rfl)
    · replace hf := in_ hf hc
      refine lv_aload_n hx hb (dk hX4_lots_0 29 rfl) rfl (lv_at hl 0 rfl) ?_
      obtain ⟨u_5, e_6, hf⟩ := Option.bind_eq_some_iff.mp hf
      refine Ct.V (As := []) (rest := []) (st1 := [.ref (adm 0)]) (w1 := (wT G ad adt adb ade adm adn adk adp adr refusals tcells lcells u_5.1 u_5.2.1 u_5.2.2.1 u_5.2.2.2.1 u_5.2.2.2.2.1 u_5.2.2.2.2.2.1 u_5.2.2.2.2.2.2.1 n_there n_used n_hidden n_kind n_figure n_cargo n_load k_there k_used k_hidden k_kind k_figure k_cargo k_load isKept tlen llen u_5.2.2.2.2.2.2.2.1 u_5.2.2.2.2.2.2.2.2.1 u_5.2.2.2.2.2.2.2.2.2.1 u_5.2.2.2.2.2.2.2.2.2.2 n_ships n_inn n_coughs n_day k_ships k_inn k_coughs k_day held perm hist)) C hs (c_X4_fromNow e_6) tw_246 tw_248 tw_1 tw_79 tw_249 nq_X4_fromNow (by decide) 0 4 rfl rfl rfl rfl hl.1 rfl (Nat.le_of_ble_eq_true rfl) (dk hX4_lots_0 30 rfl) ⟨Nat.zero_le _, Nat.zero_le _⟩ rfl (fun H locs hs => ?_)
      refine lv_astore (lv' := [(8, .ref (adm 0)), (0, .ref (ad 0)), (1, .int x1), (3, .int x3), (5, .int x5), (6, .int x6), (7, .int x7)]) hx hb (dk hX4_lots_0 31 rfl) hl (by decide) rfl (fun ls hl => ?_)
      refine lv_iconst (v := (0 : Int32)) hx hb (dk hX4_lots_0 32 rfl) (by decide) ?_
      refine lv_istore (lv' := [(9, .int (0 : Int32)), (8, .ref (adm 0)), (0, .ref (ad 0)), (1, .int x1), (3, .int x3), (5, .int x5), (6, .int x6), (7, .int x7)]) hx hb (dk hX4_lots_0 33 rfl) hl (by decide) rfl (fun ls hl => ?_)
      refine l_X4_lots_L61 C 1000 _ _ _ hf _ _ hs _ (lv_sub hl [2, 3, 4, 5, 6, 7, 1, 0] rfl) (fun y6_9 m_there_10 hf H locs hs ls hl => ?_)
      refine lv_aload hx hb (dk hX4_lots_1 16 rfl) (lv_at hl 6 rfl) ?_
      refine lv_bipush (v := (10 : Int32)) hx hb (dk hX4_lots_1 17 rfl) (by decide) ?_
      obtain ⟨u_11, e_12, hf⟩ := Option.bind_eq_some_iff.mp hf
      refine Ct.V (As := [.int (10 : Int32)]) (rest := []) (st1 := []) (w1 := (wT G ad adt adb ade adm adn adk adp adr refusals tcells lcells u_11.1 u_5.2.1 u_5.2.2.1 u_5.2.2.2.1 u_5.2.2.2.2.1 u_5.2.2.2.2.2.1 u_5.2.2.2.2.2.2.1 n_there n_used n_hidden n_kind n_figure n_cargo n_load k_there k_used k_hidden k_kind k_figure k_cargo k_load isKept tlen llen u_5.2.2.2.2.2.2.2.1 u_11.2.1 u_11.2.2.1 u_11.2.2.2 n_ships n_inn n_coughs n_day k_ships k_inn k_coughs k_day held perm hist)) C hs (c_X0_passDays__mind e_12) tw_444 tw_325 tw_326 tw_80 tw_327 nq_X0_passDays (by decide) 7 0 rfl rfl rfl rfl hl.1 rfl (Nat.le_of_ble_eq_true rfl) (dk hX4_lots_1 18 rfl) ⟨Nat.zero_le _, Nat.zero_le _⟩ rfl (fun H locs hs => ?_)
      refine lv_iload hx hb (dk hX4_lots_1 19 rfl) (lv_at hl 3 rfl) ?_
      refine lv_iload_n hx hb (dk hX4_lots_1 20 rfl) rfl (lv_at hl 2 rfl) ?_
      refine lv_if_ne (tgt := 128) hx hb (dk hX4_lots_1 21 rfl) (by decide) (fun hc => ?_) (fun hc => ?_)
      · replace hf := in_ hf hc
        refine lv_aload hx hb (dk hX4_lots_1 26 rfl) (lv_at hl 6 rfl) ?_
        obtain ⟨u_13, e_14, hf⟩ := Option.bind_eq_some_iff.mp hf
        refine Ct.V (As := []) (rest := [.int x5]) (st1 := [.int u_13, .int x5]) (w1 := (wT G ad adt adb ade adm adn adk adp adr refusals tcells lcells u_11.1 u_5.2.1 u_5.2.2.1 u_5.2.2.2.1 u_5.2.2.2.2.1 u_5.2.2.2.2.2.1 u_5.2.2.2.2.2.2.1 n_there n_used n_hidden n_kind n_figure n_cargo n_load k_there k_used k_hidden k_kind k_figure k_cargo k_load isKept tlen llen u_5.2.2.2.2.2.2.2.1 u_11.2.1 u_11.2.2.1 u_11.2.2.2 n_ships n_inn n_coughs n_day k_ships k_inn k_coughs k_day held perm hist)) C hs (c_X0_lackOfAll__mind e_14) tw_603 tw_533 tw_534 tw_80 tw_535 nq_X0_lackOfAll (by decide) 7 0 rfl rfl rfl rfl hl.1 rfl (Nat.le_of_ble_eq_true rfl) (dk hX4_lots_1 27 rfl) ⟨Nat.zero_le _, Nat.zero_le _⟩ rfl (fun H locs hs => ?_)
        refine lv_iadd hx hb (dk hX4_lots_1 28 rfl) ?_
        refine lv_istore (lv' := [(5, .int (x5 + u_13)), (0, .ref (ad 0)), (1, .int x1), (3, .int x3), (6, .int y6_9), (7, .int x7), (8, .ref (adm 0))]) hx hb (dk hX4_lots_1 29 rfl) hl (by decide) rfl (fun ls hl => ?_)
        refine lv_iinc (v := (x7 + (1 : Int32))) (lv' := [(7, .int (x7 + (1 : Int32))), (5, .int (x5 + u_13)), (0, .ref (ad 0)), (1, .int x1), (3, .int x3), (6, .int y6_9), (8, .ref (adm 0))]) hx hb (dk hX4_lots_1 30 rfl) hl (k := 5) rfl (by first | rfl | decide) (by decide) rfl (fun ls hl => ?_)
        refine lv_goto (tgt := 46) hx hb (dk hX4_lots_1 31 rfl) (by decide) ?_
        exact ih _ _ _ _ _ _ _ _ _ _ _ _ _ _ hf _ _ hs _ (lv_sub hl [2, 3, 4, 1, 5, 0] rfl) hk
      · replace hf := ip hf hc
        refine lv_aload hx hb (dk hX4_lots_1 22 rfl) (lv_at hl 6 rfl) ?_
        refine rg ui0 rfl C hs 7 rfl 8 (by decide) tw_121 rfl rfl (dk hX4_lots_1 23 rfl) ?_
        obtain ⟨u_15, e_16, hf⟩ := Option.bind_eq_some_iff.mp hf
        refine Ct.S (As := [.int u_11.2.1]) (rest := [.int x5]) (st1 := [.int u_15, .int x5]) (w1 := (wT G ad adt adb ade adm adn adk adp adr refusals tcells lcells u_11.1 u_5.2.1 u_5.2.2.1 u_5.2.2.2.1 u_5.2.2.2.2.1 u_5.2.2.2.2.2.1 u_5.2.2.2.2.2.2.1 n_there n_used n_hidden n_kind n_figure n_cargo n_load k_there k_used k_hidden k_kind k_figure k_cargo k_load isKept tlen llen u_5.2.2.2.2.2.2.2.1 u_11.2.1 u_11.2.2.1 u_11.2.2.2 n_ships n_inn n_coughs n_day k_ships k_inn k_coughs k_day held perm hist)) C hs (c_J6_bitCount_0f7a4 e_16) tw_445 tw_446 tw_86 tw_447 nq_J6_bitCount_0f7a4 (by decide) rfl hl.1 rfl (Nat.le_of_ble_eq_true rfl) (dk hX4_lots_1 24 rfl) ⟨Nat.zero_le _, Nat.zero_le _⟩ rfl (fun H locs hs => ?_)
        refine lv_goto (tgt := 133) hx hb (dk hX4_lots_1 25 rfl) (by decide) ?_
        refine lv_iadd hx hb (dk hX4_lots_1 28 rfl) ?_
        refine lv_istore (lv' := [(5, .int (x5 + u_15)), (0, .ref (ad 0)), (1, .int x1), (3, .int x3), (6, .int y6_9), (7, .int x7), (8, .ref (adm 0))]) hx hb (dk hX4_lots_1 29 rfl) hl (by decide) rfl (fun ls hl => ?_)
        refine lv_iinc (v := (x7 + (1 : Int32))) (lv' := [(7, .int (x7 + (1 : Int32))), (5, .int (x5 + u_15)), (0, .ref (ad 0)), (1, .int x1), (3, .int x3), (6, .int y6_9), (8, .ref (adm 0))]) hx hb (dk hX4_lots_1 30 rfl) hl (k := 5) rfl (by first | rfl | decide) (by decide) rfl (fun ls hl => ?_)
        refine lv_goto (tgt := 46) hx hb (dk hX4_lots_1 31 rfl) (by decide) ?_
        exact ih _ _ _ _ _ _ _ _ _ _ _ _ _ _ hf _ _ hs _ (lv_sub hl [2, 3, 4, 1, 5, 0] rfl) hk
set_option maxRecDepth 100000 in
set_option maxHeartbeats 4000000 in
theorem c_X4_lots {l : Launch} {G : Gx} {ad adt adb ade adm adn adk adp : Nat → Nat} {adr : Nat → Nat → Nat} {refusals tcells lcells m_there m_used m_hidden m_kind m_figure m_cargo m_load n_there n_used n_hidden n_kind n_figure n_cargo n_load k_there k_used k_hidden k_kind k_figure k_cargo k_load : List Int32} {isKept tlen llen m_ships m_inn m_coughs m_day n_ships n_inn n_coughs n_day k_ships k_inn k_coughs k_day held : Int32} {perm : Nat → Nat} {hist : Nat → Hs} {p0 : Int32} {p1 : Int32} {p2 : Int32} {out : List Int32 × List Int32 × List Int32 × List Int32 × List Int32 × List Int32 × List Int32 × List Int32 × Int32 × Int32 × Int32 × Int32 × Int32} (hf : X4_lots refusals m_there m_used m_hidden m_kind m_figure m_cargo m_load n_there n_used n_hidden n_kind n_figure n_cargo n_load m_ships m_inn m_coughs m_day n_ships n_inn n_coughs n_day p0 p1 p2 = some out) : Ct l G yX4_lots cX4_lots 10 (some .int) 5 111 [.ref (ad 0), .int p0, .int p1, .int p2] (wT G ad adt adb ade adm adn adk adp adr refusals tcells lcells m_there m_used m_hidden m_kind m_figure m_cargo m_load n_there n_used n_hidden n_kind n_figure n_cargo n_load k_there k_used k_hidden k_kind k_figure k_cargo k_load isKept tlen llen m_ships m_inn m_coughs m_day n_ships n_inn n_coughs n_day k_ships k_inn k_coughs k_day held perm hist) (some (.int out.2.2.2.2.2.2.2.2.2.2.2.2)) (wT G ad adt adb ade adm adn adk adp adr out.1 tcells lcells out.2.1 out.2.2.1 out.2.2.2.1 out.2.2.2.2.1 out.2.2.2.2.2.1 out.2.2.2.2.2.2.1 out.2.2.2.2.2.2.2.1 n_there n_used n_hidden n_kind n_figure n_cargo n_load k_there k_used k_hidden k_kind k_figure k_cargo k_load isKept tlen llen out.2.2.2.2.2.2.2.2.1 out.2.2.2.2.2.2.2.2.2.1 out.2.2.2.2.2.2.2.2.2.2.1 out.2.2.2.2.2.2.2.2.2.2.2.1 n_ships n_inn n_coughs n_day k_ships k_inn k_coughs k_day held perm hist) := by
  refine Ct.intro RX4 rfl (plainFor_of_name (by decide)) (Nat.le_of_ble_eq_true rfl) rfl ?_
  intro p e s m args below meth c A C H locs hs ls hl
  obtain ⟨hx, hb, hml, hown, hts, hK, hret, hlk⟩ := id C
  have hl : lv_has ls 10 [(0, .ref (ad 0)), (1, .int p0), (2, .int p1), (3, .int p2)] := hl
  unfold X4_lots at hf
  refine lv_iload_n hx hb (dk hX4_lots_0 0 rfl) rfl (lv_at hl 1 rfl) ?_
  refine lv_iconst (v := (1 : Int32)) hx hb (dk hX4_lots_0 1 rfl) (by decide) ?_
  refine lv_bipush (v := (20 : Int32)) hx hb (dk hX4_lots_0 2 rfl) (by decide) ?_
  obtain ⟨u_1, e_2, hf⟩ := Option.bind_eq_some_iff.mp hf
  refine Ct.S (As := [.int p0, .int (1 : Int32), .int (20 : Int32)]) (rest := []) (st1 := [.int u_1]) (w1 := (wT G ad adt adb ade adm adn adk adp adr refusals tcells lcells m_there m_used m_hidden m_kind m_figure m_cargo m_load n_there n_used n_hidden n_kind n_figure n_cargo n_load k_there k_used k_hidden k_kind k_figure k_cargo k_load isKept tlen llen m_ships m_inn m_coughs m_day n_ships n_inn n_coughs n_day k_ships k_inn k_coughs k_day held perm hist)) C hs (c_X4_misfit e_2) tw_405 tw_305 tw_79 tw_306 nq_X4_misfit (by decide) rfl hl.1 rfl (Nat.le_of_ble_eq_true rfl) (dk hX4_lots_0 3 rfl) ⟨Nat.zero_le _, Nat.zero_le _⟩ rfl (fun H locs hs => ?_)
  refine lv_istore (lv' := [(4, .int u_1), (0, .ref (ad 0)), (1, .int p0), (2, .int p1), (3, .int p2)]) hx hb (dk hX4_lots_0 4 rfl) hl (by decide) rfl (fun ls hl => ?_)
  refine lv_iload hx hb (dk hX4_lots_0 5 rfl) (lv_at hl 0 rfl) ?_
  refine lv_if_eq (tgt := 21) hx hb (dk hX4_lots_0 6 rfl) (by decide) (fun hc => ?_) (fun hc => ?_)
  · replace hf := ip hf hc
    refine lv_iload_n hx hb (dk hX4_lots_0 11 rfl) rfl (lv_at hl 4 rfl) ?_
    refine lv_if_lt (tgt := 30) hx hb (dk hX4_lots_0 12 rfl) (by decide) (fun hc => ?_) (fun hc => ?_)
    · replace hf := ip hf hc
      refine lv_aload_n hx hb (dk hX4_lots_0 16 rfl) rfl (lv_at hl 1 rfl) ?_
      refine lv_bipush (v := (-2 : Int32)) hx hb (dk hX4_lots_0 17 rfl) (by decide) ?_
      obtain ⟨u_3, e_4, hf⟩ := Option.bind_eq_some_iff.mp hf
      refine Ct.V (As := [.int (-2 : Int32)]) (rest := []) (st1 := [.int u_3.2]) (w1 := (wT G ad adt adb ade adm adn adk adp adr u_3.1 tcells lcells m_there m_used m_hidden m_kind m_figure m_cargo m_load n_there n_used n_hidden n_kind n_figure n_cargo n_load k_there k_used k_hidden k_kind k_figure k_cargo k_load isKept tlen llen m_ships m_inn m_coughs m_day n_ships n_inn n_coughs n_day k_ships k_inn k_coughs k_day held perm hist)) C hs (c_X4_refuse e_4) tw_226 tw_228 tw_0 tw_79 tw_229 nq_X4_refuse (by decide) 0 4 rfl rfl rfl rfl hl.1 rfl (Nat.le_of_ble_eq_true rfl) (dk hX4_lots_0 18 rfl) ⟨Nat.zero_le _, Nat.zero_le _⟩ rfl (fun H locs hs => ?_)
      cases hf
      exact ri C hs (dk hX4_lots_0 19 rfl)
    · replace hf := in_ hf hc
      refine lv_iload_n hx hb (dk hX4_lots_0 13 rfl) rfl (lv_at hl 4 rfl) ?_
      refine lv_iconst (v := (1 : Int32)) hx hb (dk hX4_lots_0 14 rfl) (by decide) ?_
      refine lv_icmp_le (tgt := 37) hx hb (dk hX4_lots_0 15 rfl) (by decide) (fun hc => ?_) (fun hc => ?_)
      · replace hf := ip hf hc
        refine lv_iconst (v := (0 : Int32)) hx hb (dk hX4_lots_0 20 rfl) (by decide) ?_
        refine lv_istore (lv' := [(5, .int (0 : Int32)), (4, .int u_1), (0, .ref (ad 0)), (1, .int p0), (2, .int p1), (3, .int p2)]) hx hb (dk hX4_lots_0 21 rfl) hl (by decide) rfl (fun ls hl => ?_)
        refine lv_iload_n hx hb (dk hX4_lots_0 22 rfl) rfl (lv_at hl 4 rfl) ?_
        refine lv_istore (lv' := [(6, .int p1), (5, .int (0 : Int32)), (4, .int u_1), (0, .ref (ad 0)), (1, .int p0), (2, .int p1), (3, .int p2)]) hx hb (dk hX4_lots_0 23 rfl) hl (by decide) rfl (fun ls hl => ?_)
        refine lv_iconst (v := (0 : Int32)) hx hb (dk hX4_lots_0 24 rfl) (by decide) ?_
        refine lv_istore (lv' := [(7, .int (0 : Int32)), (6, .int p1), (5, .int (0 : Int32)), (4, .int u_1), (0, .ref (ad 0)), (1, .int p0), (2, .int p1), (3, .int p2)]) hx hb (dk hX4_lots_0 25 rfl) hl (by decide) rfl (fun ls hl => ?_)
        refine l_X4_lots_L46 C 1000 _ _ _ _ _ _ _ _ _ _ _ _ _ _ hf _ _ hs _ (lv_sub hl [4, 5, 7, 2, 1, 0] rfl) (fun y5_17 m_there_18 m_used_19 m_hidden_20 m_kind_21 m_figure_22 m_cargo_23 m_load_24 m_ships_25 m_inn_26 m_coughs_27 m_day_28 hf H locs hs ls hl => ?_)
        refine lv_iload hx hb (dk hX4_lots_1 32 rfl) (lv_at hl 0 rfl) ?_
        cases hf
        exact ri C hs (dk hX4_lots_1 33 rfl)
      · replace hf := in_ hf hc
        refine lv_aload_n hx hb (dk hX4_lots_0 16 rfl) rfl (lv_at hl 1 rfl) ?_
        refine lv_bipush (v := (-2 : Int32)) hx hb (dk hX4_lots_0 17 rfl) (by decide) ?_
        obtain ⟨u_29, e_30, hf⟩ := Option.bind_eq_some_iff.mp hf
        refine Ct.V (As := [.int (-2 : Int32)]) (rest := []) (st1 := [.int u_29.2]) (w1 := (wT G ad adt adb ade adm adn adk adp adr u_29.1 tcells lcells m_there m_used m_hidden m_kind m_figure m_cargo m_load n_there n_used n_hidden n_kind n_figure n_cargo n_load k_there k_used k_hidden k_kind k_figure k_cargo k_load isKept tlen llen m_ships m_inn m_coughs m_day n_ships n_inn n_coughs n_day k_ships k_inn k_coughs k_day held perm hist)) C hs (c_X4_refuse e_30) tw_226 tw_228 tw_0 tw_79 tw_229 nq_X4_refuse (by decide) 0 4 rfl rfl rfl rfl hl.1 rfl (Nat.le_of_ble_eq_true rfl) (dk hX4_lots_0 18 rfl) ⟨Nat.zero_le _, Nat.zero_le _⟩ rfl (fun H locs hs => ?_)
        cases hf
        exact ri C hs (dk hX4_lots_0 19 rfl)
  · replace hf := in_ hf hc
    refine lv_aload_n hx hb (dk hX4_lots_0 7 rfl) rfl (lv_at hl 1 rfl) ?_
    refine lv_iload hx hb (dk hX4_lots_0 8 rfl) (lv_at hl 0 rfl) ?_
    obtain ⟨u_31, e_32, hf⟩ := Option.bind_eq_some_iff.mp hf
    refine Ct.V (As := [.int u_1]) (rest := []) (st1 := [.int u_31.2]) (w1 := (wT G ad adt adb ade adm adn adk adp adr u_31.1 tcells lcells m_there m_used m_hidden m_kind m_figure m_cargo m_load n_there n_used n_hidden n_kind n_figure n_cargo n_load k_there k_used k_hidden k_kind k_figure k_cargo k_load isKept tlen llen m_ships m_inn m_coughs m_day n_ships n_inn n_coughs n_day k_ships k_inn k_coughs k_day held perm hist)) C hs (c_X4_refuse e_32) tw_226 tw_228 tw_0 tw_79 tw_229 nq_X4_refuse (by decide) 0 4 rfl rfl rfl rfl hl.1 rfl (Nat.le_of_ble_eq_true rfl) (dk hX4_lots_0 9 rfl) ⟨Nat.zero_le _, Nat.zero_le _⟩ rfl (fun H locs hs => ?_)
    cases hf
    exact ri C hs (dk hX4_lots_0 10 rfl)

def X4_deepest (refusals : List Int32) (n_there : List Int32) (n_used : List Int32) (n_kind : List Int32) (n_figure : List Int32) (n_cargo : List Int32) (n_ships : Int32) (p0 : Int32) : Option (List Int32 × Int32) :=
  if p0 = (0 : Int32) then
  (X0_deepestShip n_kind n_figure n_ships).bind fun u_1 =>
  some (refusals, u_1)
  else
  if p0 = (1 : Int32) then
  (X0_shortestGood n_there n_used).bind fun u_4 =>
  some (refusals, u_4)
  else
  if p0 = (2 : Int32) then
  (X0_shortestGood n_there n_used).bind fun u_7 =>
  (X0_lackOf n_there n_used u_7).bind fun u_9 =>
  some (refusals, u_9)
  else
  if p0 = (3 : Int32) then
  (X0_plenty n_there n_used).bind fun u_12 =>
  some (refusals, u_12)
  else
  if p0 = (4 : Int32) then
  (X0_twins n_cargo n_ships).bind fun u_15 =>
  some (refusals, u_15)
  else
  (X4_refuse refusals (-2 : Int32)).bind fun u_18 =>
  some (u_18.1, u_18.2)
set_option maxRecDepth 100000 in
set_option maxHeartbeats 4000000 in
theorem c_X4_deepest {l : Launch} {G : Gx} {ad adt adb ade adm adn adk adp : Nat → Nat} {adr : Nat → Nat → Nat} {refusals tcells lcells m_there m_used m_hidden m_kind m_figure m_cargo m_load n_there n_used n_hidden n_kind n_figure n_cargo n_load k_there k_used k_hidden k_kind k_figure k_cargo k_load : List Int32} {isKept tlen llen m_ships m_inn m_coughs m_day n_ships n_inn n_coughs n_day k_ships k_inn k_coughs k_day held : Int32} {perm : Nat → Nat} {hist : Nat → Hs} {p0 : Int32} {out : List Int32 × Int32} (hf : X4_deepest refusals n_there n_used n_kind n_figure n_cargo n_ships p0 = some out) : Ct l G yX4_deepest cX4_deepest 2 (some .int) 2 44 [.ref (ad 0), .int p0] (wT G ad adt adb ade adm adn adk adp adr refusals tcells lcells m_there m_used m_hidden m_kind m_figure m_cargo m_load n_there n_used n_hidden n_kind n_figure n_cargo n_load k_there k_used k_hidden k_kind k_figure k_cargo k_load isKept tlen llen m_ships m_inn m_coughs m_day n_ships n_inn n_coughs n_day k_ships k_inn k_coughs k_day held perm hist) (some (.int out.2)) (wT G ad adt adb ade adm adn adk adp adr out.1 tcells lcells m_there m_used m_hidden m_kind m_figure m_cargo m_load n_there n_used n_hidden n_kind n_figure n_cargo n_load k_there k_used k_hidden k_kind k_figure k_cargo k_load isKept tlen llen m_ships m_inn m_coughs m_day n_ships n_inn n_coughs n_day k_ships k_inn k_coughs k_day held perm hist) := by
  refine Ct.intro RX4 rfl (plainFor_of_name (by decide)) (Nat.le_of_ble_eq_true rfl) rfl ?_
  intro p e s m args below meth c A C H locs hs ls hl
  obtain ⟨hx, hb, hml, hown, hts, hK, hret, hlk⟩ := id C
  have hl : lv_has ls 2 [(0, .ref (ad 0)), (1, .int p0)] := hl
  unfold X4_deepest at hf
  refine lv_iload_n hx hb (dk hX4_deepest_0 0 rfl) rfl (lv_at hl 1 rfl) ?_
  by_cases hc_3 : p0 = (0 : Int32)
  · replace hf := ip hf hc_3
    refine rts (tgt := 36) (off := 35) hx hb (dk hX4_deepest_0 1 rfl) hc_3 (by decide) (by decide) (by decide) (by decide) ?_
    refine lv_aload_n hx hb (dk hX4_deepest_0 2 rfl) rfl (lv_at hl 0 rfl) ?_
    refine rg ui4 rfl C hs 0 rfl 0 (by decide) tw_197 rfl rfl (dk hX4_deepest_0 3 rfl) ?_
    obtain ⟨u_1, e_2, hf⟩ := Option.bind_eq_some_iff.mp hf
    refine Ct.V (As := []) (rest := []) (st1 := [.int u_1]) (w1 := (wT G ad adt adb ade adm adn adk adp adr refusals tcells lcells m_there m_used m_hidden m_kind m_figure m_cargo m_load n_there n_used n_hidden n_kind n_figure n_cargo n_load k_there k_used k_hidden k_kind k_figure k_cargo k_load isKept tlen llen m_ships m_inn m_coughs m_day n_ships n_inn n_coughs n_day k_ships k_inn k_coughs k_day held perm hist)) C hs (c_X0_deepestShip__now e_2) tw_608 tw_609 tw_610 tw_80 tw_611 nq_X0_deepestShip (by decide) 15 0 rfl rfl rfl rfl hl.1 rfl (Nat.le_of_ble_eq_true rfl) (dk hX4_deepest_0 4 rfl) ⟨Nat.zero_le _, Nat.zero_le _⟩ rfl (fun H locs hs => ?_)
    cases hf
    exact ri C hs (dk hX4_deepest_0 5 rfl)
  · replace hf := in_ hf hc_3
    by_cases hc_6 : p0 = (1 : Int32)
    · replace hf := ip hf hc_6
      refine rts (tgt := 44) (off := 43) hx hb (dk hX4_deepest_0 1 rfl) hc_6 (by decide) (by decide) (by decide) (by decide) ?_
      refine lv_aload_n hx hb (dk hX4_deepest_0 6 rfl) rfl (lv_at hl 0 rfl) ?_
      refine rg ui4 rfl C hs 0 rfl 0 (by decide) tw_197 rfl rfl (dk hX4_deepest_0 7 rfl) ?_
      obtain ⟨u_4, e_5, hf⟩ := Option.bind_eq_some_iff.mp hf
      refine Ct.V (As := []) (rest := []) (st1 := [.int u_4]) (w1 := (wT G ad adt adb ade adm adn adk adp adr refusals tcells lcells m_there m_used m_hidden m_kind m_figure m_cargo m_load n_there n_used n_hidden n_kind n_figure n_cargo n_load k_there k_used k_hidden k_kind k_figure k_cargo k_load isKept tlen llen m_ships m_inn m_coughs m_day n_ships n_inn n_coughs n_day k_ships k_inn k_coughs k_day held perm hist)) C hs (c_X0_shortestGood__now e_5) tw_612 tw_613 tw_614 tw_80 tw_615 nq_X0_shortestGood (by decide) 15 0 rfl rfl rfl rfl hl.1 rfl (Nat.le_of_ble_eq_true rfl) (dk hX4_deepest_0 8 rfl) ⟨Nat.zero_le _, Nat.zero_le _⟩ rfl (fun H locs hs => ?_)
      cases hf
      exact ri C hs (dk hX4_deepest_0 9 rfl)
    · replace hf := in_ hf hc_6
      by_cases hc_11 : p0 = (2 : Int32)
      · replace hf := ip hf hc_11
        refine rts (tgt := 52) (off := 51) hx hb (dk hX4_deepest_0 1 rfl) hc_11 (by decide) (by decide) (by decide) (by decide) ?_
        refine lv_aload_n hx hb (dk hX4_deepest_0 10 rfl) rfl (lv_at hl 0 rfl) ?_
        refine rg ui4 rfl C hs 0 rfl 0 (by decide) tw_197 rfl rfl (dk hX4_deepest_0 11 rfl) ?_
        refine lv_aload_n hx hb (dk hX4_deepest_0 12 rfl) rfl (lv_at hl 0 rfl) ?_
        refine rg ui4 rfl C hs 0 rfl 0 (by decide) tw_197 rfl rfl (dk hX4_deepest_0 13 rfl) ?_
        obtain ⟨u_7, e_8, hf⟩ := Option.bind_eq_some_iff.mp hf
        refine Ct.V (As := []) (rest := [.ref (adn 0)]) (st1 := [.int u_7, .ref (adn 0)]) (w1 := (wT G ad adt adb ade adm adn adk adp adr refusals tcells lcells m_there m_used m_hidden m_kind m_figure m_cargo m_load n_there n_used n_hidden n_kind n_figure n_cargo n_load k_there k_used k_hidden k_kind k_figure k_cargo k_load isKept tlen llen m_ships m_inn m_coughs m_day n_ships n_inn n_coughs n_day k_ships k_inn k_coughs k_day held perm hist)) C hs (c_X0_shortestGood__now e_8) tw_612 tw_613 tw_614 tw_80 tw_615 nq_X0_shortestGood (by decide) 15 0 rfl rfl rfl rfl hl.1 rfl (Nat.le_of_ble_eq_true rfl) (dk hX4_deepest_0 14 rfl) ⟨Nat.zero_le _, Nat.zero_le _⟩ rfl (fun H locs hs => ?_)
        obtain ⟨u_9, e_10, hf⟩ := Option.bind_eq_some_iff.mp hf
        refine Ct.V (As := [.int u_7]) (rest := []) (st1 := [.int u_9]) (w1 := (wT G ad adt adb ade adm adn adk adp adr refusals tcells lcells m_there m_used m_hidden m_kind m_figure m_cargo m_load n_there n_used n_hidden n_kind n_figure n_cargo n_load k_there k_used k_hidden k_kind k_figure k_cargo k_load isKept tlen llen m_ships m_inn m_coughs m_day n_ships n_inn n_coughs n_day k_ships k_inn k_coughs k_day held perm hist)) C hs (c_X0_lackOf__now e_10) tw_388 tw_351 tw_352 tw_80 tw_353 nq_X0_lackOf (by decide) 15 0 rfl rfl rfl rfl hl.1 rfl (Nat.le_of_ble_eq_true rfl) (dk hX4_deepest_0 15 rfl) ⟨Nat.zero_le _, Nat.zero_le _⟩ rfl (fun H locs hs => ?_)
        cases hf
        exact ri C hs (dk hX4_deepest_0 16 rfl)
      · replace hf := in_ hf hc_11
        by_cases hc_14 : p0 = (3 : Int32)
        · replace hf := ip hf hc_14
          refine rts (tgt := 67) (off := 66) hx hb (dk hX4_deepest_0 1 rfl) hc_14 (by decide) (by decide) (by decide) (by decide) ?_
          refine lv_aload_n hx hb (dk hX4_deepest_0 17 rfl) rfl (lv_at hl 0 rfl) ?_
          refine rg ui4 rfl C hs 0 rfl 0 (by decide) tw_197 rfl rfl (dk hX4_deepest_0 18 rfl) ?_
          obtain ⟨u_12, e_13, hf⟩ := Option.bind_eq_some_iff.mp hf
          refine Ct.V (As := []) (rest := []) (st1 := [.int u_12]) (w1 := (wT G ad adt adb ade adm adn adk adp adr refusals tcells lcells m_there m_used m_hidden m_kind m_figure m_cargo m_load n_there n_used n_hidden n_kind n_figure n_cargo n_load k_there k_used k_hidden k_kind k_figure k_cargo k_load isKept tlen llen m_ships m_inn m_coughs m_day n_ships n_inn n_coughs n_day k_ships k_inn k_coughs k_day held perm hist)) C hs (c_X0_plenty__now e_13) tw_616 tw_617 tw_618 tw_80 tw_619 nq_X0_plenty (by decide) 15 0 rfl rfl rfl rfl hl.1 rfl (Nat.le_of_ble_eq_true rfl) (dk hX4_deepest_0 19 rfl) ⟨Nat.zero_le _, Nat.zero_le _⟩ rfl (fun H locs hs => ?_)
          cases hf
          exact ri C hs (dk hX4_deepest_0 20 rfl)
        · replace hf := in_ hf hc_14
          by_cases hc_17 : p0 = (4 : Int32)
          · replace hf := ip hf hc_17
            refine rts (tgt := 75) (off := 74) hx hb (dk hX4_deepest_0 1 rfl) hc_17 (by decide) (by decide) (by decide) (by decide) ?_
            refine lv_aload_n hx hb (dk hX4_deepest_0 21 rfl) rfl (lv_at hl 0 rfl) ?_
            refine rg ui4 rfl C hs 0 rfl 0 (by decide) tw_197 rfl rfl (dk hX4_deepest_0 22 rfl) ?_
            obtain ⟨u_15, e_16, hf⟩ := Option.bind_eq_some_iff.mp hf
            refine Ct.V (As := []) (rest := []) (st1 := [.int u_15]) (w1 := (wT G ad adt adb ade adm adn adk adp adr refusals tcells lcells m_there m_used m_hidden m_kind m_figure m_cargo m_load n_there n_used n_hidden n_kind n_figure n_cargo n_load k_there k_used k_hidden k_kind k_figure k_cargo k_load isKept tlen llen m_ships m_inn m_coughs m_day n_ships n_inn n_coughs n_day k_ships k_inn k_coughs k_day held perm hist)) C hs (c_X0_twins__now e_16) tw_620 tw_621 tw_622 tw_80 tw_623 nq_X0_twins (by decide) 15 0 rfl rfl rfl rfl hl.1 rfl (Nat.le_of_ble_eq_true rfl) (dk hX4_deepest_0 23 rfl) ⟨Nat.zero_le _, Nat.zero_le _⟩ rfl (fun H locs hs => ?_)
            cases hf
            exact ri C hs (dk hX4_deepest_0 24 rfl)
          · replace hf := in_ hf hc_17
            refine rtd (tgt := 83) hx hb (dk hX4_deepest_0 1 rfl) [0, 1, 2, 3, 4] (by decide) (by decide) (List.forall_mem_cons.mpr ⟨ti hc_3 (by decide), List.forall_mem_cons.mpr ⟨ti hc_6 (by decide), List.forall_mem_cons.mpr ⟨ti hc_11 (by decide), List.forall_mem_cons.mpr ⟨ti hc_14 (by decide), List.forall_mem_cons.mpr ⟨ti hc_17 (by decide), fun _ h => absurd h List.not_mem_nil⟩⟩⟩⟩⟩) (by decide) ?_
            refine lv_aload_n hx hb (dk hX4_deepest_0 25 rfl) rfl (lv_at hl 0 rfl) ?_
            refine lv_bipush (v := (-2 : Int32)) hx hb (dk hX4_deepest_0 26 rfl) (by decide) ?_
            obtain ⟨u_18, e_19, hf⟩ := Option.bind_eq_some_iff.mp hf
            refine Ct.V (As := [.int (-2 : Int32)]) (rest := []) (st1 := [.int u_18.2]) (w1 := (wT G ad adt adb ade adm adn adk adp adr u_18.1 tcells lcells m_there m_used m_hidden m_kind m_figure m_cargo m_load n_there n_used n_hidden n_kind n_figure n_cargo n_load k_there k_used k_hidden k_kind k_figure k_cargo k_load isKept tlen llen m_ships m_inn m_coughs m_day n_ships n_inn n_coughs n_day k_ships k_inn k_coughs k_day held perm hist)) C hs (c_X4_refuse e_19) tw_226 tw_228 tw_0 tw_79 tw_229 nq_X4_refuse (by decide) 0 4 rfl rfl rfl rfl hl.1 rfl (Nat.le_of_ble_eq_true rfl) (dk hX4_deepest_0 27 rfl) ⟨Nat.zero_le _, Nat.zero_le _⟩ rfl (fun H locs hs => ?_)
            cases hf
            exact ri C hs (dk hX4_deepest_0 28 rfl)

def X4_mean_L20 (k : Int32 → Option (List Int32 × Int64)) (n_load : List Int32) (n_ships : Int32) : Nat → Int32 → Int32 → Option (List Int32 × Int64)
  | 0, _, _ => none
  | n + 1, x2, x3 =>
  if n_ships ≤ x3 then
  k x2
  else
  (rd n_load x3).bind fun v_3 =>
  X4_mean_L20 k n_load n_ships n (x2 + v_3) (x3 + (1 : Int32))
def X4_mean (refusals : List Int32) (n_load : List Int32) (n_ships : Int32) (p0 : Int32) : Option (List Int32 × Int64) :=
  if p0 < (0 : Int32) then
  (X4_refuseLong refusals (-2 : Int32)).bind fun u_1 =>
  some (u_1.1, u_1.2)
  else
  if p0 ≤ (1 : Int32) then
  X4_mean_L20 (fun y2_5 =>
  (X4_partOfFraction (Int32.toInt64 y2_5) (Int32.toInt64 (mmax (1 : Int32) n_ships)) p0).bind fun u_6 =>
  some (refusals, u_6)) n_load n_ships 1000 (0 : Int32) (0 : Int32)
  else
  (X4_refuseLong refusals (-2 : Int32)).bind fun u_8 =>
  some (u_8.1, u_8.2)
set_option maxRecDepth 100000 in
set_option maxHeartbeats 4000000 in
theorem l_X4_mean_L20 {l : Launch} {p : Program} {e : Env} {s : State} {m : MethodId} {args : Array Value} {below : List Frame} {meth : Method} {c : Code} {A : Nat → Prop} {G : Gx} {ad adt adb ade adm adn adk adp : Nat → Nat} {adr : Nat → Nat → Nat} {refusals tcells lcells m_there m_used m_hidden m_kind m_figure m_cargo m_load n_there n_used n_hidden n_kind n_figure n_cargo n_load k_there k_used k_hidden k_kind k_figure k_cargo k_load : List Int32} {isKept tlen llen m_ships m_inn m_coughs m_day n_ships n_inn n_coughs n_day k_ships k_inn k_coughs k_day held : Int32} {perm : Nat → Nat} {hist : Nat → Hs} {x1 : Int32} {k : Int32 → Option (List Int32 × Int64)} {out : List Int32 × Int64} (C : Cx p s m args meth c cX4_mean RX4 4 (some .long) G) : ∀ (n : Nat) (x2 : Int32) (x3 : Int32), X4_mean_L20 k n_load n_ships n x2 x3 = some out → ∀ (H : Heap) (locs : List Loc), St G A s.heap H locs (wT G ad adt adb ade adm adn adk adp adr refusals tcells lcells m_there m_used m_hidden m_kind m_figure m_cargo m_load n_there n_used n_hidden n_kind n_figure n_cargo n_load k_there k_used k_hidden k_kind k_figure k_cargo k_load isKept tlen llen m_ships m_inn m_coughs m_day n_ships n_inn n_coughs n_day k_ships k_inn k_coughs k_day held perm hist) → ∀ ls : Array Slot, lv_has ls 4 [(0, .ref (ad 0)), (1, .int x1), (2, .int x2), (3, .int x3)] → (∀ (y2 : Int32), k y2 = some out → ∀ (H : Heap) (locs : List Loc), St G A s.heap H locs (wT G ad adt adb ade adm adn adk adp adr refusals tcells lcells m_there m_used m_hidden m_kind m_figure m_cargo m_load n_there n_used n_hidden n_kind n_figure n_cargo n_load k_there k_used k_hidden k_kind k_figure k_cargo k_load isKept tlen llen m_ships m_inn m_coughs m_day n_ships n_inn n_coughs n_day k_ships k_inn k_coughs k_day held perm hist) → ∀ ls : Array Slot, lv_has ls 4 [(0, .ref (ad 0)), (1, .int x1), (2, .int y2)] → W p l e (rmOf 2 43) s m args below meth c H locs 0 0 (MQ below (Qof G A (some (.long out.2)) (wT G ad adt adb ade adm adn adk adp adr out.1 tcells lcells m_there m_used m_hidden m_kind m_figure m_cargo m_load n_there n_used n_hidden n_kind n_figure n_cargo n_load k_there k_used k_hidden k_kind k_figure k_cargo k_load isKept tlen llen m_ships m_inn m_coughs m_day n_ships n_inn n_coughs n_day k_ships k_inn k_coughs k_day held perm hist)) args s 0 0 A) (F0 m 49 ls [])) → W p l e (rmOf 2 43) s m args below meth c H locs 0 0 (MQ below (Qof G A (some (.long out.2)) (wT G ad adt adb ade adm adn adk adp adr out.1 tcells lcells m_there m_used m_hidden m_kind m_figure m_cargo m_load n_there n_used n_hidden n_kind n_figure n_cargo n_load k_there k_used k_hidden k_kind k_figure k_cargo k_load isKept tlen llen m_ships m_inn m_coughs m_day n_ships n_inn n_coughs n_day k_ships k_inn k_coughs k_day held perm hist)) args s 0 0 A) (F0 m 20 ls []) := by
  obtain ⟨hx, hb, hml, hown, hts, hK, hret, hlk⟩ := id C
  intro n
  induction n with
  | zero => intro x2 x3 hf; cases hf
  | succ n ih =>
    intro x2 x3 hf H locs hs ls hl hk
    rw [X4_mean_L20] at hf
    refine lv_iload_n hx hb (dk hX4_mean_0 13 rfl) rfl (lv_at hl 3 rfl) ?_
    refine lv_aload_n hx hb (dk hX4_mean_0 14 rfl) rfl (lv_at hl 0 rfl) ?_
    refine rg ui4 rfl C hs 0 rfl 0 (by decide) tw_197 rfl rfl (dk hX4_mean_0 15 rfl) ?_
    refine rg ui0 rfl C hs 15 rfl 7 (by decide) tw_118 rfl rfl (dk hX4_mean_0 16 rfl) ?_
    refine lv_icmp_ge (tgt := 49) hx hb (dk hX4_mean_0 17 rfl) (by decide) (fun hc => ?_) (fun hc => ?_)
    · replace hf := ip hf hc
      exact hk _ hf _ _ hs _ (lv_sub hl [0, 1, 2] rfl)
    · replace hf := in_ hf hc
      refine lv_iload_n hx hb (dk hX4_mean_0 18 rfl) rfl (lv_at hl 2 rfl) ?_
      refine lv_aload_n hx hb (dk hX4_mean_0 19 rfl) rfl (lv_at hl 0 rfl) ?_
      refine rg ui4 rfl C hs 0 rfl 0 (by decide) tw_197 rfl rfl (dk hX4_mean_0 20 rfl) ?_
      refine rg ui0 rfl C hs 15 rfl 6 (by decide) tw_116 rfl rfl (dk hX4_mean_0 21 rfl) ?_
      refine lv_iload_n hx hb (dk hX4_mean_0 22 rfl) rfl (lv_at hl 3 rfl) ?_
      obtain ⟨v_3, e_4, hf⟩ := Option.bind_eq_some_iff.mp hf
      refine rild C hs 22 rfl e_4 (dk hX4_mean_0 23 rfl) ?_
      refine lv_iadd hx hb (dk hX4_mean_0 24 rfl) ?_
      refine lv_istore_n (lv' := [(2, .int (x2 + v_3)), (0, .ref (ad 0)), (1, .int x1), (3, .int x3)]) hx hb (dk hX4_mean_0 25 rfl) rfl hl (by decide) rfl (fun ls hl => ?_)
      refine lv_iinc (v := (x3 + (1 : Int32))) (lv' := [(3, .int (x3 + (1 : Int32))), (2, .int (x2 + v_3)), (0, .ref (ad 0)), (1, .int x1)]) hx hb (dk hX4_mean_0 26 rfl) hl (k := 3) rfl (by first | rfl | decide) (by decide) rfl (fun ls hl => ?_)
      refine lv_goto (tgt := 20) hx hb (dk hX4_mean_0 27 rfl) (by decide) ?_
      exact ih _ _ hf _ _ hs _ (lv_sub hl [2, 3, 1, 0] rfl) hk
set_option maxRecDepth 100000 in
set_option maxHeartbeats 4000000 in
theorem c_X4_mean {l : Launch} {G : Gx} {ad adt adb ade adm adn adk adp : Nat → Nat} {adr : Nat → Nat → Nat} {refusals tcells lcells m_there m_used m_hidden m_kind m_figure m_cargo m_load n_there n_used n_hidden n_kind n_figure n_cargo n_load k_there k_used k_hidden k_kind k_figure k_cargo k_load : List Int32} {isKept tlen llen m_ships m_inn m_coughs m_day n_ships n_inn n_coughs n_day k_ships k_inn k_coughs k_day held : Int32} {perm : Nat → Nat} {hist : Nat → Hs} {p0 : Int32} {out : List Int32 × Int64} (hf : X4_mean refusals n_load n_ships p0 = some out) : Ct l G yX4_mean cX4_mean 4 (some .long) 2 43 [.ref (ad 0), .int p0] (wT G ad adt adb ade adm adn adk adp adr refusals tcells lcells m_there m_used m_hidden m_kind m_figure m_cargo m_load n_there n_used n_hidden n_kind n_figure n_cargo n_load k_there k_used k_hidden k_kind k_figure k_cargo k_load isKept tlen llen m_ships m_inn m_coughs m_day n_ships n_inn n_coughs n_day k_ships k_inn k_coughs k_day held perm hist) (some (.long out.2)) (wT G ad adt adb ade adm adn adk adp adr out.1 tcells lcells m_there m_used m_hidden m_kind m_figure m_cargo m_load n_there n_used n_hidden n_kind n_figure n_cargo n_load k_there k_used k_hidden k_kind k_figure k_cargo k_load isKept tlen llen m_ships m_inn m_coughs m_day n_ships n_inn n_coughs n_day k_ships k_inn k_coughs k_day held perm hist) := by
  refine Ct.intro RX4 rfl (plainFor_of_name (by decide)) (Nat.le_of_ble_eq_true rfl) rfl ?_
  intro p e s m args below meth c A C H locs hs ls hl
  obtain ⟨hx, hb, hml, hown, hts, hK, hret, hlk⟩ := id C
  have hl : lv_has ls 4 [(0, .ref (ad 0)), (1, .int p0)] := hl
  unfold X4_mean at hf
  refine lv_iload_n hx hb (dk hX4_mean_0 0 rfl) rfl (lv_at hl 1 rfl) ?_
  refine lv_if_lt (tgt := 9) hx hb (dk hX4_mean_0 1 rfl) (by decide) (fun hc => ?_) (fun hc => ?_)
  · replace hf := ip hf hc
    refine lv_aload_n hx hb (dk hX4_mean_0 5 rfl) rfl (lv_at hl 0 rfl) ?_
    refine lv_bipush (v := (-2 : Int32)) hx hb (dk hX4_mean_0 6 rfl) (by decide) ?_
    obtain ⟨u_1, e_2, hf⟩ := Option.bind_eq_some_iff.mp hf
    refine Ct.V (As := [.int (-2 : Int32)]) (rest := []) (st1 := [.long u_1.2]) (w1 := (wT G ad adt adb ade adm adn adk adp adr u_1.1 tcells lcells m_there m_used m_hidden m_kind m_figure m_cargo m_load n_there n_used n_hidden n_kind n_figure n_cargo n_load k_there k_used k_hidden k_kind k_figure k_cargo k_load isKept tlen llen m_ships m_inn m_coughs m_day n_ships n_inn n_coughs n_day k_ships k_inn k_coughs k_day held perm hist)) C hs (c_X4_refuseLong e_2) tw_582 tw_584 tw_19 tw_79 tw_585 nq_X4_refuseLong (by decide) 0 4 rfl rfl rfl rfl hl.1 rfl (Nat.le_of_ble_eq_true rfl) (dk hX4_mean_0 7 rfl) ⟨Nat.zero_le _, Nat.zero_le _⟩ rfl (fun H locs hs => ?_)
    cases hf
    exact rl C hs (dk hX4_mean_0 8 rfl)
  · replace hf := in_ hf hc
    refine lv_iload_n hx hb (dk hX4_mean_0 2 rfl) rfl (lv_at hl 1 rfl) ?_
    refine lv_iconst (v := (1 : Int32)) hx hb (dk hX4_mean_0 3 rfl) (by decide) ?_
    refine lv_icmp_le (tgt := 16) hx hb (dk hX4_mean_0 4 rfl) (by decide) (fun hc => ?_) (fun hc => ?_)
    · replace hf := ip hf hc
      refine lv_iconst (v := (0 : Int32)) hx hb (dk hX4_mean_0 9 rfl) (by decide) ?_
      refine lv_istore_n (lv' := [(2, .int (0 : Int32)), (0, .ref (ad 0)), (1, .int p0)]) hx hb (dk hX4_mean_0 10 rfl) rfl hl (by decide) rfl (fun ls hl => ?_)
      refine lv_iconst (v := (0 : Int32)) hx hb (dk hX4_mean_0 11 rfl) (by decide) ?_
      refine lv_istore_n (lv' := [(3, .int (0 : Int32)), (2, .int (0 : Int32)), (0, .ref (ad 0)), (1, .int p0)]) hx hb (dk hX4_mean_0 12 rfl) rfl hl (by decide) rfl (fun ls hl => ?_)
      refine l_X4_mean_L20 C 1000 _ _ hf _ _ hs _ (lv_sub hl [2, 3, 1, 0] rfl) (fun y2_5 hf H locs hs ls hl => ?_)
      refine lv_iload_n hx hb (dk hX4_mean_0 28 rfl) rfl (lv_at hl 2 rfl) ?_
      refine lv_i2l (v := (Int32.toInt64 y2_5)) hx hb (dk hX4_mean_0 29 rfl) rfl ?_
      refine lv_iconst (v := (1 : Int32)) hx hb (dk hX4_mean_0 30 rfl) (by decide) ?_
      refine lv_aload_n hx hb (dk hX4_mean_0 31 rfl) rfl (lv_at hl 0 rfl) ?_
      refine rg ui4 rfl C hs 0 rfl 0 (by decide) tw_197 rfl rfl (dk hX4_mean_0 32 rfl) ?_
      refine rg ui0 rfl C hs 15 rfl 7 (by decide) tw_118 rfl rfl (dk hX4_mean_0 33 rfl) ?_
      refine va_mmax hx hb (hml.trans hl.1.symm) hown (hts _ tw_628) (hts _ tw_181) (hts _ tw_84) (hts _ tw_182) (by decide) (Nat.le_of_ble_eq_true rfl) (Nat.zero_le _) (Nat.zero_le _) (dk hX4_mean_0 34 rfl) ?_
      refine lv_i2l (v := (Int32.toInt64 (mmax (1 : Int32) n_ships))) hx hb (dk hX4_mean_0 35 rfl) rfl ?_
      refine lv_iload_n hx hb (dk hX4_mean_0 36 rfl) rfl (lv_at hl 1 rfl) ?_
      obtain ⟨u_6, e_7, hf⟩ := Option.bind_eq_some_iff.mp hf
      refine Ct.S (As := [.long (Int32.toInt64 y2_5), .long (Int32.toInt64 (mmax (1 : Int32) n_ships)), .int p0]) (rest := []) (st1 := [.long u_6]) (w1 := (wT G ad adt adb ade adm adn adk adp adr refusals tcells lcells m_there m_used m_hidden m_kind m_figure m_cargo m_load n_there n_used n_hidden n_kind n_figure n_cargo n_load k_there k_used k_hidden k_kind k_figure k_cargo k_load isKept tlen llen m_ships m_inn m_coughs m_day n_ships n_inn n_coughs n_day k_ships k_inn k_coughs k_day held perm hist)) C hs (c_X4_partOfFraction e_7) tw_594 tw_595 tw_79 tw_596 nq_X4_partOfFraction (by decide) rfl hl.1 rfl (Nat.le_of_ble_eq_true rfl) (dk hX4_mean_0 37 rfl) ⟨Nat.zero_le _, Nat.zero_le _⟩ rfl (fun H locs hs => ?_)
      cases hf
      exact rl C hs (dk hX4_mean_0 38 rfl)
    · replace hf := in_ hf hc
      refine lv_aload_n hx hb (dk hX4_mean_0 5 rfl) rfl (lv_at hl 0 rfl) ?_
      refine lv_bipush (v := (-2 : Int32)) hx hb (dk hX4_mean_0 6 rfl) (by decide) ?_
      obtain ⟨u_8, e_9, hf⟩ := Option.bind_eq_some_iff.mp hf
      refine Ct.V (As := [.int (-2 : Int32)]) (rest := []) (st1 := [.long u_8.2]) (w1 := (wT G ad adt adb ade adm adn adk adp adr u_8.1 tcells lcells m_there m_used m_hidden m_kind m_figure m_cargo m_load n_there n_used n_hidden n_kind n_figure n_cargo n_load k_there k_used k_hidden k_kind k_figure k_cargo k_load isKept tlen llen m_ships m_inn m_coughs m_day n_ships n_inn n_coughs n_day k_ships k_inn k_coughs k_day held perm hist)) C hs (c_X4_refuseLong e_9) tw_582 tw_584 tw_19 tw_79 tw_585 nq_X4_refuseLong (by decide) 0 4 rfl rfl rfl rfl hl.1 rfl (Nat.le_of_ble_eq_true rfl) (dk hX4_mean_0 7 rfl) ⟨Nat.zero_le _, Nat.zero_le _⟩ rfl (fun H locs hs => ?_)
      cases hf
      exact rl C hs (dk hX4_mean_0 8 rfl)

def X4_hidden_L4 (k : Int32 → Option (Int32)) (n_hidden : List Int32) : Nat → Int32 → Int32 → Option (Int32)
  | 0, _, _ => none
  | n + 1, x1, x2 =>
  if (6 : Int32) ≤ x2 then
  k x1
  else
  (rd n_hidden x2).bind fun v_1 =>
  X4_hidden_L4 k n_hidden n (x1 + v_1) (x2 + (1 : Int32))
def X4_hidden (n_hidden : List Int32) : Option (Int32) :=
  X4_hidden_L4 (fun y1_3 =>
  some y1_3) n_hidden 1000 (0 : Int32) (0 : Int32)
set_option maxRecDepth 100000 in
set_option maxHeartbeats 4000000 in
theorem l_X4_hidden_L4 {l : Launch} {p : Program} {e : Env} {s : State} {m : MethodId} {args : Array Value} {below : List Frame} {meth : Method} {c : Code} {A : Nat → Prop} {G : Gx} {ad adt adb ade adm adn adk adp : Nat → Nat} {adr : Nat → Nat → Nat} {refusals tcells lcells m_there m_used m_hidden m_kind m_figure m_cargo m_load n_there n_used n_hidden n_kind n_figure n_cargo n_load k_there k_used k_hidden k_kind k_figure k_cargo k_load : List Int32} {isKept tlen llen m_ships m_inn m_coughs m_day n_ships n_inn n_coughs n_day k_ships k_inn k_coughs k_day held : Int32} {perm : Nat → Nat} {hist : Nat → Hs} {k : Int32 → Option (Int32)} {out : Int32} (C : Cx p s m args meth c cX4_hidden RX4 3 (some .int) G) : ∀ (n : Nat) (x1 : Int32) (x2 : Int32), X4_hidden_L4 k n_hidden n x1 x2 = some out → ∀ (H : Heap) (locs : List Loc), St G A s.heap H locs (wT G ad adt adb ade adm adn adk adp adr refusals tcells lcells m_there m_used m_hidden m_kind m_figure m_cargo m_load n_there n_used n_hidden n_kind n_figure n_cargo n_load k_there k_used k_hidden k_kind k_figure k_cargo k_load isKept tlen llen m_ships m_inn m_coughs m_day n_ships n_inn n_coughs n_day k_ships k_inn k_coughs k_day held perm hist) → ∀ ls : Array Slot, lv_has ls 3 [(0, .ref (ad 0)), (1, .int x1), (2, .int x2)] → (∀ (y1 : Int32), k y1 = some out → ∀ (H : Heap) (locs : List Loc), St G A s.heap H locs (wT G ad adt adb ade adm adn adk adp adr refusals tcells lcells m_there m_used m_hidden m_kind m_figure m_cargo m_load n_there n_used n_hidden n_kind n_figure n_cargo n_load k_there k_used k_hidden k_kind k_figure k_cargo k_load isKept tlen llen m_ships m_inn m_coughs m_day n_ships n_inn n_coughs n_day k_ships k_inn k_coughs k_day held perm hist) → ∀ ls : Array Slot, lv_has ls 3 [(1, .int y1)] → W p l e (rmOf 0 0) s m args below meth c H locs 0 0 (MQ below (Qof G A (some (.int out)) (wT G ad adt adb ade adm adn adk adp adr refusals tcells lcells m_there m_used m_hidden m_kind m_figure m_cargo m_load n_there n_used n_hidden n_kind n_figure n_cargo n_load k_there k_used k_hidden k_kind k_figure k_cargo k_load isKept tlen llen m_ships m_inn m_coughs m_day n_ships n_inn n_coughs n_day k_ships k_inn k_coughs k_day held perm hist)) args s 0 0 A) (F0 m 28 ls [])) → W p l e (rmOf 0 0) s m args below meth c H locs 0 0 (MQ below (Qof G A (some (.int out)) (wT G ad adt adb ade adm adn adk adp adr refusals tcells lcells m_there m_used m_hidden m_kind m_figure m_cargo m_load n_there n_used n_hidden n_kind n_figure n_cargo n_load k_there k_used k_hidden k_kind k_figure k_cargo k_load isKept tlen llen m_ships m_inn m_coughs m_day n_ships n_inn n_coughs n_day k_ships k_inn k_coughs k_day held perm hist)) args s 0 0 A) (F0 m 4 ls []) := by
  obtain ⟨hx, hb, hml, hown, hts, hK, hret, hlk⟩ := id C
  intro n
  induction n with
  | zero => intro x1 x2 hf; cases hf
  | succ n ih =>
    intro x1 x2 hf H locs hs ls hl hk
    rw [X4_hidden_L4] at hf
    refine lv_iload_n hx hb (dk hX4_hidden_0 4 rfl) rfl (lv_at hl 2 rfl) ?_
    refine lv_bipush (v := (6 : Int32)) hx hb (dk hX4_hidden_0 5 rfl) (by decide) ?_
    refine lv_icmp_ge (tgt := 28) hx hb (dk hX4_hidden_0 6 rfl) (by decide) (fun hc => ?_) (fun hc => ?_)
    · replace hf := ip hf hc
      exact hk _ hf _ _ hs _ (lv_sub hl [1] rfl)
    · replace hf := in_ hf hc
      refine lv_iload_n hx hb (dk hX4_hidden_0 7 rfl) rfl (lv_at hl 1 rfl) ?_
      refine lv_aload_n hx hb (dk hX4_hidden_0 8 rfl) rfl (lv_at hl 0 rfl) ?_
      refine rg ui4 rfl C hs 0 rfl 0 (by decide) tw_197 rfl rfl (dk hX4_hidden_0 9 rfl) ?_
      refine rg ui0 rfl C hs 15 rfl 2 (by decide) tw_108 rfl rfl (dk hX4_hidden_0 10 rfl) ?_
      refine lv_iload_n hx hb (dk hX4_hidden_0 11 rfl) rfl (lv_at hl 2 rfl) ?_
      obtain ⟨v_1, e_2, hf⟩ := Option.bind_eq_some_iff.mp hf
      refine rild C hs 18 rfl e_2 (dk hX4_hidden_0 12 rfl) ?_
      refine lv_iadd hx hb (dk hX4_hidden_0 13 rfl) ?_
      refine lv_istore_n (lv' := [(1, .int (x1 + v_1)), (0, .ref (ad 0)), (2, .int x2)]) hx hb (dk hX4_hidden_0 14 rfl) rfl hl (by decide) rfl (fun ls hl => ?_)
      refine lv_iinc (v := (x2 + (1 : Int32))) (lv' := [(2, .int (x2 + (1 : Int32))), (1, .int (x1 + v_1)), (0, .ref (ad 0))]) hx hb (dk hX4_hidden_0 15 rfl) hl (k := 2) rfl (by first | rfl | decide) (by decide) rfl (fun ls hl => ?_)
      refine lv_goto (tgt := 4) hx hb (dk hX4_hidden_0 16 rfl) (by decide) ?_
      exact ih _ _ hf _ _ hs _ (lv_sub hl [2, 1, 0] rfl) hk
set_option maxRecDepth 100000 in
set_option maxHeartbeats 4000000 in
theorem c_X4_hidden {l : Launch} {G : Gx} {ad adt adb ade adm adn adk adp : Nat → Nat} {adr : Nat → Nat → Nat} {refusals tcells lcells m_there m_used m_hidden m_kind m_figure m_cargo m_load n_there n_used n_hidden n_kind n_figure n_cargo n_load k_there k_used k_hidden k_kind k_figure k_cargo k_load : List Int32} {isKept tlen llen m_ships m_inn m_coughs m_day n_ships n_inn n_coughs n_day k_ships k_inn k_coughs k_day held : Int32} {perm : Nat → Nat} {hist : Nat → Hs}  {out : Int32} (hf : X4_hidden n_hidden = some out) : Ct l G yX4_hidden cX4_hidden 3 (some .int) 0 0 [.ref (ad 0)] (wT G ad adt adb ade adm adn adk adp adr refusals tcells lcells m_there m_used m_hidden m_kind m_figure m_cargo m_load n_there n_used n_hidden n_kind n_figure n_cargo n_load k_there k_used k_hidden k_kind k_figure k_cargo k_load isKept tlen llen m_ships m_inn m_coughs m_day n_ships n_inn n_coughs n_day k_ships k_inn k_coughs k_day held perm hist) (some (.int out)) (wT G ad adt adb ade adm adn adk adp adr refusals tcells lcells m_there m_used m_hidden m_kind m_figure m_cargo m_load n_there n_used n_hidden n_kind n_figure n_cargo n_load k_there k_used k_hidden k_kind k_figure k_cargo k_load isKept tlen llen m_ships m_inn m_coughs m_day n_ships n_inn n_coughs n_day k_ships k_inn k_coughs k_day held perm hist) := by
  refine Ct.intro RX4 rfl (plainFor_of_name (by decide)) (Nat.le_of_ble_eq_true rfl) rfl ?_
  intro p e s m args below meth c A C H locs hs ls hl
  obtain ⟨hx, hb, hml, hown, hts, hK, hret, hlk⟩ := id C
  have hl : lv_has ls 3 [(0, .ref (ad 0))] := hl
  unfold X4_hidden at hf
  refine lv_iconst (v := (0 : Int32)) hx hb (dk hX4_hidden_0 0 rfl) (by decide) ?_
  refine lv_istore_n (lv' := [(1, .int (0 : Int32)), (0, .ref (ad 0))]) hx hb (dk hX4_hidden_0 1 rfl) rfl hl (by decide) rfl (fun ls hl => ?_)
  refine lv_iconst (v := (0 : Int32)) hx hb (dk hX4_hidden_0 2 rfl) (by decide) ?_
  refine lv_istore_n (lv' := [(2, .int (0 : Int32)), (1, .int (0 : Int32)), (0, .ref (ad 0))]) hx hb (dk hX4_hidden_0 3 rfl) rfl hl (by decide) rfl (fun ls hl => ?_)
  refine l_X4_hidden_L4 C 1000 _ _ hf _ _ hs _ (lv_sub hl [2, 1, 0] rfl) (fun y1_3 hf H locs hs ls hl => ?_)
  refine lv_iload_n hx hb (dk hX4_hidden_0 17 rfl) rfl (lv_at hl 0 rfl) ?_
  cases hf
  exact ri C hs (dk hX4_hidden_0 18 rfl)

def X4_nextTide_L19 (k : Int32 → Option (List Int32 × Int32)) (n_day : Int32) (x1 : Int32) : Nat → Int32 → Option (List Int32 × Int32)
  | 0, _ => none
  | n + 1, x3 =>
  if (7 : Int32) ≤ x3 then
  k x3
  else
  (X4_tideOf (n_day + x3)).bind fun u_3 =>
  if x1 ≤ u_3 then
  k x3
  else
  X4_nextTide_L19 k n_day x1 n (x3 + (1 : Int32))
def X4_nextTide (refusals : List Int32) (n_day : Int32) (p0 : Int32) : Option (List Int32 × Int32) :=
  (X4_misfit p0 (0 : Int32) (4 : Int32)).bind fun u_1 =>
  if u_1 = (0 : Int32) then
  X4_nextTide_L19 (fun y3_5 =>
  some (refusals, y3_5)) n_day p0 1000 (0 : Int32)
  else
  (X4_refuse refusals u_1).bind fun u_6 =>
  some (u_6.1, u_6.2)
set_option maxRecDepth 100000 in
set_option maxHeartbeats 4000000 in
theorem l_X4_nextTide_L19 {l : Launch} {p : Program} {e : Env} {s : State} {m : MethodId} {args : Array Value} {below : List Frame} {meth : Method} {c : Code} {A : Nat → Prop} {G : Gx} {ad adt adb ade adm adn adk adp : Nat → Nat} {adr : Nat → Nat → Nat} {refusals tcells lcells m_there m_used m_hidden m_kind m_figure m_cargo m_load n_there n_used n_hidden n_kind n_figure n_cargo n_load k_there k_used k_hidden k_kind k_figure k_cargo k_load : List Int32} {isKept tlen llen m_ships m_inn m_coughs m_day n_ships n_inn n_coughs n_day k_ships k_inn k_coughs k_day held : Int32} {perm : Nat → Nat} {hist : Nat → Hs} {x1 : Int32} {k : Int32 → Option (List Int32 × Int32)} {out : List Int32 × Int32} (C : Cx p s m args meth c cX4_nextTide RX4 4 (some .int) G) : ∀ (n : Nat) (x3 : Int32), X4_nextTide_L19 k n_day x1 n x3 = some out → ∀ (H : Heap) (locs : List Loc), St G A s.heap H locs (wT G ad adt adb ade adm adn adk adp adr refusals tcells lcells m_there m_used m_hidden m_kind m_figure m_cargo m_load n_there n_used n_hidden n_kind n_figure n_cargo n_load k_there k_used k_hidden k_kind k_figure k_cargo k_load isKept tlen llen m_ships m_inn m_coughs m_day n_ships n_inn n_coughs n_day k_ships k_inn k_coughs k_day held perm hist) → ∀ ls : Array Slot, lv_has ls 4 [(0, .ref (ad 0)), (1, .int x1), (3, .int x3)] → (∀ (y3 : Int32), k y3 = some out → ∀ (H : Heap) (locs : List Loc), St G A s.heap H locs (wT G ad adt adb ade adm adn adk adp adr refusals tcells lcells m_there m_used m_hidden m_kind m_figure m_cargo m_load n_there n_used n_hidden n_kind n_figure n_cargo n_load k_there k_used k_hidden k_kind k_figure k_cargo k_load isKept tlen llen m_ships m_inn m_coughs m_day n_ships n_inn n_coughs n_day k_ships k_inn k_coughs k_day held perm hist) → ∀ ls : Array Slot, lv_has ls 4 [(3, .int y3)] → W p l e (rmOf 2 44) s m args below meth c H locs 0 0 (MQ below (Qof G A (some (.int out.2)) (wT G ad adt adb ade adm adn adk adp adr out.1 tcells lcells m_there m_used m_hidden m_kind m_figure m_cargo m_load n_there n_used n_hidden n_kind n_figure n_cargo n_load k_there k_used k_hidden k_kind k_figure k_cargo k_load isKept tlen llen m_ships m_inn m_coughs m_day n_ships n_inn n_coughs n_day k_ships k_inn k_coughs k_day held perm hist)) args s 0 0 A) (F0 m 47 ls [])) → W p l e (rmOf 2 44) s m args below meth c H locs 0 0 (MQ below (Qof G A (some (.int out.2)) (wT G ad adt adb ade adm adn adk adp adr out.1 tcells lcells m_there m_used m_hidden m_kind m_figure m_cargo m_load n_there n_used n_hidden n_kind n_figure n_cargo n_load k_there k_used k_hidden k_kind k_figure k_cargo k_load isKept tlen llen m_ships m_inn m_coughs m_day n_ships n_inn n_coughs n_day k_ships k_inn k_coughs k_day held perm hist)) args s 0 0 A) (F0 m 19 ls []) := by
  obtain ⟨hx, hb, hml, hown, hts, hK, hret, hlk⟩ := id C
  intro n
  induction n with
  | zero => intro x3 hf; cases hf
  | succ n ih =>
    intro x3 hf H locs hs ls hl hk
    rw [X4_nextTide_L19] at hf
    refine lv_iload_n hx hb (dk hX4_nextTide_0 13 rfl) rfl (lv_at hl 2 rfl) ?_
    refine lv_bipush (v := (7 : Int32)) hx hb (dk hX4_nextTide_0 14 rfl) (by decide) ?_
    refine lv_icmp_ge (tgt := 47) hx hb (dk hX4_nextTide_0 15 rfl) (by decide) (fun hc => ?_) (fun hc => ?_)
    · replace hf := ip hf hc
      exact hk _ hf _ _ hs _ (lv_sub hl [2] rfl)
    · replace hf := in_ hf hc
      refine lv_aload_n hx hb (dk hX4_nextTide_0 16 rfl) rfl (lv_at hl 0 rfl) ?_
      refine rg ui4 rfl C hs 0 rfl 0 (by decide) tw_197 rfl rfl (dk hX4_nextTide_0 17 rfl) ?_
      refine rg ui0 rfl C hs 15 rfl 10 (by decide) tw_126 rfl rfl (dk hX4_nextTide_0 18 rfl) ?_
      refine lv_iload_n hx hb (dk hX4_nextTide_0 19 rfl) rfl (lv_at hl 2 rfl) ?_
      refine lv_iadd hx hb (dk hX4_nextTide_0 20 rfl) ?_
      obtain ⟨u_3, e_4, hf⟩ := Option.bind_eq_some_iff.mp hf
      refine Ct.S (As := [.int (n_day + x3)]) (rest := []) (st1 := [.int u_3]) (w1 := (wT G ad adt adb ade adm adn adk adp adr refusals tcells lcells m_there m_used m_hidden m_kind m_figure m_cargo m_load n_there n_used n_hidden n_kind n_figure n_cargo n_load k_there k_used k_hidden k_kind k_figure k_cargo k_load isKept tlen llen m_ships m_inn m_coughs m_day n_ships n_inn n_coughs n_day k_ships k_inn k_coughs k_day held perm hist)) C hs (c_X4_tideOf e_4) tw_406 tw_333 tw_79 tw_334 nq_X4_tideOf (by decide) rfl hl.1 rfl (Nat.le_of_ble_eq_true rfl) (dk hX4_nextTide_0 21 rfl) ⟨Nat.zero_le _, Nat.zero_le _⟩ rfl (fun H locs hs => ?_)
      refine lv_iload_n hx hb (dk hX4_nextTide_0 22 rfl) rfl (lv_at hl 1 rfl) ?_
      refine lv_icmp_ge (tgt := 47) hx hb (dk hX4_nextTide_0 23 rfl) (by decide) (fun hc => ?_) (fun hc => ?_)
      · replace hf := ip hf hc
        exact hk _ hf _ _ hs _ (lv_sub hl [2] rfl)
      · replace hf := in_ hf hc
        refine lv_iinc (v := (x3 + (1 : Int32))) (lv' := [(3, .int (x3 + (1 : Int32))), (0, .ref (ad 0)), (1, .int x1)]) hx hb (dk hX4_nextTide_0 24 rfl) hl (k := 2) rfl (by first | rfl | decide) (by decide) rfl (fun ls hl => ?_)
        refine lv_goto (tgt := 19) hx hb (dk hX4_nextTide_0 25 rfl) (by decide) ?_
        exact ih _ hf _ _ hs _ (lv_sub hl [1, 2, 0] rfl) hk
set_option maxRecDepth 100000 in
set_option maxHeartbeats 4000000 in
theorem c_X4_nextTide {l : Launch} {G : Gx} {ad adt adb ade adm adn adk adp : Nat → Nat} {adr : Nat → Nat → Nat} {refusals tcells lcells m_there m_used m_hidden m_kind m_figure m_cargo m_load n_there n_used n_hidden n_kind n_figure n_cargo n_load k_there k_used k_hidden k_kind k_figure k_cargo k_load : List Int32} {isKept tlen llen m_ships m_inn m_coughs m_day n_ships n_inn n_coughs n_day k_ships k_inn k_coughs k_day held : Int32} {perm : Nat → Nat} {hist : Nat → Hs} {p0 : Int32} {out : List Int32 × Int32} (hf : X4_nextTide refusals n_day p0 = some out) : Ct l G yX4_nextTide cX4_nextTide 4 (some .int) 2 44 [.ref (ad 0), .int p0] (wT G ad adt adb ade adm adn adk adp adr refusals tcells lcells m_there m_used m_hidden m_kind m_figure m_cargo m_load n_there n_used n_hidden n_kind n_figure n_cargo n_load k_there k_used k_hidden k_kind k_figure k_cargo k_load isKept tlen llen m_ships m_inn m_coughs m_day n_ships n_inn n_coughs n_day k_ships k_inn k_coughs k_day held perm hist) (some (.int out.2)) (wT G ad adt adb ade adm adn adk adp adr out.1 tcells lcells m_there m_used m_hidden m_kind m_figure m_cargo m_load n_there n_used n_hidden n_kind n_figure n_cargo n_load k_there k_used k_hidden k_kind k_figure k_cargo k_load isKept tlen llen m_ships m_inn m_coughs m_day n_ships n_inn n_coughs n_day k_ships k_inn k_coughs k_day held perm hist) := by
  refine Ct.intro RX4 rfl (plainFor_of_name (by decide)) (Nat.le_of_ble_eq_true rfl) rfl ?_
  intro p e s m args below meth c A C H locs hs ls hl
  obtain ⟨hx, hb, hml, hown, hts, hK, hret, hlk⟩ := id C
  have hl : lv_has ls 4 [(0, .ref (ad 0)), (1, .int p0)] := hl
  unfold X4_nextTide at hf
  refine lv_iload_n hx hb (dk hX4_nextTide_0 0 rfl) rfl (lv_at hl 1 rfl) ?_
  refine lv_iconst (v := (0 : Int32)) hx hb (dk hX4_nextTide_0 1 rfl) (by decide) ?_
  refine lv_iconst (v := (4 : Int32)) hx hb (dk hX4_nextTide_0 2 rfl) (by decide) ?_
  obtain ⟨u_1, e_2, hf⟩ := Option.bind_eq_some_iff.mp hf
  refine Ct.S (As := [.int p0, .int (0 : Int32), .int (4 : Int32)]) (rest := []) (st1 := [.int u_1]) (w1 := (wT G ad adt adb ade adm adn adk adp adr refusals tcells lcells m_there m_used m_hidden m_kind m_figure m_cargo m_load n_there n_used n_hidden n_kind n_figure n_cargo n_load k_there k_used k_hidden k_kind k_figure k_cargo k_load isKept tlen llen m_ships m_inn m_coughs m_day n_ships n_inn n_coughs n_day k_ships k_inn k_coughs k_day held perm hist)) C hs (c_X4_misfit e_2) tw_405 tw_305 tw_79 tw_306 nq_X4_misfit (by decide) rfl hl.1 rfl (Nat.le_of_ble_eq_true rfl) (dk hX4_nextTide_0 3 rfl) ⟨Nat.zero_le _, Nat.zero_le _⟩ rfl (fun H locs hs => ?_)
  refine lv_istore_n (lv' := [(2, .int u_1), (0, .ref (ad 0)), (1, .int p0)]) hx hb (dk hX4_nextTide_0 4 rfl) rfl hl (by decide) rfl (fun ls hl => ?_)
  refine lv_iload_n hx hb (dk hX4_nextTide_0 5 rfl) rfl (lv_at hl 0 rfl) ?_
  refine lv_if_eq (tgt := 17) hx hb (dk hX4_nextTide_0 6 rfl) (by decide) (fun hc => ?_) (fun hc => ?_)
  · replace hf := ip hf hc
    refine lv_iconst (v := (0 : Int32)) hx hb (dk hX4_nextTide_0 11 rfl) (by decide) ?_
    refine lv_istore_n (lv' := [(3, .int (0 : Int32)), (2, .int u_1), (0, .ref (ad 0)), (1, .int p0)]) hx hb (dk hX4_nextTide_0 12 rfl) rfl hl (by decide) rfl (fun ls hl => ?_)
    refine l_X4_nextTide_L19 C 1000 _ hf _ _ hs _ (lv_sub hl [2, 3, 0] rfl) (fun y3_5 hf H locs hs ls hl => ?_)
    refine lv_iload_n hx hb (dk hX4_nextTide_0 26 rfl) rfl (lv_at hl 0 rfl) ?_
    cases hf
    exact ri C hs (dk hX4_nextTide_0 27 rfl)
  · replace hf := in_ hf hc
    refine lv_aload_n hx hb (dk hX4_nextTide_0 7 rfl) rfl (lv_at hl 1 rfl) ?_
    refine lv_iload_n hx hb (dk hX4_nextTide_0 8 rfl) rfl (lv_at hl 0 rfl) ?_
    obtain ⟨u_6, e_7, hf⟩ := Option.bind_eq_some_iff.mp hf
    refine Ct.V (As := [.int u_1]) (rest := []) (st1 := [.int u_6.2]) (w1 := (wT G ad adt adb ade adm adn adk adp adr u_6.1 tcells lcells m_there m_used m_hidden m_kind m_figure m_cargo m_load n_there n_used n_hidden n_kind n_figure n_cargo n_load k_there k_used k_hidden k_kind k_figure k_cargo k_load isKept tlen llen m_ships m_inn m_coughs m_day n_ships n_inn n_coughs n_day k_ships k_inn k_coughs k_day held perm hist)) C hs (c_X4_refuse e_7) tw_226 tw_228 tw_0 tw_79 tw_229 nq_X4_refuse (by decide) 0 4 rfl rfl rfl rfl hl.1 rfl (Nat.le_of_ble_eq_true rfl) (dk hX4_nextTide_0 9 rfl) ⟨Nat.zero_le _, Nat.zero_le _⟩ rfl (fun H locs hs => ?_)
    cases hf
    exact ri C hs (dk hX4_nextTide_0 10 rfl)

def X4_empty_L4 (k : Int32 → Option (Int32)) (n_there : List Int32) (n_used : List Int32) (n_hidden : List Int32) (n_kind : List Int32) (n_cargo : List Int32) (n_ships : Int32) (n_coughs : Int32) : Nat → Int32 → Int32 → Option (Int32)
  | 0, _, _ => none
  | n + 1, x1, x2 =>
  if n_ships ≤ x2 then
  k x1
  else
  (X0_sinks n_there n_used n_hidden n_kind n_cargo n_coughs x2).bind fun u_1 =>
  if u_1 = (0 : Int32) then
  X4_empty_L4 k n_there n_used n_hidden n_kind n_cargo n_ships n_coughs n (x1 ||| ((1 : Int32) <<< (x2 &&& 31))) (x2 + (1 : Int32))
  else
  X4_empty_L4 k n_there n_used n_hidden n_kind n_cargo n_ships n_coughs n x1 (x2 + (1 : Int32))
def X4_empty (n_there : List Int32) (n_used : List Int32) (n_hidden : List Int32) (n_kind : List Int32) (n_cargo : List Int32) (n_ships : Int32) (n_coughs : Int32) : Option (Int32) :=
  X4_empty_L4 (fun y1_3 =>
  some y1_3) n_there n_used n_hidden n_kind n_cargo n_ships n_coughs 1000 (0 : Int32) (0 : Int32)
set_option maxRecDepth 100000 in
set_option maxHeartbeats 4000000 in
theorem l_X4_empty_L4 {l : Launch} {p : Program} {e : Env} {s : State} {m : MethodId} {args : Array Value} {below : List Frame} {meth : Method} {c : Code} {A : Nat → Prop} {G : Gx} {ad adt adb ade adm adn adk adp : Nat → Nat} {adr : Nat → Nat → Nat} {refusals tcells lcells m_there m_used m_hidden m_kind m_figure m_cargo m_load n_there n_used n_hidden n_kind n_figure n_cargo n_load k_there k_used k_hidden k_kind k_figure k_cargo k_load : List Int32} {isKept tlen llen m_ships m_inn m_coughs m_day n_ships n_inn n_coughs n_day k_ships k_inn k_coughs k_day held : Int32} {perm : Nat → Nat} {hist : Nat → Hs} {k : Int32 → Option (Int32)} {out : Int32} (C : Cx p s m args meth c cX4_empty RX4 3 (some .int) G) : ∀ (n : Nat) (x1 : Int32) (x2 : Int32), X4_empty_L4 k n_there n_used n_hidden n_kind n_cargo n_ships n_coughs n x1 x2 = some out → ∀ (H : Heap) (locs : List Loc), St G A s.heap H locs (wT G ad adt adb ade adm adn adk adp adr refusals tcells lcells m_there m_used m_hidden m_kind m_figure m_cargo m_load n_there n_used n_hidden n_kind n_figure n_cargo n_load k_there k_used k_hidden k_kind k_figure k_cargo k_load isKept tlen llen m_ships m_inn m_coughs m_day n_ships n_inn n_coughs n_day k_ships k_inn k_coughs k_day held perm hist) → ∀ ls : Array Slot, lv_has ls 3 [(0, .ref (ad 0)), (1, .int x1), (2, .int x2)] → (∀ (y1 : Int32), k y1 = some out → ∀ (H : Heap) (locs : List Loc), St G A s.heap H locs (wT G ad adt adb ade adm adn adk adp adr refusals tcells lcells m_there m_used m_hidden m_kind m_figure m_cargo m_load n_there n_used n_hidden n_kind n_figure n_cargo n_load k_there k_used k_hidden k_kind k_figure k_cargo k_load isKept tlen llen m_ships m_inn m_coughs m_day n_ships n_inn n_coughs n_day k_ships k_inn k_coughs k_day held perm hist) → ∀ ls : Array Slot, lv_has ls 3 [(1, .int y1)] → W p l e (rmOf 3 66) s m args below meth c H locs 0 0 (MQ below (Qof G A (some (.int out)) (wT G ad adt adb ade adm adn adk adp adr refusals tcells lcells m_there m_used m_hidden m_kind m_figure m_cargo m_load n_there n_used n_hidden n_kind n_figure n_cargo n_load k_there k_used k_hidden k_kind k_figure k_cargo k_load isKept tlen llen m_ships m_inn m_coughs m_day n_ships n_inn n_coughs n_day k_ships k_inn k_coughs k_day held perm hist)) args s 0 0 A) (F0 m 38 ls [])) → W p l e (rmOf 3 66) s m args below meth c H locs 0 0 (MQ below (Qof G A (some (.int out)) (wT G ad adt adb ade adm adn adk adp adr refusals tcells lcells m_there m_used m_hidden m_kind m_figure m_cargo m_load n_there n_used n_hidden n_kind n_figure n_cargo n_load k_there k_used k_hidden k_kind k_figure k_cargo k_load isKept tlen llen m_ships m_inn m_coughs m_day n_ships n_inn n_coughs n_day k_ships k_inn k_coughs k_day held perm hist)) args s 0 0 A) (F0 m 4 ls []) := by
  obtain ⟨hx, hb, hml, hown, hts, hK, hret, hlk⟩ := id C
  intro n
  induction n with
  | zero => intro x1 x2 hf; cases hf
  | succ n ih =>
    intro x1 x2 hf H locs hs ls hl hk
    rw [X4_empty_L4] at hf
    refine lv_iload_n hx hb (dk hX4_empty_0 4 rfl) rfl (lv_at hl 2 rfl) ?_
    refine lv_aload_n hx hb (dk hX4_empty_0 5 rfl) rfl (lv_at hl 0 rfl) ?_
    refine rg ui4 rfl C hs 0 rfl 0 (by decide) tw_197 rfl rfl (dk hX4_empty_0 6 rfl) ?_
    refine rg ui0 rfl C hs 15 rfl 7 (by decide) tw_118 rfl rfl (dk hX4_empty_0 7 rfl) ?_
    refine lv_icmp_ge (tgt := 38) hx hb (dk hX4_empty_0 8 rfl) (by decide) (fun hc => ?_) (fun hc => ?_)
    · replace hf := ip hf hc
      exact hk _ hf _ _ hs _ (lv_sub hl [1] rfl)
    · replace hf := in_ hf hc
      refine lv_aload_n hx hb (dk hX4_empty_0 9 rfl) rfl (lv_at hl 0 rfl) ?_
      refine rg ui4 rfl C hs 0 rfl 0 (by decide) tw_197 rfl rfl (dk hX4_empty_0 10 rfl) ?_
      refine lv_iload_n hx hb (dk hX4_empty_0 11 rfl) rfl (lv_at hl 2 rfl) ?_
      obtain ⟨u_1, e_2, hf⟩ := Option.bind_eq_some_iff.mp hf
      refine Ct.V (As := [.int x2]) (rest := []) (st1 := [.int u_1]) (w1 := (wT G ad adt adb ade adm adn adk adp adr refusals tcells lcells m_there m_used m_hidden m_kind m_figure m_cargo m_load n_there n_used n_hidden n_kind n_figure n_cargo n_load k_there k_used k_hidden k_kind k_figure k_cargo k_load isKept tlen llen m_ships m_inn m_coughs m_day n_ships n_inn n_coughs n_day k_ships k_inn k_coughs k_day held perm hist)) C hs (c_X0_sinks__now e_2) tw_396 tw_343 tw_344 tw_80 tw_345 nq_X0_sinks (by decide) 15 0 rfl rfl rfl rfl hl.1 rfl (Nat.le_of_ble_eq_true rfl) (dk hX4_empty_0 12 rfl) ⟨Nat.zero_le _, Nat.zero_le _⟩ rfl (fun H locs hs => ?_)
      refine lv_if_ne (tgt := 32) hx hb (dk hX4_empty_0 13 rfl) (by decide) (fun hc => ?_) (fun hc => ?_)
      · replace hf := in_ hf hc
        refine lv_iinc (v := (x2 + (1 : Int32))) (lv' := [(2, .int (x2 + (1 : Int32))), (0, .ref (ad 0)), (1, .int x1)]) hx hb (dk hX4_empty_0 20 rfl) hl (k := 2) rfl (by first | rfl | decide) (by decide) rfl (fun ls hl => ?_)
        refine lv_goto (tgt := 4) hx hb (dk hX4_empty_0 21 rfl) (by decide) ?_
        exact ih _ _ hf _ _ hs _ (lv_sub hl [1, 2, 0] rfl) hk
      · replace hf := ip hf hc
        refine lv_iload_n hx hb (dk hX4_empty_0 14 rfl) rfl (lv_at hl 1 rfl) ?_
        refine lv_iconst (v := (1 : Int32)) hx hb (dk hX4_empty_0 15 rfl) (by decide) ?_
        refine lv_iload_n hx hb (dk hX4_empty_0 16 rfl) rfl (lv_at hl 2 rfl) ?_
        refine lv_ishl hx hb (dk hX4_empty_0 17 rfl) ?_
        refine lv_ior hx hb (dk hX4_empty_0 18 rfl) ?_
        refine lv_istore_n (lv' := [(1, .int (x1 ||| ((1 : Int32) <<< (x2 &&& 31)))), (0, .ref (ad 0)), (2, .int x2)]) hx hb (dk hX4_empty_0 19 rfl) rfl hl (by decide) rfl (fun ls hl => ?_)
        refine lv_iinc (v := (x2 + (1 : Int32))) (lv' := [(2, .int (x2 + (1 : Int32))), (1, .int (x1 ||| ((1 : Int32) <<< (x2 &&& 31)))), (0, .ref (ad 0))]) hx hb (dk hX4_empty_0 20 rfl) hl (k := 2) rfl (by first | rfl | decide) (by decide) rfl (fun ls hl => ?_)
        refine lv_goto (tgt := 4) hx hb (dk hX4_empty_0 21 rfl) (by decide) ?_
        exact ih _ _ hf _ _ hs _ (lv_sub hl [2, 1, 0] rfl) hk
set_option maxRecDepth 100000 in
set_option maxHeartbeats 4000000 in
theorem c_X4_empty {l : Launch} {G : Gx} {ad adt adb ade adm adn adk adp : Nat → Nat} {adr : Nat → Nat → Nat} {refusals tcells lcells m_there m_used m_hidden m_kind m_figure m_cargo m_load n_there n_used n_hidden n_kind n_figure n_cargo n_load k_there k_used k_hidden k_kind k_figure k_cargo k_load : List Int32} {isKept tlen llen m_ships m_inn m_coughs m_day n_ships n_inn n_coughs n_day k_ships k_inn k_coughs k_day held : Int32} {perm : Nat → Nat} {hist : Nat → Hs}  {out : Int32} (hf : X4_empty n_there n_used n_hidden n_kind n_cargo n_ships n_coughs = some out) : Ct l G yX4_empty cX4_empty 3 (some .int) 3 66 [.ref (ad 0)] (wT G ad adt adb ade adm adn adk adp adr refusals tcells lcells m_there m_used m_hidden m_kind m_figure m_cargo m_load n_there n_used n_hidden n_kind n_figure n_cargo n_load k_there k_used k_hidden k_kind k_figure k_cargo k_load isKept tlen llen m_ships m_inn m_coughs m_day n_ships n_inn n_coughs n_day k_ships k_inn k_coughs k_day held perm hist) (some (.int out)) (wT G ad adt adb ade adm adn adk adp adr refusals tcells lcells m_there m_used m_hidden m_kind m_figure m_cargo m_load n_there n_used n_hidden n_kind n_figure n_cargo n_load k_there k_used k_hidden k_kind k_figure k_cargo k_load isKept tlen llen m_ships m_inn m_coughs m_day n_ships n_inn n_coughs n_day k_ships k_inn k_coughs k_day held perm hist) := by
  refine Ct.intro RX4 rfl (plainFor_of_name (by decide)) (Nat.le_of_ble_eq_true rfl) rfl ?_
  intro p e s m args below meth c A C H locs hs ls hl
  obtain ⟨hx, hb, hml, hown, hts, hK, hret, hlk⟩ := id C
  have hl : lv_has ls 3 [(0, .ref (ad 0))] := hl
  unfold X4_empty at hf
  refine lv_iconst (v := (0 : Int32)) hx hb (dk hX4_empty_0 0 rfl) (by decide) ?_
  refine lv_istore_n (lv' := [(1, .int (0 : Int32)), (0, .ref (ad 0))]) hx hb (dk hX4_empty_0 1 rfl) rfl hl (by decide) rfl (fun ls hl => ?_)
  refine lv_iconst (v := (0 : Int32)) hx hb (dk hX4_empty_0 2 rfl) (by decide) ?_
  refine lv_istore_n (lv' := [(2, .int (0 : Int32)), (1, .int (0 : Int32)), (0, .ref (ad 0))]) hx hb (dk hX4_empty_0 3 rfl) rfl hl (by decide) rfl (fun ls hl => ?_)
  refine l_X4_empty_L4 C 1000 _ _ hf _ _ hs _ (lv_sub hl [2, 1, 0] rfl) (fun y1_3 hf H locs hs ls hl => ?_)
  refine lv_iload_n hx hb (dk hX4_empty_0 22 rfl) rfl (lv_at hl 0 rfl) ?_
  cases hf
  exact ri C hs (dk hX4_empty_0 23 rfl)

def X4_carried_L17 (k : Int32 → Option (List Int32 × Int32)) (n_kind : List Int32) (n_cargo : List Int32) (n_load : List Int32) (n_ships : Int32) (n_inn : Int32) (x1 : Int32) : Nat → Int32 → Int32 → Option (List Int32 × Int32)
  | 0, _, _ => none
  | n + 1, x2, x3 =>
  if n_ships ≤ x3 then
  k x2
  else
  (X0_isIn n_inn x3).bind fun u_3 =>
  if u_3 = (0 : Int32) then
  (X0_brings n_kind n_cargo n_load x3 x1).bind fun u_5 =>
  X4_carried_L17 k n_kind n_cargo n_load n_ships n_inn x1 n (x2 + u_5) (x3 + (1 : Int32))
  else
  X4_carried_L17 k n_kind n_cargo n_load n_ships n_inn x1 n x2 (x3 + (1 : Int32))
def X4_carried (refusals : List Int32) (n_kind : List Int32) (n_cargo : List Int32) (n_load : List Int32) (n_ships : Int32) (n_inn : Int32) (p0 : Int32) : Option (List Int32 × Int32) :=
  (X4_isGood p0).bind fun u_1 =>
  if u_1 = (0 : Int32) then
  (X4_refuse refusals (-1 : Int32)).bind fun u_8 =>
  some (u_8.1, u_8.2)
  else
  X4_carried_L17 (fun y2_7 =>
  some (refusals, y2_7)) n_kind n_cargo n_load n_ships n_inn p0 1000 (0 : Int32) (0 : Int32)
set_option maxRecDepth 100000 in
set_option maxHeartbeats 4000000 in
theorem l_X4_carried_L17 {l : Launch} {p : Program} {e : Env} {s : State} {m : MethodId} {args : Array Value} {below : List Frame} {meth : Method} {c : Code} {A : Nat → Prop} {G : Gx} {ad adt adb ade adm adn adk adp : Nat → Nat} {adr : Nat → Nat → Nat} {refusals tcells lcells m_there m_used m_hidden m_kind m_figure m_cargo m_load n_there n_used n_hidden n_kind n_figure n_cargo n_load k_there k_used k_hidden k_kind k_figure k_cargo k_load : List Int32} {isKept tlen llen m_ships m_inn m_coughs m_day n_ships n_inn n_coughs n_day k_ships k_inn k_coughs k_day held : Int32} {perm : Nat → Nat} {hist : Nat → Hs} {x1 : Int32} {k : Int32 → Option (List Int32 × Int32)} {out : List Int32 × Int32} (C : Cx p s m args meth c cX4_carried RX4 4 (some .int) G) : ∀ (n : Nat) (x2 : Int32) (x3 : Int32), X4_carried_L17 k n_kind n_cargo n_load n_ships n_inn x1 n x2 x3 = some out → ∀ (H : Heap) (locs : List Loc), St G A s.heap H locs (wT G ad adt adb ade adm adn adk adp adr refusals tcells lcells m_there m_used m_hidden m_kind m_figure m_cargo m_load n_there n_used n_hidden n_kind n_figure n_cargo n_load k_there k_used k_hidden k_kind k_figure k_cargo k_load isKept tlen llen m_ships m_inn m_coughs m_day n_ships n_inn n_coughs n_day k_ships k_inn k_coughs k_day held perm hist) → ∀ ls : Array Slot, lv_has ls 4 [(0, .ref (ad 0)), (1, .int x1), (2, .int x2), (3, .int x3)] → (∀ (y2 : Int32), k y2 = some out → ∀ (H : Heap) (locs : List Loc), St G A s.heap H locs (wT G ad adt adb ade adm adn adk adp adr refusals tcells lcells m_there m_used m_hidden m_kind m_figure m_cargo m_load n_there n_used n_hidden n_kind n_figure n_cargo n_load k_there k_used k_hidden k_kind k_figure k_cargo k_load isKept tlen llen m_ships m_inn m_coughs m_day n_ships n_inn n_coughs n_day k_ships k_inn k_coughs k_day held perm hist) → ∀ ls : Array Slot, lv_has ls 4 [(2, .int y2)] → W p l e (rmOf 2 44) s m args below meth c H locs 0 0 (MQ below (Qof G A (some (.int out.2)) (wT G ad adt adb ade adm adn adk adp adr out.1 tcells lcells m_there m_used m_hidden m_kind m_figure m_cargo m_load n_there n_used n_hidden n_kind n_figure n_cargo n_load k_there k_used k_hidden k_kind k_figure k_cargo k_load isKept tlen llen m_ships m_inn m_coughs m_day n_ships n_inn n_coughs n_day k_ships k_inn k_coughs k_day held perm hist)) args s 0 0 A) (F0 m 57 ls [])) → W p l e (rmOf 2 44) s m args below meth c H locs 0 0 (MQ below (Qof G A (some (.int out.2)) (wT G ad adt adb ade adm adn adk adp adr out.1 tcells lcells m_there m_used m_hidden m_kind m_figure m_cargo m_load n_there n_used n_hidden n_kind n_figure n_cargo n_load k_there k_used k_hidden k_kind k_figure k_cargo k_load isKept tlen llen m_ships m_inn m_coughs m_day n_ships n_inn n_coughs n_day k_ships k_inn k_coughs k_day held perm hist)) args s 0 0 A) (F0 m 17 ls []) := by
  obtain ⟨hx, hb, hml, hown, hts, hK, hret, hlk⟩ := id C
  intro n
  induction n with
  | zero => intro x2 x3 hf; cases hf
  | succ n ih =>
    intro x2 x3 hf H locs hs ls hl hk
    rw [X4_carried_L17] at hf
    refine lv_iload_n hx hb (dk hX4_carried_0 11 rfl) rfl (lv_at hl 3 rfl) ?_
    refine lv_aload_n hx hb (dk hX4_carried_0 12 rfl) rfl (lv_at hl 0 rfl) ?_
    refine rg ui4 rfl C hs 0 rfl 0 (by decide) tw_197 rfl rfl (dk hX4_carried_0 13 rfl) ?_
    refine rg ui0 rfl C hs 15 rfl 7 (by decide) tw_118 rfl rfl (dk hX4_carried_0 14 rfl) ?_
    refine lv_icmp_ge (tgt := 57) hx hb (dk hX4_carried_0 15 rfl) (by decide) (fun hc => ?_) (fun hc => ?_)
    · replace hf := ip hf hc
      exact hk _ hf _ _ hs _ (lv_sub hl [2] rfl)
    · replace hf := in_ hf hc
      refine lv_aload_n hx hb (dk hX4_carried_0 16 rfl) rfl (lv_at hl 0 rfl) ?_
      refine rg ui4 rfl C hs 0 rfl 0 (by decide) tw_197 rfl rfl (dk hX4_carried_0 17 rfl) ?_
      refine lv_iload_n hx hb (dk hX4_carried_0 18 rfl) rfl (lv_at hl 3 rfl) ?_
      obtain ⟨u_3, e_4, hf⟩ := Option.bind_eq_some_iff.mp hf
      refine Ct.V (As := [.int x3]) (rest := []) (st1 := [.int u_3]) (w1 := (wT G ad adt adb ade adm adn adk adp adr refusals tcells lcells m_there m_used m_hidden m_kind m_figure m_cargo m_load n_there n_used n_hidden n_kind n_figure n_cargo n_load k_there k_used k_hidden k_kind k_figure k_cargo k_load isKept tlen llen m_ships m_inn m_coughs m_day n_ships n_inn n_coughs n_day k_ships k_inn k_coughs k_day held perm hist)) C hs (c_X0_isIn__now e_4) tw_394 tw_298 tw_299 tw_80 tw_300 nq_X0_isIn (by decide) 15 0 rfl rfl rfl rfl hl.1 rfl (Nat.le_of_ble_eq_true rfl) (dk hX4_carried_0 19 rfl) ⟨Nat.zero_le _, Nat.zero_le _⟩ rfl (fun H locs hs => ?_)
      refine lv_if_ne (tgt := 51) hx hb (dk hX4_carried_0 20 rfl) (by decide) (fun hc => ?_) (fun hc => ?_)
      · replace hf := in_ hf hc
        refine lv_iinc (v := (x3 + (1 : Int32))) (lv' := [(3, .int (x3 + (1 : Int32))), (0, .ref (ad 0)), (1, .int x1), (2, .int x2)]) hx hb (dk hX4_carried_0 29 rfl) hl (k := 3) rfl (by first | rfl | decide) (by decide) rfl (fun ls hl => ?_)
        refine lv_goto (tgt := 17) hx hb (dk hX4_carried_0 30 rfl) (by decide) ?_
        exact ih _ _ hf _ _ hs _ (lv_sub hl [1, 2, 3, 0] rfl) hk
      · replace hf := ip hf hc
        refine lv_iload_n hx hb (dk hX4_carried_0 21 rfl) rfl (lv_at hl 2 rfl) ?_
        refine lv_aload_n hx hb (dk hX4_carried_0 22 rfl) rfl (lv_at hl 0 rfl) ?_
        refine rg ui4 rfl C hs 0 rfl 0 (by decide) tw_197 rfl rfl (dk hX4_carried_0 23 rfl) ?_
        refine lv_iload_n hx hb (dk hX4_carried_0 24 rfl) rfl (lv_at hl 3 rfl) ?_
        refine lv_iload_n hx hb (dk hX4_carried_0 25 rfl) rfl (lv_at hl 1 rfl) ?_
        obtain ⟨u_5, e_6, hf⟩ := Option.bind_eq_some_iff.mp hf
        refine Ct.V (As := [.int x3, .int x1]) (rest := [.int x2]) (st1 := [.int u_5, .int x2]) (w1 := (wT G ad adt adb ade adm adn adk adp adr refusals tcells lcells m_there m_used m_hidden m_kind m_figure m_cargo m_load n_there n_used n_hidden n_kind n_figure n_cargo n_load k_there k_used k_hidden k_kind k_figure k_cargo k_load isKept tlen llen m_ships m_inn m_coughs m_day n_ships n_inn n_coughs n_day k_ships k_inn k_coughs k_day held perm hist)) C hs (c_X0_brings__now e_6) tw_645 tw_370 tw_371 tw_80 tw_372 nq_X0_brings (by decide) 15 0 rfl rfl rfl rfl hl.1 rfl (Nat.le_of_ble_eq_true rfl) (dk hX4_carried_0 26 rfl) ⟨Nat.zero_le _, Nat.zero_le _⟩ rfl (fun H locs hs => ?_)
        refine lv_iadd hx hb (dk hX4_carried_0 27 rfl) ?_
        refine lv_istore_n (lv' := [(2, .int (x2 + u_5)), (0, .ref (ad 0)), (1, .int x1), (3, .int x3)]) hx hb (dk hX4_carried_0 28 rfl) rfl hl (by decide) rfl (fun ls hl => ?_)
        refine lv_iinc (v := (x3 + (1 : Int32))) (lv' := [(3, .int (x3 + (1 : Int32))), (2, .int (x2 + u_5)), (0, .ref (ad 0)), (1, .int x1)]) hx hb (dk hX4_carried_0 29 rfl) hl (k := 3) rfl (by first | rfl | decide) (by decide) rfl (fun ls hl => ?_)
        refine lv_goto (tgt := 17) hx hb (dk hX4_carried_0 30 rfl) (by decide) ?_
        exact ih _ _ hf _ _ hs _ (lv_sub hl [2, 3, 1, 0] rfl) hk
set_option maxRecDepth 100000 in
set_option maxHeartbeats 4000000 in
theorem c_X4_carried {l : Launch} {G : Gx} {ad adt adb ade adm adn adk adp : Nat → Nat} {adr : Nat → Nat → Nat} {refusals tcells lcells m_there m_used m_hidden m_kind m_figure m_cargo m_load n_there n_used n_hidden n_kind n_figure n_cargo n_load k_there k_used k_hidden k_kind k_figure k_cargo k_load : List Int32} {isKept tlen llen m_ships m_inn m_coughs m_day n_ships n_inn n_coughs n_day k_ships k_inn k_coughs k_day held : Int32} {perm : Nat → Nat} {hist : Nat → Hs} {p0 : Int32} {out : List Int32 × Int32} (hf : X4_carried refusals n_kind n_cargo n_load n_ships n_inn p0 = some out) : Ct l G yX4_carried cX4_carried 4 (some .int) 2 44 [.ref (ad 0), .int p0] (wT G ad adt adb ade adm adn adk adp adr refusals tcells lcells m_there m_used m_hidden m_kind m_figure m_cargo m_load n_there n_used n_hidden n_kind n_figure n_cargo n_load k_there k_used k_hidden k_kind k_figure k_cargo k_load isKept tlen llen m_ships m_inn m_coughs m_day n_ships n_inn n_coughs n_day k_ships k_inn k_coughs k_day held perm hist) (some (.int out.2)) (wT G ad adt adb ade adm adn adk adp adr out.1 tcells lcells m_there m_used m_hidden m_kind m_figure m_cargo m_load n_there n_used n_hidden n_kind n_figure n_cargo n_load k_there k_used k_hidden k_kind k_figure k_cargo k_load isKept tlen llen m_ships m_inn m_coughs m_day n_ships n_inn n_coughs n_day k_ships k_inn k_coughs k_day held perm hist) := by
  refine Ct.intro RX4 rfl (plainFor_of_name (by decide)) (Nat.le_of_ble_eq_true rfl) rfl ?_
  intro p e s m args below meth c A C H locs hs ls hl
  obtain ⟨hx, hb, hml, hown, hts, hK, hret, hlk⟩ := id C
  have hl : lv_has ls 4 [(0, .ref (ad 0)), (1, .int p0)] := hl
  unfold X4_carried at hf
  refine lv_iload_n hx hb (dk hX4_carried_0 0 rfl) rfl (lv_at hl 1 rfl) ?_
  obtain ⟨u_1, e_2, hf⟩ := Option.bind_eq_some_iff.mp hf
  refine Ct.S (As := [.int p0]) (rest := []) (st1 := [.int u_1]) (w1 := (wT G ad adt adb ade adm adn adk adp adr refusals tcells lcells m_there m_used m_hidden m_kind m_figure m_cargo m_load n_there n_used n_hidden n_kind n_figure n_cargo n_load k_there k_used k_hidden k_kind k_figure k_cargo k_load isKept tlen llen m_ships m_inn m_coughs m_day n_ships n_inn n_coughs n_day k_ships k_inn k_coughs k_day held perm hist)) C hs (c_X4_isGood e_2) tw_387 tw_283 tw_79 tw_284 nq_X4_isGood (by decide) rfl hl.1 rfl (Nat.le_of_ble_eq_true rfl) (dk hX4_carried_0 1 rfl) ⟨Nat.zero_le _, Nat.zero_le _⟩ rfl (fun H locs hs => ?_)
  refine lv_if_ne (tgt := 13) hx hb (dk hX4_carried_0 2 rfl) (by decide) (fun hc => ?_) (fun hc => ?_)
  · replace hf := in_ hf hc
    refine lv_iconst (v := (0 : Int32)) hx hb (dk hX4_carried_0 7 rfl) (by decide) ?_
    refine lv_istore_n (lv' := [(2, .int (0 : Int32)), (0, .ref (ad 0)), (1, .int p0)]) hx hb (dk hX4_carried_0 8 rfl) rfl hl (by decide) rfl (fun ls hl => ?_)
    refine lv_iconst (v := (0 : Int32)) hx hb (dk hX4_carried_0 9 rfl) (by decide) ?_
    refine lv_istore_n (lv' := [(3, .int (0 : Int32)), (2, .int (0 : Int32)), (0, .ref (ad 0)), (1, .int p0)]) hx hb (dk hX4_carried_0 10 rfl) rfl hl (by decide) rfl (fun ls hl => ?_)
    refine l_X4_carried_L17 C 1000 _ _ hf _ _ hs _ (lv_sub hl [2, 3, 1, 0] rfl) (fun y2_7 hf H locs hs ls hl => ?_)
    refine lv_iload_n hx hb (dk hX4_carried_0 31 rfl) rfl (lv_at hl 0 rfl) ?_
    cases hf
    exact ri C hs (dk hX4_carried_0 32 rfl)
  · replace hf := ip hf hc
    refine lv_aload_n hx hb (dk hX4_carried_0 3 rfl) rfl (lv_at hl 0 rfl) ?_
    refine lv_iconst (v := (-1 : Int32)) hx hb (dk hX4_carried_0 4 rfl) (by decide) ?_
    obtain ⟨u_8, e_9, hf⟩ := Option.bind_eq_some_iff.mp hf
    refine Ct.V (As := [.int (-1 : Int32)]) (rest := []) (st1 := [.int u_8.2]) (w1 := (wT G ad adt adb ade adm adn adk adp adr u_8.1 tcells lcells m_there m_used m_hidden m_kind m_figure m_cargo m_load n_there n_used n_hidden n_kind n_figure n_cargo n_load k_there k_used k_hidden k_kind k_figure k_cargo k_load isKept tlen llen m_ships m_inn m_coughs m_day n_ships n_inn n_coughs n_day k_ships k_inn k_coughs k_day held perm hist)) C hs (c_X4_refuse e_9) tw_226 tw_228 tw_0 tw_79 tw_229 nq_X4_refuse (by decide) 0 4 rfl rfl rfl rfl hl.1 rfl (Nat.le_of_ble_eq_true rfl) (dk hX4_carried_0 5 rfl) ⟨Nat.zero_le _, Nat.zero_le _⟩ rfl (fun H locs hs => ?_)
    cases hf
    exact ri C hs (dk hX4_carried_0 6 rfl)

def X4_filled_L9 (k : Int32 → List Int32 → Int32 → Int32 → Option (List Int32 × List Int32 × List Int32 × List Int32 × List Int32 × List Int32 × List Int32 × Int32 × Int32 × Int32 × Int32 × Int32)) (m_used : List Int32) (m_kind : List Int32) (m_cargo : List Int32) (m_load : List Int32) (m_ships : Int32) : Nat → Int32 → Int32 → List Int32 → Int32 → Int32 → Option (List Int32 × List Int32 × List Int32 × List Int32 × List Int32 × List Int32 × List Int32 × Int32 × Int32 × Int32 × Int32 × Int32)
  | 0, _, _, _, _, _ => none
  | n + 1, x2, x3, m_there, m_inn, m_coughs =>
  if m_ships ≤ x3 then
  k x2 m_there m_inn m_coughs
  else
  (X0_lackOfAll m_there m_used).bind fun u_3 =>
  if u_3 ≤ (0 : Int32) then
  k x2 m_there m_inn m_coughs
  else
  (X0_isIn m_inn x3).bind fun u_5 =>
  if u_5 = (0 : Int32) then
  (X0_letIn m_there m_kind m_cargo m_load m_inn m_coughs x3).bind fun u_7 =>
  X4_filled_L9 k m_used m_kind m_cargo m_load m_ships n (x2 + (1 : Int32)) (x3 + (1 : Int32)) u_7.1 u_7.2.1 u_7.2.2
  else
  X4_filled_L9 k m_used m_kind m_cargo m_load m_ships n x2 (x3 + (1 : Int32)) m_there m_inn m_coughs
def X4_filled (m_there : List Int32) (m_used : List Int32) (m_hidden : List Int32) (m_kind : List Int32) (m_figure : List Int32) (m_cargo : List Int32) (m_load : List Int32) (n_there : List Int32) (n_used : List Int32) (n_hidden : List Int32) (n_kind : List Int32) (n_figure : List Int32) (n_cargo : List Int32) (n_load : List Int32) (m_ships : Int32) (m_inn : Int32) (m_coughs : Int32) (m_day : Int32) (n_ships : Int32) (n_inn : Int32) (n_coughs : Int32) (n_day : Int32) : Option (List Int32 × List Int32 × List Int32 × List Int32 × List Int32 × List Int32 × List Int32 × Int32 × Int32 × Int32 × Int32 × Int32) :=
  (X4_fromNow m_there m_used m_hidden m_kind m_figure m_cargo m_load n_there n_used n_hidden n_kind n_figure n_cargo n_load m_ships m_inn m_coughs m_day n_ships n_inn n_coughs n_day).bind fun u_1 =>
  X4_filled_L9 (fun y2_9 m_there_10 m_inn_11 m_coughs_12 =>
  (X0_lackOfAll m_there_10 u_1.2.1).bind fun u_13 =>
  if u_13 = (0 : Int32) then
  some (m_there_10, u_1.2.1, u_1.2.2.1, u_1.2.2.2.1, u_1.2.2.2.2.1, u_1.2.2.2.2.2.1, u_1.2.2.2.2.2.2.1, u_1.2.2.2.2.2.2.2.1, m_inn_11, m_coughs_12, u_1.2.2.2.2.2.2.2.2.2.2, y2_9)
  else
  some (m_there_10, u_1.2.1, u_1.2.2.1, u_1.2.2.2.1, u_1.2.2.2.2.1, u_1.2.2.2.2.2.1, u_1.2.2.2.2.2.2.1, u_1.2.2.2.2.2.2.2.1, m_inn_11, m_coughs_12, u_1.2.2.2.2.2.2.2.2.2.2, (-9 : Int32))) u_1.2.1 u_1.2.2.2.1 u_1.2.2.2.2.2.1 u_1.2.2.2.2.2.2.1 u_1.2.2.2.2.2.2.2.1 1000 (0 : Int32) (0 : Int32) u_1.1 u_1.2.2.2.2.2.2.2.2.1 u_1.2.2.2.2.2.2.2.2.2.1
set_option maxRecDepth 100000 in
set_option maxHeartbeats 4000000 in
theorem l_X4_filled_L9 {l : Launch} {p : Program} {e : Env} {s : State} {m : MethodId} {args : Array Value} {below : List Frame} {meth : Method} {c : Code} {A : Nat → Prop} {G : Gx} {ad adt adb ade adm adn adk adp : Nat → Nat} {adr : Nat → Nat → Nat} {refusals tcells lcells m_used m_hidden m_kind m_figure m_cargo m_load n_there n_used n_hidden n_kind n_figure n_cargo n_load k_there k_used k_hidden k_kind k_figure k_cargo k_load : List Int32} {isKept tlen llen m_ships m_day n_ships n_inn n_coughs n_day k_ships k_inn k_coughs k_day held : Int32} {perm : Nat → Nat} {hist : Nat → Hs} {k : Int32 → List Int32 → Int32 → Int32 → Option (List Int32 × List Int32 × List Int32 × List Int32 × List Int32 × List Int32 × List Int32 × Int32 × Int32 × Int32 × Int32 × Int32)} {out : List Int32 × List Int32 × List Int32 × List Int32 × List Int32 × List Int32 × List Int32 × Int32 × Int32 × Int32 × Int32 × Int32} (C : Cx p s m args meth c cX4_filled RX4 4 (some .int) G) : ∀ (n : Nat) (x2 : Int32) (x3 : Int32) (m_there : List Int32) (m_inn : Int32) (m_coughs : Int32), X4_filled_L9 k m_used m_kind m_cargo m_load m_ships n x2 x3 m_there m_inn m_coughs = some out → ∀ (H : Heap) (locs : List Loc), St G A s.heap H locs (wT G ad adt adb ade adm adn adk adp adr refusals tcells lcells m_there m_used m_hidden m_kind m_figure m_cargo m_load n_there n_used n_hidden n_kind n_figure n_cargo n_load k_there k_used k_hidden k_kind k_figure k_cargo k_load isKept tlen llen m_ships m_inn m_coughs m_day n_ships n_inn n_coughs n_day k_ships k_inn k_coughs k_day held perm hist) → ∀ ls : Array Slot, lv_has ls 4 [(1, .ref (adm 0)), (2, .int x2), (3, .int x3)] → (∀ (y2 : Int32) (z_m_there : List Int32) (z_m_inn : Int32) (z_m_coughs : Int32), k y2 z_m_there z_m_inn z_m_coughs = some out → ∀ (H : Heap) (locs : List Loc), St G A s.heap H locs (wT G ad adt adb ade adm adn adk adp adr refusals tcells lcells z_m_there m_used m_hidden m_kind m_figure m_cargo m_load n_there n_used n_hidden n_kind n_figure n_cargo n_load k_there k_used k_hidden k_kind k_figure k_cargo k_load isKept tlen llen m_ships z_m_inn z_m_coughs m_day n_ships n_inn n_coughs n_day k_ships k_inn k_coughs k_day held perm hist) → ∀ ls : Array Slot, lv_has ls 4 [(1, .ref (adm 0)), (2, .int y2)] → W p l e (rmOf 3 66) s m args below meth c H locs 0 0 (MQ below (Qof G A (some (.int out.2.2.2.2.2.2.2.2.2.2.2)) (wT G ad adt adb ade adm adn adk adp adr refusals tcells lcells out.1 out.2.1 out.2.2.1 out.2.2.2.1 out.2.2.2.2.1 out.2.2.2.2.2.1 out.2.2.2.2.2.2.1 n_there n_used n_hidden n_kind n_figure n_cargo n_load k_there k_used k_hidden k_kind k_figure k_cargo k_load isKept tlen llen out.2.2.2.2.2.2.2.1 out.2.2.2.2.2.2.2.2.1 out.2.2.2.2.2.2.2.2.2.1 out.2.2.2.2.2.2.2.2.2.2.1 n_ships n_inn n_coughs n_day k_ships k_inn k_coughs k_day held perm hist)) args s 0 0 A) (F0 m 46 ls [])) → W p l e (rmOf 3 66) s m args below meth c H locs 0 0 (MQ below (Qof G A (some (.int out.2.2.2.2.2.2.2.2.2.2.2)) (wT G ad adt adb ade adm adn adk adp adr refusals tcells lcells out.1 out.2.1 out.2.2.1 out.2.2.2.1 out.2.2.2.2.1 out.2.2.2.2.2.1 out.2.2.2.2.2.2.1 n_there n_used n_hidden n_kind n_figure n_cargo n_load k_there k_used k_hidden k_kind k_figure k_cargo k_load isKept tlen llen out.2.2.2.2.2.2.2.1 out.2.2.2.2.2.2.2.2.1 out.2.2.2.2.2.2.2.2.2.1 out.2.2.2.2.2.2.2.2.2.2.1 n_ships n_inn n_coughs n_day k_ships k_inn k_coughs k_day held perm hist)) args s 0 0 A) (F0 m 9 ls []) := by
  obtain ⟨hx, hb, hml, hown, hts, hK, hret, hlk⟩ := id C
  intro n
  induction n with
  | zero => intro x2 x3 m_there m_inn m_coughs hf; cases hf
  | succ n ih =>
    intro x2 x3 m_there m_inn m_coughs hf H locs hs ls hl hk
    rw [X4_filled_L9] at hf
    refine lv_iload_n hx hb (dk hX4_filled_0 7 rfl) rfl (lv_at hl 2 rfl) ?_
    refine lv_aload_n hx hb (dk hX4_filled_0 8 rfl) rfl (lv_at hl 0 rfl) ?_
    refine rg ui0 rfl C hs 7 rfl 7 (by decide) tw_118 rfl rfl (dk hX4_filled_0 9 rfl) ?_
    refine lv_icmp_ge (tgt := 46) hx hb (dk hX4_filled_0 10 rfl) (by decide) (fun hc => ?_) (fun hc => ?_)
    · replace hf := ip hf hc
      exact hk _ _ _ _ hf _ _ hs _ (lv_sub hl [0, 1] rfl)
    · replace hf := in_ hf hc
      refine lv_aload_n hx hb (dk hX4_filled_0 11 rfl) rfl (lv_at hl 0 rfl) ?_
      obtain ⟨u_3, e_4, hf⟩ := Option.bind_eq_some_iff.mp hf
      refine Ct.V (As := []) (rest := []) (st1 := [.int u_3]) (w1 := (wT G ad adt adb ade adm adn adk adp adr refusals tcells lcells m_there m_used m_hidden m_kind m_figure m_cargo m_load n_there n_used n_hidden n_kind n_figure n_cargo n_load k_there k_used k_hidden k_kind k_figure k_cargo k_load isKept tlen llen m_ships m_inn m_coughs m_day n_ships n_inn n_coughs n_day k_ships k_inn k_coughs k_day held perm hist)) C hs (c_X0_lackOfAll__mind e_4) tw_603 tw_533 tw_534 tw_80 tw_535 nq_X0_lackOfAll (by decide) 7 0 rfl rfl rfl rfl hl.1 rfl (Nat.le_of_ble_eq_true rfl) (dk hX4_filled_0 12 rfl) ⟨Nat.zero_le _, Nat.zero_le _⟩ rfl (fun H locs hs => ?_)
      refine lv_if_le (tgt := 46) hx hb (dk hX4_filled_0 13 rfl) (by decide) (fun hc => ?_) (fun hc => ?_)
      · replace hf := ip hf hc
        exact hk _ _ _ _ hf _ _ hs _ (lv_sub hl [0, 1] rfl)
      · replace hf := in_ hf hc
        refine lv_aload_n hx hb (dk hX4_filled_0 14 rfl) rfl (lv_at hl 0 rfl) ?_
        refine lv_iload_n hx hb (dk hX4_filled_0 15 rfl) rfl (lv_at hl 2 rfl) ?_
        obtain ⟨u_5, e_6, hf⟩ := Option.bind_eq_some_iff.mp hf
        refine Ct.V (As := [.int x3]) (rest := []) (st1 := [.int u_5]) (w1 := (wT G ad adt adb ade adm adn adk adp adr refusals tcells lcells m_there m_used m_hidden m_kind m_figure m_cargo m_load n_there n_used n_hidden n_kind n_figure n_cargo n_load k_there k_used k_hidden k_kind k_figure k_cargo k_load isKept tlen llen m_ships m_inn m_coughs m_day n_ships n_inn n_coughs n_day k_ships k_inn k_coughs k_day held perm hist)) C hs (c_X0_isIn__mind e_6) tw_394 tw_298 tw_299 tw_80 tw_300 nq_X0_isIn (by decide) 7 0 rfl rfl rfl rfl hl.1 rfl (Nat.le_of_ble_eq_true rfl) (dk hX4_filled_0 16 rfl) ⟨Nat.zero_le _, Nat.zero_le _⟩ rfl (fun H locs hs => ?_)
        refine lv_if_ne (tgt := 40) hx hb (dk hX4_filled_0 17 rfl) (by decide) (fun hc => ?_) (fun hc => ?_)
        · replace hf := in_ hf hc
          refine lv_iinc (v := (x3 + (1 : Int32))) (lv' := [(3, .int (x3 + (1 : Int32))), (1, .ref (adm 0)), (2, .int x2)]) hx hb (dk hX4_filled_0 22 rfl) hl (k := 2) rfl (by first | rfl | decide) (by decide) rfl (fun ls hl => ?_)
          refine lv_goto (tgt := 9) hx hb (dk hX4_filled_0 23 rfl) (by decide) ?_
          exact ih _ _ _ _ _ hf _ _ hs _ (lv_sub hl [1, 2, 0] rfl) hk
        · replace hf := ip hf hc
          refine lv_aload_n hx hb (dk hX4_filled_0 18 rfl) rfl (lv_at hl 0 rfl) ?_
          refine lv_iload_n hx hb (dk hX4_filled_0 19 rfl) rfl (lv_at hl 2 rfl) ?_
          obtain ⟨u_7, e_8, hf⟩ := Option.bind_eq_some_iff.mp hf
          refine Ct.V (As := [.int x3]) (rest := []) (st1 := []) (w1 := (wT G ad adt adb ade adm adn adk adp adr refusals tcells lcells u_7.1 m_used m_hidden m_kind m_figure m_cargo m_load n_there n_used n_hidden n_kind n_figure n_cargo n_load k_there k_used k_hidden k_kind k_figure k_cargo k_load isKept tlen llen m_ships u_7.2.1 u_7.2.2 m_day n_ships n_inn n_coughs n_day k_ships k_inn k_coughs k_day held perm hist)) C hs (c_X0_letIn__mind e_8) tw_650 tw_366 tw_367 tw_80 tw_368 nq_X0_letIn (by decide) 7 0 rfl rfl rfl rfl hl.1 rfl (Nat.le_of_ble_eq_true rfl) (dk hX4_filled_0 20 rfl) ⟨Nat.zero_le _, Nat.zero_le _⟩ rfl (fun H locs hs => ?_)
          refine lv_iinc (v := (x2 + (1 : Int32))) (lv' := [(2, .int (x2 + (1 : Int32))), (1, .ref (adm 0)), (3, .int x3)]) hx hb (dk hX4_filled_0 21 rfl) hl (k := 1) rfl (by first | rfl | decide) (by decide) rfl (fun ls hl => ?_)
          refine lv_iinc (v := (x3 + (1 : Int32))) (lv' := [(3, .int (x3 + (1 : Int32))), (2, .int (x2 + (1 : Int32))), (1, .ref (adm 0))]) hx hb (dk hX4_filled_0 22 rfl) hl (k := 2) rfl (by first | rfl | decide) (by decide) rfl (fun ls hl => ?_)
          refine lv_goto (tgt := 9) hx hb (dk hX4_filled_0 23 rfl) (by decide) ?_
          exact ih _ _ _ _ _ hf _ _ hs _ (lv_sub hl [2, 1, 0] rfl) hk
set_option maxRecDepth 100000 in
set_option maxHeartbeats 4000000 in
theorem c_X4_filled {l : Launch} {G : Gx} {ad adt adb ade adm adn adk adp : Nat → Nat} {adr : Nat → Nat → Nat} {refusals tcells lcells m_there m_used m_hidden m_kind m_figure m_cargo m_load n_there n_used n_hidden n_kind n_figure n_cargo n_load k_there k_used k_hidden k_kind k_figure k_cargo k_load : List Int32} {isKept tlen llen m_ships m_inn m_coughs m_day n_ships n_inn n_coughs n_day k_ships k_inn k_coughs k_day held : Int32} {perm : Nat → Nat} {hist : Nat → Hs}  {out : List Int32 × List Int32 × List Int32 × List Int32 × List Int32 × List Int32 × List Int32 × Int32 × Int32 × Int32 × Int32 × Int32} (hf : X4_filled m_there m_used m_hidden m_kind m_figure m_cargo m_load n_there n_used n_hidden n_kind n_figure n_cargo n_load m_ships m_inn m_coughs m_day n_ships n_inn n_coughs n_day = some out) : Ct l G yX4_filled cX4_filled 4 (some .int) 3 66 [.ref (ad 0)] (wT G ad adt adb ade adm adn adk adp adr refusals tcells lcells m_there m_used m_hidden m_kind m_figure m_cargo m_load n_there n_used n_hidden n_kind n_figure n_cargo n_load k_there k_used k_hidden k_kind k_figure k_cargo k_load isKept tlen llen m_ships m_inn m_coughs m_day n_ships n_inn n_coughs n_day k_ships k_inn k_coughs k_day held perm hist) (some (.int out.2.2.2.2.2.2.2.2.2.2.2)) (wT G ad adt adb ade adm adn adk adp adr refusals tcells lcells out.1 out.2.1 out.2.2.1 out.2.2.2.1 out.2.2.2.2.1 out.2.2.2.2.2.1 out.2.2.2.2.2.2.1 n_there n_used n_hidden n_kind n_figure n_cargo n_load k_there k_used k_hidden k_kind k_figure k_cargo k_load isKept tlen llen out.2.2.2.2.2.2.2.1 out.2.2.2.2.2.2.2.2.1 out.2.2.2.2.2.2.2.2.2.1 out.2.2.2.2.2.2.2.2.2.2.1 n_ships n_inn n_coughs n_day k_ships k_inn k_coughs k_day held perm hist) := by
  refine Ct.intro RX4 rfl (plainFor_of_name (by decide)) (Nat.le_of_ble_eq_true rfl) rfl ?_
  intro p e s m args below meth c A C H locs hs ls hl
  obtain ⟨hx, hb, hml, hown, hts, hK, hret, hlk⟩ := id C
  have hl : lv_has ls 4 [(0, .ref (ad 0))] := hl
  unfold X4_filled at hf
  refine lv_aload_n hx hb (dk hX4_filled_0 0 rfl) rfl (lv_at hl 0 rfl) ?_
  obtain ⟨u_1, e_2, hf⟩ := Option.bind_eq_some_iff.mp hf
  refine Ct.V (As := []) (rest := []) (st1 := [.ref (adm 0)]) (w1 := (wT G ad adt adb ade adm adn adk adp adr refusals tcells lcells u_1.1 u_1.2.1 u_1.2.2.1 u_1.2.2.2.1 u_1.2.2.2.2.1 u_1.2.2.2.2.2.1 u_1.2.2.2.2.2.2.1 n_there n_used n_hidden n_kind n_figure n_cargo n_load k_there k_used k_hidden k_kind k_figure k_cargo k_load isKept tlen llen u_1.2.2.2.2.2.2.2.1 u_1.2.2.2.2.2.2.2.2.1 u_1.2.2.2.2.2.2.2.2.2.1 u_1.2.2.2.2.2.2.2.2.2.2 n_ships n_inn n_coughs n_day k_ships k_inn k_coughs k_day held perm hist)) C hs (c_X4_fromNow e_2) tw_246 tw_248 tw_1 tw_79 tw_249 nq_X4_fromNow (by decide) 0 4 rfl rfl rfl rfl hl.1 rfl (Nat.le_of_ble_eq_true rfl) (dk hX4_filled_0 1 rfl) ⟨Nat.zero_le _, Nat.zero_le _⟩ rfl (fun H locs hs => ?_)
  refine lv_astore_n (lv' := [(1, .ref (adm 0)), (0, .ref (ad 0))]) hx hb (dk hX4_filled_0 2 rfl) rfl hl (by decide) rfl (fun ls hl => ?_)
  refine lv_iconst (v := (0 : Int32)) hx hb (dk hX4_filled_0 3 rfl) (by decide) ?_
  refine lv_istore_n (lv' := [(2, .int (0 : Int32)), (1, .ref (adm 0)), (0, .ref (ad 0))]) hx hb (dk hX4_filled_0 4 rfl) rfl hl (by decide) rfl (fun ls hl => ?_)
  refine lv_iconst (v := (0 : Int32)) hx hb (dk hX4_filled_0 5 rfl) (by decide) ?_
  refine lv_istore_n (lv' := [(3, .int (0 : Int32)), (2, .int (0 : Int32)), (1, .ref (adm 0)), (0, .ref (ad 0))]) hx hb (dk hX4_filled_0 6 rfl) rfl hl (by decide) rfl (fun ls hl => ?_)
  refine l_X4_filled_L9 C 1000 _ _ _ _ _ hf _ _ hs _ (lv_sub hl [2, 1, 0] rfl) (fun y2_9 m_there_10 m_inn_11 m_coughs_12 hf H locs hs ls hl => ?_)
  refine lv_aload_n hx hb (dk hX4_filled_0 24 rfl) rfl (lv_at hl 0 rfl) ?_
  obtain ⟨u_13, e_14, hf⟩ := Option.bind_eq_some_iff.mp hf
  refine Ct.V (As := []) (rest := []) (st1 := [.int u_13]) (w1 := (wT G ad adt adb ade adm adn adk adp adr refusals tcells lcells m_there_10 u_1.2.1 u_1.2.2.1 u_1.2.2.2.1 u_1.2.2.2.2.1 u_1.2.2.2.2.2.1 u_1.2.2.2.2.2.2.1 n_there n_used n_hidden n_kind n_figure n_cargo n_load k_there k_used k_hidden k_kind k_figure k_cargo k_load isKept tlen llen u_1.2.2.2.2.2.2.2.1 m_inn_11 m_coughs_12 u_1.2.2.2.2.2.2.2.2.2.2 n_ships n_inn n_coughs n_day k_ships k_inn k_coughs k_day held perm hist)) C hs (c_X0_lackOfAll__mind e_14) tw_603 tw_533 tw_534 tw_80 tw_535 nq_X0_lackOfAll (by decide) 7 0 rfl rfl rfl rfl hl.1 rfl (Nat.le_of_ble_eq_true rfl) (dk hX4_filled_0 25 rfl) ⟨Nat.zero_le _, Nat.zero_le _⟩ rfl (fun H locs hs => ?_)
  refine lv_if_ne (tgt := 57) hx hb (dk hX4_filled_0 26 rfl) (by decide) (fun hc => ?_) (fun hc => ?_)
  · replace hf := in_ hf hc
    refine lv_bipush (v := (-9 : Int32)) hx hb (dk hX4_filled_0 29 rfl) (by decide) ?_
    cases hf
    exact ri C hs (dk hX4_filled_0 30 rfl)
  · replace hf := ip hf hc
    refine lv_iload_n hx hb (dk hX4_filled_0 27 rfl) rfl (lv_at hl 1 rfl) ?_
    refine lv_goto (tgt := 59) hx hb (dk hX4_filled_0 28 rfl) (by decide) ?_
    cases hf
    exact ri C hs (dk hX4_filled_0 30 rfl)

def X4_spared (refusals : List Int32) (m_there : List Int32) (m_used : List Int32) (m_hidden : List Int32) (m_kind : List Int32) (m_figure : List Int32) (m_cargo : List Int32) (m_load : List Int32) (n_there : List Int32) (n_used : List Int32) (n_hidden : List Int32) (n_kind : List Int32) (n_figure : List Int32) (n_cargo : List Int32) (n_load : List Int32) (m_ships : Int32) (m_inn : Int32) (m_coughs : Int32) (m_day : Int32) (n_ships : Int32) (n_inn : Int32) (n_coughs : Int32) (n_day : Int32) (p0 : Int32) (p1 : Int32) : Option (List Int32 × List Int32 × List Int32 × List Int32 × List Int32 × List Int32 × List Int32 × List Int32 × Int32 × Int32 × Int32 × Int32 × Int32) :=
  (X4_isGood p0).bind fun u_1 =>
  if u_1 = (0 : Int32) then
  (X4_refuse refusals (-1 : Int32)).bind fun u_23 =>
  some (u_23.1, m_there, m_used, m_hidden, m_kind, m_figure, m_cargo, m_load, m_ships, m_inn, m_coughs, m_day, ((1000000000 : Int32) - u_23.2))
  else
  (X4_misfit p1 (0 : Int32) (60 : Int32)).bind fun u_3 =>
  if u_3 = (0 : Int32) then
  (X4_fromNow m_there m_used m_hidden m_kind m_figure m_cargo m_load n_there n_used n_hidden n_kind n_figure n_cargo n_load m_ships m_inn m_coughs m_day n_ships n_inn n_coughs n_day).bind fun u_5 =>
  (X0_wantWithin u_5.1 u_5.2.1 u_5.2.2.1 u_5.2.2.2.1 u_5.2.2.2.2.1 u_5.2.2.2.2.2.1 u_5.2.2.2.2.2.2.1 u_5.2.2.2.2.2.2.2.1 u_5.2.2.2.2.2.2.2.2.1 u_5.2.2.2.2.2.2.2.2.2.1 u_5.2.2.2.2.2.2.2.2.2.2 p1 (0 : Int32)).bind fun u_7 =>
  (X4_fromNow u_7.1 u_5.2.1 u_5.2.2.1 u_5.2.2.2.1 u_5.2.2.2.2.1 u_5.2.2.2.2.2.1 u_5.2.2.2.2.2.2.1 n_there n_used n_hidden n_kind n_figure n_cargo n_load u_5.2.2.2.2.2.2.2.1 u_7.2.1 u_7.2.2.1 u_7.2.2.2.1 n_ships n_inn n_coughs n_day).bind fun u_9 =>
  (rd u_9.1 p0).bind fun v_11 =>
  (rd u_9.2.2.1 p0).bind fun v_13 =>
  (wr u_9.1 p0 (mmin (99 : Int32) (v_11 + v_13))).bind fun m_there_15 =>
  (wr u_9.2.2.1 p0 (0 : Int32)).bind fun m_hidden_17 =>
  (X0_wantWithin m_there_15 u_9.2.1 m_hidden_17 u_9.2.2.2.1 u_9.2.2.2.2.1 u_9.2.2.2.2.2.1 u_9.2.2.2.2.2.2.1 u_9.2.2.2.2.2.2.2.1 u_9.2.2.2.2.2.2.2.2.1 u_9.2.2.2.2.2.2.2.2.2.1 u_9.2.2.2.2.2.2.2.2.2.2 p1 (0 : Int32)).bind fun u_19 =>
  some (refusals, u_19.1, u_9.2.1, m_hidden_17, u_9.2.2.2.1, u_9.2.2.2.2.1, u_9.2.2.2.2.2.1, u_9.2.2.2.2.2.2.1, u_9.2.2.2.2.2.2.2.1, u_19.2.1, u_19.2.2.1, u_19.2.2.2.1, (u_7.2.2.2.2 - u_19.2.2.2.2))
  else
  (X4_refuse refusals u_3).bind fun u_21 =>
  some (u_21.1, m_there, m_used, m_hidden, m_kind, m_figure, m_cargo, m_load, m_ships, m_inn, m_coughs, m_day, ((1000000000 : Int32) - u_21.2))
set_option maxRecDepth 100000 in
set_option maxHeartbeats 4000000 in
theorem c_X4_spared {l : Launch} {G : Gx} {ad adt adb ade adm adn adk adp : Nat → Nat} {adr : Nat → Nat → Nat} {refusals tcells lcells m_there m_used m_hidden m_kind m_figure m_cargo m_load n_there n_used n_hidden n_kind n_figure n_cargo n_load k_there k_used k_hidden k_kind k_figure k_cargo k_load : List Int32} {isKept tlen llen m_ships m_inn m_coughs m_day n_ships n_inn n_coughs n_day k_ships k_inn k_coughs k_day held : Int32} {perm : Nat → Nat} {hist : Nat → Hs} {p0 : Int32} {p1 : Int32} {out : List Int32 × List Int32 × List Int32 × List Int32 × List Int32 × List Int32 × List Int32 × List Int32 × Int32 × Int32 × Int32 × Int32 × Int32} (hf : X4_spared refusals m_there m_used m_hidden m_kind m_figure m_cargo m_load n_there n_used n_hidden n_kind n_figure n_cargo n_load m_ships m_inn m_coughs m_day n_ships n_inn n_coughs n_day p0 p1 = some out) : Ct l G yX4_spared cX4_spared 6 (some .int) 5 113 [.ref (ad 0), .int p0, .int p1] (wT G ad adt adb ade adm adn adk adp adr refusals tcells lcells m_there m_used m_hidden m_kind m_figure m_cargo m_load n_there n_used n_hidden n_kind n_figure n_cargo n_load k_there k_used k_hidden k_kind k_figure k_cargo k_load isKept tlen llen m_ships m_inn m_coughs m_day n_ships n_inn n_coughs n_day k_ships k_inn k_coughs k_day held perm hist) (some (.int out.2.2.2.2.2.2.2.2.2.2.2.2)) (wT G ad adt adb ade adm adn adk adp adr out.1 tcells lcells out.2.1 out.2.2.1 out.2.2.2.1 out.2.2.2.2.1 out.2.2.2.2.2.1 out.2.2.2.2.2.2.1 out.2.2.2.2.2.2.2.1 n_there n_used n_hidden n_kind n_figure n_cargo n_load k_there k_used k_hidden k_kind k_figure k_cargo k_load isKept tlen llen out.2.2.2.2.2.2.2.2.1 out.2.2.2.2.2.2.2.2.2.1 out.2.2.2.2.2.2.2.2.2.2.1 out.2.2.2.2.2.2.2.2.2.2.2.1 n_ships n_inn n_coughs n_day k_ships k_inn k_coughs k_day held perm hist) := by
  refine Ct.intro RX4 rfl (plainFor_of_name (by decide)) (Nat.le_of_ble_eq_true rfl) rfl ?_
  intro p e s m args below meth c A C H locs hs ls hl
  obtain ⟨hx, hb, hml, hown, hts, hK, hret, hlk⟩ := id C
  have hl : lv_has ls 6 [(0, .ref (ad 0)), (1, .int p0), (2, .int p1)] := hl
  unfold X4_spared at hf
  refine lv_iload_n hx hb (dk hX4_spared_0 0 rfl) rfl (lv_at hl 1 rfl) ?_
  obtain ⟨u_1, e_2, hf⟩ := Option.bind_eq_some_iff.mp hf
  refine Ct.S (As := [.int p0]) (rest := []) (st1 := [.int u_1]) (w1 := (wT G ad adt adb ade adm adn adk adp adr refusals tcells lcells m_there m_used m_hidden m_kind m_figure m_cargo m_load n_there n_used n_hidden n_kind n_figure n_cargo n_load k_there k_used k_hidden k_kind k_figure k_cargo k_load isKept tlen llen m_ships m_inn m_coughs m_day n_ships n_inn n_coughs n_day k_ships k_inn k_coughs k_day held perm hist)) C hs (c_X4_isGood e_2) tw_387 tw_283 tw_79 tw_284 nq_X4_isGood (by decide) rfl hl.1 rfl (Nat.le_of_ble_eq_true rfl) (dk hX4_spared_0 1 rfl) ⟨Nat.zero_le _, Nat.zero_le _⟩ rfl (fun H locs hs => ?_)
  refine lv_if_ne (tgt := 17) hx hb (dk hX4_spared_0 2 rfl) (by decide) (fun hc => ?_) (fun hc => ?_)
  · replace hf := in_ hf hc
    refine lv_iload_n hx hb (dk hX4_spared_0 9 rfl) rfl (lv_at hl 2 rfl) ?_
    refine lv_iconst (v := (0 : Int32)) hx hb (dk hX4_spared_0 10 rfl) (by decide) ?_
    refine lv_bipush (v := (60 : Int32)) hx hb (dk hX4_spared_0 11 rfl) (by decide) ?_
    obtain ⟨u_3, e_4, hf⟩ := Option.bind_eq_some_iff.mp hf
    refine Ct.S (As := [.int p1, .int (0 : Int32), .int (60 : Int32)]) (rest := []) (st1 := [.int u_3]) (w1 := (wT G ad adt adb ade adm adn adk adp adr refusals tcells lcells m_there m_used m_hidden m_kind m_figure m_cargo m_load n_there n_used n_hidden n_kind n_figure n_cargo n_load k_there k_used k_hidden k_kind k_figure k_cargo k_load isKept tlen llen m_ships m_inn m_coughs m_day n_ships n_inn n_coughs n_day k_ships k_inn k_coughs k_day held perm hist)) C hs (c_X4_misfit e_4) tw_405 tw_305 tw_79 tw_306 nq_X4_misfit (by decide) rfl hl.1 rfl (Nat.le_of_ble_eq_true rfl) (dk hX4_spared_0 12 rfl) ⟨Nat.zero_le _, Nat.zero_le _⟩ rfl (fun H locs hs => ?_)
    refine lv_istore_n (lv' := [(3, .int u_3), (0, .ref (ad 0)), (1, .int p0), (2, .int p1)]) hx hb (dk hX4_spared_0 13 rfl) rfl hl (by decide) rfl (fun ls hl => ?_)
    refine lv_iload_n hx hb (dk hX4_spared_0 14 rfl) rfl (lv_at hl 0 rfl) ?_
    refine lv_if_eq (tgt := 39) hx hb (dk hX4_spared_0 15 rfl) (by decide) (fun hc => ?_) (fun hc => ?_)
    · replace hf := ip hf hc
      refine lv_aload_n hx hb (dk hX4_spared_0 22 rfl) rfl (lv_at hl 1 rfl) ?_
      obtain ⟨u_5, e_6, hf⟩ := Option.bind_eq_some_iff.mp hf
      refine Ct.V (As := []) (rest := []) (st1 := [.ref (adm 0)]) (w1 := (wT G ad adt adb ade adm adn adk adp adr refusals tcells lcells u_5.1 u_5.2.1 u_5.2.2.1 u_5.2.2.2.1 u_5.2.2.2.2.1 u_5.2.2.2.2.2.1 u_5.2.2.2.2.2.2.1 n_there n_used n_hidden n_kind n_figure n_cargo n_load k_there k_used k_hidden k_kind k_figure k_cargo k_load isKept tlen llen u_5.2.2.2.2.2.2.2.1 u_5.2.2.2.2.2.2.2.2.1 u_5.2.2.2.2.2.2.2.2.2.1 u_5.2.2.2.2.2.2.2.2.2.2 n_ships n_inn n_coughs n_day k_ships k_inn k_coughs k_day held perm hist)) C hs (c_X4_fromNow e_6) tw_246 tw_248 tw_1 tw_79 tw_249 nq_X4_fromNow (by decide) 0 4 rfl rfl rfl rfl hl.1 rfl (Nat.le_of_ble_eq_true rfl) (dk hX4_spared_0 23 rfl) ⟨Nat.zero_le _, Nat.zero_le _⟩ rfl (fun H locs hs => ?_)
      refine lv_iload_n hx hb (dk hX4_spared_0 24 rfl) rfl (lv_at hl 3 rfl) ?_
      refine lv_iconst (v := (0 : Int32)) hx hb (dk hX4_spared_0 25 rfl) (by decide) ?_
      obtain ⟨u_7, e_8, hf⟩ := Option.bind_eq_some_iff.mp hf
      refine Ct.V (As := [.int p1, .int (0 : Int32)]) (rest := []) (st1 := [.int u_7.2.2.2.2]) (w1 := (wT G ad adt adb ade adm adn adk adp adr refusals tcells lcells u_7.1 u_5.2.1 u_5.2.2.1 u_5.2.2.2.1 u_5.2.2.2.2.1 u_5.2.2.2.2.2.1 u_5.2.2.2.2.2.2.1 n_there n_used n_hidden n_kind n_figure n_cargo n_load k_there k_used k_hidden k_kind k_figure k_cargo k_load isKept tlen llen u_5.2.2.2.2.2.2.2.1 u_7.2.1 u_7.2.2.1 u_7.2.2.2.1 n_ships n_inn n_coughs n_day k_ships k_inn k_coughs k_day held perm hist)) C hs (c_X0_wantWithin__mind e_8) tw_528 tw_529 tw_530 tw_80 tw_531 nq_X0_wantWithin (by decide) 7 0 rfl rfl rfl rfl hl.1 rfl (Nat.le_of_ble_eq_true rfl) (dk hX4_spared_0 26 rfl) ⟨Nat.zero_le _, Nat.zero_le _⟩ rfl (fun H locs hs => ?_)
      refine lv_istore (lv' := [(4, .int u_7.2.2.2.2), (3, .int u_3), (0, .ref (ad 0)), (1, .int p0), (2, .int p1)]) hx hb (dk hX4_spared_0 27 rfl) hl (by decide) rfl (fun ls hl => ?_)
      refine lv_aload_n hx hb (dk hX4_spared_0 28 rfl) rfl (lv_at hl 2 rfl) ?_
      obtain ⟨u_9, e_10, hf⟩ := Option.bind_eq_some_iff.mp hf
      refine Ct.V (As := []) (rest := []) (st1 := [.ref (adm 0)]) (w1 := (wT G ad adt adb ade adm adn adk adp adr refusals tcells lcells u_9.1 u_9.2.1 u_9.2.2.1 u_9.2.2.2.1 u_9.2.2.2.2.1 u_9.2.2.2.2.2.1 u_9.2.2.2.2.2.2.1 n_there n_used n_hidden n_kind n_figure n_cargo n_load k_there k_used k_hidden k_kind k_figure k_cargo k_load isKept tlen llen u_9.2.2.2.2.2.2.2.1 u_9.2.2.2.2.2.2.2.2.1 u_9.2.2.2.2.2.2.2.2.2.1 u_9.2.2.2.2.2.2.2.2.2.2 n_ships n_inn n_coughs n_day k_ships k_inn k_coughs k_day held perm hist)) C hs (c_X4_fromNow e_10) tw_246 tw_248 tw_1 tw_79 tw_249 nq_X4_fromNow (by decide) 0 4 rfl rfl rfl rfl hl.1 rfl (Nat.le_of_ble_eq_true rfl) (dk hX4_spared_0 29 rfl) ⟨Nat.zero_le _, Nat.zero_le _⟩ rfl (fun H locs hs => ?_)
      refine lv_astore (lv' := [(5, .ref (adm 0)), (4, .int u_7.2.2.2.2), (3, .int u_3), (0, .ref (ad 0)), (1, .int p0), (2, .int p1)]) hx hb (dk hX4_spared_0 30 rfl) hl (by decide) rfl (fun ls hl => ?_)
      refine lv_aload hx hb (dk hX4_spared_0 31 rfl) (lv_at hl 0 rfl) ?_
      refine rg ui0 rfl C hs 7 rfl 0 (by decide) tw_102 rfl rfl (dk hX4_spared_0 32 rfl) ?_
      refine lv_iload_n hx hb (dk hX4_spared_0 33 rfl) rfl (lv_at hl 4 rfl) ?_
      refine lv_bipush (v := (99 : Int32)) hx hb (dk hX4_spared_0 34 rfl) (by decide) ?_
      refine lv_aload hx hb (dk hX4_spared_0 35 rfl) (lv_at hl 0 rfl) ?_
      refine rg ui0 rfl C hs 7 rfl 0 (by decide) tw_102 rfl rfl (dk hX4_spared_0 36 rfl) ?_
      refine lv_iload_n hx hb (dk hX4_spared_0 37 rfl) rfl (lv_at hl 4 rfl) ?_
      obtain ⟨v_11, e_12, hf⟩ := Option.bind_eq_some_iff.mp hf
      refine rild C hs 8 rfl e_12 (dk hX4_spared_0 38 rfl) ?_
      refine lv_aload hx hb (dk hX4_spared_0 39 rfl) (lv_at hl 0 rfl) ?_
      refine rg ui0 rfl C hs 7 rfl 2 (by decide) tw_108 rfl rfl (dk hX4_spared_1 0 rfl) ?_
      refine lv_iload_n hx hb (dk hX4_spared_1 1 rfl) rfl (lv_at hl 4 rfl) ?_
      obtain ⟨v_13, e_14, hf⟩ := Option.bind_eq_some_iff.mp hf
      refine rild C hs 10 rfl e_14 (dk hX4_spared_1 2 rfl) ?_
      refine lv_iadd hx hb (dk hX4_spared_1 3 rfl) ?_
      refine va_mmin hx hb (hml.trans hl.1.symm) hown (hts _ tw_548) (hts _ tw_302) (hts _ tw_84) (hts _ tw_303) (by decide) (Nat.le_of_ble_eq_true rfl) (Nat.zero_le _) (Nat.zero_le _) (dk hX4_spared_1 4 rfl) ?_
      obtain ⟨m_there_15, e_16, hf⟩ := Option.bind_eq_some_iff.mp hf
      refine rist (w1 := (wT G ad adt adb ade adm adn adk adp adr refusals tcells lcells m_there_15 u_9.2.1 u_9.2.2.1 u_9.2.2.2.1 u_9.2.2.2.2.1 u_9.2.2.2.2.2.1 u_9.2.2.2.2.2.2.1 n_there n_used n_hidden n_kind n_figure n_cargo n_load k_there k_used k_hidden k_kind k_figure k_cargo k_load isKept tlen llen u_9.2.2.2.2.2.2.2.1 u_9.2.2.2.2.2.2.2.2.1 u_9.2.2.2.2.2.2.2.2.2.1 u_9.2.2.2.2.2.2.2.2.2.2 n_ships n_inn n_coughs n_day k_ships k_inn k_coughs k_day held perm hist)) C hs 8 rfl e_16 rfl (dk hX4_spared_1 5 rfl) (fun H locs hs => ?_)
      refine lv_aload hx hb (dk hX4_spared_1 6 rfl) (lv_at hl 0 rfl) ?_
      refine rg ui0 rfl C hs 7 rfl 2 (by decide) tw_108 rfl rfl (dk hX4_spared_1 7 rfl) ?_
      refine lv_iload_n hx hb (dk hX4_spared_1 8 rfl) rfl (lv_at hl 4 rfl) ?_
      refine lv_iconst (v := (0 : Int32)) hx hb (dk hX4_spared_1 9 rfl) (by decide) ?_
      obtain ⟨m_hidden_17, e_18, hf⟩ := Option.bind_eq_some_iff.mp hf
      refine rist (w1 := (wT G ad adt adb ade adm adn adk adp adr refusals tcells lcells m_there_15 u_9.2.1 m_hidden_17 u_9.2.2.2.1 u_9.2.2.2.2.1 u_9.2.2.2.2.2.1 u_9.2.2.2.2.2.2.1 n_there n_used n_hidden n_kind n_figure n_cargo n_load k_there k_used k_hidden k_kind k_figure k_cargo k_load isKept tlen llen u_9.2.2.2.2.2.2.2.1 u_9.2.2.2.2.2.2.2.2.1 u_9.2.2.2.2.2.2.2.2.2.1 u_9.2.2.2.2.2.2.2.2.2.2 n_ships n_inn n_coughs n_day k_ships k_inn k_coughs k_day held perm hist)) C hs 10 rfl e_18 rfl (dk hX4_spared_1 10 rfl) (fun H locs hs => ?_)
      refine lv_iload hx hb (dk hX4_spared_1 11 rfl) (lv_at hl 1 rfl) ?_
      refine lv_aload hx hb (dk hX4_spared_1 12 rfl) (lv_at hl 0 rfl) ?_
      refine lv_iload_n hx hb (dk hX4_spared_1 13 rfl) rfl (lv_at hl 5 rfl) ?_
      refine lv_iconst (v := (0 : Int32)) hx hb (dk hX4_spared_1 14 rfl) (by decide) ?_
      obtain ⟨u_19, e_20, hf⟩ := Option.bind_eq_some_iff.mp hf
      refine Ct.V (As := [.int p1, .int (0 : Int32)]) (rest := [.int u_7.2.2.2.2]) (st1 := [.int u_19.2.2.2.2, .int u_7.2.2.2.2]) (w1 := (wT G ad adt adb ade adm adn adk adp adr refusals tcells lcells u_19.1 u_9.2.1 m_hidden_17 u_9.2.2.2.1 u_9.2.2.2.2.1 u_9.2.2.2.2.2.1 u_9.2.2.2.2.2.2.1 n_there n_used n_hidden n_kind n_figure n_cargo n_load k_there k_used k_hidden k_kind k_figure k_cargo k_load isKept tlen llen u_9.2.2.2.2.2.2.2.1 u_19.2.1 u_19.2.2.1 u_19.2.2.2.1 n_ships n_inn n_coughs n_day k_ships k_inn k_coughs k_day held perm hist)) C hs (c_X0_wantWithin__mind e_20) tw_528 tw_529 tw_530 tw_80 tw_531 nq_X0_wantWithin (by decide) 7 0 rfl rfl rfl rfl hl.1 rfl (Nat.le_of_ble_eq_true rfl) (dk hX4_spared_1 15 rfl) ⟨Nat.zero_le _, Nat.zero_le _⟩ rfl (fun H locs hs => ?_)
      refine lv_isub hx hb (dk hX4_spared_1 16 rfl) ?_
      cases hf
      exact ri C hs (dk hX4_spared_1 17 rfl)
    · replace hf := in_ hf hc
      refine lv_ldcw (v := (1000000000 : Int32)) hx hb hown (hts _ tw_655) (dk hX4_spared_0 16 rfl) ?_
      refine lv_aload_n hx hb (dk hX4_spared_0 17 rfl) rfl (lv_at hl 1 rfl) ?_
      refine lv_iload_n hx hb (dk hX4_spared_0 18 rfl) rfl (lv_at hl 0 rfl) ?_
      obtain ⟨u_21, e_22, hf⟩ := Option.bind_eq_some_iff.mp hf
      refine Ct.V (As := [.int u_3]) (rest := [.int (1000000000 : Int32)]) (st1 := [.int u_21.2, .int (1000000000 : Int32)]) (w1 := (wT G ad adt adb ade adm adn adk adp adr u_21.1 tcells lcells m_there m_used m_hidden m_kind m_figure m_cargo m_load n_there n_used n_hidden n_kind n_figure n_cargo n_load k_there k_used k_hidden k_kind k_figure k_cargo k_load isKept tlen llen m_ships m_inn m_coughs m_day n_ships n_inn n_coughs n_day k_ships k_inn k_coughs k_day held perm hist)) C hs (c_X4_refuse e_22) tw_226 tw_228 tw_0 tw_79 tw_229 nq_X4_refuse (by decide) 0 4 rfl rfl rfl rfl hl.1 rfl (Nat.le_of_ble_eq_true rfl) (dk hX4_spared_0 19 rfl) ⟨Nat.zero_le _, Nat.zero_le _⟩ rfl (fun H locs hs => ?_)
      refine lv_isub hx hb (dk hX4_spared_0 20 rfl) ?_
      cases hf
      exact ri C hs (dk hX4_spared_0 21 rfl)
  · replace hf := ip hf hc
    refine lv_ldcw (v := (1000000000 : Int32)) hx hb hown (hts _ tw_655) (dk hX4_spared_0 3 rfl) ?_
    refine lv_aload_n hx hb (dk hX4_spared_0 4 rfl) rfl (lv_at hl 0 rfl) ?_
    refine lv_iconst (v := (-1 : Int32)) hx hb (dk hX4_spared_0 5 rfl) (by decide) ?_
    obtain ⟨u_23, e_24, hf⟩ := Option.bind_eq_some_iff.mp hf
    refine Ct.V (As := [.int (-1 : Int32)]) (rest := [.int (1000000000 : Int32)]) (st1 := [.int u_23.2, .int (1000000000 : Int32)]) (w1 := (wT G ad adt adb ade adm adn adk adp adr u_23.1 tcells lcells m_there m_used m_hidden m_kind m_figure m_cargo m_load n_there n_used n_hidden n_kind n_figure n_cargo n_load k_there k_used k_hidden k_kind k_figure k_cargo k_load isKept tlen llen m_ships m_inn m_coughs m_day n_ships n_inn n_coughs n_day k_ships k_inn k_coughs k_day held perm hist)) C hs (c_X4_refuse e_24) tw_226 tw_228 tw_0 tw_79 tw_229 nq_X4_refuse (by decide) 0 4 rfl rfl rfl rfl hl.1 rfl (Nat.le_of_ble_eq_true rfl) (dk hX4_spared_0 6 rfl) ⟨Nat.zero_le _, Nat.zero_le _⟩ rfl (fun H locs hs => ?_)
    refine lv_isub hx hb (dk hX4_spared_0 7 rfl) ?_
    cases hf
    exact ri C hs (dk hX4_spared_0 8 rfl)

def X4_race (refusals : List Int32) (m_there : List Int32) (m_used : List Int32) (m_hidden : List Int32) (m_kind : List Int32) (m_figure : List Int32) (m_cargo : List Int32) (m_load : List Int32) (n_there : List Int32) (n_used : List Int32) (n_hidden : List Int32) (n_kind : List Int32) (n_figure : List Int32) (n_cargo : List Int32) (n_load : List Int32) (m_ships : Int32) (m_inn : Int32) (m_coughs : Int32) (m_day : Int32) (n_ships : Int32) (n_inn : Int32) (n_coughs : Int32) (n_day : Int32) (p0 : Int32) (p1 : Int32) : Option (List Int32 × List Int32 × List Int32 × List Int32 × List Int32 × List Int32 × List Int32 × List Int32 × Int32 × Int32 × Int32 × Int32 × Int32) :=
  (X0_isShip n_ships p0).bind fun u_1 =>
  if u_1 = (0 : Int32) then
  (X4_refuse refusals (-1 : Int32)).bind fun u_3 =>
  some (u_3.1, m_there, m_used, m_hidden, m_kind, m_figure, m_cargo, m_load, m_ships, m_inn, m_coughs, m_day, u_3.2)
  else
  (X0_isShip n_ships p1).bind fun u_5 =>
  if u_5 = (0 : Int32) then
  (X4_refuse refusals (-1 : Int32)).bind fun u_7 =>
  some (u_7.1, m_there, m_used, m_hidden, m_kind, m_figure, m_cargo, m_load, m_ships, m_inn, m_coughs, m_day, u_7.2)
  else
  if p0 = p1 then
  (X4_refuse refusals (-1 : Int32)).bind fun u_17 =>
  some (u_17.1, m_there, m_used, m_hidden, m_kind, m_figure, m_cargo, m_load, m_ships, m_inn, m_coughs, m_day, u_17.2)
  else
  (X4_fromNow m_there m_used m_hidden m_kind m_figure m_cargo m_load n_there n_used n_hidden n_kind n_figure n_cargo n_load m_ships m_inn m_coughs m_day n_ships n_inn n_coughs n_day).bind fun u_9 =>
  (X0_daysUntilIn u_9.1 u_9.2.1 u_9.2.2.1 u_9.2.2.2.1 u_9.2.2.2.2.1 u_9.2.2.2.2.2.1 u_9.2.2.2.2.2.2.1 u_9.2.2.2.2.2.2.2.1 u_9.2.2.2.2.2.2.2.2.1 u_9.2.2.2.2.2.2.2.2.2.1 u_9.2.2.2.2.2.2.2.2.2.2 (mmin p0 p1) (60 : Int32)).bind fun u_11 =>
  (X4_fromNow u_11.1 u_9.2.1 u_9.2.2.1 u_9.2.2.2.1 u_9.2.2.2.2.1 u_9.2.2.2.2.2.1 u_9.2.2.2.2.2.2.1 n_there n_used n_hidden n_kind n_figure n_cargo n_load u_9.2.2.2.2.2.2.2.1 u_11.2.1 u_11.2.2.1 u_11.2.2.2.1 n_ships n_inn n_coughs n_day).bind fun u_13 =>
  (X0_daysUntilIn u_13.1 u_13.2.1 u_13.2.2.1 u_13.2.2.2.1 u_13.2.2.2.2.1 u_13.2.2.2.2.2.1 u_13.2.2.2.2.2.2.1 u_13.2.2.2.2.2.2.2.1 u_13.2.2.2.2.2.2.2.2.1 u_13.2.2.2.2.2.2.2.2.2.1 u_13.2.2.2.2.2.2.2.2.2.2 (mmax p0 p1) (60 : Int32)).bind fun u_15 =>
  if u_15.2.2.2.2 = (-9 : Int32) then
  if u_11.2.2.2.2 = (-9 : Int32) then
  some (refusals, u_15.1, u_13.2.1, u_13.2.2.1, u_13.2.2.2.1, u_13.2.2.2.2.1, u_13.2.2.2.2.2.1, u_13.2.2.2.2.2.2.1, u_13.2.2.2.2.2.2.2.1, u_15.2.1, u_15.2.2.1, u_15.2.2.2.1, (-9 : Int32))
  else
  some (refusals, u_15.1, u_13.2.1, u_13.2.2.1, u_13.2.2.2.1, u_13.2.2.2.2.1, u_13.2.2.2.2.2.1, u_13.2.2.2.2.2.2.1, u_13.2.2.2.2.2.2.2.1, u_15.2.1, u_15.2.2.1, u_15.2.2.2.1, (mmin p0 p1))
  else
  if u_11.2.2.2.2 = (-9 : Int32) then
  some (refusals, u_15.1, u_13.2.1, u_13.2.2.1, u_13.2.2.2.1, u_13.2.2.2.2.1, u_13.2.2.2.2.2.1, u_13.2.2.2.2.2.2.1, u_13.2.2.2.2.2.2.2.1, u_15.2.1, u_15.2.2.1, u_15.2.2.2.1, (mmax p0 p1))
  else
  if u_15.2.2.2.2 < u_11.2.2.2.2 then
  some (refusals, u_15.1, u_13.2.1, u_13.2.2.1, u_13.2.2.2.1, u_13.2.2.2.2.1, u_13.2.2.2.2.2.1, u_13.2.2.2.2.2.2.1, u_13.2.2.2.2.2.2.2.1, u_15.2.1, u_15.2.2.1, u_15.2.2.2.1, (mmax p0 p1))
  else
  some (refusals, u_15.1, u_13.2.1, u_13.2.2.1, u_13.2.2.2.1, u_13.2.2.2.2.1, u_13.2.2.2.2.2.1, u_13.2.2.2.2.2.2.1, u_13.2.2.2.2.2.2.2.1, u_15.2.1, u_15.2.2.1, u_15.2.2.2.1, (mmin p0 p1))
set_option maxRecDepth 100000 in
set_option maxHeartbeats 4000000 in
theorem c_X4_race {l : Launch} {G : Gx} {ad adt adb ade adm adn adk adp : Nat → Nat} {adr : Nat → Nat → Nat} {refusals tcells lcells m_there m_used m_hidden m_kind m_figure m_cargo m_load n_there n_used n_hidden n_kind n_figure n_cargo n_load k_there k_used k_hidden k_kind k_figure k_cargo k_load : List Int32} {isKept tlen llen m_ships m_inn m_coughs m_day n_ships n_inn n_coughs n_day k_ships k_inn k_coughs k_day held : Int32} {perm : Nat → Nat} {hist : Nat → Hs} {p0 : Int32} {p1 : Int32} {out : List Int32 × List Int32 × List Int32 × List Int32 × List Int32 × List Int32 × List Int32 × List Int32 × Int32 × Int32 × Int32 × Int32 × Int32} (hf : X4_race refusals m_there m_used m_hidden m_kind m_figure m_cargo m_load n_there n_used n_hidden n_kind n_figure n_cargo n_load m_ships m_inn m_coughs m_day n_ships n_inn n_coughs n_day p0 p1 = some out) : Ct l G yX4_race cX4_race 7 (some .int) 5 112 [.ref (ad 0), .int p0, .int p1] (wT G ad adt adb ade adm adn adk adp adr refusals tcells lcells m_there m_used m_hidden m_kind m_figure m_cargo m_load n_there n_used n_hidden n_kind n_figure n_cargo n_load k_there k_used k_hidden k_kind k_figure k_cargo k_load isKept tlen llen m_ships m_inn m_coughs m_day n_ships n_inn n_coughs n_day k_ships k_inn k_coughs k_day held perm hist) (some (.int out.2.2.2.2.2.2.2.2.2.2.2.2)) (wT G ad adt adb ade adm adn adk adp adr out.1 tcells lcells out.2.1 out.2.2.1 out.2.2.2.1 out.2.2.2.2.1 out.2.2.2.2.2.1 out.2.2.2.2.2.2.1 out.2.2.2.2.2.2.2.1 n_there n_used n_hidden n_kind n_figure n_cargo n_load k_there k_used k_hidden k_kind k_figure k_cargo k_load isKept tlen llen out.2.2.2.2.2.2.2.2.1 out.2.2.2.2.2.2.2.2.2.1 out.2.2.2.2.2.2.2.2.2.2.1 out.2.2.2.2.2.2.2.2.2.2.2.1 n_ships n_inn n_coughs n_day k_ships k_inn k_coughs k_day held perm hist) := by
  refine Ct.intro RX4 rfl (plainFor_of_name (by decide)) (Nat.le_of_ble_eq_true rfl) rfl ?_
  intro p e s m args below meth c A C H locs hs ls hl
  obtain ⟨hx, hb, hml, hown, hts, hK, hret, hlk⟩ := id C
  have hl : lv_has ls 7 [(0, .ref (ad 0)), (1, .int p0), (2, .int p1)] := hl
  unfold X4_race at hf
  refine lv_aload_n hx hb (dk hX4_race_0 0 rfl) rfl (lv_at hl 0 rfl) ?_
  refine rg ui4 rfl C hs 0 rfl 0 (by decide) tw_197 rfl rfl (dk hX4_race_0 1 rfl) ?_
  refine lv_iload_n hx hb (dk hX4_race_0 2 rfl) rfl (lv_at hl 1 rfl) ?_
  obtain ⟨u_1, e_2, hf⟩ := Option.bind_eq_some_iff.mp hf
  refine Ct.V (As := [.int p0]) (rest := []) (st1 := [.int u_1]) (w1 := (wT G ad adt adb ade adm adn adk adp adr refusals tcells lcells m_there m_used m_hidden m_kind m_figure m_cargo m_load n_there n_used n_hidden n_kind n_figure n_cargo n_load k_there k_used k_hidden k_kind k_figure k_cargo k_load isKept tlen llen m_ships m_inn m_coughs m_day n_ships n_inn n_coughs n_day k_ships k_inn k_coughs k_day held perm hist)) C hs (c_X0_isShip__now e_2) tw_393 tw_294 tw_295 tw_80 tw_296 nq_X0_isShip (by decide) 15 0 rfl rfl rfl rfl hl.1 rfl (Nat.le_of_ble_eq_true rfl) (dk hX4_race_0 3 rfl) ⟨Nat.zero_le _, Nat.zero_le _⟩ rfl (fun H locs hs => ?_)
  refine lv_if_eq (tgt := 27) hx hb (dk hX4_race_0 4 rfl) (by decide) (fun hc => ?_) (fun hc => ?_)
  · replace hf := ip hf hc
    refine lv_aload_n hx hb (dk hX4_race_0 13 rfl) rfl (lv_at hl 0 rfl) ?_
    refine lv_iconst (v := (-1 : Int32)) hx hb (dk hX4_race_0 14 rfl) (by decide) ?_
    obtain ⟨u_3, e_4, hf⟩ := Option.bind_eq_some_iff.mp hf
    refine Ct.V (As := [.int (-1 : Int32)]) (rest := []) (st1 := [.int u_3.2]) (w1 := (wT G ad adt adb ade adm adn adk adp adr u_3.1 tcells lcells m_there m_used m_hidden m_kind m_figure m_cargo m_load n_there n_used n_hidden n_kind n_figure n_cargo n_load k_there k_used k_hidden k_kind k_figure k_cargo k_load isKept tlen llen m_ships m_inn m_coughs m_day n_ships n_inn n_coughs n_day k_ships k_inn k_coughs k_day held perm hist)) C hs (c_X4_refuse e_4) tw_226 tw_228 tw_0 tw_79 tw_229 nq_X4_refuse (by decide) 0 4 rfl rfl rfl rfl hl.1 rfl (Nat.le_of_ble_eq_true rfl) (dk hX4_race_0 15 rfl) ⟨Nat.zero_le _, Nat.zero_le _⟩ rfl (fun H locs hs => ?_)
    cases hf
    exact ri C hs (dk hX4_race_0 16 rfl)
  · replace hf := in_ hf hc
    refine lv_aload_n hx hb (dk hX4_race_0 5 rfl) rfl (lv_at hl 0 rfl) ?_
    refine rg ui4 rfl C hs 0 rfl 0 (by decide) tw_197 rfl rfl (dk hX4_race_0 6 rfl) ?_
    refine lv_iload_n hx hb (dk hX4_race_0 7 rfl) rfl (lv_at hl 2 rfl) ?_
    obtain ⟨u_5, e_6, hf⟩ := Option.bind_eq_some_iff.mp hf
    refine Ct.V (As := [.int p1]) (rest := []) (st1 := [.int u_5]) (w1 := (wT G ad adt adb ade adm adn adk adp adr refusals tcells lcells m_there m_used m_hidden m_kind m_figure m_cargo m_load n_there n_used n_hidden n_kind n_figure n_cargo n_load k_there k_used k_hidden k_kind k_figure k_cargo k_load isKept tlen llen m_ships m_inn m_coughs m_day n_ships n_inn n_coughs n_day k_ships k_inn k_coughs k_day held perm hist)) C hs (c_X0_isShip__now e_6) tw_393 tw_294 tw_295 tw_80 tw_296 nq_X0_isShip (by decide) 15 0 rfl rfl rfl rfl hl.1 rfl (Nat.le_of_ble_eq_true rfl) (dk hX4_race_0 8 rfl) ⟨Nat.zero_le _, Nat.zero_le _⟩ rfl (fun H locs hs => ?_)
    refine lv_if_eq (tgt := 27) hx hb (dk hX4_race_0 9 rfl) (by decide) (fun hc => ?_) (fun hc => ?_)
    · replace hf := ip hf hc
      refine lv_aload_n hx hb (dk hX4_race_0 13 rfl) rfl (lv_at hl 0 rfl) ?_
      refine lv_iconst (v := (-1 : Int32)) hx hb (dk hX4_race_0 14 rfl) (by decide) ?_
      obtain ⟨u_7, e_8, hf⟩ := Option.bind_eq_some_iff.mp hf
      refine Ct.V (As := [.int (-1 : Int32)]) (rest := []) (st1 := [.int u_7.2]) (w1 := (wT G ad adt adb ade adm adn adk adp adr u_7.1 tcells lcells m_there m_used m_hidden m_kind m_figure m_cargo m_load n_there n_used n_hidden n_kind n_figure n_cargo n_load k_there k_used k_hidden k_kind k_figure k_cargo k_load isKept tlen llen m_ships m_inn m_coughs m_day n_ships n_inn n_coughs n_day k_ships k_inn k_coughs k_day held perm hist)) C hs (c_X4_refuse e_8) tw_226 tw_228 tw_0 tw_79 tw_229 nq_X4_refuse (by decide) 0 4 rfl rfl rfl rfl hl.1 rfl (Nat.le_of_ble_eq_true rfl) (dk hX4_race_0 15 rfl) ⟨Nat.zero_le _, Nat.zero_le _⟩ rfl (fun H locs hs => ?_)
      cases hf
      exact ri C hs (dk hX4_race_0 16 rfl)
    · replace hf := in_ hf hc
      refine lv_iload_n hx hb (dk hX4_race_0 10 rfl) rfl (lv_at hl 1 rfl) ?_
      refine lv_iload_n hx hb (dk hX4_race_0 11 rfl) rfl (lv_at hl 2 rfl) ?_
      refine lv_icmp_ne (tgt := 33) hx hb (dk hX4_race_0 12 rfl) (by decide) (fun hc => ?_) (fun hc => ?_)
      · replace hf := in_ hf hc
        refine lv_iload_n hx hb (dk hX4_race_0 17 rfl) rfl (lv_at hl 1 rfl) ?_
        refine lv_iload_n hx hb (dk hX4_race_0 18 rfl) rfl (lv_at hl 2 rfl) ?_
        refine va_mmin hx hb (hml.trans hl.1.symm) hown (hts _ tw_548) (hts _ tw_302) (hts _ tw_84) (hts _ tw_303) (by decide) (Nat.le_of_ble_eq_true rfl) (Nat.zero_le _) (Nat.zero_le _) (dk hX4_race_0 19 rfl) ?_
        refine lv_istore_n (lv' := [(3, .int (mmin p0 p1)), (0, .ref (ad 0)), (1, .int p0), (2, .int p1)]) hx hb (dk hX4_race_0 20 rfl) rfl hl (by decide) rfl (fun ls hl => ?_)
        refine lv_iload_n hx hb (dk hX4_race_0 21 rfl) rfl (lv_at hl 2 rfl) ?_
        refine lv_iload_n hx hb (dk hX4_race_0 22 rfl) rfl (lv_at hl 3 rfl) ?_
        refine va_mmax hx hb (hml.trans hl.1.symm) hown (hts _ tw_628) (hts _ tw_181) (hts _ tw_84) (hts _ tw_182) (by decide) (Nat.le_of_ble_eq_true rfl) (Nat.zero_le _) (Nat.zero_le _) (dk hX4_race_0 23 rfl) ?_
        refine lv_istore (lv' := [(4, .int (mmax p0 p1)), (3, .int (mmin p0 p1)), (0, .ref (ad 0)), (1, .int p0), (2, .int p1)]) hx hb (dk hX4_race_0 24 rfl) hl (by decide) rfl (fun ls hl => ?_)
        refine lv_aload_n hx hb (dk hX4_race_0 25 rfl) rfl (lv_at hl 2 rfl) ?_
        obtain ⟨u_9, e_10, hf⟩ := Option.bind_eq_some_iff.mp hf
        refine Ct.V (As := []) (rest := []) (st1 := [.ref (adm 0)]) (w1 := (wT G ad adt adb ade adm adn adk adp adr refusals tcells lcells u_9.1 u_9.2.1 u_9.2.2.1 u_9.2.2.2.1 u_9.2.2.2.2.1 u_9.2.2.2.2.2.1 u_9.2.2.2.2.2.2.1 n_there n_used n_hidden n_kind n_figure n_cargo n_load k_there k_used k_hidden k_kind k_figure k_cargo k_load isKept tlen llen u_9.2.2.2.2.2.2.2.1 u_9.2.2.2.2.2.2.2.2.1 u_9.2.2.2.2.2.2.2.2.2.1 u_9.2.2.2.2.2.2.2.2.2.2 n_ships n_inn n_coughs n_day k_ships k_inn k_coughs k_day held perm hist)) C hs (c_X4_fromNow e_10) tw_246 tw_248 tw_1 tw_79 tw_249 nq_X4_fromNow (by decide) 0 4 rfl rfl rfl rfl hl.1 rfl (Nat.le_of_ble_eq_true rfl) (dk hX4_race_0 26 rfl) ⟨Nat.zero_le _, Nat.zero_le _⟩ rfl (fun H locs hs => ?_)
        refine lv_iload_n hx hb (dk hX4_race_0 27 rfl) rfl (lv_at hl 1 rfl) ?_
        refine lv_bipush (v := (60 : Int32)) hx hb (dk hX4_race_0 28 rfl) (by decide) ?_
        obtain ⟨u_11, e_12, hf⟩ := Option.bind_eq_some_iff.mp hf
        refine Ct.V (As := [.int (mmin p0 p1), .int (60 : Int32)]) (rest := []) (st1 := [.int u_11.2.2.2.2]) (w1 := (wT G ad adt adb ade adm adn adk adp adr refusals tcells lcells u_11.1 u_9.2.1 u_9.2.2.1 u_9.2.2.2.1 u_9.2.2.2.2.1 u_9.2.2.2.2.2.1 u_9.2.2.2.2.2.2.1 n_there n_used n_hidden n_kind n_figure n_cargo n_load k_there k_used k_hidden k_kind k_figure k_cargo k_load isKept tlen llen u_9.2.2.2.2.2.2.2.1 u_11.2.1 u_11.2.2.1 u_11.2.2.2.1 n_ships n_inn n_coughs n_day k_ships k_inn k_coughs k_day held perm hist)) C hs (c_X0_daysUntilIn__mind e_12) tw_480 tw_481 tw_482 tw_80 tw_483 nq_X0_daysUntilIn (by decide) 7 0 rfl rfl rfl rfl hl.1 rfl (Nat.le_of_ble_eq_true rfl) (dk hX4_race_0 29 rfl) ⟨Nat.zero_le _, Nat.zero_le _⟩ rfl (fun H locs hs => ?_)
        refine lv_istore (lv' := [(5, .int u_11.2.2.2.2), (4, .int (mmax p0 p1)), (3, .int (mmin p0 p1)), (0, .ref (ad 0)), (1, .int p0), (2, .int p1)]) hx hb (dk hX4_race_0 30 rfl) hl (by decide) rfl (fun ls hl => ?_)
        refine lv_aload_n hx hb (dk hX4_race_0 31 rfl) rfl (lv_at hl 3 rfl) ?_
        obtain ⟨u_13, e_14, hf⟩ := Option.bind_eq_some_iff.mp hf
        refine Ct.V (As := []) (rest := []) (st1 := [.ref (adm 0)]) (w1 := (wT G ad adt adb ade adm adn adk adp adr refusals tcells lcells u_13.1 u_13.2.1 u_13.2.2.1 u_13.2.2.2.1 u_13.2.2.2.2.1 u_13.2.2.2.2.2.1 u_13.2.2.2.2.2.2.1 n_there n_used n_hidden n_kind n_figure n_cargo n_load k_there k_used k_hidden k_kind k_figure k_cargo k_load isKept tlen llen u_13.2.2.2.2.2.2.2.1 u_13.2.2.2.2.2.2.2.2.1 u_13.2.2.2.2.2.2.2.2.2.1 u_13.2.2.2.2.2.2.2.2.2.2 n_ships n_inn n_coughs n_day k_ships k_inn k_coughs k_day held perm hist)) C hs (c_X4_fromNow e_14) tw_246 tw_248 tw_1 tw_79 tw_249 nq_X4_fromNow (by decide) 0 4 rfl rfl rfl rfl hl.1 rfl (Nat.le_of_ble_eq_true rfl) (dk hX4_race_0 32 rfl) ⟨Nat.zero_le _, Nat.zero_le _⟩ rfl (fun H locs hs => ?_)
        refine lv_iload hx hb (dk hX4_race_0 33 rfl) (lv_at hl 1 rfl) ?_
        refine lv_bipush (v := (60 : Int32)) hx hb (dk hX4_race_0 34 rfl) (by decide) ?_
        obtain ⟨u_15, e_16, hf⟩ := Option.bind_eq_some_iff.mp hf
        refine Ct.V (As := [.int (mmax p0 p1), .int (60 : Int32)]) (rest := []) (st1 := [.int u_15.2.2.2.2]) (w1 := (wT G ad adt adb ade adm adn adk adp adr refusals tcells lcells u_15.1 u_13.2.1 u_13.2.2.1 u_13.2.2.2.1 u_13.2.2.2.2.1 u_13.2.2.2.2.2.1 u_13.2.2.2.2.2.2.1 n_there n_used n_hidden n_kind n_figure n_cargo n_load k_there k_used k_hidden k_kind k_figure k_cargo k_load isKept tlen llen u_13.2.2.2.2.2.2.2.1 u_15.2.1 u_15.2.2.1 u_15.2.2.2.1 n_ships n_inn n_coughs n_day k_ships k_inn k_coughs k_day held perm hist)) C hs (c_X0_daysUntilIn__mind e_16) tw_480 tw_481 tw_482 tw_80 tw_483 nq_X0_daysUntilIn (by decide) 7 0 rfl rfl rfl rfl hl.1 rfl (Nat.le_of_ble_eq_true rfl) (dk hX4_race_0 35 rfl) ⟨Nat.zero_le _, Nat.zero_le _⟩ rfl (fun H locs hs => ?_)
        refine lv_istore (lv' := [(6, .int u_15.2.2.2.2), (5, .int u_11.2.2.2.2), (4, .int (mmax p0 p1)), (3, .int (mmin p0 p1)), (0, .ref (ad 0)), (1, .int p0), (2, .int p1)]) hx hb (dk hX4_race_0 36 rfl) hl (by decide) rfl (fun ls hl => ?_)
        refine lv_iload hx hb (dk hX4_race_0 37 rfl) (lv_at hl 0 rfl) ?_
        refine lv_bipush (v := (-9 : Int32)) hx hb (dk hX4_race_0 38 rfl) (by decide) ?_
        refine lv_icmp_ne (tgt := 92) hx hb (dk hX4_race_0 39 rfl) (by decide) (fun hc => ?_) (fun hc => ?_)
        · replace hf := in_ hf hc
          refine lv_iload hx hb (dk hX4_race_1 7 rfl) (lv_at hl 1 rfl) ?_
          refine lv_bipush (v := (-9 : Int32)) hx hb (dk hX4_race_1 8 rfl) (by decide) ?_
          refine lv_icmp_eq (tgt := 110) hx hb (dk hX4_race_1 9 rfl) (by decide) (fun hc => ?_) (fun hc => ?_)
          · replace hf := ip hf hc
            refine lv_iload hx hb (dk hX4_race_1 15 rfl) (lv_at hl 2 rfl) ?_
            cases hf
            exact ri C hs (dk hX4_race_1 16 rfl)
          · replace hf := in_ hf hc
            refine lv_iload hx hb (dk hX4_race_1 10 rfl) (lv_at hl 1 rfl) ?_
            refine lv_iload hx hb (dk hX4_race_1 11 rfl) (lv_at hl 0 rfl) ?_
            refine lv_icmp_gt (tgt := 110) hx hb (dk hX4_race_1 12 rfl) (by decide) (fun hc => ?_) (fun hc => ?_)
            · replace hf := ip hf hc
              refine lv_iload hx hb (dk hX4_race_1 15 rfl) (lv_at hl 2 rfl) ?_
              cases hf
              exact ri C hs (dk hX4_race_1 16 rfl)
            · replace hf := in_ hf hc
              refine lv_iload_n hx hb (dk hX4_race_1 13 rfl) rfl (lv_at hl 3 rfl) ?_
              refine lv_goto (tgt := 112) hx hb (dk hX4_race_1 14 rfl) (by decide) ?_
              cases hf
              exact ri C hs (dk hX4_race_1 16 rfl)
        · replace hf := ip hf hc
          refine lv_iload hx hb (dk hX4_race_1 0 rfl) (lv_at hl 1 rfl) ?_
          refine lv_bipush (v := (-9 : Int32)) hx hb (dk hX4_race_1 1 rfl) (by decide) ?_
          refine lv_icmp_ne (tgt := 90) hx hb (dk hX4_race_1 2 rfl) (by decide) (fun hc => ?_) (fun hc => ?_)
          · replace hf := in_ hf hc
            refine lv_iload_n hx hb (dk hX4_race_1 5 rfl) rfl (lv_at hl 3 rfl) ?_
            cases hf
            exact ri C hs (dk hX4_race_1 6 rfl)
          · replace hf := ip hf hc
            refine lv_bipush (v := (-9 : Int32)) hx hb (dk hX4_race_1 3 rfl) (by decide) ?_
            refine lv_goto (tgt := 91) hx hb (dk hX4_race_1 4 rfl) (by decide) ?_
            cases hf
            exact ri C hs (dk hX4_race_1 6 rfl)
      · replace hf := ip hf hc
        refine lv_aload_n hx hb (dk hX4_race_0 13 rfl) rfl (lv_at hl 0 rfl) ?_
        refine lv_iconst (v := (-1 : Int32)) hx hb (dk hX4_race_0 14 rfl) (by decide) ?_
        obtain ⟨u_17, e_18, hf⟩ := Option.bind_eq_some_iff.mp hf
        refine Ct.V (As := [.int (-1 : Int32)]) (rest := []) (st1 := [.int u_17.2]) (w1 := (wT G ad adt adb ade adm adn adk adp adr u_17.1 tcells lcells m_there m_used m_hidden m_kind m_figure m_cargo m_load n_there n_used n_hidden n_kind n_figure n_cargo n_load k_there k_used k_hidden k_kind k_figure k_cargo k_load isKept tlen llen m_ships m_inn m_coughs m_day n_ships n_inn n_coughs n_day k_ships k_inn k_coughs k_day held perm hist)) C hs (c_X4_refuse e_18) tw_226 tw_228 tw_0 tw_79 tw_229 nq_X4_refuse (by decide) 0 4 rfl rfl rfl rfl hl.1 rfl (Nat.le_of_ble_eq_true rfl) (dk hX4_race_0 15 rfl) ⟨Nat.zero_le _, Nat.zero_le _⟩ rfl (fun H locs hs => ?_)
        cases hf
        exact ri C hs (dk hX4_race_0 16 rfl)

def X4_row (refusals : List Int32) (tcells : List Int32) (tlen : Int32) (p0 : Int32) : Option (List Int32 × List Int32 × Int32 × Int32) :=
  (X4_misfit p0 (0 : Int32) (99 : Int32)).bind fun u_1 =>
  if u_1 = (0 : Int32) then
  (X1_isFull tcells tlen).bind fun u_3 =>
  if u_3 = (0 : Int32) then
  (X1_add tcells tlen p0).bind fun u_5 =>
  (X1_length u_5.2).bind fun u_7 =>
  some (refusals, u_5.1, u_5.2, u_7)
  else
  (X4_refuse refusals (-6 : Int32)).bind fun u_9 =>
  some (u_9.1, tcells, tlen, u_9.2)
  else
  (X4_refuse refusals u_1).bind fun u_11 =>
  some (u_11.1, tcells, tlen, u_11.2)
set_option maxRecDepth 100000 in
set_option maxHeartbeats 4000000 in
theorem c_X4_row {l : Launch} {G : Gx} {ad adt adb ade adm adn adk adp : Nat → Nat} {adr : Nat → Nat → Nat} {refusals tcells lcells m_there m_used m_hidden m_kind m_figure m_cargo m_load n_there n_used n_hidden n_kind n_figure n_cargo n_load k_there k_used k_hidden k_kind k_figure k_cargo k_load : List Int32} {isKept tlen llen m_ships m_inn m_coughs m_day n_ships n_inn n_coughs n_day k_ships k_inn k_coughs k_day held : Int32} {perm : Nat → Nat} {hist : Nat → Hs} {p0 : Int32} {out : List Int32 × List Int32 × Int32 × Int32} (hf : X4_row refusals tcells tlen p0 = some out) : Ct l G yX4_row cX4_row 3 (some .int) 1 22 [.ref (ad 0), .int p0] (wT G ad adt adb ade adm adn adk adp adr refusals tcells lcells m_there m_used m_hidden m_kind m_figure m_cargo m_load n_there n_used n_hidden n_kind n_figure n_cargo n_load k_there k_used k_hidden k_kind k_figure k_cargo k_load isKept tlen llen m_ships m_inn m_coughs m_day n_ships n_inn n_coughs n_day k_ships k_inn k_coughs k_day held perm hist) (some (.int out.2.2.2)) (wT G ad adt adb ade adm adn adk adp adr out.1 out.2.1 lcells m_there m_used m_hidden m_kind m_figure m_cargo m_load n_there n_used n_hidden n_kind n_figure n_cargo n_load k_there k_used k_hidden k_kind k_figure k_cargo k_load isKept out.2.2.1 llen m_ships m_inn m_coughs m_day n_ships n_inn n_coughs n_day k_ships k_inn k_coughs k_day held perm hist) := by
  refine Ct.intro RX4 rfl (plainFor_of_name (by decide)) (Nat.le_of_ble_eq_true rfl) rfl ?_
  intro p e s m args below meth c A C H locs hs ls hl
  obtain ⟨hx, hb, hml, hown, hts, hK, hret, hlk⟩ := id C
  have hl : lv_has ls 3 [(0, .ref (ad 0)), (1, .int p0)] := hl
  unfold X4_row at hf
  refine lv_iload_n hx hb (dk hX4_row_0 0 rfl) rfl (lv_at hl 1 rfl) ?_
  refine lv_iconst (v := (0 : Int32)) hx hb (dk hX4_row_0 1 rfl) (by decide) ?_
  refine lv_bipush (v := (99 : Int32)) hx hb (dk hX4_row_0 2 rfl) (by decide) ?_
  obtain ⟨u_1, e_2, hf⟩ := Option.bind_eq_some_iff.mp hf
  refine Ct.S (As := [.int p0, .int (0 : Int32), .int (99 : Int32)]) (rest := []) (st1 := [.int u_1]) (w1 := (wT G ad adt adb ade adm adn adk adp adr refusals tcells lcells m_there m_used m_hidden m_kind m_figure m_cargo m_load n_there n_used n_hidden n_kind n_figure n_cargo n_load k_there k_used k_hidden k_kind k_figure k_cargo k_load isKept tlen llen m_ships m_inn m_coughs m_day n_ships n_inn n_coughs n_day k_ships k_inn k_coughs k_day held perm hist)) C hs (c_X4_misfit e_2) tw_405 tw_305 tw_79 tw_306 nq_X4_misfit (by decide) rfl hl.1 rfl (Nat.le_of_ble_eq_true rfl) (dk hX4_row_0 3 rfl) ⟨Nat.zero_le _, Nat.zero_le _⟩ rfl (fun H locs hs => ?_)
  refine lv_istore_n (lv' := [(2, .int u_1), (0, .ref (ad 0)), (1, .int p0)]) hx hb (dk hX4_row_0 4 rfl) rfl hl (by decide) rfl (fun ls hl => ?_)
  refine lv_iload_n hx hb (dk hX4_row_0 5 rfl) rfl (lv_at hl 0 rfl) ?_
  refine lv_if_eq (tgt := 18) hx hb (dk hX4_row_0 6 rfl) (by decide) (fun hc => ?_) (fun hc => ?_)
  · replace hf := ip hf hc
    refine lv_aload_n hx hb (dk hX4_row_0 11 rfl) rfl (lv_at hl 1 rfl) ?_
    refine rg ui4 rfl C hs 0 rfl 5 (by decide) tw_202 rfl rfl (dk hX4_row_0 12 rfl) ?_
    obtain ⟨u_3, e_4, hf⟩ := Option.bind_eq_some_iff.mp hf
    refine Ct.V (As := []) (rest := []) (st1 := [.int u_3]) (w1 := (wT G ad adt adb ade adm adn adk adp adr refusals tcells lcells m_there m_used m_hidden m_kind m_figure m_cargo m_load n_there n_used n_hidden n_kind n_figure n_cargo n_load k_there k_used k_hidden k_kind k_figure k_cargo k_load isKept tlen llen m_ships m_inn m_coughs m_day n_ships n_inn n_coughs n_day k_ships k_inn k_coughs k_day held perm hist)) C hs (c_X1_isFull__told e_4) tw_230 tw_231 tw_232 tw_83 tw_233 nq_X1_isFull (by decide) 2 1 rfl rfl rfl rfl hl.1 rfl (Nat.le_of_ble_eq_true rfl) (dk hX4_row_0 13 rfl) ⟨Nat.zero_le _, Nat.zero_le _⟩ rfl (fun H locs hs => ?_)
    refine lv_if_eq (tgt := 35) hx hb (dk hX4_row_0 14 rfl) (by decide) (fun hc => ?_) (fun hc => ?_)
    · replace hf := ip hf hc
      refine lv_aload_n hx hb (dk hX4_row_0 19 rfl) rfl (lv_at hl 1 rfl) ?_
      refine rg ui4 rfl C hs 0 rfl 5 (by decide) tw_202 rfl rfl (dk hX4_row_0 20 rfl) ?_
      refine lv_iload_n hx hb (dk hX4_row_0 21 rfl) rfl (lv_at hl 2 rfl) ?_
      obtain ⟨u_5, e_6, hf⟩ := Option.bind_eq_some_iff.mp hf
      refine Ct.V (As := [.int p0]) (rest := []) (st1 := []) (w1 := (wT G ad adt adb ade adm adn adk adp adr refusals u_5.1 lcells m_there m_used m_hidden m_kind m_figure m_cargo m_load n_there n_used n_hidden n_kind n_figure n_cargo n_load k_there k_used k_hidden k_kind k_figure k_cargo k_load isKept u_5.2 llen m_ships m_inn m_coughs m_day n_ships n_inn n_coughs n_day k_ships k_inn k_coughs k_day held perm hist)) C hs (c_X1_add__told e_6) tw_234 tw_235 tw_236 tw_83 tw_237 nq_X1_add (by decide) 2 1 rfl rfl rfl rfl hl.1 rfl (Nat.le_of_ble_eq_true rfl) (dk hX4_row_0 22 rfl) ⟨Nat.zero_le _, Nat.zero_le _⟩ rfl (fun H locs hs => ?_)
      refine lv_aload_n hx hb (dk hX4_row_0 23 rfl) rfl (lv_at hl 1 rfl) ?_
      refine rg ui4 rfl C hs 0 rfl 5 (by decide) tw_202 rfl rfl (dk hX4_row_0 24 rfl) ?_
      obtain ⟨u_7, e_8, hf⟩ := Option.bind_eq_some_iff.mp hf
      refine Ct.V (As := []) (rest := []) (st1 := [.int u_7]) (w1 := (wT G ad adt adb ade adm adn adk adp adr refusals u_5.1 lcells m_there m_used m_hidden m_kind m_figure m_cargo m_load n_there n_used n_hidden n_kind n_figure n_cargo n_load k_there k_used k_hidden k_kind k_figure k_cargo k_load isKept u_5.2 llen m_ships m_inn m_coughs m_day n_ships n_inn n_coughs n_day k_ships k_inn k_coughs k_day held perm hist)) C hs (c_X1_length__told e_8) tw_238 tw_239 tw_240 tw_83 tw_241 nq_X1_length (by decide) 2 1 rfl rfl rfl rfl hl.1 rfl (Nat.le_of_ble_eq_true rfl) (dk hX4_row_0 25 rfl) ⟨Nat.zero_le _, Nat.zero_le _⟩ rfl (fun H locs hs => ?_)
      cases hf
      exact ri C hs (dk hX4_row_0 26 rfl)
    · replace hf := in_ hf hc
      refine lv_aload_n hx hb (dk hX4_row_0 15 rfl) rfl (lv_at hl 1 rfl) ?_
      refine lv_bipush (v := (-6 : Int32)) hx hb (dk hX4_row_0 16 rfl) (by decide) ?_
      obtain ⟨u_9, e_10, hf⟩ := Option.bind_eq_some_iff.mp hf
      refine Ct.V (As := [.int (-6 : Int32)]) (rest := []) (st1 := [.int u_9.2]) (w1 := (wT G ad adt adb ade adm adn adk adp adr u_9.1 tcells lcells m_there m_used m_hidden m_kind m_figure m_cargo m_load n_there n_used n_hidden n_kind n_figure n_cargo n_load k_there k_used k_hidden k_kind k_figure k_cargo k_load isKept tlen llen m_ships m_inn m_coughs m_day n_ships n_inn n_coughs n_day k_ships k_inn k_coughs k_day held perm hist)) C hs (c_X4_refuse e_10) tw_226 tw_228 tw_0 tw_79 tw_229 nq_X4_refuse (by decide) 0 4 rfl rfl rfl rfl hl.1 rfl (Nat.le_of_ble_eq_true rfl) (dk hX4_row_0 17 rfl) ⟨Nat.zero_le _, Nat.zero_le _⟩ rfl (fun H locs hs => ?_)
      cases hf
      exact ri C hs (dk hX4_row_0 18 rfl)
  · replace hf := in_ hf hc
    refine lv_aload_n hx hb (dk hX4_row_0 7 rfl) rfl (lv_at hl 1 rfl) ?_
    refine lv_iload_n hx hb (dk hX4_row_0 8 rfl) rfl (lv_at hl 0 rfl) ?_
    obtain ⟨u_11, e_12, hf⟩ := Option.bind_eq_some_iff.mp hf
    refine Ct.V (As := [.int u_1]) (rest := []) (st1 := [.int u_11.2]) (w1 := (wT G ad adt adb ade adm adn adk adp adr u_11.1 tcells lcells m_there m_used m_hidden m_kind m_figure m_cargo m_load n_there n_used n_hidden n_kind n_figure n_cargo n_load k_there k_used k_hidden k_kind k_figure k_cargo k_load isKept tlen llen m_ships m_inn m_coughs m_day n_ships n_inn n_coughs n_day k_ships k_inn k_coughs k_day held perm hist)) C hs (c_X4_refuse e_12) tw_226 tw_228 tw_0 tw_79 tw_229 nq_X4_refuse (by decide) 0 4 rfl rfl rfl rfl hl.1 rfl (Nat.le_of_ble_eq_true rfl) (dk hX4_row_0 9 rfl) ⟨Nat.zero_le _, Nat.zero_le _⟩ rfl (fun H locs hs => ?_)
    cases hf
    exact ri C hs (dk hX4_row_0 10 rfl)

def X4_judge_L5 (k : Int32 → Option (Int32 × Int32)) (tcells : List Int32) (n_there : List Int32) (n_used : List Int32) (n_hidden : List Int32) (n_kind : List Int32) (n_cargo : List Int32) (tlen : Int32) (n_ships : Int32) (n_coughs : Int32) (n_day : Int32) : Nat → Int32 → Int32 → Option (Int32 × Int32)
  | 0, _, _ => none
  | n + 1, x1, x2 =>
  (X1_length tlen).bind fun u_1 =>
  if u_1 ≤ x2 then
  k x1
  else
  if x1 = (-9 : Int32) then
  (X0_isShip n_ships x2).bind fun u_3 =>
  if u_3 = (0 : Int32) then
  X4_judge_L5 k tcells n_there n_used n_hidden n_kind n_cargo tlen n_ships n_coughs n_day n x2 (x2 + (1 : Int32))
  else
  (X0_depth n_there n_used n_hidden n_kind n_cargo n_coughs n_day x2).bind fun u_5 =>
  (X1_at tcells tlen x2).bind fun u_7 =>
  if u_5 = u_7 then
  X4_judge_L5 k tcells n_there n_used n_hidden n_kind n_cargo tlen n_ships n_coughs n_day n x1 (x2 + (1 : Int32))
  else
  X4_judge_L5 k tcells n_there n_used n_hidden n_kind n_cargo tlen n_ships n_coughs n_day n x2 (x2 + (1 : Int32))
  else
  k x1
def X4_judge (tcells : List Int32) (n_there : List Int32) (n_used : List Int32) (n_hidden : List Int32) (n_kind : List Int32) (n_cargo : List Int32) (tlen : Int32) (n_ships : Int32) (n_coughs : Int32) (n_day : Int32) : Option (Int32 × Int32) :=
  X4_judge_L5 (fun y1_9 =>
  (X1_drop tlen).bind fun u_10 =>
  some (u_10, y1_9)) tcells n_there n_used n_hidden n_kind n_cargo tlen n_ships n_coughs n_day 1000 (-9 : Int32) (0 : Int32)
set_option maxRecDepth 100000 in
set_option maxHeartbeats 4000000 in
theorem l_X4_judge_L5 {l : Launch} {p : Program} {e : Env} {s : State} {m : MethodId} {args : Array Value} {below : List Frame} {meth : Method} {c : Code} {A : Nat → Prop} {G : Gx} {ad adt adb ade adm adn adk adp : Nat → Nat} {adr : Nat → Nat → Nat} {refusals tcells lcells m_there m_used m_hidden m_kind m_figure m_cargo m_load n_there n_used n_hidden n_kind n_figure n_cargo n_load k_there k_used k_hidden k_kind k_figure k_cargo k_load : List Int32} {isKept tlen llen m_ships m_inn m_coughs m_day n_ships n_inn n_coughs n_day k_ships k_inn k_coughs k_day held : Int32} {perm : Nat → Nat} {hist : Nat → Hs} {k : Int32 → Option (Int32 × Int32)} {out : Int32 × Int32} (C : Cx p s m args meth c cX4_judge RX4 3 (some .int) G) : ∀ (n : Nat) (x1 : Int32) (x2 : Int32), X4_judge_L5 k tcells n_there n_used n_hidden n_kind n_cargo tlen n_ships n_coughs n_day n x1 x2 = some out → ∀ (H : Heap) (locs : List Loc), St G A s.heap H locs (wT G ad adt adb ade adm adn adk adp adr refusals tcells lcells m_there m_used m_hidden m_kind m_figure m_cargo m_load n_there n_used n_hidden n_kind n_figure n_cargo n_load k_there k_used k_hidden k_kind k_figure k_cargo k_load isKept tlen llen m_ships m_inn m_coughs m_day n_ships n_inn n_coughs n_day k_ships k_inn k_coughs k_day held perm hist) → ∀ ls : Array Slot, lv_has ls 3 [(0, .ref (ad 0)), (1, .int x1), (2, .int x2)] → (∀ (y1 : Int32), k y1 = some out → ∀ (H : Heap) (locs : List Loc), St G A s.heap H locs (wT G ad adt adb ade adm adn adk adp adr refusals tcells lcells m_there m_used m_hidden m_kind m_figure m_cargo m_load n_there n_used n_hidden n_kind n_figure n_cargo n_load k_there k_used k_hidden k_kind k_figure k_cargo k_load isKept tlen llen m_ships m_inn m_coughs m_day n_ships n_inn n_coughs n_day k_ships k_inn k_coughs k_day held perm hist) → ∀ ls : Array Slot, lv_has ls 3 [(0, .ref (ad 0)), (1, .int y1)] → W p l e (rmOf 4 87) s m args below meth c H locs 0 0 (MQ below (Qof G A (some (.int out.2)) (wT G ad adt adb ade adm adn adk adp adr refusals tcells lcells m_there m_used m_hidden m_kind m_figure m_cargo m_load n_there n_used n_hidden n_kind n_figure n_cargo n_load k_there k_used k_hidden k_kind k_figure k_cargo k_load isKept out.1 llen m_ships m_inn m_coughs m_day n_ships n_inn n_coughs n_day k_ships k_inn k_coughs k_day held perm hist)) args s 0 0 A) (F0 m 60 ls [])) → W p l e (rmOf 4 87) s m args below meth c H locs 0 0 (MQ below (Qof G A (some (.int out.2)) (wT G ad adt adb ade adm adn adk adp adr refusals tcells lcells m_there m_used m_hidden m_kind m_figure m_cargo m_load n_there n_used n_hidden n_kind n_figure n_cargo n_load k_there k_used k_hidden k_kind k_figure k_cargo k_load isKept out.1 llen m_ships m_inn m_coughs m_day n_ships n_inn n_coughs n_day k_ships k_inn k_coughs k_day held perm hist)) args s 0 0 A) (F0 m 5 ls []) := by
  obtain ⟨hx, hb, hml, hown, hts, hK, hret, hlk⟩ := id C
  intro n
  induction n with
  | zero => intro x1 x2 hf; cases hf
  | succ n ih =>
    intro x1 x2 hf H locs hs ls hl hk
    rw [X4_judge_L5] at hf
    refine lv_iload_n hx hb (dk hX4_judge_0 4 rfl) rfl (lv_at hl 2 rfl) ?_
    refine lv_aload_n hx hb (dk hX4_judge_0 5 rfl) rfl (lv_at hl 0 rfl) ?_
    refine rg ui4 rfl C hs 0 rfl 5 (by decide) tw_202 rfl rfl (dk hX4_judge_0 6 rfl) ?_
    obtain ⟨u_1, e_2, hf⟩ := Option.bind_eq_some_iff.mp hf
    refine Ct.V (As := []) (rest := [.int x2]) (st1 := [.int u_1, .int x2]) (w1 := (wT G ad adt adb ade adm adn adk adp adr refusals tcells lcells m_there m_used m_hidden m_kind m_figure m_cargo m_load n_there n_used n_hidden n_kind n_figure n_cargo n_load k_there k_used k_hidden k_kind k_figure k_cargo k_load isKept tlen llen m_ships m_inn m_coughs m_day n_ships n_inn n_coughs n_day k_ships k_inn k_coughs k_day held perm hist)) C hs (c_X1_length__told e_2) tw_238 tw_239 tw_240 tw_83 tw_241 nq_X1_length (by decide) 2 1 rfl rfl rfl rfl hl.1 rfl (Nat.le_of_ble_eq_true rfl) (dk hX4_judge_0 7 rfl) ⟨Nat.zero_le _, Nat.zero_le _⟩ rfl (fun H locs hs => ?_)
    refine lv_icmp_ge (tgt := 60) hx hb (dk hX4_judge_0 8 rfl) (by decide) (fun hc => ?_) (fun hc => ?_)
    · replace hf := ip hf hc
      exact hk _ hf _ _ hs _ (lv_sub hl [0, 1] rfl)
    · replace hf := in_ hf hc
      refine lv_iload_n hx hb (dk hX4_judge_0 9 rfl) rfl (lv_at hl 1 rfl) ?_
      refine lv_bipush (v := (-9 : Int32)) hx hb (dk hX4_judge_0 10 rfl) (by decide) ?_
      refine lv_icmp_ne (tgt := 60) hx hb (dk hX4_judge_0 11 rfl) (by decide) (fun hc => ?_) (fun hc => ?_)
      · replace hf := in_ hf hc
        exact hk _ hf _ _ hs _ (lv_sub hl [0, 1] rfl)
      · replace hf := ip hf hc
        refine lv_aload_n hx hb (dk hX4_judge_0 12 rfl) rfl (lv_at hl 0 rfl) ?_
        refine rg ui4 rfl C hs 0 rfl 0 (by decide) tw_197 rfl rfl (dk hX4_judge_0 13 rfl) ?_
        refine lv_iload_n hx hb (dk hX4_judge_0 14 rfl) rfl (lv_at hl 2 rfl) ?_
        obtain ⟨u_3, e_4, hf⟩ := Option.bind_eq_some_iff.mp hf
        refine Ct.V (As := [.int x2]) (rest := []) (st1 := [.int u_3]) (w1 := (wT G ad adt adb ade adm adn adk adp adr refusals tcells lcells m_there m_used m_hidden m_kind m_figure m_cargo m_load n_there n_used n_hidden n_kind n_figure n_cargo n_load k_there k_used k_hidden k_kind k_figure k_cargo k_load isKept tlen llen m_ships m_inn m_coughs m_day n_ships n_inn n_coughs n_day k_ships k_inn k_coughs k_day held perm hist)) C hs (c_X0_isShip__now e_4) tw_393 tw_294 tw_295 tw_80 tw_296 nq_X0_isShip (by decide) 15 0 rfl rfl rfl rfl hl.1 rfl (Nat.le_of_ble_eq_true rfl) (dk hX4_judge_0 15 rfl) ⟨Nat.zero_le _, Nat.zero_le _⟩ rfl (fun H locs hs => ?_)
        refine lv_if_eq (tgt := 52) hx hb (dk hX4_judge_0 16 rfl) (by decide) (fun hc => ?_) (fun hc => ?_)
        · replace hf := ip hf hc
          refine lv_iload_n hx hb (dk hX4_judge_0 26 rfl) rfl (lv_at hl 2 rfl) ?_
          refine lv_istore_n (lv' := [(1, .int x2), (0, .ref (ad 0)), (2, .int x2)]) hx hb (dk hX4_judge_0 27 rfl) rfl hl (by decide) rfl (fun ls hl => ?_)
          refine lv_iinc (v := (x2 + (1 : Int32))) (lv' := [(2, .int (x2 + (1 : Int32))), (1, .int x2), (0, .ref (ad 0))]) hx hb (dk hX4_judge_0 28 rfl) hl (k := 2) rfl (by first | rfl | decide) (by decide) rfl (fun ls hl => ?_)
          refine lv_goto (tgt := 5) hx hb (dk hX4_judge_0 29 rfl) (by decide) ?_
          exact ih _ _ hf _ _ hs _ (lv_sub hl [2, 1, 0] rfl) hk
        · replace hf := in_ hf hc
          refine lv_aload_n hx hb (dk hX4_judge_0 17 rfl) rfl (lv_at hl 0 rfl) ?_
          refine rg ui4 rfl C hs 0 rfl 0 (by decide) tw_197 rfl rfl (dk hX4_judge_0 18 rfl) ?_
          refine lv_iload_n hx hb (dk hX4_judge_0 19 rfl) rfl (lv_at hl 2 rfl) ?_
          obtain ⟨u_5, e_6, hf⟩ := Option.bind_eq_some_iff.mp hf
          refine Ct.V (As := [.int x2]) (rest := []) (st1 := [.int u_5]) (w1 := (wT G ad adt adb ade adm adn adk adp adr refusals tcells lcells m_there m_used m_hidden m_kind m_figure m_cargo m_load n_there n_used n_hidden n_kind n_figure n_cargo n_load k_there k_used k_hidden k_kind k_figure k_cargo k_load isKept tlen llen m_ships m_inn m_coughs m_day n_ships n_inn n_coughs n_day k_ships k_inn k_coughs k_day held perm hist)) C hs (c_X0_depth__now e_6) tw_397 tw_398 tw_399 tw_80 tw_400 nq_X0_depth (by decide) 15 0 rfl rfl rfl rfl hl.1 rfl (Nat.le_of_ble_eq_true rfl) (dk hX4_judge_0 20 rfl) ⟨Nat.zero_le _, Nat.zero_le _⟩ rfl (fun H locs hs => ?_)
          refine lv_aload_n hx hb (dk hX4_judge_0 21 rfl) rfl (lv_at hl 0 rfl) ?_
          refine rg ui4 rfl C hs 0 rfl 5 (by decide) tw_202 rfl rfl (dk hX4_judge_0 22 rfl) ?_
          refine lv_iload_n hx hb (dk hX4_judge_0 23 rfl) rfl (lv_at hl 2 rfl) ?_
          obtain ⟨u_7, e_8, hf⟩ := Option.bind_eq_some_iff.mp hf
          refine Ct.V (As := [.int x2]) (rest := [.int u_5]) (st1 := [.int u_7, .int u_5]) (w1 := (wT G ad adt adb ade adm adn adk adp adr refusals tcells lcells m_there m_used m_hidden m_kind m_figure m_cargo m_load n_there n_used n_hidden n_kind n_figure n_cargo n_load k_there k_used k_hidden k_kind k_figure k_cargo k_load isKept tlen llen m_ships m_inn m_coughs m_day n_ships n_inn n_coughs n_day k_ships k_inn k_coughs k_day held perm hist)) C hs (c_X1_at__told e_8) tw_561 tw_268 tw_269 tw_83 tw_270 nq_X1_at (by decide) 2 1 rfl rfl rfl rfl hl.1 rfl (Nat.le_of_ble_eq_true rfl) (dk hX4_judge_0 24 rfl) ⟨Nat.zero_le _, Nat.zero_le _⟩ rfl (fun H locs hs => ?_)
          refine lv_icmp_eq (tgt := 54) hx hb (dk hX4_judge_0 25 rfl) (by decide) (fun hc => ?_) (fun hc => ?_)
          · replace hf := ip hf hc
            refine lv_iinc (v := (x2 + (1 : Int32))) (lv' := [(2, .int (x2 + (1 : Int32))), (0, .ref (ad 0)), (1, .int x1)]) hx hb (dk hX4_judge_0 28 rfl) hl (k := 2) rfl (by first | rfl | decide) (by decide) rfl (fun ls hl => ?_)
            refine lv_goto (tgt := 5) hx hb (dk hX4_judge_0 29 rfl) (by decide) ?_
            exact ih _ _ hf _ _ hs _ (lv_sub hl [1, 2, 0] rfl) hk
          · replace hf := in_ hf hc
            refine lv_iload_n hx hb (dk hX4_judge_0 26 rfl) rfl (lv_at hl 2 rfl) ?_
            refine lv_istore_n (lv' := [(1, .int x2), (0, .ref (ad 0)), (2, .int x2)]) hx hb (dk hX4_judge_0 27 rfl) rfl hl (by decide) rfl (fun ls hl => ?_)
            refine lv_iinc (v := (x2 + (1 : Int32))) (lv' := [(2, .int (x2 + (1 : Int32))), (1, .int x2), (0, .ref (ad 0))]) hx hb (dk hX4_judge_0 28 rfl) hl (k := 2) rfl (by first | rfl | decide) (by decide) rfl (fun ls hl => ?_)
            refine lv_goto (tgt := 5) hx hb (dk hX4_judge_0 29 rfl) (by decide) ?_
            exact ih _ _ hf _ _ hs _ (lv_sub hl [2, 1, 0] rfl) hk
set_option maxRecDepth 100000 in
set_option maxHeartbeats 4000000 in
theorem c_X4_judge {l : Launch} {G : Gx} {ad adt adb ade adm adn adk adp : Nat → Nat} {adr : Nat → Nat → Nat} {refusals tcells lcells m_there m_used m_hidden m_kind m_figure m_cargo m_load n_there n_used n_hidden n_kind n_figure n_cargo n_load k_there k_used k_hidden k_kind k_figure k_cargo k_load : List Int32} {isKept tlen llen m_ships m_inn m_coughs m_day n_ships n_inn n_coughs n_day k_ships k_inn k_coughs k_day held : Int32} {perm : Nat → Nat} {hist : Nat → Hs}  {out : Int32 × Int32} (hf : X4_judge tcells n_there n_used n_hidden n_kind n_cargo tlen n_ships n_coughs n_day = some out) : Ct l G yX4_judge cX4_judge 3 (some .int) 4 87 [.ref (ad 0)] (wT G ad adt adb ade adm adn adk adp adr refusals tcells lcells m_there m_used m_hidden m_kind m_figure m_cargo m_load n_there n_used n_hidden n_kind n_figure n_cargo n_load k_there k_used k_hidden k_kind k_figure k_cargo k_load isKept tlen llen m_ships m_inn m_coughs m_day n_ships n_inn n_coughs n_day k_ships k_inn k_coughs k_day held perm hist) (some (.int out.2)) (wT G ad adt adb ade adm adn adk adp adr refusals tcells lcells m_there m_used m_hidden m_kind m_figure m_cargo m_load n_there n_used n_hidden n_kind n_figure n_cargo n_load k_there k_used k_hidden k_kind k_figure k_cargo k_load isKept out.1 llen m_ships m_inn m_coughs m_day n_ships n_inn n_coughs n_day k_ships k_inn k_coughs k_day held perm hist) := by
  refine Ct.intro RX4 rfl (plainFor_of_name (by decide)) (Nat.le_of_ble_eq_true rfl) rfl ?_
  intro p e s m args below meth c A C H locs hs ls hl
  obtain ⟨hx, hb, hml, hown, hts, hK, hret, hlk⟩ := id C
  have hl : lv_has ls 3 [(0, .ref (ad 0))] := hl
  unfold X4_judge at hf
  refine lv_bipush (v := (-9 : Int32)) hx hb (dk hX4_judge_0 0 rfl) (by decide) ?_
  refine lv_istore_n (lv' := [(1, .int (-9 : Int32)), (0, .ref (ad 0))]) hx hb (dk hX4_judge_0 1 rfl) rfl hl (by decide) rfl (fun ls hl => ?_)
  refine lv_iconst (v := (0 : Int32)) hx hb (dk hX4_judge_0 2 rfl) (by decide) ?_
  refine lv_istore_n (lv' := [(2, .int (0 : Int32)), (1, .int (-9 : Int32)), (0, .ref (ad 0))]) hx hb (dk hX4_judge_0 3 rfl) rfl hl (by decide) rfl (fun ls hl => ?_)
  refine l_X4_judge_L5 C 1000 _ _ hf _ _ hs _ (lv_sub hl [2, 1, 0] rfl) (fun y1_9 hf H locs hs ls hl => ?_)
  refine lv_aload_n hx hb (dk hX4_judge_0 30 rfl) rfl (lv_at hl 0 rfl) ?_
  refine rg ui4 rfl C hs 0 rfl 5 (by decide) tw_202 rfl rfl (dk hX4_judge_0 31 rfl) ?_
  obtain ⟨u_10, e_11, hf⟩ := Option.bind_eq_some_iff.mp hf
  refine Ct.V (As := []) (rest := []) (st1 := []) (w1 := (wT G ad adt adb ade adm adn adk adp adr refusals tcells lcells m_there m_used m_hidden m_kind m_figure m_cargo m_load n_there n_used n_hidden n_kind n_figure n_cargo n_load k_there k_used k_hidden k_kind k_figure k_cargo k_load isKept u_10 llen m_ships m_inn m_coughs m_day n_ships n_inn n_coughs n_day k_ships k_inn k_coughs k_day held perm hist)) C hs (c_X1_drop__told e_11) tw_375 tw_376 tw_377 tw_83 tw_378 nq_X1_drop (by decide) 2 1 rfl rfl rfl rfl hl.1 rfl (Nat.le_of_ble_eq_true rfl) (dk hX4_judge_0 32 rfl) ⟨Nat.zero_le _, Nat.zero_le _⟩ rfl (fun H locs hs => ?_)
  refine lv_iload_n hx hb (dk hX4_judge_0 33 rfl) rfl (lv_at hl 1 rfl) ?_
  cases hf
  exact ri C hs (dk hX4_judge_0 34 rfl)

def X4_clear (tlen : Int32) : Option (Int32 × Int32) :=
  (X1_length tlen).bind fun u_1 =>
  (X1_drop tlen).bind fun u_3 =>
  some (u_3, u_1)
set_option maxRecDepth 100000 in
set_option maxHeartbeats 4000000 in
theorem c_X4_clear {l : Launch} {G : Gx} {ad adt adb ade adm adn adk adp : Nat → Nat} {adr : Nat → Nat → Nat} {refusals tcells lcells m_there m_used m_hidden m_kind m_figure m_cargo m_load n_there n_used n_hidden n_kind n_figure n_cargo n_load k_there k_used k_hidden k_kind k_figure k_cargo k_load : List Int32} {isKept tlen llen m_ships m_inn m_coughs m_day n_ships n_inn n_coughs n_day k_ships k_inn k_coughs k_day held : Int32} {perm : Nat → Nat} {hist : Nat → Hs}  {out : Int32 × Int32} (hf : X4_clear tlen = some out) : Ct l G yX4_clear cX4_clear 2 (some .int) 1 20 [.ref (ad 0)] (wT G ad adt adb ade adm adn adk adp adr refusals tcells lcells m_there m_used m_hidden m_kind m_figure m_cargo m_load n_there n_used n_hidden n_kind n_figure n_cargo n_load k_there k_used k_hidden k_kind k_figure k_cargo k_load isKept tlen llen m_ships m_inn m_coughs m_day n_ships n_inn n_coughs n_day k_ships k_inn k_coughs k_day held perm hist) (some (.int out.2)) (wT G ad adt adb ade adm adn adk adp adr refusals tcells lcells m_there m_used m_hidden m_kind m_figure m_cargo m_load n_there n_used n_hidden n_kind n_figure n_cargo n_load k_there k_used k_hidden k_kind k_figure k_cargo k_load isKept out.1 llen m_ships m_inn m_coughs m_day n_ships n_inn n_coughs n_day k_ships k_inn k_coughs k_day held perm hist) := by
  refine Ct.intro RX4 rfl (plainFor_of_name (by decide)) (Nat.le_of_ble_eq_true rfl) rfl ?_
  intro p e s m args below meth c A C H locs hs ls hl
  obtain ⟨hx, hb, hml, hown, hts, hK, hret, hlk⟩ := id C
  have hl : lv_has ls 2 [(0, .ref (ad 0))] := hl
  unfold X4_clear at hf
  refine lv_aload_n hx hb (dk hX4_clear_0 0 rfl) rfl (lv_at hl 0 rfl) ?_
  refine rg ui4 rfl C hs 0 rfl 5 (by decide) tw_202 rfl rfl (dk hX4_clear_0 1 rfl) ?_
  obtain ⟨u_1, e_2, hf⟩ := Option.bind_eq_some_iff.mp hf
  refine Ct.V (As := []) (rest := []) (st1 := [.int u_1]) (w1 := (wT G ad adt adb ade adm adn adk adp adr refusals tcells lcells m_there m_used m_hidden m_kind m_figure m_cargo m_load n_there n_used n_hidden n_kind n_figure n_cargo n_load k_there k_used k_hidden k_kind k_figure k_cargo k_load isKept tlen llen m_ships m_inn m_coughs m_day n_ships n_inn n_coughs n_day k_ships k_inn k_coughs k_day held perm hist)) C hs (c_X1_length__told e_2) tw_238 tw_239 tw_240 tw_83 tw_241 nq_X1_length (by decide) 2 1 rfl rfl rfl rfl hl.1 rfl (Nat.le_of_ble_eq_true rfl) (dk hX4_clear_0 2 rfl) ⟨Nat.zero_le _, Nat.zero_le _⟩ rfl (fun H locs hs => ?_)
  refine lv_istore_n (lv' := [(1, .int u_1), (0, .ref (ad 0))]) hx hb (dk hX4_clear_0 3 rfl) rfl hl (by decide) rfl (fun ls hl => ?_)
  refine lv_aload_n hx hb (dk hX4_clear_0 4 rfl) rfl (lv_at hl 1 rfl) ?_
  refine rg ui4 rfl C hs 0 rfl 5 (by decide) tw_202 rfl rfl (dk hX4_clear_0 5 rfl) ?_
  obtain ⟨u_3, e_4, hf⟩ := Option.bind_eq_some_iff.mp hf
  refine Ct.V (As := []) (rest := []) (st1 := []) (w1 := (wT G ad adt adb ade adm adn adk adp adr refusals tcells lcells m_there m_used m_hidden m_kind m_figure m_cargo m_load n_there n_used n_hidden n_kind n_figure n_cargo n_load k_there k_used k_hidden k_kind k_figure k_cargo k_load isKept u_3 llen m_ships m_inn m_coughs m_day n_ships n_inn n_coughs n_day k_ships k_inn k_coughs k_day held perm hist)) C hs (c_X1_drop__told e_4) tw_375 tw_376 tw_377 tw_83 tw_378 nq_X1_drop (by decide) 2 1 rfl rfl rfl rfl hl.1 rfl (Nat.le_of_ble_eq_true rfl) (dk hX4_clear_0 6 rfl) ⟨Nat.zero_le _, Nat.zero_le _⟩ rfl (fun H locs hs => ?_)
  refine lv_iload_n hx hb (dk hX4_clear_0 7 rfl) rfl (lv_at hl 0 rfl) ?_
  cases hf
  exact ri C hs (dk hX4_clear_0 8 rfl)

def X4_image (n_there : List Int32) (n_used : List Int32) (n_hidden : List Int32) (n_kind : List Int32) (n_figure : List Int32) (n_cargo : List Int32) (n_load : List Int32) (k_there : List Int32) (k_used : List Int32) (k_hidden : List Int32) (k_kind : List Int32) (k_figure : List Int32) (k_cargo : List Int32) (k_load : List Int32) (isKept : Int32) (n_ships : Int32) (n_inn : Int32) (n_coughs : Int32) (n_day : Int32) (k_ships : Int32) (k_inn : Int32) (k_coughs : Int32) (k_day : Int32) : Option (List Int32 × List Int32 × List Int32 × List Int32 × List Int32 × List Int32 × List Int32 × Int32 × Int32 × Int32 × Int32 × Int32 × Int32) :=
  (X0_copyFrom k_there k_used k_hidden k_kind k_figure k_cargo k_load n_there n_used n_hidden n_kind n_figure n_cargo n_load k_ships k_inn k_coughs k_day n_ships n_inn n_coughs n_day).bind fun u_1 =>
  some (u_1.1, u_1.2.1, u_1.2.2.1, u_1.2.2.2.1, u_1.2.2.2.2.1, u_1.2.2.2.2.2.1, u_1.2.2.2.2.2.2.1, (1 : Int32), u_1.2.2.2.2.2.2.2.1, u_1.2.2.2.2.2.2.2.2.1, u_1.2.2.2.2.2.2.2.2.2.1, u_1.2.2.2.2.2.2.2.2.2.2, n_day)
set_option maxRecDepth 100000 in
set_option maxHeartbeats 4000000 in
theorem c_X4_image {l : Launch} {G : Gx} {ad adt adb ade adm adn adk adp : Nat → Nat} {adr : Nat → Nat → Nat} {refusals tcells lcells m_there m_used m_hidden m_kind m_figure m_cargo m_load n_there n_used n_hidden n_kind n_figure n_cargo n_load k_there k_used k_hidden k_kind k_figure k_cargo k_load : List Int32} {isKept tlen llen m_ships m_inn m_coughs m_day n_ships n_inn n_coughs n_day k_ships k_inn k_coughs k_day held : Int32} {perm : Nat → Nat} {hist : Nat → Hs}  {out : List Int32 × List Int32 × List Int32 × List Int32 × List Int32 × List Int32 × List Int32 × Int32 × Int32 × Int32 × Int32 × Int32 × Int32} (hf : X4_image n_there n_used n_hidden n_kind n_figure n_cargo n_load k_there k_used k_hidden k_kind k_figure k_cargo k_load isKept n_ships n_inn n_coughs n_day k_ships k_inn k_coughs k_day = some out) : Ct l G yX4_image cX4_image 1 (some .int) 1 22 [.ref (ad 0)] (wT G ad adt adb ade adm adn adk adp adr refusals tcells lcells m_there m_used m_hidden m_kind m_figure m_cargo m_load n_there n_used n_hidden n_kind n_figure n_cargo n_load k_there k_used k_hidden k_kind k_figure k_cargo k_load isKept tlen llen m_ships m_inn m_coughs m_day n_ships n_inn n_coughs n_day k_ships k_inn k_coughs k_day held perm hist) (some (.int out.2.2.2.2.2.2.2.2.2.2.2.2)) (wT G ad adt adb ade adm adn adk adp adr refusals tcells lcells m_there m_used m_hidden m_kind m_figure m_cargo m_load n_there n_used n_hidden n_kind n_figure n_cargo n_load out.1 out.2.1 out.2.2.1 out.2.2.2.1 out.2.2.2.2.1 out.2.2.2.2.2.1 out.2.2.2.2.2.2.1 out.2.2.2.2.2.2.2.1 tlen llen m_ships m_inn m_coughs m_day n_ships n_inn n_coughs n_day out.2.2.2.2.2.2.2.2.1 out.2.2.2.2.2.2.2.2.2.1 out.2.2.2.2.2.2.2.2.2.2.1 out.2.2.2.2.2.2.2.2.2.2.2.1 held perm hist) := by
  refine Ct.intro RX4 rfl (plainFor_of_name (by decide)) (Nat.le_of_ble_eq_true rfl) rfl ?_
  intro p e s m args below meth c A C H locs hs ls hl
  obtain ⟨hx, hb, hml, hown, hts, hK, hret, hlk⟩ := id C
  have hl : lv_has ls 1 [(0, .ref (ad 0))] := hl
  unfold X4_image at hf
  refine lv_aload_n hx hb (dk hX4_image_0 0 rfl) rfl (lv_at hl 0 rfl) ?_
  refine rg ui4 rfl C hs 0 rfl 2 (by decide) tw_199 rfl rfl (dk hX4_image_0 1 rfl) ?_
  refine lv_aload_n hx hb (dk hX4_image_0 2 rfl) rfl (lv_at hl 0 rfl) ?_
  refine rg ui4 rfl C hs 0 rfl 0 (by decide) tw_197 rfl rfl (dk hX4_image_0 3 rfl) ?_
  obtain ⟨u_1, e_2, hf⟩ := Option.bind_eq_some_iff.mp hf
  refine Ct.V (As := [.ref (adn 0)]) (rest := []) (st1 := []) (w1 := (wT G ad adt adb ade adm adn adk adp adr refusals tcells lcells m_there m_used m_hidden m_kind m_figure m_cargo m_load n_there n_used n_hidden n_kind n_figure n_cargo n_load u_1.1 u_1.2.1 u_1.2.2.1 u_1.2.2.2.1 u_1.2.2.2.2.1 u_1.2.2.2.2.2.1 u_1.2.2.2.2.2.2.1 isKept tlen llen m_ships m_inn m_coughs m_day n_ships n_inn n_coughs n_day u_1.2.2.2.2.2.2.2.1 u_1.2.2.2.2.2.2.2.2.1 u_1.2.2.2.2.2.2.2.2.2.1 u_1.2.2.2.2.2.2.2.2.2.2 held perm hist)) C hs (c_X0_copyFrom__kn e_2) tw_250 tw_251 tw_252 tw_80 tw_253 nq_X0_copyFrom (by decide) 23 0 rfl rfl rfl rfl hl.1 rfl (Nat.le_of_ble_eq_true rfl) (dk hX4_image_0 4 rfl) ⟨Nat.zero_le _, Nat.zero_le _⟩ rfl (fun H locs hs => ?_)
  refine lv_aload_n hx hb (dk hX4_image_0 5 rfl) rfl (lv_at hl 0 rfl) ?_
  refine lv_iconst (v := (1 : Int32)) hx hb (dk hX4_image_0 6 rfl) (by decide) ?_
  refine rp (w1 := (wT G ad adt adb ade adm adn adk adp adr refusals tcells lcells m_there m_used m_hidden m_kind m_figure m_cargo m_load n_there n_used n_hidden n_kind n_figure n_cargo n_load u_1.1 u_1.2.1 u_1.2.2.1 u_1.2.2.2.1 u_1.2.2.2.2.1 u_1.2.2.2.2.2.1 u_1.2.2.2.2.2.2.1 (1 : Int32) tlen llen m_ships m_inn m_coughs m_day n_ships n_inn n_coughs n_day u_1.2.2.2.2.2.2.2.1 u_1.2.2.2.2.2.2.2.2.1 u_1.2.2.2.2.2.2.2.2.2.1 u_1.2.2.2.2.2.2.2.2.2.2 held perm hist)) tyX4 tyX4_ok nmX4 ui4 rfl C hs 0 rfl 7 (by decide) tw_204 rfl rfl rfl rfl (Nat.le_of_ble_eq_true rfl) rfl (dk hX4_image_0 7 rfl) (fun H locs hs => ?_)
  refine lv_aload_n hx hb (dk hX4_image_0 8 rfl) rfl (lv_at hl 0 rfl) ?_
  refine rg ui4 rfl C hs 0 rfl 0 (by decide) tw_197 rfl rfl (dk hX4_image_0 9 rfl) ?_
  refine rg ui0 rfl C hs 15 rfl 10 (by decide) tw_126 rfl rfl (dk hX4_image_0 10 rfl) ?_
  cases hf
  exact ri C hs (dk hX4_image_0 11 rfl)

def X4_restore (refusals : List Int32) (n_there : List Int32) (n_used : List Int32) (n_hidden : List Int32) (n_kind : List Int32) (n_figure : List Int32) (n_cargo : List Int32) (n_load : List Int32) (k_there : List Int32) (k_used : List Int32) (k_hidden : List Int32) (k_kind : List Int32) (k_figure : List Int32) (k_cargo : List Int32) (k_load : List Int32) (isKept : Int32) (n_ships : Int32) (n_inn : Int32) (n_coughs : Int32) (n_day : Int32) (k_ships : Int32) (k_inn : Int32) (k_coughs : Int32) (k_day : Int32) (held : Int32) : Option (List Int32 × List Int32 × List Int32 × List Int32 × List Int32 × List Int32 × List Int32 × List Int32 × Int32 × Int32 × Int32 × Int32 × Int32 × Int32) :=
  if isKept = (0 : Int32) then
  (X4_refuse refusals (-3 : Int32)).bind fun u_5 =>
  some (u_5.1, n_there, n_used, n_hidden, n_kind, n_figure, n_cargo, n_load, n_ships, n_inn, n_coughs, n_day, held, u_5.2)
  else
  (X0_copyFrom n_there n_used n_hidden n_kind n_figure n_cargo n_load k_there k_used k_hidden k_kind k_figure k_cargo k_load n_ships n_inn n_coughs n_day k_ships k_inn k_coughs k_day).bind fun u_1 =>
  (X2_drop held).bind fun u_3 =>
  some (refusals, u_1.1, u_1.2.1, u_1.2.2.1, u_1.2.2.2.1, u_1.2.2.2.2.1, u_1.2.2.2.2.2.1, u_1.2.2.2.2.2.2.1, u_1.2.2.2.2.2.2.2.1, u_1.2.2.2.2.2.2.2.2.1, u_1.2.2.2.2.2.2.2.2.2.1, u_1.2.2.2.2.2.2.2.2.2.2, u_3, u_1.2.2.2.2.2.2.2.2.2.2)
set_option maxRecDepth 100000 in
set_option maxHeartbeats 4000000 in
theorem c_X4_restore {l : Launch} {G : Gx} {ad adt adb ade adm adn adk adp : Nat → Nat} {adr : Nat → Nat → Nat} {refusals tcells lcells m_there m_used m_hidden m_kind m_figure m_cargo m_load n_there n_used n_hidden n_kind n_figure n_cargo n_load k_there k_used k_hidden k_kind k_figure k_cargo k_load : List Int32} {isKept tlen llen m_ships m_inn m_coughs m_day n_ships n_inn n_coughs n_day k_ships k_inn k_coughs k_day held : Int32} {perm : Nat → Nat} {hist : Nat → Hs}  {out : List Int32 × List Int32 × List Int32 × List Int32 × List Int32 × List Int32 × List Int32 × List Int32 × Int32 × Int32 × Int32 × Int32 × Int32 × Int32} (hf : X4_restore refusals n_there n_used n_hidden n_kind n_figure n_cargo n_load k_there k_used k_hidden k_kind k_figure k_cargo k_load isKept n_ships n_inn n_coughs n_day k_ships k_inn k_coughs k_day held = some out) : Ct l G yX4_restore cX4_restore 1 (some .int) 1 22 [.ref (ad 0)] (wT G ad adt adb ade adm adn adk adp adr refusals tcells lcells m_there m_used m_hidden m_kind m_figure m_cargo m_load n_there n_used n_hidden n_kind n_figure n_cargo n_load k_there k_used k_hidden k_kind k_figure k_cargo k_load isKept tlen llen m_ships m_inn m_coughs m_day n_ships n_inn n_coughs n_day k_ships k_inn k_coughs k_day held perm hist) (some (.int out.2.2.2.2.2.2.2.2.2.2.2.2.2)) (wT G ad adt adb ade adm adn adk adp adr out.1 tcells lcells m_there m_used m_hidden m_kind m_figure m_cargo m_load out.2.1 out.2.2.1 out.2.2.2.1 out.2.2.2.2.1 out.2.2.2.2.2.1 out.2.2.2.2.2.2.1 out.2.2.2.2.2.2.2.1 k_there k_used k_hidden k_kind k_figure k_cargo k_load isKept tlen llen m_ships m_inn m_coughs m_day out.2.2.2.2.2.2.2.2.1 out.2.2.2.2.2.2.2.2.2.1 out.2.2.2.2.2.2.2.2.2.2.1 out.2.2.2.2.2.2.2.2.2.2.2.1 k_ships k_inn k_coughs k_day out.2.2.2.2.2.2.2.2.2.2.2.2.1 perm hist) := by
  refine Ct.intro RX4 rfl (plainFor_of_name (by decide)) (Nat.le_of_ble_eq_true rfl) rfl ?_
  intro p e s m args below meth c A C H locs hs ls hl
  obtain ⟨hx, hb, hml, hown, hts, hK, hret, hlk⟩ := id C
  have hl : lv_has ls 1 [(0, .ref (ad 0))] := hl
  unfold X4_restore at hf
  refine lv_aload_n hx hb (dk hX4_restore_0 0 rfl) rfl (lv_at hl 0 rfl) ?_
  refine rg ui4 rfl C hs 0 rfl 7 (by decide) tw_204 rfl rfl (dk hX4_restore_0 1 rfl) ?_
  refine lv_if_ne (tgt := 14) hx hb (dk hX4_restore_0 2 rfl) (by decide) (fun hc => ?_) (fun hc => ?_)
  · replace hf := in_ hf hc
    refine lv_aload_n hx hb (dk hX4_restore_0 7 rfl) rfl (lv_at hl 0 rfl) ?_
    refine rg ui4 rfl C hs 0 rfl 0 (by decide) tw_197 rfl rfl (dk hX4_restore_0 8 rfl) ?_
    refine lv_aload_n hx hb (dk hX4_restore_0 9 rfl) rfl (lv_at hl 0 rfl) ?_
    refine rg ui4 rfl C hs 0 rfl 2 (by decide) tw_199 rfl rfl (dk hX4_restore_0 10 rfl) ?_
    obtain ⟨u_1, e_2, hf⟩ := Option.bind_eq_some_iff.mp hf
    refine Ct.V (As := [.ref (adk 0)]) (rest := []) (st1 := []) (w1 := (wT G ad adt adb ade adm adn adk adp adr refusals tcells lcells m_there m_used m_hidden m_kind m_figure m_cargo m_load u_1.1 u_1.2.1 u_1.2.2.1 u_1.2.2.2.1 u_1.2.2.2.2.1 u_1.2.2.2.2.2.1 u_1.2.2.2.2.2.2.1 k_there k_used k_hidden k_kind k_figure k_cargo k_load isKept tlen llen m_ships m_inn m_coughs m_day u_1.2.2.2.2.2.2.2.1 u_1.2.2.2.2.2.2.2.2.1 u_1.2.2.2.2.2.2.2.2.2.1 u_1.2.2.2.2.2.2.2.2.2.2 k_ships k_inn k_coughs k_day held perm hist)) C hs (c_X0_copyFrom__nk e_2) tw_250 tw_251 tw_252 tw_80 tw_253 nq_X0_copyFrom (by decide) 15 0 rfl rfl rfl rfl hl.1 rfl (Nat.le_of_ble_eq_true rfl) (dk hX4_restore_0 11 rfl) ⟨Nat.zero_le _, Nat.zero_le _⟩ rfl (fun H locs hs => ?_)
    refine lv_aload_n hx hb (dk hX4_restore_0 12 rfl) rfl (lv_at hl 0 rfl) ?_
    refine rg ui4 rfl C hs 0 rfl 3 (by decide) tw_200 rfl rfl (dk hX4_restore_0 13 rfl) ?_
    obtain ⟨u_3, e_4, hf⟩ := Option.bind_eq_some_iff.mp hf
    refine Ct.V (As := []) (rest := []) (st1 := []) (w1 := (wT G ad adt adb ade adm adn adk adp adr refusals tcells lcells m_there m_used m_hidden m_kind m_figure m_cargo m_load u_1.1 u_1.2.1 u_1.2.2.1 u_1.2.2.2.1 u_1.2.2.2.2.1 u_1.2.2.2.2.2.1 u_1.2.2.2.2.2.2.1 k_there k_used k_hidden k_kind k_figure k_cargo k_load isKept tlen llen m_ships m_inn m_coughs m_day u_1.2.2.2.2.2.2.2.1 u_1.2.2.2.2.2.2.2.2.1 u_1.2.2.2.2.2.2.2.2.2.1 u_1.2.2.2.2.2.2.2.2.2.2 k_ships k_inn k_coughs k_day u_3 perm hist)) C hs (c_X2_drop e_4) tw_379 tw_380 tw_381 tw_81 tw_382 nq_X2_drop (by decide) 31 2 rfl rfl rfl rfl hl.1 rfl (Nat.le_of_ble_eq_true rfl) (dk hX4_restore_0 14 rfl) ⟨Nat.zero_le _, Nat.zero_le _⟩ rfl (fun H locs hs => ?_)
    refine lv_aload_n hx hb (dk hX4_restore_0 15 rfl) rfl (lv_at hl 0 rfl) ?_
    refine rg ui4 rfl C hs 0 rfl 0 (by decide) tw_197 rfl rfl (dk hX4_restore_0 16 rfl) ?_
    refine rg ui0 rfl C hs 15 rfl 10 (by decide) tw_126 rfl rfl (dk hX4_restore_0 17 rfl) ?_
    cases hf
    exact ri C hs (dk hX4_restore_0 18 rfl)
  · replace hf := ip hf hc
    refine lv_aload_n hx hb (dk hX4_restore_0 3 rfl) rfl (lv_at hl 0 rfl) ?_
    refine lv_bipush (v := (-3 : Int32)) hx hb (dk hX4_restore_0 4 rfl) (by decide) ?_
    obtain ⟨u_5, e_6, hf⟩ := Option.bind_eq_some_iff.mp hf
    refine Ct.V (As := [.int (-3 : Int32)]) (rest := []) (st1 := [.int u_5.2]) (w1 := (wT G ad adt adb ade adm adn adk adp adr u_5.1 tcells lcells m_there m_used m_hidden m_kind m_figure m_cargo m_load n_there n_used n_hidden n_kind n_figure n_cargo n_load k_there k_used k_hidden k_kind k_figure k_cargo k_load isKept tlen llen m_ships m_inn m_coughs m_day n_ships n_inn n_coughs n_day k_ships k_inn k_coughs k_day held perm hist)) C hs (c_X4_refuse e_6) tw_226 tw_228 tw_0 tw_79 tw_229 nq_X4_refuse (by decide) 0 4 rfl rfl rfl rfl hl.1 rfl (Nat.le_of_ble_eq_true rfl) (dk hX4_restore_0 5 rfl) ⟨Nat.zero_le _, Nat.zero_le _⟩ rfl (fun H locs hs => ?_)
    cases hf
    exact ri C hs (dk hX4_restore_0 6 rfl)

def X4_count (refusals : List Int32) (n_there : List Int32) (n_used : List Int32) (tlen : Int32) (llen : Int32) (n_ships : Int32) (n_inn : Int32) (n_coughs : Int32) (n_day : Int32) (held : Int32) (p0 : Int32) : Option (Int32) :=
  if p0 = (0 : Int32) then
  some n_ships
  else
  if p0 = (1 : Int32) then
  some n_day
  else
  if p0 = (2 : Int32) then
  some n_coughs
  else
  if p0 = (3 : Int32) then
  some n_inn
  else
  if p0 = (4 : Int32) then
  (X0_lackOfAll n_there n_used).bind fun u_5 =>
  some u_5
  else
  if p0 = (5 : Int32) then
  (X1_length llen).bind fun u_8 =>
  some u_8
  else
  if p0 = (6 : Int32) then
  (X1_length tlen).bind fun u_11 =>
  some u_11
  else
  if p0 = (7 : Int32) then
  (X2_held held).bind fun u_14 =>
  some u_14
  else
  if p0 ≤ (10 : Int32) then
  some (-9 : Int32)
  else
  if (Int32.ofNat refusals.length) ≤ (p0 - (10 : Int32)) then
  some (-9 : Int32)
  else
  (rd refusals (p0 - (10 : Int32))).bind fun v_17 =>
  some v_17
set_option maxRecDepth 100000 in
set_option maxHeartbeats 4000000 in
theorem c_X4_count {l : Launch} {G : Gx} {ad adt adb ade adm adn adk adp : Nat → Nat} {adr : Nat → Nat → Nat} {refusals tcells lcells m_there m_used m_hidden m_kind m_figure m_cargo m_load n_there n_used n_hidden n_kind n_figure n_cargo n_load k_there k_used k_hidden k_kind k_figure k_cargo k_load : List Int32} {isKept tlen llen m_ships m_inn m_coughs m_day n_ships n_inn n_coughs n_day k_ships k_inn k_coughs k_day held : Int32} {perm : Nat → Nat} {hist : Nat → Hs} {p0 : Int32} {out : Int32} (hf : X4_count refusals n_there n_used tlen llen n_ships n_inn n_coughs n_day held p0 = some out) : Ct l G yX4_count cX4_count 3 (some .int) 2 44 [.ref (ad 0), .int p0] (wT G ad adt adb ade adm adn adk adp adr refusals tcells lcells m_there m_used m_hidden m_kind m_figure m_cargo m_load n_there n_used n_hidden n_kind n_figure n_cargo n_load k_there k_used k_hidden k_kind k_figure k_cargo k_load isKept tlen llen m_ships m_inn m_coughs m_day n_ships n_inn n_coughs n_day k_ships k_inn k_coughs k_day held perm hist) (some (.int out)) (wT G ad adt adb ade adm adn adk adp adr refusals tcells lcells m_there m_used m_hidden m_kind m_figure m_cargo m_load n_there n_used n_hidden n_kind n_figure n_cargo n_load k_there k_used k_hidden k_kind k_figure k_cargo k_load isKept tlen llen m_ships m_inn m_coughs m_day n_ships n_inn n_coughs n_day k_ships k_inn k_coughs k_day held perm hist) := by
  refine Ct.intro RX4 rfl (plainFor_of_name (by decide)) (Nat.le_of_ble_eq_true rfl) rfl ?_
  intro p e s m args below meth c A C H locs hs ls hl
  obtain ⟨hx, hb, hml, hown, hts, hK, hret, hlk⟩ := id C
  have hl : lv_has ls 3 [(0, .ref (ad 0)), (1, .int p0)] := hl
  unfold X4_count at hf
  refine lv_iload_n hx hb (dk hX4_count_0 0 rfl) rfl (lv_at hl 1 rfl) ?_
  by_cases hc_1 : p0 = (0 : Int32)
  · replace hf := ip hf hc_1
    refine rts (tgt := 48) (off := 47) hx hb (dk hX4_count_0 1 rfl) hc_1 (by decide) (by decide) (by decide) (by decide) ?_
    refine lv_aload_n hx hb (dk hX4_count_0 2 rfl) rfl (lv_at hl 0 rfl) ?_
    refine rg ui4 rfl C hs 0 rfl 0 (by decide) tw_197 rfl rfl (dk hX4_count_0 3 rfl) ?_
    refine rg ui0 rfl C hs 15 rfl 7 (by decide) tw_118 rfl rfl (dk hX4_count_0 4 rfl) ?_
    cases hf
    exact ri C hs (dk hX4_count_0 5 rfl)
  · replace hf := in_ hf hc_1
    by_cases hc_2 : p0 = (1 : Int32)
    · replace hf := ip hf hc_2
      refine rts (tgt := 56) (off := 55) hx hb (dk hX4_count_0 1 rfl) hc_2 (by decide) (by decide) (by decide) (by decide) ?_
      refine lv_aload_n hx hb (dk hX4_count_0 6 rfl) rfl (lv_at hl 0 rfl) ?_
      refine rg ui4 rfl C hs 0 rfl 0 (by decide) tw_197 rfl rfl (dk hX4_count_0 7 rfl) ?_
      refine rg ui0 rfl C hs 15 rfl 10 (by decide) tw_126 rfl rfl (dk hX4_count_0 8 rfl) ?_
      cases hf
      exact ri C hs (dk hX4_count_0 9 rfl)
    · replace hf := in_ hf hc_2
      by_cases hc_3 : p0 = (2 : Int32)
      · replace hf := ip hf hc_3
        refine rts (tgt := 64) (off := 63) hx hb (dk hX4_count_0 1 rfl) hc_3 (by decide) (by decide) (by decide) (by decide) ?_
        refine lv_aload_n hx hb (dk hX4_count_0 10 rfl) rfl (lv_at hl 0 rfl) ?_
        refine rg ui4 rfl C hs 0 rfl 0 (by decide) tw_197 rfl rfl (dk hX4_count_0 11 rfl) ?_
        refine rg ui0 rfl C hs 15 rfl 9 (by decide) tw_124 rfl rfl (dk hX4_count_0 12 rfl) ?_
        cases hf
        exact ri C hs (dk hX4_count_0 13 rfl)
      · replace hf := in_ hf hc_3
        by_cases hc_4 : p0 = (3 : Int32)
        · replace hf := ip hf hc_4
          refine rts (tgt := 72) (off := 71) hx hb (dk hX4_count_0 1 rfl) hc_4 (by decide) (by decide) (by decide) (by decide) ?_
          refine lv_aload_n hx hb (dk hX4_count_0 14 rfl) rfl (lv_at hl 0 rfl) ?_
          refine rg ui4 rfl C hs 0 rfl 0 (by decide) tw_197 rfl rfl (dk hX4_count_0 15 rfl) ?_
          refine rg ui0 rfl C hs 15 rfl 8 (by decide) tw_121 rfl rfl (dk hX4_count_0 16 rfl) ?_
          cases hf
          exact ri C hs (dk hX4_count_0 17 rfl)
        · replace hf := in_ hf hc_4
          by_cases hc_7 : p0 = (4 : Int32)
          · replace hf := ip hf hc_7
            refine rts (tgt := 80) (off := 79) hx hb (dk hX4_count_0 1 rfl) hc_7 (by decide) (by decide) (by decide) (by decide) ?_
            refine lv_aload_n hx hb (dk hX4_count_0 18 rfl) rfl (lv_at hl 0 rfl) ?_
            refine rg ui4 rfl C hs 0 rfl 0 (by decide) tw_197 rfl rfl (dk hX4_count_0 19 rfl) ?_
            obtain ⟨u_5, e_6, hf⟩ := Option.bind_eq_some_iff.mp hf
            refine Ct.V (As := []) (rest := []) (st1 := [.int u_5]) (w1 := (wT G ad adt adb ade adm adn adk adp adr refusals tcells lcells m_there m_used m_hidden m_kind m_figure m_cargo m_load n_there n_used n_hidden n_kind n_figure n_cargo n_load k_there k_used k_hidden k_kind k_figure k_cargo k_load isKept tlen llen m_ships m_inn m_coughs m_day n_ships n_inn n_coughs n_day k_ships k_inn k_coughs k_day held perm hist)) C hs (c_X0_lackOfAll__now e_6) tw_603 tw_533 tw_534 tw_80 tw_535 nq_X0_lackOfAll (by decide) 15 0 rfl rfl rfl rfl hl.1 rfl (Nat.le_of_ble_eq_true rfl) (dk hX4_count_0 20 rfl) ⟨Nat.zero_le _, Nat.zero_le _⟩ rfl (fun H locs hs => ?_)
            cases hf
            exact ri C hs (dk hX4_count_0 21 rfl)
          · replace hf := in_ hf hc_7
            by_cases hc_10 : p0 = (5 : Int32)
            · replace hf := ip hf hc_10
              refine rts (tgt := 88) (off := 87) hx hb (dk hX4_count_0 1 rfl) hc_10 (by decide) (by decide) (by decide) (by decide) ?_
              refine lv_aload_n hx hb (dk hX4_count_0 22 rfl) rfl (lv_at hl 0 rfl) ?_
              refine rg ui4 rfl C hs 0 rfl 4 (by decide) tw_201 rfl rfl (dk hX4_count_0 23 rfl) ?_
              refine rg ui3 rfl C hs 4 rfl 0 (by decide) tw_191 rfl rfl (dk hX4_count_0 24 rfl) ?_
              obtain ⟨u_8, e_9, hf⟩ := Option.bind_eq_some_iff.mp hf
              refine Ct.V (As := []) (rest := []) (st1 := [.int u_8]) (w1 := (wT G ad adt adb ade adm adn adk adp adr refusals tcells lcells m_there m_used m_hidden m_kind m_figure m_cargo m_load n_there n_used n_hidden n_kind n_figure n_cargo n_load k_there k_used k_hidden k_kind k_figure k_cargo k_load isKept tlen llen m_ships m_inn m_coughs m_day n_ships n_inn n_coughs n_day k_ships k_inn k_coughs k_day held perm hist)) C hs (c_X1_length__letters e_9) tw_238 tw_239 tw_240 tw_83 tw_241 nq_X1_length (by decide) 5 1 rfl rfl rfl rfl hl.1 rfl (Nat.le_of_ble_eq_true rfl) (dk hX4_count_0 25 rfl) ⟨Nat.zero_le _, Nat.zero_le _⟩ rfl (fun H locs hs => ?_)
              cases hf
              exact ri C hs (dk hX4_count_0 26 rfl)
            · replace hf := in_ hf hc_10
              by_cases hc_13 : p0 = (6 : Int32)
              · replace hf := ip hf hc_13
                refine rts (tgt := 99) (off := 98) hx hb (dk hX4_count_0 1 rfl) hc_13 (by decide) (by decide) (by decide) (by decide) ?_
                refine lv_aload_n hx hb (dk hX4_count_0 27 rfl) rfl (lv_at hl 0 rfl) ?_
                refine rg ui4 rfl C hs 0 rfl 5 (by decide) tw_202 rfl rfl (dk hX4_count_0 28 rfl) ?_
                obtain ⟨u_11, e_12, hf⟩ := Option.bind_eq_some_iff.mp hf
                refine Ct.V (As := []) (rest := []) (st1 := [.int u_11]) (w1 := (wT G ad adt adb ade adm adn adk adp adr refusals tcells lcells m_there m_used m_hidden m_kind m_figure m_cargo m_load n_there n_used n_hidden n_kind n_figure n_cargo n_load k_there k_used k_hidden k_kind k_figure k_cargo k_load isKept tlen llen m_ships m_inn m_coughs m_day n_ships n_inn n_coughs n_day k_ships k_inn k_coughs k_day held perm hist)) C hs (c_X1_length__told e_12) tw_238 tw_239 tw_240 tw_83 tw_241 nq_X1_length (by decide) 2 1 rfl rfl rfl rfl hl.1 rfl (Nat.le_of_ble_eq_true rfl) (dk hX4_count_0 29 rfl) ⟨Nat.zero_le _, Nat.zero_le _⟩ rfl (fun H locs hs => ?_)
                cases hf
                exact ri C hs (dk hX4_count_0 30 rfl)
              · replace hf := in_ hf hc_13
                by_cases hc_16 : p0 = (7 : Int32)
                · replace hf := ip hf hc_16
                  refine rts (tgt := 107) (off := 106) hx hb (dk hX4_count_0 1 rfl) hc_16 (by decide) (by decide) (by decide) (by decide) ?_
                  refine lv_aload_n hx hb (dk hX4_count_0 31 rfl) rfl (lv_at hl 0 rfl) ?_
                  refine rg ui4 rfl C hs 0 rfl 3 (by decide) tw_200 rfl rfl (dk hX4_count_0 32 rfl) ?_
                  obtain ⟨u_14, e_15, hf⟩ := Option.bind_eq_some_iff.mp hf
                  refine Ct.V (As := []) (rest := []) (st1 := [.int u_14]) (w1 := (wT G ad adt adb ade adm adn adk adp adr refusals tcells lcells m_there m_used m_hidden m_kind m_figure m_cargo m_load n_there n_used n_hidden n_kind n_figure n_cargo n_load k_there k_used k_hidden k_kind k_figure k_cargo k_load isKept tlen llen m_ships m_inn m_coughs m_day n_ships n_inn n_coughs n_day k_ships k_inn k_coughs k_day held perm hist)) C hs (c_X2_held e_15) tw_455 tw_456 tw_457 tw_81 tw_458 nq_X2_held (by decide) 31 2 rfl rfl rfl rfl hl.1 rfl (Nat.le_of_ble_eq_true rfl) (dk hX4_count_0 33 rfl) ⟨Nat.zero_le _, Nat.zero_le _⟩ rfl (fun H locs hs => ?_)
                  cases hf
                  exact ri C hs (dk hX4_count_0 34 rfl)
                · replace hf := in_ hf hc_16
                  refine rtd (tgt := 115) hx hb (dk hX4_count_0 1 rfl) [0, 1, 2, 3, 4, 5, 6, 7] (by decide) (by decide) (List.forall_mem_cons.mpr ⟨ti hc_1 (by decide), List.forall_mem_cons.mpr ⟨ti hc_2 (by decide), List.forall_mem_cons.mpr ⟨ti hc_3 (by decide), List.forall_mem_cons.mpr ⟨ti hc_4 (by decide), List.forall_mem_cons.mpr ⟨ti hc_7 (by decide), List.forall_mem_cons.mpr ⟨ti hc_10 (by decide), List.forall_mem_cons.mpr ⟨ti hc_13 (by decide), List.forall_mem_cons.mpr ⟨ti hc_16 (by decide), fun _ h => absurd h List.not_mem_nil⟩⟩⟩⟩⟩⟩⟩⟩) (by decide) ?_
                  refine lv_iload_n hx hb (dk hX4_count_0 35 rfl) rfl (lv_at hl 1 rfl) ?_
                  refine lv_bipush (v := (10 : Int32)) hx hb (dk hX4_count_0 36 rfl) (by decide) ?_
                  refine lv_isub hx hb (dk hX4_count_0 37 rfl) ?_
                  refine lv_istore_n (lv' := [(2, .int (p0 - (10 : Int32))), (0, .ref (ad 0)), (1, .int p0)]) hx hb (dk hX4_count_0 38 rfl) rfl hl (by decide) rfl (fun ls hl => ?_)
                  refine lv_iload_n hx hb (dk hX4_count_0 39 rfl) rfl (lv_at hl 2 rfl) ?_
                  refine lv_bipush (v := (10 : Int32)) hx hb (dk hX4_count_1 0 rfl) (by decide) ?_
                  refine lv_icmp_le (tgt := 144) hx hb (dk hX4_count_1 1 rfl) (by decide) (fun hc => ?_) (fun hc => ?_)
                  · replace hf := ip hf hc
                    refine lv_bipush (v := (-9 : Int32)) hx hb (dk hX4_count_1 12 rfl) (by decide) ?_
                    cases hf
                    exact ri C hs (dk hX4_count_1 13 rfl)
                  · replace hf := in_ hf hc
                    refine lv_iload_n hx hb (dk hX4_count_1 2 rfl) rfl (lv_at hl 0 rfl) ?_
                    refine lv_aload_n hx hb (dk hX4_count_1 3 rfl) rfl (lv_at hl 1 rfl) ?_
                    refine rg ui4 rfl C hs 0 rfl 6 (by decide) tw_203 rfl rfl (dk hX4_count_1 4 rfl) ?_
                    refine rlen C hs 1 rfl (dk hX4_count_1 5 rfl) ?_
                    refine lv_icmp_ge (tgt := 144) hx hb (dk hX4_count_1 6 rfl) (by decide) (fun hc => ?_) (fun hc => ?_)
                    · replace hf := ip hf hc
                      refine lv_bipush (v := (-9 : Int32)) hx hb (dk hX4_count_1 12 rfl) (by decide) ?_
                      cases hf
                      exact ri C hs (dk hX4_count_1 13 rfl)
                    · replace hf := in_ hf hc
                      refine lv_aload_n hx hb (dk hX4_count_1 7 rfl) rfl (lv_at hl 1 rfl) ?_
                      refine rg ui4 rfl C hs 0 rfl 6 (by decide) tw_203 rfl rfl (dk hX4_count_1 8 rfl) ?_
                      refine lv_iload_n hx hb (dk hX4_count_1 9 rfl) rfl (lv_at hl 0 rfl) ?_
                      obtain ⟨v_17, e_18, hf⟩ := Option.bind_eq_some_iff.mp hf
                      refine rild C hs 1 rfl e_18 (dk hX4_count_1 10 rfl) ?_
                      refine lv_goto (tgt := 146) hx hb (dk hX4_count_1 11 rfl) (by decide) ?_
                      cases hf
                      exact ri C hs (dk hX4_count_1 13 rfl)

