def upn (p : Nat → Nat) (k x : Nat) : Nat → Nat := fun j => if j = k then x else p j
theorem va_up_r (adr : Nat → Nat → Nat) (p : Nat → Nat) (k x : Nat) : va_up (fun j => some (adr (p j) 0)) k (some (adr x 0)) = fun j => some (adr (upn p k x j) 0) := by
  funext j
  unfold va_up upn
  by_cases h : j = k
  · simp [h]
  · simp [h]
theorem upn_lt {p : Nat → Nat} (h : ∀ j, j < 8 → p j < 8) {k x : Nat} (hx : x < 8) : ∀ j, j < 8 → upn p k x j < 8 := by
  intro j hj
  unfold upn
  by_cases hk : j = k
  · simp [hk, hx]
  · simp [hk, h j hj]
theorem pok_lt {p : Nat → Nat} (h : pok p = true) : ∀ j, j < 8 → p j < 8 := by
  intro j hj
  unfold pok at h
  have := List.all_eq_true.mp h j (List.mem_range.mpr hj)
  simpa using this
theorem rotp_lt {p : Nat → Nat} (h : ∀ j, j < 8 → p j < 8) : ∀ j, j < 8 → rotp p j < 8 := by
  intro j hj
  unfold rotp
  by_cases h1 : j < 7
  · rw [if_pos h1]; exact h _ (by omega)
  · rw [if_neg h1, if_pos (by omega)]; exact h _ (by omega)
theorem rot_up (p : Nat → Nat) : upn (upn (upn (upn (upn (upn (upn (upn p 0 (p 1)) 1 (p 2)) 2 (p 3)) 3 (p 4)) 4 (p 5)) 5 (p 6)) 6 (p 7)) 7 (p 0) = rotp p := by
  funext j
  unfold rotp
  rcases Nat.lt_or_ge j 8 with h | h
  · match j, h with
    | 0, _ => rfl
    | 1, _ => rfl
    | 2, _ => rfl
    | 3, _ => rfl
    | 4, _ => rfl
    | 5, _ => rfl
    | 6, _ => rfl
    | 7, _ => rfl
  · rw [if_neg (by omega), if_neg (by omega)]
    unfold upn
    repeat rw [if_neg (by omega)]
theorem wP_row {G : Gx} {adp : Nat → Nat} {adr : Nat → Nat → Nat} {held : Int32} {perm : Nat → Nat} {hist : Nat → Hs} (r : Nat) (h : r < 8) : ∃ fs, (wP G adp adr held perm hist)[2 + 8 * r]? = some (adr r 0, .inr (0, fs)) := by
  match r, h with
  | 0, _ => exact ⟨_, rfl⟩
  | 1, _ => exact ⟨_, rfl⟩
  | 2, _ => exact ⟨_, rfl⟩
  | 3, _ => exact ⟨_, rfl⟩
  | 4, _ => exact ⟨_, rfl⟩
  | 5, _ => exact ⟨_, rfl⟩
  | 6, _ => exact ⟨_, rfl⟩
  | 7, _ => exact ⟨_, rfl⟩
theorem wP_split {G : Gx} {adr : Nat → Nat → Nat} {hist : Nat → Hs} {x : Hs} (r : Nat) (h : r < 8) : ∃ F B : va_W, (List.range 8).flatMap (fun j => wHs G (adr j) (hist j)) = F ++ (wHs G (adr r) (hist r) ++ B) ∧ (List.range 8).flatMap (fun j => wHs G (adr j) (uph hist r x j)) = F ++ (wHs G (adr r) x ++ B) := by
  refine ⟨(List.range r).flatMap (fun j => wHs G (adr j) (hist j)), (List.range (7 - r)).flatMap (fun j => wHs G (adr (r + 1 + j)) (hist (r + 1 + j))), ?_, ?_⟩
  all_goals
    match r, h with
    | 0, _ => rfl
    | 1, _ => rfl
    | 2, _ => rfl
    | 3, _ => rfl
    | 4, _ => rfl
    | 5, _ => rfl
    | 6, _ => rfl
    | 7, _ => rfl
theorem wP_put {G : Gx} {adp : Nat → Nat} {adr : Nat → Nat → Nat} {held : Int32} {perm : Nat → Nat} {hist : Nat → Hs} {k x : Nat} : (wP G adp adr held perm hist).set 1 (adp 1, .inl (G.2.2, 8, .inr (.inr (.inr (.inr (va_up (fun j => some (adr (perm j) 0)) k (some (adr x 0)))))))) = (wP G adp adr held (upn perm k x) hist) := by
  rw [va_up_r]
  rfl

theorem wT_row {G : Gx} {ad adt adb ade adm adn adk adp : Nat → Nat} {adr : Nat → Nat → Nat} {refusals tcells lcells m_there m_used m_hidden m_kind m_figure m_cargo m_load n_there n_used n_hidden n_kind n_figure n_cargo n_load k_there k_used k_hidden k_kind k_figure k_cargo k_load : List Int32} {isKept tlen llen m_ships m_inn m_coughs m_day n_ships n_inn n_coughs n_day k_ships k_inn k_coughs k_day held : Int32} {perm : Nat → Nat} {hist : Nat → Hs} {k : Nat} {x : Nat × va_E} (h : (wP G adp adr held perm hist)[k]? = some x) : (wT G ad adt adb ade adm adn adk adp adr refusals tcells lcells m_there m_used m_hidden m_kind m_figure m_cargo m_load n_there n_used n_hidden n_kind n_figure n_cargo n_load k_there k_used k_hidden k_kind k_figure k_cargo k_load isKept tlen llen m_ships m_inn m_coughs m_day n_ships n_inn n_coughs n_day k_ships k_inn k_coughs k_day held perm hist)[31 + k]? = some x := by
  have e : (wT G ad adt adb ade adm adn adk adp adr refusals tcells lcells m_there m_used m_hidden m_kind m_figure m_cargo m_load n_there n_used n_hidden n_kind n_figure n_cargo n_load k_there k_used k_hidden k_kind k_figure k_cargo k_load isKept tlen llen m_ships m_inn m_coughs m_day n_ships n_inn n_coughs n_day k_ships k_inn k_coughs k_day held perm hist) = (wA G ad adt adb adm adn adk adp refusals isKept ++ (wN G adt tcells tlen ++ (wB G adb ade ++ (wN G ade lcells llen ++ (wH G adm m_there m_used m_hidden m_kind m_figure m_cargo m_load m_ships m_inn m_coughs m_day ++ (wH G adn n_there n_used n_hidden n_kind n_figure n_cargo n_load n_ships n_inn n_coughs n_day ++ wH G adk k_there k_used k_hidden k_kind k_figure k_cargo k_load k_ships k_inn k_coughs k_day)))))) ++ (wP G adp adr held perm hist) := by
    unfold wT
    simp only [List.append_assoc]
  rw [e, List.getElem?_append_right (by show 31 ≤ 31 + k; omega)]
  rw [show 31 + k - (wA G ad adt adb adm adn adk adp refusals isKept ++ (wN G adt tcells tlen ++ (wB G adb ade ++ (wN G ade lcells llen ++ (wH G adm m_there m_used m_hidden m_kind m_figure m_cargo m_load m_ships m_inn m_coughs m_day ++ (wH G adn n_there n_used n_hidden n_kind n_figure n_cargo n_load n_ships n_inn n_coughs n_day ++ wH G adk k_there k_used k_hidden k_kind k_figure k_cargo k_load k_ships k_inn k_coughs k_day)))))).length = k from by show 31 + k - 31 = k; omega]
  exact h

set_option maxRecDepth 100000 in
set_option maxHeartbeats 4000000 in
theorem c_X2_at {l : Launch} {G : Gx} {adp : Nat → Nat} {adr : Nat → Nat → Nat} {held : Int32} {perm : Nat → Nat} {hist : Nat → Hs} {i : Int32} (h0 : 0 ≤ i) (h8 : i.toNatClampNeg < 8) : Ct l G yX2_at cX2_at 2 (some (.object RX0)) 0 0 [.ref (adp 0), .int i] (wP G adp adr held perm hist) (some (.ref (adr (perm i.toNatClampNeg) 0))) (wP G adp adr held perm hist) := by
  refine Ct.intro RX2 rfl (plainFor_of_name (by decide)) (Nat.le_of_ble_eq_true rfl) rfl ?_
  intro p e s m args below meth c A C H locs hs ls hl
  obtain ⟨hx, hb, hml, hown, hts, hK, hret, hlk⟩ := id C
  have hl : lv_has ls 2 [(0, .ref (adp 0)), (1, .int i)] := hl
  refine lv_iload_n hx hb (dk hX2_at_0 0 rfl) rfl (lv_at hl 1 rfl) ?_
  refine lv_if_lt (tgt := 22) hx hb (dk hX2_at_0 1 rfl) (by decide) (fun hc => absurd h0 (Int32.not_le.mpr hc)) (fun hc => ?_)
  refine lv_iload_n hx hb (dk hX2_at_0 2 rfl) rfl (lv_at hl 1 rfl) ?_
  refine lv_aload_n hx hb (dk hX2_at_0 3 rfl) rfl (lv_at hl 0 rfl) ?_
  refine rg ui2 rfl C hs 0 rfl 0 (by decide) tw_98 rfl rfl (dk hX2_at_0 4 rfl) ?_
  refine va_alen (v := 8) hx hb hK.1 hs.1 1 1 rfl (ty := .object RX0) rfl rfl (dk hX2_at_0 5 rfl) ?_
  refine lv_icmp_ge (tgt := 22) hx hb (dk hX2_at_0 6 rfl) (by decide) (fun hc => ?_) (fun hc => ?_)
  · exfalso
    have h1 : (8 : Int32).toInt ≤ i.toInt := Int32.le_iff_toInt_le.mp hc
    have h2 : i.toInt.toNat < 8 := h8
    have h3 : (8 : Int32).toInt = 8 := by decide
    omega
  refine lv_aload_n hx hb (dk hX2_at_0 7 rfl) rfl (lv_at hl 0 rfl) ?_
  refine rg ui2 rfl C hs 0 rfl 0 (by decide) tw_98 rfl rfl (dk hX2_at_0 8 rfl) ?_
  refine lv_iload_n hx hb (dk hX2_at_0 9 rfl) rfl (lv_at hl 1 rfl) ?_
  refine va_aldq (C := RX0) hx hb hK.1 hs.1 1 1 rfl rfl (vp_inL h0 h8) (dk hX2_at_0 10 rfl) ?_
  refine lv_goto (tgt := 23) hx hb (dk hX2_at_0 11 rfl) (by decide) ?_
  exact ra C hs (dk hX2_at_0 13 rfl)

set_option maxRecDepth 100000 in
set_option maxHeartbeats 4000000 in
theorem fo_step {l : Launch} {p : Program} {e : Env} {s : State} {m : MethodId} {args : Array Value} {below : List Frame} {meth : Method} {c : Code} {A : Nat → Prop} {R : Room} {Q : State → Prop} {G : Gx} {adp : Nat → Nat} {adr : Nat → Nat → Nat} {held : Int32} {hist : Nat → Hs} {a0 : Nat} (C : Cx p s m args meth c cX2_forgetOldest RX2 3 none G)
    (x : Int32) (k k0 : Nat) (h1 : ¬ (8 : Int32) ≤ x) (h2 : vp_in x 8) (h3 : vp_in (x - 1) 8) (h4 : x.toNatClampNeg = k) (h5 : (x - 1).toNatClampNeg = k0) (h6 : k < 8) {y : Int32} (h7 : x + 1 = y) {perm : Nat → Nat} {v : Nat} (hv : perm k = v) (hq : v < 8) {H : Heap} {locs : List Loc} (hs : St G A s.heap H locs (wP G adp adr held perm hist)) {ls : Array Slot} (hl : lv_has ls 3 [(2, .int x), (1, .ref a0), (0, .ref (adp 0))])
    (kk : ∀ (H : Heap) (locs : List Loc), St G A s.heap H locs (wP G adp adr held (upn perm k0 v) hist) → ∀ ls : Array Slot, lv_has ls 3 [(2, .int y), (1, .ref a0), (0, .ref (adp 0))] → W p l e R s m args below meth c H locs 0 0 Q (F0 m 9 ls [])) : W p l e R s m args below meth c H locs 0 0 Q (F0 m 9 ls []) := by
  obtain ⟨hx, hb, hml, hown, hts, hK, hret, hlk⟩ := id C
  subst h4; subst h5; subst h7; subst hv
  refine lv_iload_n hx hb (dk hX2_forgetOldest_0 7 rfl) rfl (lv_at hl 0 rfl) ?_
  refine lv_bipush (v := (8 : Int32)) hx hb (dk hX2_forgetOldest_0 8 rfl) (by decide) ?_
  refine lv_icmp_ge (tgt := 35) hx hb (dk hX2_forgetOldest_0 9 rfl) (by decide) (fun hc => absurd hc h1) (fun hc => ?_)
  refine lv_aload_n hx hb (dk hX2_forgetOldest_0 10 rfl) rfl (lv_at hl 2 rfl) ?_
  refine rg ui2 rfl C hs 0 rfl 0 (by decide) tw_98 rfl rfl (dk hX2_forgetOldest_0 11 rfl) ?_
  refine lv_iload_n hx hb (dk hX2_forgetOldest_0 12 rfl) rfl (lv_at hl 0 rfl) ?_
  refine lv_iconst (v := (1 : Int32)) hx hb (dk hX2_forgetOldest_0 13 rfl) (by decide) ?_
  refine lv_isub hx hb (dk hX2_forgetOldest_0 14 rfl) ?_
  refine lv_aload_n hx hb (dk hX2_forgetOldest_0 15 rfl) rfl (lv_at hl 2 rfl) ?_
  refine rg ui2 rfl C hs 0 rfl 0 (by decide) tw_98 rfl rfl (dk hX2_forgetOldest_0 16 rfl) ?_
  refine lv_iload_n hx hb (dk hX2_forgetOldest_0 17 rfl) rfl (lv_at hl 0 rfl) ?_
  refine va_aldq (C := RX0) hx hb hK.1 hs.1 1 1 rfl rfl h2 (dk hX2_forgetOldest_0 18 rfl) ?_
  obtain ⟨fs, hrow⟩ := wP_row (G := G) (adp := adp) (adr := adr) (held := held) (perm := perm) (hist := hist) _ hq
  refine va_astq (r := (RX0, TX0, 11)) hx hb hK.1 hs.1 hs.2.1 hs.2.2.1 1 1 _ 0 rfl rfl hrow rfl h3 (dk hX2_forgetOldest_0 19 rfl) (fun H locs k1 k2 k3 => ?_)
  rw [wP_put] at k1 k2
  have hs : St G A s.heap H locs (wP G adp adr held (upn perm (x - 1).toNatClampNeg (perm x.toNatClampNeg)) hist) := ⟨k1, k2, k3, hs.2.2.2⟩
  refine lv_iinc (v := (x + (1 : Int32))) (lv' := [(2, .int (x + (1 : Int32))), (1, .ref a0), (0, .ref (adp 0))]) hx hb (dk hX2_forgetOldest_0 20 rfl) hl (k := 0) rfl (by first | rfl | decide) (by decide) rfl (fun ls hl => ?_)
  refine lv_goto (tgt := 9) hx hb (dk hX2_forgetOldest_0 21 rfl) (by decide) ?_
  exact kk _ _ hs _ hl

set_option maxRecDepth 100000 in
set_option maxHeartbeats 4000000 in
theorem c_X2_forgetOldest {l : Launch} {G : Gx} {adp : Nat → Nat} {adr : Nat → Nat → Nat} {held : Int32} {perm : Nat → Nat} {hist : Nat → Hs} (h0 : ∀ j, j < 8 → perm j < 8) : Ct l G yX2_forgetOldest cX2_forgetOldest 3 none 0 0 [.ref (adp 0)] (wP G adp adr held perm hist) none (wP G adp adr 7 (rotp perm) hist) := by
  refine Ct.intro RX2 rfl (plainFor_of_name (by decide)) (Nat.le_of_ble_eq_true rfl) rfl ?_
  intro p e s m args below meth c A C H locs hs ls hl
  obtain ⟨hx, hb, hml, hown, hts, hK, hret, hlk⟩ := id C
  have hl : lv_has ls 3 [(0, .ref (adp 0))] := hl
  refine lv_aload_n hx hb (dk hX2_forgetOldest_0 0 rfl) rfl (lv_at hl 0 rfl) ?_
  refine rg ui2 rfl C hs 0 rfl 0 (by decide) tw_98 rfl rfl (dk hX2_forgetOldest_0 1 rfl) ?_
  refine lv_iconst (v := (0 : Int32)) hx hb (dk hX2_forgetOldest_0 2 rfl) (by decide) ?_
  refine va_aldq (C := RX0) hx hb hK.1 hs.1 1 1 rfl rfl (by unfold vp_in; decide) (dk hX2_forgetOldest_0 3 rfl) ?_
  refine lv_astore_n (lv' := [(1, .ref (adr (perm 0) 0)), (0, .ref (adp 0))]) hx hb (dk hX2_forgetOldest_0 4 rfl) rfl hl (by decide) rfl (fun ls hl => ?_)
  refine lv_iconst (v := (1 : Int32)) hx hb (dk hX2_forgetOldest_0 5 rfl) (by decide) ?_
  refine lv_istore_n (lv' := [(2, .int (1 : Int32)), (1, .ref (adr (perm 0) 0)), (0, .ref (adp 0))]) hx hb (dk hX2_forgetOldest_0 6 rfl) rfl hl (by decide) rfl (fun ls hl => ?_)
  refine fo_step C 1 1 0 (by decide) (by unfold vp_in; decide) (by unfold vp_in; decide) (by decide) (by decide) (by decide) (y := 2) (by decide) (perm := perm) (v := perm 1) rfl (h0 1 (by decide)) hs hl (fun H locs hs ls hl => ?_)
  refine fo_step C 2 2 1 (by decide) (by unfold vp_in; decide) (by unfold vp_in; decide) (by decide) (by decide) (by decide) (y := 3) (by decide) (perm := (upn perm 0 (perm 1))) (v := perm 2) rfl (h0 2 (by decide)) hs hl (fun H locs hs ls hl => ?_)
  refine fo_step C 3 3 2 (by decide) (by unfold vp_in; decide) (by unfold vp_in; decide) (by decide) (by decide) (by decide) (y := 4) (by decide) (perm := (upn (upn perm 0 (perm 1)) 1 (perm 2))) (v := perm 3) rfl (h0 3 (by decide)) hs hl (fun H locs hs ls hl => ?_)
  refine fo_step C 4 4 3 (by decide) (by unfold vp_in; decide) (by unfold vp_in; decide) (by decide) (by decide) (by decide) (y := 5) (by decide) (perm := (upn (upn (upn perm 0 (perm 1)) 1 (perm 2)) 2 (perm 3))) (v := perm 4) rfl (h0 4 (by decide)) hs hl (fun H locs hs ls hl => ?_)
  refine fo_step C 5 5 4 (by decide) (by unfold vp_in; decide) (by unfold vp_in; decide) (by decide) (by decide) (by decide) (y := 6) (by decide) (perm := (upn (upn (upn (upn perm 0 (perm 1)) 1 (perm 2)) 2 (perm 3)) 3 (perm 4))) (v := perm 5) rfl (h0 5 (by decide)) hs hl (fun H locs hs ls hl => ?_)
  refine fo_step C 6 6 5 (by decide) (by unfold vp_in; decide) (by unfold vp_in; decide) (by decide) (by decide) (by decide) (y := 7) (by decide) (perm := (upn (upn (upn (upn (upn perm 0 (perm 1)) 1 (perm 2)) 2 (perm 3)) 3 (perm 4)) 4 (perm 5))) (v := perm 6) rfl (h0 6 (by decide)) hs hl (fun H locs hs ls hl => ?_)
  refine fo_step C 7 7 6 (by decide) (by unfold vp_in; decide) (by unfold vp_in; decide) (by decide) (by decide) (by decide) (y := 8) (by decide) (perm := (upn (upn (upn (upn (upn (upn perm 0 (perm 1)) 1 (perm 2)) 2 (perm 3)) 3 (perm 4)) 4 (perm 5)) 5 (perm 6))) (v := perm 7) rfl (h0 7 (by decide)) hs hl (fun H locs hs ls hl => ?_)
  refine lv_iload_n hx hb (dk hX2_forgetOldest_0 7 rfl) rfl (lv_at hl 0 rfl) ?_
  refine lv_bipush (v := (8 : Int32)) hx hb (dk hX2_forgetOldest_0 8 rfl) (by decide) ?_
  refine lv_icmp_ge (tgt := 35) hx hb (dk hX2_forgetOldest_0 9 rfl) (by decide) (fun hc => ?_) (fun hc => absurd (by decide) hc)
  refine lv_aload_n hx hb (dk hX2_forgetOldest_0 22 rfl) rfl (lv_at hl 2 rfl) ?_
  refine rg ui2 rfl C hs 0 rfl 0 (by decide) tw_98 rfl rfl (dk hX2_forgetOldest_0 23 rfl) ?_
  refine lv_bipush (v := (7 : Int32)) hx hb (dk hX2_forgetOldest_0 24 rfl) (by decide) ?_
  refine lv_aload_n hx hb (dk hX2_forgetOldest_0 25 rfl) rfl (lv_at hl 1 rfl) ?_
  obtain ⟨fs, hrow⟩ := wP_row (G := G) (adp := adp) (adr := adr) (held := held) (perm := _) (hist := hist) _ (h0 0 (by decide))
  refine va_astq (r := (RX0, TX0, 11)) hx hb hK.1 hs.1 hs.2.1 hs.2.2.1 1 1 _ 0 rfl rfl hrow rfl (by unfold vp_in; decide) (dk hX2_forgetOldest_0 26 rfl) (fun H locs k1 k2 k3 => ?_)
  rw [wP_put, show (7 : Int32).toNatClampNeg = 7 by decide] at k1 k2
  have k1' : va_P G.1 vwCl (wP G adp adr held (rotp perm) hist) H := by rw [← rot_up]; exact k1
  have k2' : va_D A (wP G adp adr held (rotp perm) hist) := by rw [← rot_up]; exact k2
  have hs : St G A s.heap H locs (wP G adp adr held (rotp perm) hist) := ⟨k1', k2', k3, hs.2.2.2⟩
  refine lv_aload_n hx hb (dk hX2_forgetOldest_0 27 rfl) rfl (lv_at hl 2 rfl) ?_
  refine lv_bipush (v := (7 : Int32)) hx hb (dk hX2_forgetOldest_0 28 rfl) (by decide) ?_
  refine rp (w1 := (wP G adp adr 7 (rotp perm) hist)) tyX2 tyX2_ok nmX2 ui2 rfl C hs 0 rfl 1 (by decide) tw_99 rfl rfl rfl rfl (Nat.le_of_ble_eq_true rfl) rfl (dk hX2_forgetOldest_0 29 rfl) (fun H locs hs => ?_)
  exact rv C hs (dk hX2_forgetOldest_0 30 rfl)

set_option maxRecDepth 100000 in
set_option maxHeartbeats 4000000 in
theorem c_X2_rowTo {l : Launch} {G : Gx} {ad adt adb ade adm adn adk adp : Nat → Nat} {adr : Nat → Nat → Nat} {refusals tcells lcells m_there m_used m_hidden m_kind m_figure m_cargo m_load n_there n_used n_hidden n_kind n_figure n_cargo n_load k_there k_used k_hidden k_kind k_figure k_cargo k_load : List Int32} {isKept tlen llen m_ships m_inn m_coughs m_day n_ships n_inn n_coughs n_day k_ships k_inn k_coughs k_day held : Int32} {perm : Nat → Nat} {hist : Nat → Hs} (r : Nat) (h : r < 8) {u : Hs} (hf : X0_copyFrom (hist r).1 (hist r).2.1 (hist r).2.2.1 (hist r).2.2.2.1 (hist r).2.2.2.2.1 (hist r).2.2.2.2.2.1 (hist r).2.2.2.2.2.2.1 n_there n_used n_hidden n_kind n_figure n_cargo n_load (hist r).2.2.2.2.2.2.2.1 (hist r).2.2.2.2.2.2.2.2.1 (hist r).2.2.2.2.2.2.2.2.2.1 (hist r).2.2.2.2.2.2.2.2.2.2 n_ships n_inn n_coughs n_day = some u) : Ct l G yX0_copyFrom cX0_copyFrom 3 none 0 0 [.ref (adr r 0), .ref (adn 0)] (wT G ad adt adb ade adm adn adk adp adr refusals tcells lcells m_there m_used m_hidden m_kind m_figure m_cargo m_load n_there n_used n_hidden n_kind n_figure n_cargo n_load k_there k_used k_hidden k_kind k_figure k_cargo k_load isKept tlen llen m_ships m_inn m_coughs m_day n_ships n_inn n_coughs n_day k_ships k_inn k_coughs k_day held perm hist) none (wT G ad adt adb ade adm adn adk adp adr refusals tcells lcells m_there m_used m_hidden m_kind m_figure m_cargo m_load n_there n_used n_hidden n_kind n_figure n_cargo n_load k_there k_used k_hidden k_kind k_figure k_cargo k_load isKept tlen llen m_ships m_inn m_coughs m_day n_ships n_inn n_coughs n_day k_ships k_inn k_coughs k_day held perm (uph hist r u)) := by
  obtain ⟨F, B, e1, e2⟩ := wP_split (G := G) (adr := adr) (hist := hist) (x := u) r h
  unfold wT wP
  rw [e1, e2]
  refine Ct.pre (Ct.pre (Ct.pre (Ct.pre (Ct.pre ?_))))
  have key := Ct.two (Y := wH G adk k_there k_used k_hidden k_kind k_figure k_cargo k_load k_ships k_inn k_coughs k_day ++ ([(adp 0, .inr (2, [.ref (adp 1), .int held])), (adp 1, .inl (G.2.2, 8, .inr (.inr (.inr (.inr (fun j => some (adr (perm j) 0)))))))] ++ F)) (Z := B) (a := wH G adn n_there n_used n_hidden n_kind n_figure n_cargo n_load n_ships n_inn n_coughs n_day) (a1 := wH G adn n_there n_used n_hidden n_kind n_figure n_cargo n_load n_ships n_inn n_coughs n_day) (c := wHs G (adr r) (hist r)) (c1 := wHs G (adr r) u) rfl rfl (c_X0_copyFrom__OH (l := l) (G := G) (ado := adn) (ad := adr r) hf)
  simp only [List.append_assoc] at key ⊢
  exact key

set_option maxRecDepth 100000 in
set_option maxHeartbeats 4000000 in
theorem c_X2_rowFrom {l : Launch} {G : Gx} {ad adt adb ade adm adn adk adp : Nat → Nat} {adr : Nat → Nat → Nat} {refusals tcells lcells m_there m_used m_hidden m_kind m_figure m_cargo m_load n_there n_used n_hidden n_kind n_figure n_cargo n_load k_there k_used k_hidden k_kind k_figure k_cargo k_load : List Int32} {isKept tlen llen m_ships m_inn m_coughs m_day n_ships n_inn n_coughs n_day k_ships k_inn k_coughs k_day held : Int32} {perm : Nat → Nat} {hist : Nat → Hs} (r : Nat) (h : r < 8) {u : Hs} (hf : X0_copyFrom n_there n_used n_hidden n_kind n_figure n_cargo n_load (hist r).1 (hist r).2.1 (hist r).2.2.1 (hist r).2.2.2.1 (hist r).2.2.2.2.1 (hist r).2.2.2.2.2.1 (hist r).2.2.2.2.2.2.1 n_ships n_inn n_coughs n_day (hist r).2.2.2.2.2.2.2.1 (hist r).2.2.2.2.2.2.2.2.1 (hist r).2.2.2.2.2.2.2.2.2.1 (hist r).2.2.2.2.2.2.2.2.2.2 = some u) : Ct l G yX0_copyFrom cX0_copyFrom 3 none 0 0 [.ref (adn 0), .ref (adr r 0)] (wT G ad adt adb ade adm adn adk adp adr refusals tcells lcells m_there m_used m_hidden m_kind m_figure m_cargo m_load n_there n_used n_hidden n_kind n_figure n_cargo n_load k_there k_used k_hidden k_kind k_figure k_cargo k_load isKept tlen llen m_ships m_inn m_coughs m_day n_ships n_inn n_coughs n_day k_ships k_inn k_coughs k_day held perm hist) none (wT G ad adt adb ade adm adn adk adp adr refusals tcells lcells m_there m_used m_hidden m_kind m_figure m_cargo m_load (u).1 (u).2.1 (u).2.2.1 (u).2.2.2.1 (u).2.2.2.2.1 (u).2.2.2.2.2.1 (u).2.2.2.2.2.2.1 k_there k_used k_hidden k_kind k_figure k_cargo k_load isKept tlen llen m_ships m_inn m_coughs m_day (u).2.2.2.2.2.2.2.1 (u).2.2.2.2.2.2.2.2.1 (u).2.2.2.2.2.2.2.2.2.1 (u).2.2.2.2.2.2.2.2.2.2 k_ships k_inn k_coughs k_day held perm hist) := by
  obtain ⟨F, B, e1, -⟩ := wP_split (G := G) (adr := adr) (hist := hist) (x := u) r h
  unfold wT wP
  rw [e1]
  refine Ct.pre (Ct.pre (Ct.pre (Ct.pre (Ct.pre ?_))))
  have key := Ct.two (Y := wH G adk k_there k_used k_hidden k_kind k_figure k_cargo k_load k_ships k_inn k_coughs k_day ++ ([(adp 0, .inr (2, [.ref (adp 1), .int held])), (adp 1, .inl (G.2.2, 8, .inr (.inr (.inr (.inr (fun j => some (adr (perm j) 0)))))))] ++ F)) (Z := B) (a := wH G adn n_there n_used n_hidden n_kind n_figure n_cargo n_load n_ships n_inn n_coughs n_day) (a1 := wHs G adn u) (c := wHs G (adr r) (hist r)) (c1 := wHs G (adr r) (hist r)) rfl rfl (c_X0_copyFrom (l := l) (G := G) (ad := adn) (ado := adr r) hf)
  simp only [List.append_assoc] at key ⊢
  exact key

set_option maxRecDepth 100000 in
set_option maxHeartbeats 4000000 in
theorem k2_keep {p : Program} {e : Env} {s : State} {m : MethodId} {args : Array Value} {below : List Frame} {meth : Method} {c : Code} {A : Nat → Prop} {l : Launch} {G : Gx} {ad adt adb ade adm adn adk adp : Nat → Nat} {adr : Nat → Nat → Nat} {refusals tcells lcells m_there m_used m_hidden m_kind m_figure m_cargo m_load n_there n_used n_hidden n_kind n_figure n_cargo n_load k_there k_used k_hidden k_kind k_figure k_cargo k_load : List Int32} {isKept tlen llen m_ships m_inn m_coughs m_day n_ships n_inn n_coughs n_day k_ships k_inn k_coughs k_day held : Int32} {perm : Nat → Nat} {hist : Nat → Hs} {out : Int32 × (Nat → Nat) × (Nat → Hs)} (hf : keep2 n_there n_used n_hidden n_kind n_figure n_cargo n_load n_ships n_inn n_coughs n_day held perm hist = some out) (h0 : ∀ j, j < 8 → perm j < 8) (C : Cx p s m args meth c cX2_keep RX2 3 none G) {H : Heap} {locs : List Loc} (hs : St G A s.heap H locs (wT G ad adt adb ade adm adn adk adp adr refusals tcells lcells m_there m_used m_hidden m_kind m_figure m_cargo m_load n_there n_used n_hidden n_kind n_figure n_cargo n_load k_there k_used k_hidden k_kind k_figure k_cargo k_load isKept tlen llen m_ships m_inn m_coughs m_day n_ships n_inn n_coughs n_day k_ships k_inn k_coughs k_day held perm hist)) {ls : Array Slot} (hl : lv_has ls 3 [(0, .ref (adp 0)), (1, .ref (adn 0))]) : W p l e (rmOf 1 22) s m args below meth c H locs 0 0 (MQ below (Qof G A none (wT G ad adt adb ade adm adn adk adp adr refusals tcells lcells m_there m_used m_hidden m_kind m_figure m_cargo m_load n_there n_used n_hidden n_kind n_figure n_cargo n_load k_there k_used k_hidden k_kind k_figure k_cargo k_load isKept tlen llen m_ships m_inn m_coughs m_day n_ships n_inn n_coughs n_day k_ships k_inn k_coughs k_day out.1 out.2.1 out.2.2)) args s 0 0 A) (F0 m 13 ls []) := by
  obtain ⟨hx, hb, hml, hown, hts, hK, hret, hlk⟩ := id C
  unfold keep2 at hf
  have hc : 0 ≤ held ∧ held.toNatClampNeg < 8 := Classical.byContradiction (fun hc => by rw [if_neg hc] at hf; cases hf)
  rw [if_pos hc] at hf
  obtain ⟨u, hu, hf⟩ := Option.bind_eq_some_iff.mp hf
  cases hf
  refine lv_aload_n hx hb (dk hX2_keep_0 6 rfl) rfl (lv_at hl 0 rfl) ?_
  refine lv_aload_n hx hb (dk hX2_keep_0 7 rfl) rfl (lv_at hl 0 rfl) ?_
  refine rg ui2 rfl C hs 31 rfl 1 (by decide) tw_99 rfl rfl (dk hX2_keep_0 8 rfl) ?_
  refine Ct.V (As := [.int held]) (rest := []) (st1 := [.ref (adr (perm held.toNatClampNeg) 0)]) (w1 := (wT G ad adt adb ade adm adn adk adp adr refusals tcells lcells m_there m_used m_hidden m_kind m_figure m_cargo m_load n_there n_used n_hidden n_kind n_figure n_cargo n_load k_there k_used k_hidden k_kind k_figure k_cargo k_load isKept tlen llen m_ships m_inn m_coughs m_day n_ships n_inn n_coughs n_day k_ships k_inn k_coughs k_day held perm hist)) C hs (Ct.pre (Ct.pre (Ct.pre (Ct.pre (Ct.pre (Ct.pre (Ct.pre (c_X2_at hc.1 hc.2))))))))  tw_244 tw_246 tw_3 tw_19 tw_247 nq_X2_at (by decide) 31 2 rfl rfl rfl rfl hl.1 rfl (Nat.le_of_ble_eq_true rfl) (dk hX2_keep_0 9 rfl) ⟨Nat.zero_le _, Nat.zero_le _⟩ rfl (fun H locs hs => ?_)
  refine lv_astore_n (lv' := [(2, .ref (adr (perm held.toNatClampNeg) 0)), (0, .ref (adp 0)), (1, .ref (adn 0))]) hx hb (dk hX2_keep_0 10 rfl) rfl hl (by decide) rfl (fun ls hl => ?_)
  refine lv_aload_n hx hb (dk hX2_keep_0 11 rfl) rfl (lv_at hl 0 rfl) ?_
  refine lv_ifnull hx hb (dk hX2_keep_0 12 rfl) ?_
  refine lv_aload_n hx hb (dk hX2_keep_0 13 rfl) rfl (lv_at hl 0 rfl) ?_
  refine lv_aload_n hx hb (dk hX2_keep_0 14 rfl) rfl (lv_at hl 2 rfl) ?_
  have hq := h0 _ hc.2
  obtain ⟨fs, hrow⟩ := wP_row (G := G) (adp := adp) (adr := adr) (held := held) (perm := perm) (hist := hist) _ hq
  refine Ct.V (As := [.ref (adn 0)]) (rest := []) (st1 := []) (w1 := (wT G ad adt adb ade adm adn adk adp adr refusals tcells lcells m_there m_used m_hidden m_kind m_figure m_cargo m_load n_there n_used n_hidden n_kind n_figure n_cargo n_load k_there k_used k_hidden k_kind k_figure k_cargo k_load isKept tlen llen m_ships m_inn m_coughs m_day n_ships n_inn n_coughs n_day k_ships k_inn k_coughs k_day held perm (uph hist (perm held.toNatClampNeg) u))) C hs (c_X2_rowTo _ hq hu) tw_248 tw_249 tw_250 tw_18 tw_251 nq_X0_copyFrom (by decide) (31 + (2 + 8 * perm held.toNatClampNeg)) 0 rfl rfl (wT_row hrow) rfl hl.1 rfl (Nat.le_of_ble_eq_true rfl) (dk hX2_keep_0 15 rfl) ⟨Nat.zero_le _, Nat.zero_le _⟩ rfl (fun H locs hs => ?_)
  refine lv_aload_n hx hb (dk hX2_keep_0 16 rfl) rfl (lv_at hl 1 rfl) ?_
  refine lv_dup hx hb (dk hX2_keep_0 17 rfl) rfl ?_
  refine rg ui2 rfl C hs 31 rfl 1 (by decide) tw_99 rfl rfl (dk hX2_keep_0 18 rfl) ?_
  refine lv_iconst (v := (1 : Int32)) hx hb (dk hX2_keep_0 19 rfl) (by decide) ?_
  refine lv_iadd hx hb (dk hX2_keep_0 20 rfl) ?_
  refine rp (w1 := (wT G ad adt adb ade adm adn adk adp adr refusals tcells lcells m_there m_used m_hidden m_kind m_figure m_cargo m_load n_there n_used n_hidden n_kind n_figure n_cargo n_load k_there k_used k_hidden k_kind k_figure k_cargo k_load isKept tlen llen m_ships m_inn m_coughs m_day n_ships n_inn n_coughs n_day k_ships k_inn k_coughs k_day (held + 1) perm (uph hist (perm held.toNatClampNeg) u))) tyX2 tyX2_ok nmX2 ui2 rfl C hs 31 rfl 1 (by decide) tw_99 rfl rfl rfl rfl (Nat.le_of_ble_eq_true rfl) rfl (dk hX2_keep_0 21 rfl) (fun H locs hs => ?_)
  exact rv C hs (dk hX2_keep_0 22 rfl)

set_option maxRecDepth 100000 in
set_option maxHeartbeats 4000000 in
theorem c_X2_keep {l : Launch} {G : Gx} {ad adt adb ade adm adn adk adp : Nat → Nat} {adr : Nat → Nat → Nat} {refusals tcells lcells m_there m_used m_hidden m_kind m_figure m_cargo m_load n_there n_used n_hidden n_kind n_figure n_cargo n_load k_there k_used k_hidden k_kind k_figure k_cargo k_load : List Int32} {isKept tlen llen m_ships m_inn m_coughs m_day n_ships n_inn n_coughs n_day k_ships k_inn k_coughs k_day held : Int32} {perm : Nat → Nat} {hist : Nat → Hs} {out : Int32 × (Nat → Nat) × (Nat → Hs)} (hf : X2_keep n_there n_used n_hidden n_kind n_figure n_cargo n_load n_ships n_inn n_coughs n_day held perm hist = some out) : Ct l G yX2_keep cX2_keep 3 none 1 22 [.ref (adp 0), .ref (adn 0)] (wT G ad adt adb ade adm adn adk adp adr refusals tcells lcells m_there m_used m_hidden m_kind m_figure m_cargo m_load n_there n_used n_hidden n_kind n_figure n_cargo n_load k_there k_used k_hidden k_kind k_figure k_cargo k_load isKept tlen llen m_ships m_inn m_coughs m_day n_ships n_inn n_coughs n_day k_ships k_inn k_coughs k_day held perm hist) none (wT G ad adt adb ade adm adn adk adp adr refusals tcells lcells m_there m_used m_hidden m_kind m_figure m_cargo m_load n_there n_used n_hidden n_kind n_figure n_cargo n_load k_there k_used k_hidden k_kind k_figure k_cargo k_load isKept tlen llen m_ships m_inn m_coughs m_day n_ships n_inn n_coughs n_day k_ships k_inn k_coughs k_day out.1 out.2.1 out.2.2) := by
  refine Ct.intro RX2 rfl (plainFor_of_name (by decide)) (Nat.le_of_ble_eq_true rfl) (by rfl) ?_
  intro p e s m args below meth c A C H locs hs ls hl
  obtain ⟨hx, hb, hml, hown, hts, hK, hret, hlk⟩ := id C
  have hl : lv_has ls 3 [(0, .ref (adp 0)), (1, .ref (adn 0))] := hl
  unfold X2_keep at hf
  have hp : pok perm = true := Classical.byContradiction (fun hp => by rw [if_neg hp] at hf; cases hf)
  rw [if_pos hp] at hf
  have h0 := pok_lt hp
  refine lv_aload_n hx hb (dk hX2_keep_0 0 rfl) rfl (lv_at hl 0 rfl) ?_
  refine rg ui2 rfl C hs 31 rfl 1 (by decide) tw_99 rfl rfl (dk hX2_keep_0 1 rfl) ?_
  refine lv_bipush (v := (8 : Int32)) hx hb (dk hX2_keep_0 2 rfl) (by decide) ?_
  refine lv_icmp_lt (tgt := 13) hx hb (dk hX2_keep_0 3 rfl) (by decide) (fun hc => ?_) (fun hc => ?_)
  · rw [if_pos hc] at hf
    exact k2_keep hf h0 C hs hl
  · rw [if_neg hc] at hf
    refine lv_aload_n hx hb (dk hX2_keep_0 4 rfl) rfl (lv_at hl 0 rfl) ?_
    refine Ct.V (As := []) (rest := []) (st1 := []) (w1 := (wT G ad adt adb ade adm adn adk adp adr refusals tcells lcells m_there m_used m_hidden m_kind m_figure m_cargo m_load n_there n_used n_hidden n_kind n_figure n_cargo n_load k_there k_used k_hidden k_kind k_figure k_cargo k_load isKept tlen llen m_ships m_inn m_coughs m_day n_ships n_inn n_coughs n_day k_ships k_inn k_coughs k_day 7 (rotp perm) hist)) C hs (Ct.pre (Ct.pre (Ct.pre (Ct.pre (Ct.pre (Ct.pre (Ct.pre (c_X2_forgetOldest h0))))))))  tw_240 tw_242 tw_2 tw_19 tw_243 nq_X2_forgetOldest (by decide) 31 2 rfl rfl rfl rfl hl.1 rfl (Nat.le_of_ble_eq_true rfl) (dk hX2_keep_0 5 rfl) ⟨Nat.zero_le _, Nat.zero_le _⟩ rfl (fun H locs hs => ?_)
    exact k2_keep hf (rotp_lt h0) C hs hl

set_option maxRecDepth 100000 in
set_option maxHeartbeats 4000000 in
theorem c_X2_takeBack {l : Launch} {G : Gx} {ad adt adb ade adm adn adk adp : Nat → Nat} {adr : Nat → Nat → Nat} {refusals tcells lcells m_there m_used m_hidden m_kind m_figure m_cargo m_load n_there n_used n_hidden n_kind n_figure n_cargo n_load k_there k_used k_hidden k_kind k_figure k_cargo k_load : List Int32} {isKept tlen llen m_ships m_inn m_coughs m_day n_ships n_inn n_coughs n_day k_ships k_inn k_coughs k_day held : Int32} {perm : Nat → Nat} {hist : Nat → Hs} {out : List Int32 × List Int32 × List Int32 × List Int32 × List Int32 × List Int32 × List Int32 × Int32 × Int32 × Int32 × Int32 × Int32} (hf : X2_takeBack n_there n_used n_hidden n_kind n_figure n_cargo n_load n_ships n_inn n_coughs n_day held perm hist = some out) : Ct l G yX2_takeBack cX2_takeBack 3 none 1 22 [.ref (adp 0), .ref (adn 0)] (wT G ad adt adb ade adm adn adk adp adr refusals tcells lcells m_there m_used m_hidden m_kind m_figure m_cargo m_load n_there n_used n_hidden n_kind n_figure n_cargo n_load k_there k_used k_hidden k_kind k_figure k_cargo k_load isKept tlen llen m_ships m_inn m_coughs m_day n_ships n_inn n_coughs n_day k_ships k_inn k_coughs k_day held perm hist) none (wT G ad adt adb ade adm adn adk adp adr refusals tcells lcells m_there m_used m_hidden m_kind m_figure m_cargo m_load out.1 out.2.1 out.2.2.1 out.2.2.2.1 out.2.2.2.2.1 out.2.2.2.2.2.1 out.2.2.2.2.2.2.1 k_there k_used k_hidden k_kind k_figure k_cargo k_load isKept tlen llen m_ships m_inn m_coughs m_day out.2.2.2.2.2.2.2.1 out.2.2.2.2.2.2.2.2.1 out.2.2.2.2.2.2.2.2.2.1 out.2.2.2.2.2.2.2.2.2.2.1 k_ships k_inn k_coughs k_day out.2.2.2.2.2.2.2.2.2.2.2 perm hist) := by
  refine Ct.intro RX2 rfl (plainFor_of_name (by decide)) (Nat.le_of_ble_eq_true rfl) (by rfl) ?_
  intro p e s m args below meth c A C H locs hs ls hl
  obtain ⟨hx, hb, hml, hown, hts, hK, hret, hlk⟩ := id C
  have hl : lv_has ls 3 [(0, .ref (adp 0)), (1, .ref (adn 0))] := hl
  unfold X2_takeBack at hf
  have hp : pok perm = true := Classical.byContradiction (fun hp => by rw [if_neg hp] at hf; cases hf)
  rw [if_pos hp] at hf
  have h0 := pok_lt hp
  have hc : 0 ≤ held - 1 ∧ (held - 1).toNatClampNeg < 8 := Classical.byContradiction (fun hc => by rw [if_neg hc] at hf; cases hf)
  rw [if_pos hc] at hf
  obtain ⟨u, hu, hf⟩ := Option.bind_eq_some_iff.mp hf
  cases hf
  refine lv_aload_n hx hb (dk hX2_takeBack_0 0 rfl) rfl (lv_at hl 0 rfl) ?_
  refine lv_aload_n hx hb (dk hX2_takeBack_0 1 rfl) rfl (lv_at hl 0 rfl) ?_
  refine rg ui2 rfl C hs 31 rfl 1 (by decide) tw_99 rfl rfl (dk hX2_takeBack_0 2 rfl) ?_
  refine lv_iconst (v := (1 : Int32)) hx hb (dk hX2_takeBack_0 3 rfl) (by decide) ?_
  refine lv_isub hx hb (dk hX2_takeBack_0 4 rfl) ?_
  refine Ct.V (As := [.int (held - 1)]) (rest := []) (st1 := [.ref (adr (perm (held - 1).toNatClampNeg) 0)]) (w1 := (wT G ad adt adb ade adm adn adk adp adr refusals tcells lcells m_there m_used m_hidden m_kind m_figure m_cargo m_load n_there n_used n_hidden n_kind n_figure n_cargo n_load k_there k_used k_hidden k_kind k_figure k_cargo k_load isKept tlen llen m_ships m_inn m_coughs m_day n_ships n_inn n_coughs n_day k_ships k_inn k_coughs k_day held perm hist)) C hs (Ct.pre (Ct.pre (Ct.pre (Ct.pre (Ct.pre (Ct.pre (Ct.pre (c_X2_at hc.1 hc.2))))))))  tw_244 tw_246 tw_3 tw_19 tw_247 nq_X2_at (by decide) 31 2 rfl rfl rfl rfl hl.1 rfl (Nat.le_of_ble_eq_true rfl) (dk hX2_takeBack_0 5 rfl) ⟨Nat.zero_le _, Nat.zero_le _⟩ rfl (fun H locs hs => ?_)
  refine lv_astore_n (lv' := [(2, .ref (adr (perm (held - 1).toNatClampNeg) 0)), (0, .ref (adp 0)), (1, .ref (adn 0))]) hx hb (dk hX2_takeBack_0 6 rfl) rfl hl (by decide) rfl (fun ls hl => ?_)
  refine lv_aload_n hx hb (dk hX2_takeBack_0 7 rfl) rfl (lv_at hl 0 rfl) ?_
  refine lv_ifnull hx hb (dk hX2_takeBack_0 8 rfl) ?_
  refine lv_aload_n hx hb (dk hX2_takeBack_0 9 rfl) rfl (lv_at hl 2 rfl) ?_
  refine lv_aload_n hx hb (dk hX2_takeBack_0 10 rfl) rfl (lv_at hl 0 rfl) ?_
  have hq := h0 _ hc.2
  refine Ct.V (As := [.ref (adr (perm (held - 1).toNatClampNeg) 0)]) (rest := []) (st1 := []) (w1 := (wT G ad adt adb ade adm adn adk adp adr refusals tcells lcells m_there m_used m_hidden m_kind m_figure m_cargo m_load (u).1 (u).2.1 (u).2.2.1 (u).2.2.2.1 (u).2.2.2.2.1 (u).2.2.2.2.2.1 (u).2.2.2.2.2.2.1 k_there k_used k_hidden k_kind k_figure k_cargo k_load isKept tlen llen m_ships m_inn m_coughs m_day (u).2.2.2.2.2.2.2.1 (u).2.2.2.2.2.2.2.2.1 (u).2.2.2.2.2.2.2.2.2.1 (u).2.2.2.2.2.2.2.2.2.2 k_ships k_inn k_coughs k_day held perm hist)) C hs (c_X2_rowFrom _ hq hu) tw_248 tw_249 tw_250 tw_18 tw_251 nq_X0_copyFrom (by decide) 15 0 rfl rfl rfl rfl hl.1 rfl (Nat.le_of_ble_eq_true rfl) (dk hX2_takeBack_0 11 rfl) ⟨Nat.zero_le _, Nat.zero_le _⟩ rfl (fun H locs hs => ?_)
  refine lv_aload_n hx hb (dk hX2_takeBack_0 12 rfl) rfl (lv_at hl 1 rfl) ?_
  refine lv_dup hx hb (dk hX2_takeBack_0 13 rfl) rfl ?_
  refine rg ui2 rfl C hs 31 rfl 1 (by decide) tw_99 rfl rfl (dk hX2_takeBack_0 14 rfl) ?_
  refine lv_iconst (v := (1 : Int32)) hx hb (dk hX2_takeBack_0 15 rfl) (by decide) ?_
  refine lv_isub hx hb (dk hX2_takeBack_0 16 rfl) ?_
  refine rp (w1 := (wT G ad adt adb ade adm adn adk adp adr refusals tcells lcells m_there m_used m_hidden m_kind m_figure m_cargo m_load (u).1 (u).2.1 (u).2.2.1 (u).2.2.2.1 (u).2.2.2.2.1 (u).2.2.2.2.2.1 (u).2.2.2.2.2.2.1 k_there k_used k_hidden k_kind k_figure k_cargo k_load isKept tlen llen m_ships m_inn m_coughs m_day (u).2.2.2.2.2.2.2.1 (u).2.2.2.2.2.2.2.2.1 (u).2.2.2.2.2.2.2.2.2.1 (u).2.2.2.2.2.2.2.2.2.2 k_ships k_inn k_coughs k_day (held - 1) perm hist)) tyX2 tyX2_ok nmX2 ui2 rfl C hs 31 rfl 1 (by decide) tw_99 rfl rfl rfl rfl (Nat.le_of_ble_eq_true rfl) rfl (dk hX2_takeBack_0 17 rfl) (fun H locs hs => ?_)
  exact rv C hs (dk hX2_takeBack_0 18 rfl)
