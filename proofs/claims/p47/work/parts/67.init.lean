/-! the constructors -/
def hs0 : Hs := ([20, 20, 20, 20, 20, 20], [2, 2, 2, 2, 2, 2], List.replicate 6 0, List.replicate 7 0, List.replicate 7 0, List.replicate 7 0, List.replicate 7 0, 0, 0, 0, 0)

theorem df0 : ∀ j, j < 11 → defaultValue (tyX0 j) = vp_V [.null, .null, .null, .null, .null, .null, .null, .int 0, .int 0, .int 0, .int 0] j := by
  intro j hj
  match j, hj with
    | 0, _ => rfl
    | 1, _ => rfl
    | 2, _ => rfl
    | 3, _ => rfl
    | 4, _ => rfl
    | 5, _ => rfl
    | 6, _ => rfl
    | 7, _ => rfl
    | 8, _ => rfl
    | 9, _ => rfl
    | 10, _ => rfl
    | _ + 11, h => exact absurd h (by omega)

theorem df1 : ∀ j, j < 2 → defaultValue (tyX1 j) = vp_V [.null, .int 0] j := by
  intro j hj
  match j, hj with
    | 0, _ => rfl
    | 1, _ => rfl
    | _ + 2, h => exact absurd h (by omega)

theorem df2 : ∀ j, j < 2 → defaultValue (tyX2 j) = vp_V [.null, .int 0] j := by
  intro j hj
  match j, hj with
    | 0, _ => rfl
    | 1, _ => rfl
    | _ + 2, h => exact absurd h (by omega)

theorem df3 : ∀ j, j < 1 → defaultValue (tyX3 j) = vp_V [.null] j := by
  intro j hj
  match j, hj with
    | 0, _ => rfl
    | _ + 1, h => exact absurd h (by omega)

theorem df4 : ∀ j, j < 8 → defaultValue (tyX4 j) = vp_V [.null, .null, .null, .null, .null, .null, .null, .int 0] j := by
  intro j hj
  match j, hj with
    | 0, _ => rfl
    | 1, _ => rfl
    | 2, _ => rfl
    | 3, _ => rfl
    | 4, _ => rfl
    | 5, _ => rfl
    | 6, _ => rfl
    | 7, _ => rfl
    | _ + 8, h => exact absurd h (by omega)

section NEWQ
variable {p : Program} {l : Launch} {e : Jvm.Env} {R : Room} {s : State} {m : MethodId} {args : Array Value} {below : List Frame} {meth : Method} {c : Code} {H : Heap} {locs : List Loc} {cells slots : Nat} {Q : State → Prop}
variable {cc : ByteArray} {own : String} {nL : Nat} {ret : Option FieldType} {G : Gx} {A : Nat → Prop} {H0 : Heap} {w : va_W} {pc : Nat} {ls : Array Slot} {rest : List Value}
theorem raq {a v k : Nat} {f : Nat → Option Nat} {vs : List Value} {i : Int32} {w1 : va_W} (C : Cx p s m args meth c cc own nL ret G) (hs : St G A H0 H locs w) (q0 : Nat) (he : w[q0]? = some (a, .inl (G.2.2, 8, .inr (.inr (.inr (.inr f)))))) (qk : Nat) (hv : w[qk]? = some (v, .inr (0, vs))) (hi : i.toNatClampNeg = k) (hin : vp_in i 8) (hw1 : w.set q0 (a, .inl (G.2.2, 8, .inr (.inr (.inr (.inr (va_up f k (some v))))))) = w1) (hdg : decode cc pc = .ok (.aastore, 1))
    (kk : ∀ (H1 : Heap) (locs1 : List Loc), St G A H0 H1 locs1 w1 → W p l e R s m args below meth c H1 locs1 cells slots Q (F0 m (pc + 1) ls rest)) : W p l e R s m args below meth c H locs cells slots Q (F0 m pc ls (.ref v :: .int i :: .ref a :: rest)) := by
  subst hi
  subst hw1
  obtain ⟨hx, hb, hml, hown, hts, hK, -, -⟩ := C
  obtain ⟨hP, hD, hS, hA⟩ := hs
  exact va_astq (r := (RX0, TX0, 11)) hx hb hK.1 hP hD hS q0 1 qk 0 he rfl hv rfl hin hdg (fun H locs k1 k2 k3 => kk _ _ ⟨k1, k2, k3, hA⟩)
/-- a row of harbours by another function that is the same in its places -/
theorem raf {a n : Nat} {f f1 : Nat → Option Nat} {w1 : va_W} (hs : St G A H0 H locs w) (q0 : Nat) (he : w[q0]? = some (a, .inl (G.2.2, n, .inr (.inr (.inr (.inr f)))))) (hf : ∀ j, j < n → f j = f1 j) (hw1 : w.set q0 (a, .inl (G.2.2, n, .inr (.inr (.inr (.inr f1))))) = w1) : St G A H0 H locs w1 := by
  subst hw1
  obtain ⟨hP, hD, hS, hA⟩ := hs
  refine ⟨hP.set hD he ?_ (fun _ _ => rfl), hD.set he, hS, hA⟩
  have h1 := hP _ _ he
  have e1 : arrV G.2.2 n (fun j => va_rf (f j)) = arrV G.2.2 n (fun j => va_rf (f1 j)) := by
    unfold arrV
    congr 1
    congr 1
    funext j
    exact congrArg va_rf (hf j.val j.isLt)
  show H[a]? = some (arrV G.2.2 n (fun j => va_rf (f1 j)))
  rw [← e1]
  exact h1
end NEWQ

set_option maxRecDepth 100000 in
set_option maxHeartbeats 4000000 in
theorem c_X0_init {l : Launch} {G : Gx} {a0 : Nat} : Cc l G yX0_init cX0_init 2 1 20 7 46 [.ref a0] [(a0, .inr (0, [.null, .null, .null, .null, .null, .null, .null, .int 0, .int 0, .int 0, .int 0]))] (fun z : Nat → Nat => wHs G (cz a0 z) hs0) := by
  refine Cc.intro RX0 rfl rfl (plainFor_of_name (by decide)) (Nat.le_of_ble_eq_true rfl) ?_
  intro p e s m args below meth c A C hin H locs hs ls hl
  obtain ⟨hx, hb, hml, hown, hts, hK, hret, hlk⟩ := id C
  have hl : lv_has ls 2 [(0, .ref a0)] := hl
  refine lv_aload_n hx hb (dk hX0_init_0 0 rfl) rfl (lv_at hl 0 rfl) ?_
  refine roi C tw_37 hl.1 (Nat.le_of_ble_eq_true rfl) ⟨Nat.le_of_ble_eq_true rfl, Nat.le_of_ble_eq_true rfl⟩ (dk hX0_init_0 1 rfl) ?_
  refine lv_aload_n hx hb (dk hX0_init_0 2 rfl) rfl (lv_at hl 0 rfl) ?_
  refine lv_bipush (v := (6 : Int32)) hx hb (dk hX0_init_0 3 rfl) (by decide) ?_
  refine rna (N' := 6) (cells1 := 1) (slots1 := 6) C hs (by decide) (by decide) (Nat.le_of_ble_eq_true rfl) rfl rfl ⟨Nat.le_of_ble_eq_true rfl, Nat.le_of_ble_eq_true rfl⟩ (dk hX0_init_0 4 rfl) (fun q1 H hs => ?_)
  have hs : St G A s.heap H locs ([(a0, .inr (0, [.null, .null, .null, .null, .null, .null, .null, .int 0, .int 0, .int 0, .int 0])), (q1, ar G (List.replicate 6 0))]) := hs
  refine rpF (w1 := ([(a0, .inr (0, [.ref q1, .null, .null, .null, .null, .null, .null, .int 0, .int 0, .int 0, .int 0])), (q1, ar G (List.replicate 6 0))])) tyX0 tyX0_ok nmX0 ui0 rfl C hs hin 0 rfl 0 (by decide) tw_38 rfl rfl rfl rfl rfl (Nat.le_of_ble_eq_true rfl) rfl (dk hX0_init_0 5 rfl) (fun H locs hs => ?_)
  refine lv_aload_n hx hb (dk hX0_init_0 6 rfl) rfl (lv_at hl 0 rfl) ?_
  refine lv_bipush (v := (6 : Int32)) hx hb (dk hX0_init_0 7 rfl) (by decide) ?_
  refine rna (N' := 6) (cells1 := 2) (slots1 := 12) C hs (by decide) (by decide) (Nat.le_of_ble_eq_true rfl) rfl rfl ⟨Nat.le_of_ble_eq_true rfl, Nat.le_of_ble_eq_true rfl⟩ (dk hX0_init_0 8 rfl) (fun q2 H hs => ?_)
  have hs : St G A s.heap H locs ([(a0, .inr (0, [.ref q1, .null, .null, .null, .null, .null, .null, .int 0, .int 0, .int 0, .int 0])), (q1, ar G (List.replicate 6 0)), (q2, ar G (List.replicate 6 0))]) := hs
  refine rpF (w1 := ([(a0, .inr (0, [.ref q1, .ref q2, .null, .null, .null, .null, .null, .int 0, .int 0, .int 0, .int 0])), (q1, ar G (List.replicate 6 0)), (q2, ar G (List.replicate 6 0))])) tyX0 tyX0_ok nmX0 ui0 rfl C hs hin 0 rfl 1 (by decide) tw_41 rfl rfl rfl rfl rfl (Nat.le_of_ble_eq_true rfl) rfl (dk hX0_init_0 9 rfl) (fun H locs hs => ?_)
  refine lv_aload_n hx hb (dk hX0_init_0 10 rfl) rfl (lv_at hl 0 rfl) ?_
  refine lv_bipush (v := (6 : Int32)) hx hb (dk hX0_init_0 11 rfl) (by decide) ?_
  refine rna (N' := 6) (cells1 := 3) (slots1 := 18) C hs (by decide) (by decide) (Nat.le_of_ble_eq_true rfl) rfl rfl ⟨Nat.le_of_ble_eq_true rfl, Nat.le_of_ble_eq_true rfl⟩ (dk hX0_init_0 12 rfl) (fun q3 H hs => ?_)
  have hs : St G A s.heap H locs ([(a0, .inr (0, [.ref q1, .ref q2, .null, .null, .null, .null, .null, .int 0, .int 0, .int 0, .int 0])), (q1, ar G (List.replicate 6 0)), (q2, ar G (List.replicate 6 0)), (q3, ar G (List.replicate 6 0))]) := hs
  refine rpF (w1 := ([(a0, .inr (0, [.ref q1, .ref q2, .ref q3, .null, .null, .null, .null, .int 0, .int 0, .int 0, .int 0])), (q1, ar G (List.replicate 6 0)), (q2, ar G (List.replicate 6 0)), (q3, ar G (List.replicate 6 0))])) tyX0 tyX0_ok nmX0 ui0 rfl C hs hin 0 rfl 2 (by decide) tw_44 rfl rfl rfl rfl rfl (Nat.le_of_ble_eq_true rfl) rfl (dk hX0_init_0 13 rfl) (fun H locs hs => ?_)
  refine lv_aload_n hx hb (dk hX0_init_0 14 rfl) rfl (lv_at hl 0 rfl) ?_
  refine lv_bipush (v := (7 : Int32)) hx hb (dk hX0_init_0 15 rfl) (by decide) ?_
  refine rna (N' := 7) (cells1 := 4) (slots1 := 25) C hs (by decide) (by decide) (Nat.le_of_ble_eq_true rfl) rfl rfl ⟨Nat.le_of_ble_eq_true rfl, Nat.le_of_ble_eq_true rfl⟩ (dk hX0_init_0 16 rfl) (fun q4 H hs => ?_)
  have hs : St G A s.heap H locs ([(a0, .inr (0, [.ref q1, .ref q2, .ref q3, .null, .null, .null, .null, .int 0, .int 0, .int 0, .int 0])), (q1, ar G (List.replicate 6 0)), (q2, ar G (List.replicate 6 0)), (q3, ar G (List.replicate 6 0)), (q4, ar G (List.replicate 7 0))]) := hs
  refine rpF (w1 := ([(a0, .inr (0, [.ref q1, .ref q2, .ref q3, .ref q4, .null, .null, .null, .int 0, .int 0, .int 0, .int 0])), (q1, ar G (List.replicate 6 0)), (q2, ar G (List.replicate 6 0)), (q3, ar G (List.replicate 6 0)), (q4, ar G (List.replicate 7 0))])) tyX0 tyX0_ok nmX0 ui0 rfl C hs hin 0 rfl 3 (by decide) tw_46 rfl rfl rfl rfl rfl (Nat.le_of_ble_eq_true rfl) rfl (dk hX0_init_0 17 rfl) (fun H locs hs => ?_)
  refine lv_aload_n hx hb (dk hX0_init_0 18 rfl) rfl (lv_at hl 0 rfl) ?_
  refine lv_bipush (v := (7 : Int32)) hx hb (dk hX0_init_0 19 rfl) (by decide) ?_
  refine rna (N' := 7) (cells1 := 5) (slots1 := 32) C hs (by decide) (by decide) (Nat.le_of_ble_eq_true rfl) rfl rfl ⟨Nat.le_of_ble_eq_true rfl, Nat.le_of_ble_eq_true rfl⟩ (dk hX0_init_0 20 rfl) (fun q5 H hs => ?_)
  have hs : St G A s.heap H locs ([(a0, .inr (0, [.ref q1, .ref q2, .ref q3, .ref q4, .null, .null, .null, .int 0, .int 0, .int 0, .int 0])), (q1, ar G (List.replicate 6 0)), (q2, ar G (List.replicate 6 0)), (q3, ar G (List.replicate 6 0)), (q4, ar G (List.replicate 7 0)), (q5, ar G (List.replicate 7 0))]) := hs
  refine rpF (w1 := ([(a0, .inr (0, [.ref q1, .ref q2, .ref q3, .ref q4, .ref q5, .null, .null, .int 0, .int 0, .int 0, .int 0])), (q1, ar G (List.replicate 6 0)), (q2, ar G (List.replicate 6 0)), (q3, ar G (List.replicate 6 0)), (q4, ar G (List.replicate 7 0)), (q5, ar G (List.replicate 7 0))])) tyX0 tyX0_ok nmX0 ui0 rfl C hs hin 0 rfl 4 (by decide) tw_48 rfl rfl rfl rfl rfl (Nat.le_of_ble_eq_true rfl) rfl (dk hX0_init_0 21 rfl) (fun H locs hs => ?_)
  refine lv_aload_n hx hb (dk hX0_init_0 22 rfl) rfl (lv_at hl 0 rfl) ?_
  refine lv_bipush (v := (7 : Int32)) hx hb (dk hX0_init_0 23 rfl) (by decide) ?_
  refine rna (N' := 7) (cells1 := 6) (slots1 := 39) C hs (by decide) (by decide) (Nat.le_of_ble_eq_true rfl) rfl rfl ⟨Nat.le_of_ble_eq_true rfl, Nat.le_of_ble_eq_true rfl⟩ (dk hX0_init_0 24 rfl) (fun q6 H hs => ?_)
  have hs : St G A s.heap H locs ([(a0, .inr (0, [.ref q1, .ref q2, .ref q3, .ref q4, .ref q5, .null, .null, .int 0, .int 0, .int 0, .int 0])), (q1, ar G (List.replicate 6 0)), (q2, ar G (List.replicate 6 0)), (q3, ar G (List.replicate 6 0)), (q4, ar G (List.replicate 7 0)), (q5, ar G (List.replicate 7 0)), (q6, ar G (List.replicate 7 0))]) := hs
  refine rpF (w1 := ([(a0, .inr (0, [.ref q1, .ref q2, .ref q3, .ref q4, .ref q5, .ref q6, .null, .int 0, .int 0, .int 0, .int 0])), (q1, ar G (List.replicate 6 0)), (q2, ar G (List.replicate 6 0)), (q3, ar G (List.replicate 6 0)), (q4, ar G (List.replicate 7 0)), (q5, ar G (List.replicate 7 0)), (q6, ar G (List.replicate 7 0))])) tyX0 tyX0_ok nmX0 ui0 rfl C hs hin 0 rfl 5 (by decide) tw_50 rfl rfl rfl rfl rfl (Nat.le_of_ble_eq_true rfl) rfl (dk hX0_init_0 25 rfl) (fun H locs hs => ?_)
  refine lv_aload_n hx hb (dk hX0_init_0 26 rfl) rfl (lv_at hl 0 rfl) ?_
  refine lv_bipush (v := (7 : Int32)) hx hb (dk hX0_init_0 27 rfl) (by decide) ?_
  refine rna (N' := 7) (cells1 := 7) (slots1 := 46) C hs (by decide) (by decide) (Nat.le_of_ble_eq_true rfl) rfl rfl ⟨Nat.le_of_ble_eq_true rfl, Nat.le_of_ble_eq_true rfl⟩ (dk hX0_init_0 28 rfl) (fun q7 H hs => ?_)
  have hs : St G A s.heap H locs ([(a0, .inr (0, [.ref q1, .ref q2, .ref q3, .ref q4, .ref q5, .ref q6, .null, .int 0, .int 0, .int 0, .int 0])), (q1, ar G (List.replicate 6 0)), (q2, ar G (List.replicate 6 0)), (q3, ar G (List.replicate 6 0)), (q4, ar G (List.replicate 7 0)), (q5, ar G (List.replicate 7 0)), (q6, ar G (List.replicate 7 0)), (q7, ar G (List.replicate 7 0))]) := hs
  refine rpF (w1 := ([(a0, .inr (0, [.ref q1, .ref q2, .ref q3, .ref q4, .ref q5, .ref q6, .ref q7, .int 0, .int 0, .int 0, .int 0])), (q1, ar G (List.replicate 6 0)), (q2, ar G (List.replicate 6 0)), (q3, ar G (List.replicate 6 0)), (q4, ar G (List.replicate 7 0)), (q5, ar G (List.replicate 7 0)), (q6, ar G (List.replicate 7 0)), (q7, ar G (List.replicate 7 0))])) tyX0 tyX0_ok nmX0 ui0 rfl C hs hin 0 rfl 6 (by decide) tw_52 rfl rfl rfl rfl rfl (Nat.le_of_ble_eq_true rfl) rfl (dk hX0_init_0 29 rfl) (fun H locs hs => ?_)
  refine lv_iconst (v := (0 : Int32)) hx hb (dk hX0_init_0 30 rfl) (by decide) ?_
  refine lv_istore_n (lv' := [(1, .int (0 : Int32)), (0, .ref a0)]) hx hb (dk hX0_init_0 31 rfl) rfl hl (by decide) rfl (fun ls hl => ?_)
  refine lv_iload_n hx hb (dk hX0_init_0 32 rfl) rfl (lv_at hl 0 rfl) ?_
  refine lv_bipush (v := (6 : Int32)) hx hb (dk hX0_init_0 33 rfl) (by decide) ?_
  refine lv_icmp_ge (tgt := 89) hx hb (dk hX0_init_0 34 rfl) (by decide) (fun hc => absurd hc (by decide)) (fun hc => ?_)
  refine lv_aload_n hx hb (dk hX0_init_0 35 rfl) rfl (lv_at hl 1 rfl) ?_
  refine rg ui0 rfl C hs 0 rfl 0 (by decide) tw_38 rfl rfl (dk hX0_init_0 36 rfl) ?_
  refine lv_iload_n hx hb (dk hX0_init_0 37 rfl) rfl (lv_at hl 0 rfl) ?_
  refine lv_bipush (v := (20 : Int32)) hx hb (dk hX0_init_0 38 rfl) (by decide) ?_
  refine rist (L1 := [20, 0, 0, 0, 0, 0]) (w1 := ([(a0, .inr (0, [.ref q1, .ref q2, .ref q3, .ref q4, .ref q5, .ref q6, .ref q7, .int 0, .int 0, .int 0, .int 0])), (q1, ar G [20, 0, 0, 0, 0, 0]), (q2, ar G (List.replicate 6 0)), (q3, ar G (List.replicate 6 0)), (q4, ar G (List.replicate 7 0)), (q5, ar G (List.replicate 7 0)), (q6, ar G (List.replicate 7 0)), (q7, ar G (List.replicate 7 0))])) C hs 1 rfl (by decide) rfl (dk hX0_init_0 39 rfl) (fun H locs hs => ?_)
  refine lv_aload_n hx hb (dk hX0_init_1 0 rfl) rfl (lv_at hl 1 rfl) ?_
  refine rg ui0 rfl C hs 0 rfl 1 (by decide) tw_41 rfl rfl (dk hX0_init_1 1 rfl) ?_
  refine lv_iload_n hx hb (dk hX0_init_1 2 rfl) rfl (lv_at hl 0 rfl) ?_
  refine lv_iconst (v := (2 : Int32)) hx hb (dk hX0_init_1 3 rfl) (by decide) ?_
  refine rist (L1 := [2, 0, 0, 0, 0, 0]) (w1 := ([(a0, .inr (0, [.ref q1, .ref q2, .ref q3, .ref q4, .ref q5, .ref q6, .ref q7, .int 0, .int 0, .int 0, .int 0])), (q1, ar G [20, 0, 0, 0, 0, 0]), (q2, ar G [2, 0, 0, 0, 0, 0]), (q3, ar G (List.replicate 6 0)), (q4, ar G (List.replicate 7 0)), (q5, ar G (List.replicate 7 0)), (q6, ar G (List.replicate 7 0)), (q7, ar G (List.replicate 7 0))])) C hs 2 rfl (by decide) rfl (dk hX0_init_1 4 rfl) (fun H locs hs => ?_)
  refine lv_iinc (v := (1 : Int32)) (lv' := [(1, .int (1 : Int32)), (0, .ref a0)]) hx hb (dk hX0_init_1 5 rfl) hl (k := 0) (by first | rfl | decide) (by decide) (by decide) rfl (fun ls hl => ?_)
  refine lv_goto (tgt := 62) hx hb (dk hX0_init_1 6 rfl) (by decide) ?_
  refine lv_iload_n hx hb (dk hX0_init_0 32 rfl) rfl (lv_at hl 0 rfl) ?_
  refine lv_bipush (v := (6 : Int32)) hx hb (dk hX0_init_0 33 rfl) (by decide) ?_
  refine lv_icmp_ge (tgt := 89) hx hb (dk hX0_init_0 34 rfl) (by decide) (fun hc => absurd hc (by decide)) (fun hc => ?_)
  refine lv_aload_n hx hb (dk hX0_init_0 35 rfl) rfl (lv_at hl 1 rfl) ?_
  refine rg ui0 rfl C hs 0 rfl 0 (by decide) tw_38 rfl rfl (dk hX0_init_0 36 rfl) ?_
  refine lv_iload_n hx hb (dk hX0_init_0 37 rfl) rfl (lv_at hl 0 rfl) ?_
  refine lv_bipush (v := (20 : Int32)) hx hb (dk hX0_init_0 38 rfl) (by decide) ?_
  refine rist (L1 := [20, 20, 0, 0, 0, 0]) (w1 := ([(a0, .inr (0, [.ref q1, .ref q2, .ref q3, .ref q4, .ref q5, .ref q6, .ref q7, .int 0, .int 0, .int 0, .int 0])), (q1, ar G [20, 20, 0, 0, 0, 0]), (q2, ar G [2, 0, 0, 0, 0, 0]), (q3, ar G (List.replicate 6 0)), (q4, ar G (List.replicate 7 0)), (q5, ar G (List.replicate 7 0)), (q6, ar G (List.replicate 7 0)), (q7, ar G (List.replicate 7 0))])) C hs 1 rfl (by decide) rfl (dk hX0_init_0 39 rfl) (fun H locs hs => ?_)
  refine lv_aload_n hx hb (dk hX0_init_1 0 rfl) rfl (lv_at hl 1 rfl) ?_
  refine rg ui0 rfl C hs 0 rfl 1 (by decide) tw_41 rfl rfl (dk hX0_init_1 1 rfl) ?_
  refine lv_iload_n hx hb (dk hX0_init_1 2 rfl) rfl (lv_at hl 0 rfl) ?_
  refine lv_iconst (v := (2 : Int32)) hx hb (dk hX0_init_1 3 rfl) (by decide) ?_
  refine rist (L1 := [2, 2, 0, 0, 0, 0]) (w1 := ([(a0, .inr (0, [.ref q1, .ref q2, .ref q3, .ref q4, .ref q5, .ref q6, .ref q7, .int 0, .int 0, .int 0, .int 0])), (q1, ar G [20, 20, 0, 0, 0, 0]), (q2, ar G [2, 2, 0, 0, 0, 0]), (q3, ar G (List.replicate 6 0)), (q4, ar G (List.replicate 7 0)), (q5, ar G (List.replicate 7 0)), (q6, ar G (List.replicate 7 0)), (q7, ar G (List.replicate 7 0))])) C hs 2 rfl (by decide) rfl (dk hX0_init_1 4 rfl) (fun H locs hs => ?_)
  refine lv_iinc (v := (2 : Int32)) (lv' := [(1, .int (2 : Int32)), (0, .ref a0)]) hx hb (dk hX0_init_1 5 rfl) hl (k := 0) (by first | rfl | decide) (by decide) (by decide) rfl (fun ls hl => ?_)
  refine lv_goto (tgt := 62) hx hb (dk hX0_init_1 6 rfl) (by decide) ?_
  refine lv_iload_n hx hb (dk hX0_init_0 32 rfl) rfl (lv_at hl 0 rfl) ?_
  refine lv_bipush (v := (6 : Int32)) hx hb (dk hX0_init_0 33 rfl) (by decide) ?_
  refine lv_icmp_ge (tgt := 89) hx hb (dk hX0_init_0 34 rfl) (by decide) (fun hc => absurd hc (by decide)) (fun hc => ?_)
  refine lv_aload_n hx hb (dk hX0_init_0 35 rfl) rfl (lv_at hl 1 rfl) ?_
  refine rg ui0 rfl C hs 0 rfl 0 (by decide) tw_38 rfl rfl (dk hX0_init_0 36 rfl) ?_
  refine lv_iload_n hx hb (dk hX0_init_0 37 rfl) rfl (lv_at hl 0 rfl) ?_
  refine lv_bipush (v := (20 : Int32)) hx hb (dk hX0_init_0 38 rfl) (by decide) ?_
  refine rist (L1 := [20, 20, 20, 0, 0, 0]) (w1 := ([(a0, .inr (0, [.ref q1, .ref q2, .ref q3, .ref q4, .ref q5, .ref q6, .ref q7, .int 0, .int 0, .int 0, .int 0])), (q1, ar G [20, 20, 20, 0, 0, 0]), (q2, ar G [2, 2, 0, 0, 0, 0]), (q3, ar G (List.replicate 6 0)), (q4, ar G (List.replicate 7 0)), (q5, ar G (List.replicate 7 0)), (q6, ar G (List.replicate 7 0)), (q7, ar G (List.replicate 7 0))])) C hs 1 rfl (by decide) rfl (dk hX0_init_0 39 rfl) (fun H locs hs => ?_)
  refine lv_aload_n hx hb (dk hX0_init_1 0 rfl) rfl (lv_at hl 1 rfl) ?_
  refine rg ui0 rfl C hs 0 rfl 1 (by decide) tw_41 rfl rfl (dk hX0_init_1 1 rfl) ?_
  refine lv_iload_n hx hb (dk hX0_init_1 2 rfl) rfl (lv_at hl 0 rfl) ?_
  refine lv_iconst (v := (2 : Int32)) hx hb (dk hX0_init_1 3 rfl) (by decide) ?_
  refine rist (L1 := [2, 2, 2, 0, 0, 0]) (w1 := ([(a0, .inr (0, [.ref q1, .ref q2, .ref q3, .ref q4, .ref q5, .ref q6, .ref q7, .int 0, .int 0, .int 0, .int 0])), (q1, ar G [20, 20, 20, 0, 0, 0]), (q2, ar G [2, 2, 2, 0, 0, 0]), (q3, ar G (List.replicate 6 0)), (q4, ar G (List.replicate 7 0)), (q5, ar G (List.replicate 7 0)), (q6, ar G (List.replicate 7 0)), (q7, ar G (List.replicate 7 0))])) C hs 2 rfl (by decide) rfl (dk hX0_init_1 4 rfl) (fun H locs hs => ?_)
  refine lv_iinc (v := (3 : Int32)) (lv' := [(1, .int (3 : Int32)), (0, .ref a0)]) hx hb (dk hX0_init_1 5 rfl) hl (k := 0) (by first | rfl | decide) (by decide) (by decide) rfl (fun ls hl => ?_)
  refine lv_goto (tgt := 62) hx hb (dk hX0_init_1 6 rfl) (by decide) ?_
  refine lv_iload_n hx hb (dk hX0_init_0 32 rfl) rfl (lv_at hl 0 rfl) ?_
  refine lv_bipush (v := (6 : Int32)) hx hb (dk hX0_init_0 33 rfl) (by decide) ?_
  refine lv_icmp_ge (tgt := 89) hx hb (dk hX0_init_0 34 rfl) (by decide) (fun hc => absurd hc (by decide)) (fun hc => ?_)
  refine lv_aload_n hx hb (dk hX0_init_0 35 rfl) rfl (lv_at hl 1 rfl) ?_
  refine rg ui0 rfl C hs 0 rfl 0 (by decide) tw_38 rfl rfl (dk hX0_init_0 36 rfl) ?_
  refine lv_iload_n hx hb (dk hX0_init_0 37 rfl) rfl (lv_at hl 0 rfl) ?_
  refine lv_bipush (v := (20 : Int32)) hx hb (dk hX0_init_0 38 rfl) (by decide) ?_
  refine rist (L1 := [20, 20, 20, 20, 0, 0]) (w1 := ([(a0, .inr (0, [.ref q1, .ref q2, .ref q3, .ref q4, .ref q5, .ref q6, .ref q7, .int 0, .int 0, .int 0, .int 0])), (q1, ar G [20, 20, 20, 20, 0, 0]), (q2, ar G [2, 2, 2, 0, 0, 0]), (q3, ar G (List.replicate 6 0)), (q4, ar G (List.replicate 7 0)), (q5, ar G (List.replicate 7 0)), (q6, ar G (List.replicate 7 0)), (q7, ar G (List.replicate 7 0))])) C hs 1 rfl (by decide) rfl (dk hX0_init_0 39 rfl) (fun H locs hs => ?_)
  refine lv_aload_n hx hb (dk hX0_init_1 0 rfl) rfl (lv_at hl 1 rfl) ?_
  refine rg ui0 rfl C hs 0 rfl 1 (by decide) tw_41 rfl rfl (dk hX0_init_1 1 rfl) ?_
  refine lv_iload_n hx hb (dk hX0_init_1 2 rfl) rfl (lv_at hl 0 rfl) ?_
  refine lv_iconst (v := (2 : Int32)) hx hb (dk hX0_init_1 3 rfl) (by decide) ?_
  refine rist (L1 := [2, 2, 2, 2, 0, 0]) (w1 := ([(a0, .inr (0, [.ref q1, .ref q2, .ref q3, .ref q4, .ref q5, .ref q6, .ref q7, .int 0, .int 0, .int 0, .int 0])), (q1, ar G [20, 20, 20, 20, 0, 0]), (q2, ar G [2, 2, 2, 2, 0, 0]), (q3, ar G (List.replicate 6 0)), (q4, ar G (List.replicate 7 0)), (q5, ar G (List.replicate 7 0)), (q6, ar G (List.replicate 7 0)), (q7, ar G (List.replicate 7 0))])) C hs 2 rfl (by decide) rfl (dk hX0_init_1 4 rfl) (fun H locs hs => ?_)
  refine lv_iinc (v := (4 : Int32)) (lv' := [(1, .int (4 : Int32)), (0, .ref a0)]) hx hb (dk hX0_init_1 5 rfl) hl (k := 0) (by first | rfl | decide) (by decide) (by decide) rfl (fun ls hl => ?_)
  refine lv_goto (tgt := 62) hx hb (dk hX0_init_1 6 rfl) (by decide) ?_
  refine lv_iload_n hx hb (dk hX0_init_0 32 rfl) rfl (lv_at hl 0 rfl) ?_
  refine lv_bipush (v := (6 : Int32)) hx hb (dk hX0_init_0 33 rfl) (by decide) ?_
  refine lv_icmp_ge (tgt := 89) hx hb (dk hX0_init_0 34 rfl) (by decide) (fun hc => absurd hc (by decide)) (fun hc => ?_)
  refine lv_aload_n hx hb (dk hX0_init_0 35 rfl) rfl (lv_at hl 1 rfl) ?_
  refine rg ui0 rfl C hs 0 rfl 0 (by decide) tw_38 rfl rfl (dk hX0_init_0 36 rfl) ?_
  refine lv_iload_n hx hb (dk hX0_init_0 37 rfl) rfl (lv_at hl 0 rfl) ?_
  refine lv_bipush (v := (20 : Int32)) hx hb (dk hX0_init_0 38 rfl) (by decide) ?_
  refine rist (L1 := [20, 20, 20, 20, 20, 0]) (w1 := ([(a0, .inr (0, [.ref q1, .ref q2, .ref q3, .ref q4, .ref q5, .ref q6, .ref q7, .int 0, .int 0, .int 0, .int 0])), (q1, ar G [20, 20, 20, 20, 20, 0]), (q2, ar G [2, 2, 2, 2, 0, 0]), (q3, ar G (List.replicate 6 0)), (q4, ar G (List.replicate 7 0)), (q5, ar G (List.replicate 7 0)), (q6, ar G (List.replicate 7 0)), (q7, ar G (List.replicate 7 0))])) C hs 1 rfl (by decide) rfl (dk hX0_init_0 39 rfl) (fun H locs hs => ?_)
  refine lv_aload_n hx hb (dk hX0_init_1 0 rfl) rfl (lv_at hl 1 rfl) ?_
  refine rg ui0 rfl C hs 0 rfl 1 (by decide) tw_41 rfl rfl (dk hX0_init_1 1 rfl) ?_
  refine lv_iload_n hx hb (dk hX0_init_1 2 rfl) rfl (lv_at hl 0 rfl) ?_
  refine lv_iconst (v := (2 : Int32)) hx hb (dk hX0_init_1 3 rfl) (by decide) ?_
  refine rist (L1 := [2, 2, 2, 2, 2, 0]) (w1 := ([(a0, .inr (0, [.ref q1, .ref q2, .ref q3, .ref q4, .ref q5, .ref q6, .ref q7, .int 0, .int 0, .int 0, .int 0])), (q1, ar G [20, 20, 20, 20, 20, 0]), (q2, ar G [2, 2, 2, 2, 2, 0]), (q3, ar G (List.replicate 6 0)), (q4, ar G (List.replicate 7 0)), (q5, ar G (List.replicate 7 0)), (q6, ar G (List.replicate 7 0)), (q7, ar G (List.replicate 7 0))])) C hs 2 rfl (by decide) rfl (dk hX0_init_1 4 rfl) (fun H locs hs => ?_)
  refine lv_iinc (v := (5 : Int32)) (lv' := [(1, .int (5 : Int32)), (0, .ref a0)]) hx hb (dk hX0_init_1 5 rfl) hl (k := 0) (by first | rfl | decide) (by decide) (by decide) rfl (fun ls hl => ?_)
  refine lv_goto (tgt := 62) hx hb (dk hX0_init_1 6 rfl) (by decide) ?_
  refine lv_iload_n hx hb (dk hX0_init_0 32 rfl) rfl (lv_at hl 0 rfl) ?_
  refine lv_bipush (v := (6 : Int32)) hx hb (dk hX0_init_0 33 rfl) (by decide) ?_
  refine lv_icmp_ge (tgt := 89) hx hb (dk hX0_init_0 34 rfl) (by decide) (fun hc => absurd hc (by decide)) (fun hc => ?_)
  refine lv_aload_n hx hb (dk hX0_init_0 35 rfl) rfl (lv_at hl 1 rfl) ?_
  refine rg ui0 rfl C hs 0 rfl 0 (by decide) tw_38 rfl rfl (dk hX0_init_0 36 rfl) ?_
  refine lv_iload_n hx hb (dk hX0_init_0 37 rfl) rfl (lv_at hl 0 rfl) ?_
  refine lv_bipush (v := (20 : Int32)) hx hb (dk hX0_init_0 38 rfl) (by decide) ?_
  refine rist (L1 := [20, 20, 20, 20, 20, 20]) (w1 := ([(a0, .inr (0, [.ref q1, .ref q2, .ref q3, .ref q4, .ref q5, .ref q6, .ref q7, .int 0, .int 0, .int 0, .int 0])), (q1, ar G [20, 20, 20, 20, 20, 20]), (q2, ar G [2, 2, 2, 2, 2, 0]), (q3, ar G (List.replicate 6 0)), (q4, ar G (List.replicate 7 0)), (q5, ar G (List.replicate 7 0)), (q6, ar G (List.replicate 7 0)), (q7, ar G (List.replicate 7 0))])) C hs 1 rfl (by decide) rfl (dk hX0_init_0 39 rfl) (fun H locs hs => ?_)
  refine lv_aload_n hx hb (dk hX0_init_1 0 rfl) rfl (lv_at hl 1 rfl) ?_
  refine rg ui0 rfl C hs 0 rfl 1 (by decide) tw_41 rfl rfl (dk hX0_init_1 1 rfl) ?_
  refine lv_iload_n hx hb (dk hX0_init_1 2 rfl) rfl (lv_at hl 0 rfl) ?_
  refine lv_iconst (v := (2 : Int32)) hx hb (dk hX0_init_1 3 rfl) (by decide) ?_
  refine rist (L1 := [2, 2, 2, 2, 2, 2]) (w1 := ([(a0, .inr (0, [.ref q1, .ref q2, .ref q3, .ref q4, .ref q5, .ref q6, .ref q7, .int 0, .int 0, .int 0, .int 0])), (q1, ar G [20, 20, 20, 20, 20, 20]), (q2, ar G [2, 2, 2, 2, 2, 2]), (q3, ar G (List.replicate 6 0)), (q4, ar G (List.replicate 7 0)), (q5, ar G (List.replicate 7 0)), (q6, ar G (List.replicate 7 0)), (q7, ar G (List.replicate 7 0))])) C hs 2 rfl (by decide) rfl (dk hX0_init_1 4 rfl) (fun H locs hs => ?_)
  refine lv_iinc (v := (6 : Int32)) (lv' := [(1, .int (6 : Int32)), (0, .ref a0)]) hx hb (dk hX0_init_1 5 rfl) hl (k := 0) (by first | rfl | decide) (by decide) (by decide) rfl (fun ls hl => ?_)
  refine lv_goto (tgt := 62) hx hb (dk hX0_init_1 6 rfl) (by decide) ?_
  refine lv_iload_n hx hb (dk hX0_init_0 32 rfl) rfl (lv_at hl 0 rfl) ?_
  refine lv_bipush (v := (6 : Int32)) hx hb (dk hX0_init_0 33 rfl) (by decide) ?_
  refine lv_icmp_ge (tgt := 89) hx hb (dk hX0_init_0 34 rfl) (by decide) (fun hc => ?_) (fun hc => absurd (by decide) hc)
  exact rvN (fun j => [q1, q2, q3, q4, q5, q6, q7].getD j 0) C hs (dk hX0_init_1 7 rfl)

set_option maxRecDepth 100000 in
set_option maxHeartbeats 4000000 in
theorem c_X1_init {l : Launch} {G : Gx} {a0 : Nat} {x : Int32} {N : Nat} (hm : mmax 0 x = x) (h0 : ¬ x < 0) (hN : x.toNatClampNeg = N) (hN1 : N ≤ 1000) : Cc l G yX1_init cX1_init 2 1 30 1 N [.ref a0, .int x] [(a0, .inr (1, [.null, .int 0]))] (fun z : Nat → Nat => wN G (cz a0 z) (List.replicate N 0) 0) := by
  refine Cc.intro RX1 rfl rfl (plainFor_of_name (by decide)) (Nat.le_of_ble_eq_true rfl) ?_
  intro p e s m args below meth c A C hin H locs hs ls hl
  obtain ⟨hx, hb, hml, hown, hts, hK, hret, hlk⟩ := id C
  have hl : lv_has ls 2 [(0, .ref a0), (1, .int x)] := hl
  refine lv_aload_n hx hb (dk hX1_init_0 0 rfl) rfl (lv_at hl 0 rfl) ?_
  refine roi C tw_116 hl.1 (Nat.le_of_ble_eq_true rfl) ⟨Nat.le_of_ble_eq_true rfl, Nat.le_of_ble_eq_true rfl⟩ (dk hX1_init_0 1 rfl) ?_
  refine lv_aload_n hx hb (dk hX1_init_0 2 rfl) rfl (lv_at hl 0 rfl) ?_
  refine lv_iconst (v := (0 : Int32)) hx hb (dk hX1_init_0 3 rfl) (by decide) ?_
  refine lv_iload_n hx hb (dk hX1_init_0 4 rfl) rfl (lv_at hl 1 rfl) ?_
  refine va_mmax hx hb (hml.trans hl.1.symm) hown (hts _ tw_117) (hts _ tw_118) (hts _ tw_22) (hts _ tw_119) (Nat.le_of_ble_eq_true rfl) (Nat.le_of_ble_eq_true rfl) (Nat.zero_le _) (Nat.zero_le _) (dk hX1_init_0 5 rfl) ?_
  refine rna (N' := N) (cells1 := 1) (slots1 := N) C hs (by show ¬ (mmax 0 x) < 0; rw [hm]; exact h0) (by show (mmax 0 x).toNatClampNeg = N; rw [hm]; exact hN) (by omega) rfl (by omega) ⟨Nat.le_refl _, Nat.le_refl _⟩ (dk hX1_init_0 6 rfl) (fun q1 H hs => ?_)
  have hs : St G A s.heap H locs ([(a0, .inr (1, [.null, .int 0])), (q1, ar G (List.replicate N 0))]) := hs
  refine rpF (w1 := ([(a0, .inr (1, [.ref q1, .int 0])), (q1, ar G (List.replicate N 0))])) tyX1 tyX1_ok nmX1 ui1 rfl C hs hin 0 rfl 0 (by decide) tw_120 rfl rfl rfl rfl rfl (Nat.le_of_ble_eq_true rfl) rfl (dk hX1_init_0 7 rfl) (fun H locs hs => ?_)
  exact rvN (fun j => [q1].getD j 0) C hs (dk hX1_init_0 8 rfl)

set_option maxRecDepth 100000 in
set_option maxHeartbeats 4000000 in
theorem c_X2_init {l : Launch} {G : Gx} {a0 : Nat} : Cc l G yX2_init cX2_init 2 2 41 65 464 [.ref a0] [(a0, .inr (2, [.null, .int 0]))] (fun z : (Nat → Nat) × (Nat → Nat → Nat) => wP G (cz a0 z.1) z.2 0 id (fun _ => hs0)) := by
  refine Cc.intro RX2 rfl rfl (plainFor_of_name (by decide)) (Nat.le_of_ble_eq_true rfl) ?_
  intro p e s m args below meth c A C hin H locs hs ls hl
  obtain ⟨hx, hb, hml, hown, hts, hK, hret, hlk⟩ := id C
  have hl : lv_has ls 2 [(0, .ref a0)] := hl
  refine lv_aload_n hx hb (dk hX2_init_0 0 rfl) rfl (lv_at hl 0 rfl) ?_
  refine roi C tw_94 hl.1 (Nat.le_of_ble_eq_true rfl) ⟨Nat.le_of_ble_eq_true rfl, Nat.le_of_ble_eq_true rfl⟩ (dk hX2_init_0 1 rfl) ?_
  refine lv_aload_n hx hb (dk hX2_init_0 2 rfl) rfl (lv_at hl 0 rfl) ?_
  refine lv_bipush (v := (8 : Int32)) hx hb (dk hX2_init_0 3 rfl) (by decide) ?_
  refine rnq (N' := 8) (cells1 := 1) (slots1 := 8) C hs tw_95 (by decide) (by decide) (Nat.le_of_ble_eq_true rfl) rfl rfl ⟨Nat.le_of_ble_eq_true rfl, Nat.le_of_ble_eq_true rfl⟩ (dk hX2_init_0 4 rfl) (fun q1 H hs => ?_)
  have hs : St G A s.heap H locs ([(a0, .inr (2, [.null, .int 0])), (q1, .inl (G.2.2, 8, .inr (.inr (.inr (.inr (fun _ => none))))))]) := hs
  refine rpF (w1 := ([(a0, .inr (2, [.ref q1, .int 0])), (q1, .inl (G.2.2, 8, .inr (.inr (.inr (.inr (fun _ => none))))))])) tyX2 tyX2_ok nmX2 ui2 rfl C hs hin 0 rfl 0 (by decide) tw_98 rfl rfl rfl rfl rfl (Nat.le_of_ble_eq_true rfl) rfl (dk hX2_init_0 5 rfl) (fun H locs hs => ?_)
  refine lv_iconst (v := (0 : Int32)) hx hb (dk hX2_init_0 6 rfl) (by decide) ?_
  refine lv_istore_n (lv' := [(1, .int (0 : Int32)), (0, .ref a0)]) hx hb (dk hX2_init_0 7 rfl) rfl hl (by decide) rfl (fun ls hl => ?_)
  refine lv_iload_n hx hb (dk hX2_init_0 8 rfl) rfl (lv_at hl 0 rfl) ?_
  refine lv_bipush (v := (8 : Int32)) hx hb (dk hX2_init_0 9 rfl) (by decide) ?_
  refine lv_icmp_ge (tgt := 40) hx hb (dk hX2_init_0 10 rfl) (by decide) (fun hc => absurd hc (by decide)) (fun hc => ?_)
  refine lv_aload_n hx hb (dk hX2_init_0 11 rfl) rfl (lv_at hl 1 rfl) ?_
  refine rg ui2 rfl C hs 0 rfl 0 (by decide) tw_98 rfl rfl (dk hX2_init_0 12 rfl) ?_
  refine lv_iload_n hx hb (dk hX2_init_0 13 rfl) rfl (lv_at hl 0 rfl) ?_
  refine rno (ci := 0) (cells1 := 2) (slots1 := 19) (fs := [.null, .null, .null, .null, .null, .null, .null, .int 0, .int 0, .int 0, .int 0]) tyX0 tyX0_ok ui0 rfl C hs tw_95 tw_33 tw_18 df0 rfl rfl ⟨Nat.le_of_ble_eq_true rfl, Nat.le_of_ble_eq_true rfl⟩ (dk hX2_init_0 14 rfl) (fun q2 H hs => ?_)
  have hs : St G A s.heap H locs (([(a0, .inr (2, [.ref q1, .int 0])), (q1, .inl (G.2.2, 8, .inr (.inr (.inr (.inr (fun _ => none))))))]) ++ ([(q2, .inr (0, [.null, .null, .null, .null, .null, .null, .null, .int 0, .int 0, .int 0, .int 0]))])) := hs
  refine lv_dup hx hb (dk hX2_init_0 15 rfl) rfl ?_
  refine Cc.I (As := []) (rest := [.ref q2, .int (0 : Int32), .ref q1]) (cells1 := 9) (slots1 := 65) C hs c_X0_init rfl tw_97 tw_35 tw_18 tw_36 nq_X0_init (by decide) rfl hl.1 rfl (Nat.le_of_ble_eq_true rfl) (dk hX2_init_0 16 rfl) rfl rfl ⟨Nat.le_of_ble_eq_true rfl, Nat.le_of_ble_eq_true rfl⟩ (fun z3 H locs hs => ?_)
  have hs : St G A s.heap H locs ([(a0, .inr (2, [.ref q1, .int 0])), (q1, .inl (G.2.2, 8, .inr (.inr (.inr (.inr (fun _ => none))))))] ++ (wHs G (cz q2 z3) hs0)) := hs
  refine raq (k := 0) (w1 := ([(a0, .inr (2, [.ref q1, .int 0])), (q1, .inl (G.2.2, 8, .inr (.inr (.inr (.inr (va_up (fun _ => none) 0 (some q2)))))))] ++ (wHs G (cz q2 z3) hs0))) C hs 1 rfl 2 rfl (by decide) (by unfold vp_in; decide) rfl (dk hX2_init_0 17 rfl) (fun H locs hs => ?_)
  refine lv_iinc (v := (1 : Int32)) (lv' := [(1, .int (1 : Int32)), (0, .ref a0)]) hx hb (dk hX2_init_0 18 rfl) hl (k := 0) (by first | rfl | decide) (by decide) (by decide) rfl (fun ls hl => ?_)
  refine lv_goto (tgt := 15) hx hb (dk hX2_init_0 19 rfl) (by decide) ?_
  refine lv_iload_n hx hb (dk hX2_init_0 8 rfl) rfl (lv_at hl 0 rfl) ?_
  refine lv_bipush (v := (8 : Int32)) hx hb (dk hX2_init_0 9 rfl) (by decide) ?_
  refine lv_icmp_ge (tgt := 40) hx hb (dk hX2_init_0 10 rfl) (by decide) (fun hc => absurd hc (by decide)) (fun hc => ?_)
  refine lv_aload_n hx hb (dk hX2_init_0 11 rfl) rfl (lv_at hl 1 rfl) ?_
  refine rg ui2 rfl C hs 0 rfl 0 (by decide) tw_98 rfl rfl (dk hX2_init_0 12 rfl) ?_
  refine lv_iload_n hx hb (dk hX2_init_0 13 rfl) rfl (lv_at hl 0 rfl) ?_
  refine rno (ci := 0) (cells1 := 10) (slots1 := 76) (fs := [.null, .null, .null, .null, .null, .null, .null, .int 0, .int 0, .int 0, .int 0]) tyX0 tyX0_ok ui0 rfl C hs tw_95 tw_33 tw_18 df0 rfl rfl ⟨Nat.le_of_ble_eq_true rfl, Nat.le_of_ble_eq_true rfl⟩ (dk hX2_init_0 14 rfl) (fun q4 H hs => ?_)
  have hs : St G A s.heap H locs (([(a0, .inr (2, [.ref q1, .int 0])), (q1, .inl (G.2.2, 8, .inr (.inr (.inr (.inr (va_up (fun _ => none) 0 (some q2)))))))] ++ (wHs G (cz q2 z3) hs0)) ++ ([(q4, .inr (0, [.null, .null, .null, .null, .null, .null, .null, .int 0, .int 0, .int 0, .int 0]))])) := hs
  refine lv_dup hx hb (dk hX2_init_0 15 rfl) rfl ?_
  refine Cc.I (As := []) (rest := [.ref q4, .int (1 : Int32), .ref q1]) (cells1 := 17) (slots1 := 122) C hs c_X0_init rfl tw_97 tw_35 tw_18 tw_36 nq_X0_init (by decide) rfl hl.1 rfl (Nat.le_of_ble_eq_true rfl) (dk hX2_init_0 16 rfl) rfl rfl ⟨Nat.le_of_ble_eq_true rfl, Nat.le_of_ble_eq_true rfl⟩ (fun z5 H locs hs => ?_)
  have hs : St G A s.heap H locs ([(a0, .inr (2, [.ref q1, .int 0])), (q1, .inl (G.2.2, 8, .inr (.inr (.inr (.inr (va_up (fun _ => none) 0 (some q2)))))))] ++ (wHs G (cz q2 z3) hs0 ++ (wHs G (cz q4 z5) hs0))) := hs
  refine raq (k := 1) (w1 := ([(a0, .inr (2, [.ref q1, .int 0])), (q1, .inl (G.2.2, 8, .inr (.inr (.inr (.inr (va_up (va_up (fun _ => none) 0 (some q2)) 1 (some q4)))))))] ++ (wHs G (cz q2 z3) hs0 ++ (wHs G (cz q4 z5) hs0)))) C hs 1 rfl 10 rfl (by decide) (by unfold vp_in; decide) rfl (dk hX2_init_0 17 rfl) (fun H locs hs => ?_)
  refine lv_iinc (v := (2 : Int32)) (lv' := [(1, .int (2 : Int32)), (0, .ref a0)]) hx hb (dk hX2_init_0 18 rfl) hl (k := 0) (by first | rfl | decide) (by decide) (by decide) rfl (fun ls hl => ?_)
  refine lv_goto (tgt := 15) hx hb (dk hX2_init_0 19 rfl) (by decide) ?_
  refine lv_iload_n hx hb (dk hX2_init_0 8 rfl) rfl (lv_at hl 0 rfl) ?_
  refine lv_bipush (v := (8 : Int32)) hx hb (dk hX2_init_0 9 rfl) (by decide) ?_
  refine lv_icmp_ge (tgt := 40) hx hb (dk hX2_init_0 10 rfl) (by decide) (fun hc => absurd hc (by decide)) (fun hc => ?_)
  refine lv_aload_n hx hb (dk hX2_init_0 11 rfl) rfl (lv_at hl 1 rfl) ?_
  refine rg ui2 rfl C hs 0 rfl 0 (by decide) tw_98 rfl rfl (dk hX2_init_0 12 rfl) ?_
  refine lv_iload_n hx hb (dk hX2_init_0 13 rfl) rfl (lv_at hl 0 rfl) ?_
  refine rno (ci := 0) (cells1 := 18) (slots1 := 133) (fs := [.null, .null, .null, .null, .null, .null, .null, .int 0, .int 0, .int 0, .int 0]) tyX0 tyX0_ok ui0 rfl C hs tw_95 tw_33 tw_18 df0 rfl rfl ⟨Nat.le_of_ble_eq_true rfl, Nat.le_of_ble_eq_true rfl⟩ (dk hX2_init_0 14 rfl) (fun q6 H hs => ?_)
  have hs : St G A s.heap H locs (([(a0, .inr (2, [.ref q1, .int 0])), (q1, .inl (G.2.2, 8, .inr (.inr (.inr (.inr (va_up (va_up (fun _ => none) 0 (some q2)) 1 (some q4)))))))] ++ (wHs G (cz q2 z3) hs0 ++ (wHs G (cz q4 z5) hs0))) ++ ([(q6, .inr (0, [.null, .null, .null, .null, .null, .null, .null, .int 0, .int 0, .int 0, .int 0]))])) := hs
  refine lv_dup hx hb (dk hX2_init_0 15 rfl) rfl ?_
  refine Cc.I (As := []) (rest := [.ref q6, .int (2 : Int32), .ref q1]) (cells1 := 25) (slots1 := 179) C hs c_X0_init rfl tw_97 tw_35 tw_18 tw_36 nq_X0_init (by decide) rfl hl.1 rfl (Nat.le_of_ble_eq_true rfl) (dk hX2_init_0 16 rfl) rfl rfl ⟨Nat.le_of_ble_eq_true rfl, Nat.le_of_ble_eq_true rfl⟩ (fun z7 H locs hs => ?_)
  have hs : St G A s.heap H locs ([(a0, .inr (2, [.ref q1, .int 0])), (q1, .inl (G.2.2, 8, .inr (.inr (.inr (.inr (va_up (va_up (fun _ => none) 0 (some q2)) 1 (some q4)))))))] ++ (wHs G (cz q2 z3) hs0 ++ (wHs G (cz q4 z5) hs0 ++ (wHs G (cz q6 z7) hs0)))) := hs
  refine raq (k := 2) (w1 := ([(a0, .inr (2, [.ref q1, .int 0])), (q1, .inl (G.2.2, 8, .inr (.inr (.inr (.inr (va_up (va_up (va_up (fun _ => none) 0 (some q2)) 1 (some q4)) 2 (some q6)))))))] ++ (wHs G (cz q2 z3) hs0 ++ (wHs G (cz q4 z5) hs0 ++ (wHs G (cz q6 z7) hs0))))) C hs 1 rfl 18 rfl (by decide) (by unfold vp_in; decide) rfl (dk hX2_init_0 17 rfl) (fun H locs hs => ?_)
  refine lv_iinc (v := (3 : Int32)) (lv' := [(1, .int (3 : Int32)), (0, .ref a0)]) hx hb (dk hX2_init_0 18 rfl) hl (k := 0) (by first | rfl | decide) (by decide) (by decide) rfl (fun ls hl => ?_)
  refine lv_goto (tgt := 15) hx hb (dk hX2_init_0 19 rfl) (by decide) ?_
  refine lv_iload_n hx hb (dk hX2_init_0 8 rfl) rfl (lv_at hl 0 rfl) ?_
  refine lv_bipush (v := (8 : Int32)) hx hb (dk hX2_init_0 9 rfl) (by decide) ?_
  refine lv_icmp_ge (tgt := 40) hx hb (dk hX2_init_0 10 rfl) (by decide) (fun hc => absurd hc (by decide)) (fun hc => ?_)
  refine lv_aload_n hx hb (dk hX2_init_0 11 rfl) rfl (lv_at hl 1 rfl) ?_
  refine rg ui2 rfl C hs 0 rfl 0 (by decide) tw_98 rfl rfl (dk hX2_init_0 12 rfl) ?_
  refine lv_iload_n hx hb (dk hX2_init_0 13 rfl) rfl (lv_at hl 0 rfl) ?_
  refine rno (ci := 0) (cells1 := 26) (slots1 := 190) (fs := [.null, .null, .null, .null, .null, .null, .null, .int 0, .int 0, .int 0, .int 0]) tyX0 tyX0_ok ui0 rfl C hs tw_95 tw_33 tw_18 df0 rfl rfl ⟨Nat.le_of_ble_eq_true rfl, Nat.le_of_ble_eq_true rfl⟩ (dk hX2_init_0 14 rfl) (fun q8 H hs => ?_)
  have hs : St G A s.heap H locs (([(a0, .inr (2, [.ref q1, .int 0])), (q1, .inl (G.2.2, 8, .inr (.inr (.inr (.inr (va_up (va_up (va_up (fun _ => none) 0 (some q2)) 1 (some q4)) 2 (some q6)))))))] ++ (wHs G (cz q2 z3) hs0 ++ (wHs G (cz q4 z5) hs0 ++ (wHs G (cz q6 z7) hs0)))) ++ ([(q8, .inr (0, [.null, .null, .null, .null, .null, .null, .null, .int 0, .int 0, .int 0, .int 0]))])) := hs
  refine lv_dup hx hb (dk hX2_init_0 15 rfl) rfl ?_
  refine Cc.I (As := []) (rest := [.ref q8, .int (3 : Int32), .ref q1]) (cells1 := 33) (slots1 := 236) C hs c_X0_init rfl tw_97 tw_35 tw_18 tw_36 nq_X0_init (by decide) rfl hl.1 rfl (Nat.le_of_ble_eq_true rfl) (dk hX2_init_0 16 rfl) rfl rfl ⟨Nat.le_of_ble_eq_true rfl, Nat.le_of_ble_eq_true rfl⟩ (fun z9 H locs hs => ?_)
  have hs : St G A s.heap H locs ([(a0, .inr (2, [.ref q1, .int 0])), (q1, .inl (G.2.2, 8, .inr (.inr (.inr (.inr (va_up (va_up (va_up (fun _ => none) 0 (some q2)) 1 (some q4)) 2 (some q6)))))))] ++ (wHs G (cz q2 z3) hs0 ++ (wHs G (cz q4 z5) hs0 ++ (wHs G (cz q6 z7) hs0 ++ (wHs G (cz q8 z9) hs0))))) := hs
  refine raq (k := 3) (w1 := ([(a0, .inr (2, [.ref q1, .int 0])), (q1, .inl (G.2.2, 8, .inr (.inr (.inr (.inr (va_up (va_up (va_up (va_up (fun _ => none) 0 (some q2)) 1 (some q4)) 2 (some q6)) 3 (some q8)))))))] ++ (wHs G (cz q2 z3) hs0 ++ (wHs G (cz q4 z5) hs0 ++ (wHs G (cz q6 z7) hs0 ++ (wHs G (cz q8 z9) hs0)))))) C hs 1 rfl 26 rfl (by decide) (by unfold vp_in; decide) rfl (dk hX2_init_0 17 rfl) (fun H locs hs => ?_)
  refine lv_iinc (v := (4 : Int32)) (lv' := [(1, .int (4 : Int32)), (0, .ref a0)]) hx hb (dk hX2_init_0 18 rfl) hl (k := 0) (by first | rfl | decide) (by decide) (by decide) rfl (fun ls hl => ?_)
  refine lv_goto (tgt := 15) hx hb (dk hX2_init_0 19 rfl) (by decide) ?_
  refine lv_iload_n hx hb (dk hX2_init_0 8 rfl) rfl (lv_at hl 0 rfl) ?_
  refine lv_bipush (v := (8 : Int32)) hx hb (dk hX2_init_0 9 rfl) (by decide) ?_
  refine lv_icmp_ge (tgt := 40) hx hb (dk hX2_init_0 10 rfl) (by decide) (fun hc => absurd hc (by decide)) (fun hc => ?_)
  refine lv_aload_n hx hb (dk hX2_init_0 11 rfl) rfl (lv_at hl 1 rfl) ?_
  refine rg ui2 rfl C hs 0 rfl 0 (by decide) tw_98 rfl rfl (dk hX2_init_0 12 rfl) ?_
  refine lv_iload_n hx hb (dk hX2_init_0 13 rfl) rfl (lv_at hl 0 rfl) ?_
  refine rno (ci := 0) (cells1 := 34) (slots1 := 247) (fs := [.null, .null, .null, .null, .null, .null, .null, .int 0, .int 0, .int 0, .int 0]) tyX0 tyX0_ok ui0 rfl C hs tw_95 tw_33 tw_18 df0 rfl rfl ⟨Nat.le_of_ble_eq_true rfl, Nat.le_of_ble_eq_true rfl⟩ (dk hX2_init_0 14 rfl) (fun q10 H hs => ?_)
  have hs : St G A s.heap H locs (([(a0, .inr (2, [.ref q1, .int 0])), (q1, .inl (G.2.2, 8, .inr (.inr (.inr (.inr (va_up (va_up (va_up (va_up (fun _ => none) 0 (some q2)) 1 (some q4)) 2 (some q6)) 3 (some q8)))))))] ++ (wHs G (cz q2 z3) hs0 ++ (wHs G (cz q4 z5) hs0 ++ (wHs G (cz q6 z7) hs0 ++ (wHs G (cz q8 z9) hs0))))) ++ ([(q10, .inr (0, [.null, .null, .null, .null, .null, .null, .null, .int 0, .int 0, .int 0, .int 0]))])) := hs
  refine lv_dup hx hb (dk hX2_init_0 15 rfl) rfl ?_
  refine Cc.I (As := []) (rest := [.ref q10, .int (4 : Int32), .ref q1]) (cells1 := 41) (slots1 := 293) C hs c_X0_init rfl tw_97 tw_35 tw_18 tw_36 nq_X0_init (by decide) rfl hl.1 rfl (Nat.le_of_ble_eq_true rfl) (dk hX2_init_0 16 rfl) rfl rfl ⟨Nat.le_of_ble_eq_true rfl, Nat.le_of_ble_eq_true rfl⟩ (fun z11 H locs hs => ?_)
  have hs : St G A s.heap H locs ([(a0, .inr (2, [.ref q1, .int 0])), (q1, .inl (G.2.2, 8, .inr (.inr (.inr (.inr (va_up (va_up (va_up (va_up (fun _ => none) 0 (some q2)) 1 (some q4)) 2 (some q6)) 3 (some q8)))))))] ++ (wHs G (cz q2 z3) hs0 ++ (wHs G (cz q4 z5) hs0 ++ (wHs G (cz q6 z7) hs0 ++ (wHs G (cz q8 z9) hs0 ++ (wHs G (cz q10 z11) hs0)))))) := hs
  refine raq (k := 4) (w1 := ([(a0, .inr (2, [.ref q1, .int 0])), (q1, .inl (G.2.2, 8, .inr (.inr (.inr (.inr (va_up (va_up (va_up (va_up (va_up (fun _ => none) 0 (some q2)) 1 (some q4)) 2 (some q6)) 3 (some q8)) 4 (some q10)))))))] ++ (wHs G (cz q2 z3) hs0 ++ (wHs G (cz q4 z5) hs0 ++ (wHs G (cz q6 z7) hs0 ++ (wHs G (cz q8 z9) hs0 ++ (wHs G (cz q10 z11) hs0))))))) C hs 1 rfl 34 rfl (by decide) (by unfold vp_in; decide) rfl (dk hX2_init_0 17 rfl) (fun H locs hs => ?_)
  refine lv_iinc (v := (5 : Int32)) (lv' := [(1, .int (5 : Int32)), (0, .ref a0)]) hx hb (dk hX2_init_0 18 rfl) hl (k := 0) (by first | rfl | decide) (by decide) (by decide) rfl (fun ls hl => ?_)
  refine lv_goto (tgt := 15) hx hb (dk hX2_init_0 19 rfl) (by decide) ?_
  refine lv_iload_n hx hb (dk hX2_init_0 8 rfl) rfl (lv_at hl 0 rfl) ?_
  refine lv_bipush (v := (8 : Int32)) hx hb (dk hX2_init_0 9 rfl) (by decide) ?_
  refine lv_icmp_ge (tgt := 40) hx hb (dk hX2_init_0 10 rfl) (by decide) (fun hc => absurd hc (by decide)) (fun hc => ?_)
  refine lv_aload_n hx hb (dk hX2_init_0 11 rfl) rfl (lv_at hl 1 rfl) ?_
  refine rg ui2 rfl C hs 0 rfl 0 (by decide) tw_98 rfl rfl (dk hX2_init_0 12 rfl) ?_
  refine lv_iload_n hx hb (dk hX2_init_0 13 rfl) rfl (lv_at hl 0 rfl) ?_
  refine rno (ci := 0) (cells1 := 42) (slots1 := 304) (fs := [.null, .null, .null, .null, .null, .null, .null, .int 0, .int 0, .int 0, .int 0]) tyX0 tyX0_ok ui0 rfl C hs tw_95 tw_33 tw_18 df0 rfl rfl ⟨Nat.le_of_ble_eq_true rfl, Nat.le_of_ble_eq_true rfl⟩ (dk hX2_init_0 14 rfl) (fun q12 H hs => ?_)
  have hs : St G A s.heap H locs (([(a0, .inr (2, [.ref q1, .int 0])), (q1, .inl (G.2.2, 8, .inr (.inr (.inr (.inr (va_up (va_up (va_up (va_up (va_up (fun _ => none) 0 (some q2)) 1 (some q4)) 2 (some q6)) 3 (some q8)) 4 (some q10)))))))] ++ (wHs G (cz q2 z3) hs0 ++ (wHs G (cz q4 z5) hs0 ++ (wHs G (cz q6 z7) hs0 ++ (wHs G (cz q8 z9) hs0 ++ (wHs G (cz q10 z11) hs0)))))) ++ ([(q12, .inr (0, [.null, .null, .null, .null, .null, .null, .null, .int 0, .int 0, .int 0, .int 0]))])) := hs
  refine lv_dup hx hb (dk hX2_init_0 15 rfl) rfl ?_
  refine Cc.I (As := []) (rest := [.ref q12, .int (5 : Int32), .ref q1]) (cells1 := 49) (slots1 := 350) C hs c_X0_init rfl tw_97 tw_35 tw_18 tw_36 nq_X0_init (by decide) rfl hl.1 rfl (Nat.le_of_ble_eq_true rfl) (dk hX2_init_0 16 rfl) rfl rfl ⟨Nat.le_of_ble_eq_true rfl, Nat.le_of_ble_eq_true rfl⟩ (fun z13 H locs hs => ?_)
  have hs : St G A s.heap H locs ([(a0, .inr (2, [.ref q1, .int 0])), (q1, .inl (G.2.2, 8, .inr (.inr (.inr (.inr (va_up (va_up (va_up (va_up (va_up (fun _ => none) 0 (some q2)) 1 (some q4)) 2 (some q6)) 3 (some q8)) 4 (some q10)))))))] ++ (wHs G (cz q2 z3) hs0 ++ (wHs G (cz q4 z5) hs0 ++ (wHs G (cz q6 z7) hs0 ++ (wHs G (cz q8 z9) hs0 ++ (wHs G (cz q10 z11) hs0 ++ (wHs G (cz q12 z13) hs0))))))) := hs
  refine raq (k := 5) (w1 := ([(a0, .inr (2, [.ref q1, .int 0])), (q1, .inl (G.2.2, 8, .inr (.inr (.inr (.inr (va_up (va_up (va_up (va_up (va_up (va_up (fun _ => none) 0 (some q2)) 1 (some q4)) 2 (some q6)) 3 (some q8)) 4 (some q10)) 5 (some q12)))))))] ++ (wHs G (cz q2 z3) hs0 ++ (wHs G (cz q4 z5) hs0 ++ (wHs G (cz q6 z7) hs0 ++ (wHs G (cz q8 z9) hs0 ++ (wHs G (cz q10 z11) hs0 ++ (wHs G (cz q12 z13) hs0)))))))) C hs 1 rfl 42 rfl (by decide) (by unfold vp_in; decide) rfl (dk hX2_init_0 17 rfl) (fun H locs hs => ?_)
  refine lv_iinc (v := (6 : Int32)) (lv' := [(1, .int (6 : Int32)), (0, .ref a0)]) hx hb (dk hX2_init_0 18 rfl) hl (k := 0) (by first | rfl | decide) (by decide) (by decide) rfl (fun ls hl => ?_)
  refine lv_goto (tgt := 15) hx hb (dk hX2_init_0 19 rfl) (by decide) ?_
  refine lv_iload_n hx hb (dk hX2_init_0 8 rfl) rfl (lv_at hl 0 rfl) ?_
  refine lv_bipush (v := (8 : Int32)) hx hb (dk hX2_init_0 9 rfl) (by decide) ?_
  refine lv_icmp_ge (tgt := 40) hx hb (dk hX2_init_0 10 rfl) (by decide) (fun hc => absurd hc (by decide)) (fun hc => ?_)
  refine lv_aload_n hx hb (dk hX2_init_0 11 rfl) rfl (lv_at hl 1 rfl) ?_
  refine rg ui2 rfl C hs 0 rfl 0 (by decide) tw_98 rfl rfl (dk hX2_init_0 12 rfl) ?_
  refine lv_iload_n hx hb (dk hX2_init_0 13 rfl) rfl (lv_at hl 0 rfl) ?_
  refine rno (ci := 0) (cells1 := 50) (slots1 := 361) (fs := [.null, .null, .null, .null, .null, .null, .null, .int 0, .int 0, .int 0, .int 0]) tyX0 tyX0_ok ui0 rfl C hs tw_95 tw_33 tw_18 df0 rfl rfl ⟨Nat.le_of_ble_eq_true rfl, Nat.le_of_ble_eq_true rfl⟩ (dk hX2_init_0 14 rfl) (fun q14 H hs => ?_)
  have hs : St G A s.heap H locs (([(a0, .inr (2, [.ref q1, .int 0])), (q1, .inl (G.2.2, 8, .inr (.inr (.inr (.inr (va_up (va_up (va_up (va_up (va_up (va_up (fun _ => none) 0 (some q2)) 1 (some q4)) 2 (some q6)) 3 (some q8)) 4 (some q10)) 5 (some q12)))))))] ++ (wHs G (cz q2 z3) hs0 ++ (wHs G (cz q4 z5) hs0 ++ (wHs G (cz q6 z7) hs0 ++ (wHs G (cz q8 z9) hs0 ++ (wHs G (cz q10 z11) hs0 ++ (wHs G (cz q12 z13) hs0))))))) ++ ([(q14, .inr (0, [.null, .null, .null, .null, .null, .null, .null, .int 0, .int 0, .int 0, .int 0]))])) := hs
  refine lv_dup hx hb (dk hX2_init_0 15 rfl) rfl ?_
  refine Cc.I (As := []) (rest := [.ref q14, .int (6 : Int32), .ref q1]) (cells1 := 57) (slots1 := 407) C hs c_X0_init rfl tw_97 tw_35 tw_18 tw_36 nq_X0_init (by decide) rfl hl.1 rfl (Nat.le_of_ble_eq_true rfl) (dk hX2_init_0 16 rfl) rfl rfl ⟨Nat.le_of_ble_eq_true rfl, Nat.le_of_ble_eq_true rfl⟩ (fun z15 H locs hs => ?_)
  have hs : St G A s.heap H locs ([(a0, .inr (2, [.ref q1, .int 0])), (q1, .inl (G.2.2, 8, .inr (.inr (.inr (.inr (va_up (va_up (va_up (va_up (va_up (va_up (fun _ => none) 0 (some q2)) 1 (some q4)) 2 (some q6)) 3 (some q8)) 4 (some q10)) 5 (some q12)))))))] ++ (wHs G (cz q2 z3) hs0 ++ (wHs G (cz q4 z5) hs0 ++ (wHs G (cz q6 z7) hs0 ++ (wHs G (cz q8 z9) hs0 ++ (wHs G (cz q10 z11) hs0 ++ (wHs G (cz q12 z13) hs0 ++ (wHs G (cz q14 z15) hs0)))))))) := hs
  refine raq (k := 6) (w1 := ([(a0, .inr (2, [.ref q1, .int 0])), (q1, .inl (G.2.2, 8, .inr (.inr (.inr (.inr (va_up (va_up (va_up (va_up (va_up (va_up (va_up (fun _ => none) 0 (some q2)) 1 (some q4)) 2 (some q6)) 3 (some q8)) 4 (some q10)) 5 (some q12)) 6 (some q14)))))))] ++ (wHs G (cz q2 z3) hs0 ++ (wHs G (cz q4 z5) hs0 ++ (wHs G (cz q6 z7) hs0 ++ (wHs G (cz q8 z9) hs0 ++ (wHs G (cz q10 z11) hs0 ++ (wHs G (cz q12 z13) hs0 ++ (wHs G (cz q14 z15) hs0))))))))) C hs 1 rfl 50 rfl (by decide) (by unfold vp_in; decide) rfl (dk hX2_init_0 17 rfl) (fun H locs hs => ?_)
  refine lv_iinc (v := (7 : Int32)) (lv' := [(1, .int (7 : Int32)), (0, .ref a0)]) hx hb (dk hX2_init_0 18 rfl) hl (k := 0) (by first | rfl | decide) (by decide) (by decide) rfl (fun ls hl => ?_)
  refine lv_goto (tgt := 15) hx hb (dk hX2_init_0 19 rfl) (by decide) ?_
  refine lv_iload_n hx hb (dk hX2_init_0 8 rfl) rfl (lv_at hl 0 rfl) ?_
  refine lv_bipush (v := (8 : Int32)) hx hb (dk hX2_init_0 9 rfl) (by decide) ?_
  refine lv_icmp_ge (tgt := 40) hx hb (dk hX2_init_0 10 rfl) (by decide) (fun hc => absurd hc (by decide)) (fun hc => ?_)
  refine lv_aload_n hx hb (dk hX2_init_0 11 rfl) rfl (lv_at hl 1 rfl) ?_
  refine rg ui2 rfl C hs 0 rfl 0 (by decide) tw_98 rfl rfl (dk hX2_init_0 12 rfl) ?_
  refine lv_iload_n hx hb (dk hX2_init_0 13 rfl) rfl (lv_at hl 0 rfl) ?_
  refine rno (ci := 0) (cells1 := 58) (slots1 := 418) (fs := [.null, .null, .null, .null, .null, .null, .null, .int 0, .int 0, .int 0, .int 0]) tyX0 tyX0_ok ui0 rfl C hs tw_95 tw_33 tw_18 df0 rfl rfl ⟨Nat.le_of_ble_eq_true rfl, Nat.le_of_ble_eq_true rfl⟩ (dk hX2_init_0 14 rfl) (fun q16 H hs => ?_)
  have hs : St G A s.heap H locs (([(a0, .inr (2, [.ref q1, .int 0])), (q1, .inl (G.2.2, 8, .inr (.inr (.inr (.inr (va_up (va_up (va_up (va_up (va_up (va_up (va_up (fun _ => none) 0 (some q2)) 1 (some q4)) 2 (some q6)) 3 (some q8)) 4 (some q10)) 5 (some q12)) 6 (some q14)))))))] ++ (wHs G (cz q2 z3) hs0 ++ (wHs G (cz q4 z5) hs0 ++ (wHs G (cz q6 z7) hs0 ++ (wHs G (cz q8 z9) hs0 ++ (wHs G (cz q10 z11) hs0 ++ (wHs G (cz q12 z13) hs0 ++ (wHs G (cz q14 z15) hs0)))))))) ++ ([(q16, .inr (0, [.null, .null, .null, .null, .null, .null, .null, .int 0, .int 0, .int 0, .int 0]))])) := hs
  refine lv_dup hx hb (dk hX2_init_0 15 rfl) rfl ?_
  refine Cc.I (As := []) (rest := [.ref q16, .int (7 : Int32), .ref q1]) (cells1 := 65) (slots1 := 464) C hs c_X0_init rfl tw_97 tw_35 tw_18 tw_36 nq_X0_init (by decide) rfl hl.1 rfl (Nat.le_of_ble_eq_true rfl) (dk hX2_init_0 16 rfl) rfl rfl ⟨Nat.le_of_ble_eq_true rfl, Nat.le_of_ble_eq_true rfl⟩ (fun z17 H locs hs => ?_)
  have hs : St G A s.heap H locs ([(a0, .inr (2, [.ref q1, .int 0])), (q1, .inl (G.2.2, 8, .inr (.inr (.inr (.inr (va_up (va_up (va_up (va_up (va_up (va_up (va_up (fun _ => none) 0 (some q2)) 1 (some q4)) 2 (some q6)) 3 (some q8)) 4 (some q10)) 5 (some q12)) 6 (some q14)))))))] ++ (wHs G (cz q2 z3) hs0 ++ (wHs G (cz q4 z5) hs0 ++ (wHs G (cz q6 z7) hs0 ++ (wHs G (cz q8 z9) hs0 ++ (wHs G (cz q10 z11) hs0 ++ (wHs G (cz q12 z13) hs0 ++ (wHs G (cz q14 z15) hs0 ++ (wHs G (cz q16 z17) hs0))))))))) := hs
  refine raq (k := 7) (w1 := ([(a0, .inr (2, [.ref q1, .int 0])), (q1, .inl (G.2.2, 8, .inr (.inr (.inr (.inr (va_up (va_up (va_up (va_up (va_up (va_up (va_up (va_up (fun _ => none) 0 (some q2)) 1 (some q4)) 2 (some q6)) 3 (some q8)) 4 (some q10)) 5 (some q12)) 6 (some q14)) 7 (some q16)))))))] ++ (wHs G (cz q2 z3) hs0 ++ (wHs G (cz q4 z5) hs0 ++ (wHs G (cz q6 z7) hs0 ++ (wHs G (cz q8 z9) hs0 ++ (wHs G (cz q10 z11) hs0 ++ (wHs G (cz q12 z13) hs0 ++ (wHs G (cz q14 z15) hs0 ++ (wHs G (cz q16 z17) hs0)))))))))) C hs 1 rfl 58 rfl (by decide) (by unfold vp_in; decide) rfl (dk hX2_init_0 17 rfl) (fun H locs hs => ?_)
  refine lv_iinc (v := (8 : Int32)) (lv' := [(1, .int (8 : Int32)), (0, .ref a0)]) hx hb (dk hX2_init_0 18 rfl) hl (k := 0) (by first | rfl | decide) (by decide) (by decide) rfl (fun ls hl => ?_)
  refine lv_goto (tgt := 15) hx hb (dk hX2_init_0 19 rfl) (by decide) ?_
  refine lv_iload_n hx hb (dk hX2_init_0 8 rfl) rfl (lv_at hl 0 rfl) ?_
  refine lv_bipush (v := (8 : Int32)) hx hb (dk hX2_init_0 9 rfl) (by decide) ?_
  refine lv_icmp_ge (tgt := 40) hx hb (dk hX2_init_0 10 rfl) (by decide) (fun hc => ?_) (fun hc => absurd (by decide) hc)
  have hs := raf (f1 := (fun j => some ((fun r => [(cz q2 z3), (cz q4 z5), (cz q6 z7), (cz q8 z9), (cz q10 z11), (cz q12 z13), (cz q14 z15), (cz q16 z17)].getD r (fun _ => 0)) (id j) 0))) (w1 := ([(a0, .inr (2, [.ref q1, .int 0])), (q1, .inl (G.2.2, 8, .inr (.inr (.inr (.inr (fun j => some ((fun r => [(cz q2 z3), (cz q4 z5), (cz q6 z7), (cz q8 z9), (cz q10 z11), (cz q12 z13), (cz q14 z15), (cz q16 z17)].getD r (fun _ => 0)) (id j) 0)))))))] ++ (wHs G (cz q2 z3) hs0 ++ (wHs G (cz q4 z5) hs0 ++ (wHs G (cz q6 z7) hs0 ++ (wHs G (cz q8 z9) hs0 ++ (wHs G (cz q10 z11) hs0 ++ (wHs G (cz q12 z13) hs0 ++ (wHs G (cz q14 z15) hs0 ++ (wHs G (cz q16 z17) hs0)))))))))) hs 1 rfl (by
    intro j hj
    match j, hj with
    | 0, _ => rfl
    | 1, _ => rfl
    | 2, _ => rfl
    | 3, _ => rfl
    | 4, _ => rfl
    | 5, _ => rfl
    | 6, _ => rfl
    | 7, _ => rfl) rfl
  exact rvN ((fun _ => q1), (fun r => [(cz q2 z3), (cz q4 z5), (cz q6 z7), (cz q8 z9), (cz q10 z11), (cz q12 z13), (cz q14 z15), (cz q16 z17)].getD r (fun _ => 0))) C hs (dk hX2_init_0 20 rfl)

set_option maxRecDepth 100000 in
set_option maxHeartbeats 4000000 in
theorem c_X3_init {l : Launch} {G : Gx} {a0 : Nat} : Cc l G yX3_init cX3_init 1 2 51 2 98 [.ref a0] [(a0, .inr (3, [.null]))] (fun z : Nat → Nat => wB G (cz a0 (fun _ => 0)) z ++ wN G z (List.replicate 96 0) 0) := by
  refine Cc.intro RX3 rfl rfl (plainFor_of_name (by decide)) (Nat.le_of_ble_eq_true rfl) ?_
  intro p e s m args below meth c A C hin H locs hs ls hl
  obtain ⟨hx, hb, hml, hown, hts, hK, hret, hlk⟩ := id C
  have hl : lv_has ls 1 [(0, .ref a0)] := hl
  refine lv_aload_n hx hb (dk hX3_init_0 0 rfl) rfl (lv_at hl 0 rfl) ?_
  refine roi C tw_110 hl.1 (Nat.le_of_ble_eq_true rfl) ⟨Nat.le_of_ble_eq_true rfl, Nat.le_of_ble_eq_true rfl⟩ (dk hX3_init_0 1 rfl) ?_
  refine lv_aload_n hx hb (dk hX3_init_0 2 rfl) rfl (lv_at hl 0 rfl) ?_
  refine rno (ci := 1) (cells1 := 1) (slots1 := 2) (fs := [.null, .int 0]) tyX1 tyX1_ok ui1 rfl C hs tw_111 tw_112 tw_21 df1 rfl rfl ⟨Nat.le_of_ble_eq_true rfl, Nat.le_of_ble_eq_true rfl⟩ (dk hX3_init_0 3 rfl) (fun q1 H hs => ?_)
  have hs : St G A s.heap H locs (([(a0, .inr (3, [.null]))]) ++ ([(q1, .inr (1, [.null, .int 0]))])) := hs
  refine lv_dup hx hb (dk hX3_init_0 4 rfl) rfl ?_
  refine lv_bipush (v := (96 : Int32)) hx hb (dk hX3_init_0 5 rfl) (by decide) ?_
  refine Cc.I (As := [.int (96 : Int32)]) (rest := [.ref q1, .ref a0]) (cells1 := 2) (slots1 := 98) C hs (c_X1_init (x := 96) (N := 96) (by decide) (by decide) (by decide) (by decide)) rfl tw_113 tw_114 tw_21 tw_115 nq_X1_init (by decide) rfl hl.1 rfl (Nat.le_of_ble_eq_true rfl) (dk hX3_init_0 6 rfl) rfl rfl ⟨Nat.le_of_ble_eq_true rfl, Nat.le_of_ble_eq_true rfl⟩ (fun z2 H locs hs => ?_)
  have hs : St G A s.heap H locs ([(a0, .inr (3, [.null]))] ++ (wN G (cz q1 z2) (List.replicate 96 0) 0)) := hs
  refine rpF (w1 := ([(a0, .inr (3, [.ref q1]))] ++ (wN G (cz q1 z2) (List.replicate 96 0) 0))) tyX3 tyX3_ok nmX3 ui3 rfl C hs hin 0 rfl 0 (by decide) tw_127 rfl rfl rfl rfl rfl (Nat.le_of_ble_eq_true rfl) rfl (dk hX3_init_0 7 rfl) (fun H locs hs => ?_)
  exact rvN (cz q1 z2) C hs (dk hX3_init_0 8 rfl)
