/-! constructors: methods that make cells -/
def QofN (G : Gx) (A : Nat → Prop) {α : Type} (w1 : α → va_W) : Array Value → State → Outcome → State → Prop := fun _ st o t => o = .returned none ∧ (∃ z : α, va_P G.1 vwCl (w1 z) t.heap ∧ va_D A (w1 z)) ∧ va_F A st t
abbrev rmN (fr lo ca sl : Nat) : Room := { frames := fr, cells := ca, slots := sl, locals := lo }
def Cc (l : Launch) (G : Gx) (y : MethodName) (b : ByteArray) (ml fr lo mc ms : Nat) (av : List Value) (w : va_W) {α : Type} (w1 : α → va_W) : Prop :=
  ∀ sz : Nat, Met l y (.code y b ml none :: lw_g) (rmN fr lo mc ms) (va_Pc av (pcOf G sz w)) (QofN G (va_A w sz) w1) mc ms (va_A w sz)
theorem Cc.intro {l : Launch} {G : Gx} {y : MethodName} {b : ByteArray} {ml fr lo mc ms : Nat} {av : List Value} {w : va_W} {α : Type} {w1 : α → va_W} (own : String) (ho : y.cls = own) (hnm : y.name = "<init>") (hy : plainFor y = true) (hn : (lg_sl av).length ≤ ml)
    (body : ∀ (p : Program) (e : Jvm.Env) (s : State) (m : MethodId) (args : Array Value) (below : List Frame) (meth : Method) (c : Code) (A : Nat → Prop), Cx p s m args meth c b own ml none G → meth.name = "<init>" → ∀ (H : Heap) (locs : List Loc), St G A s.heap H locs w → ∀ ls : Array Slot, lv_has ls ml (lv_args 0 av) →
      W p l e (rmN fr lo mc ms) s m args below meth c H locs 0 0 (MQ below (QofN G A w1) args s mc ms A) (F0 m 0 ls [])) : Cc l G y b ml fr lo mc ms av w w1 := by
  refine fun sz => Met.ofWF (cc := b) (maxL := ml) (ret := none) hy rfl ?_
  intro p e s m args below meth c s₁ B hml hv
  obtain ⟨rfl, hsz, hP, hK, hD0⟩ := hv
  have hts := atoms_spec (ws := .code y b ml none :: lw_g) B.pre
  have hown : s.vm.findClass y.cls = some m.cls := findClass_of_methodNamed B.named
  have hin : meth.name = "<init>" := (name_of_methodNamed B.named B.method).1.trans hnm
  subst hsz
  have hl := lv_entry av (n := ml) hn
  rw [lg_entry_eq]
  exact body p e s m _ below meth c (va_A w s.heap.size) ⟨B.exec, B.bytes, hml, by rw [← ho]; exact hown, fun w h => hts w (List.mem_cons_of_mem _ h), hK, B.returns, B.notSynchronized⟩ hin s.heap [] ⟨hP, hD0.self, va_S.rf, fun q h => Or.inr h⟩ _ hl
theorem D_app {A B : Nat → Prop} {w x : va_W} (h1 : va_D A w) (h2 : va_D B x) (hB : ∀ q, B q → A q) (hx : ∀ (k : Nat) (q : Nat × va_E), w[k]? = some q → ¬ B q.1) : va_D A (w ++ x) := by
  refine ⟨fun i j p q hi hj hpq => ?_, fun k q hk => ?_⟩
  · by_cases ci : i < w.length
    · rw [List.getElem?_append_left ci] at hi
      by_cases cj : j < w.length
      · rw [List.getElem?_append_left cj] at hj
        exact h1.1 i j p q hi hj hpq
      · rw [List.getElem?_append_right (by omega)] at hj
        exact absurd (hpq ▸ h2.2 _ q hj) (hx i p hi)
    · rw [List.getElem?_append_right (by omega)] at hi
      by_cases cj : j < w.length
      · rw [List.getElem?_append_left cj] at hj
        exact absurd (hpq ▸ h2.2 _ p hi) (hx j q hj)
      · rw [List.getElem?_append_right (by omega)] at hj
        have := h2.1 _ _ p q hi hj hpq
        omega
  · by_cases ck : k < w.length
    · rw [List.getElem?_append_left ck] at hk
      exact h1.2 k q hk
    · rw [List.getElem?_append_right (by omega)] at hk
      exact hB _ (h2.2 _ q hk)
section NEWS
variable {p : Program} {l : Launch} {e : Jvm.Env} {R : Room} {s : State} {m : MethodId} {args : Array Value} {below : List Frame} {meth : Method} {c : Code} {H : Heap} {locs : List Loc} {cells slots : Nat} {Q : State → Prop}
variable {cc : ByteArray} {own : String} {nL : Nat} {ret : Option FieldType} {G : Gx} {A : Nat → Prop} {H0 : Heap} {w : va_W} {pc : Nat} {ls : Array Slot} {rest : List Value}
theorem Cc.fin {α : Type} {wr wc : va_W} {w1 : α → va_W} {mc ms : Nat} {st0 : List Value} {a : Array Value} (hr : va_Run p l e R s m args below meth c H locs cells slots mc ms (F0 m pc ls st0) rest (QofN G (va_A wc H.size) w1 a) (va_A wc H.size)) (hs : St G A H0 H locs (wr ++ wc))
    (kk : ∀ (z : α) (H1 : Heap) (locs1 : List Loc), St G A H0 H1 locs1 (wr ++ w1 z) → W p l e R s m args below meth c H1 locs1 (cells + mc) (slots + ms) Q (F0 m (pc + 3) ls rest)) : W p l e R s m args below meth c H locs cells slots Q (F0 m pc ls st0) := by
  intro T hT X
  obtain ⟨v', st₀, t, T', L, h0, X', hL, e1, e2, ⟨hv, ⟨z, hP1, hD1⟩, hz, hk⟩, st⟩ := hr T hT X
  obtain ⟨hP, hD, hS, hA⟩ := hs
  cases hv
  rw [h0] at hz hk
  have inR : ∀ (k : Nat) (q : Nat × va_E), wr[k]? = some q → (wr ++ wc)[k]? = some q := fun k q hk => by
    rw [List.getElem?_append_left (List.getElem?_eq_some_iff.mp hk).1]
    exact hk
  have inC : ∀ (k : Nat) (q : Nat × va_E), wc[k]? = some q → (wr ++ wc)[wr.length + k]? = some q := fun k q hk => by
    rw [List.getElem?_append_right (by omega), show wr.length + k - wr.length = k by omega]
    exact hk
  have hAw : ∀ q, va_A wc H.size q → A q := by
    intro q hq
    rcases hq with ⟨k, e, hk⟩ | hq
    · exact hD.2 _ _ (inC k _ hk)
    · exact hA q (Nat.le_trans hS.1 hq)
  have apart : ∀ (k : Nat) (q : Nat × va_E), wr[k]? = some q → ¬ va_A wc H.size q.1 := by
    rintro k q hq (⟨j, e, hj⟩ | hz)
    · have h2 := hD.1 _ _ q (q.1, e) (inR k q hq) (inC j _ hj) rfl
      have h3 := (List.getElem?_eq_some_iff.mp hq).1
      omega
    · have := (hP k q (inR k q hq)).lt
      omega
  have hP2 : va_P G.1 vwCl (wr ++ w1 z) T'.heap := by
    rw [e1]
    refine va_P.app (fun k q hq => ?_) hP1
    have h1 := hP k q (inR k q hq)
    exact h1.kept (hk q.1 h1.lt (apart k q hq))
  have hD2 : va_D A (wr ++ w1 z) := D_app ⟨fun i j p q hi hj hpq => hD.1 i j p q (inR i p hi) (inR j q hj) hpq, fun k q hk => hD.2 k q (inR k q hk)⟩ hD1 hAw apart
  have hS1 : va_S A H0 T'.heap (locs ++ L) := ⟨Nat.le_trans hS.1 (by rw [e1]; exact hz), fun q h1 h2 => by rw [e1, hk q (Nat.lt_of_lt_of_le h1 hS.1) (fun z => h2 (hAw q z))]; exact hS.2.1 q h1 h2, fun q hq => by
      rcases List.mem_append.mp hq with h | h
      · exact hS.2.2 q h
      · exact hAw _ (hL q h)⟩
  obtain ⟨t2, a1, b1⟩ := kk z T'.heap (locs ++ L) ⟨hP2, hD2, hS1, hA⟩ T' rfl X'
  exact ⟨t2, st t2 a1, b1⟩
/-- a call of a constructor, on the newest cells -/
theorem Cc.I {α : Type} {y : MethodName} {b : ByteArray} {ml fr lo mc ms index n : Nat} {a : Nat} {As st0 : List Value} {wr wc : va_W} {w1 : α → va_W} {cells1 slots1 : Nat}
    (C : Cx p s m args meth c cc own nL ret G) (hs : St G A H0 H locs (wr ++ wc)) (hc : Cc l G y b ml fr lo mc ms (.ref a :: As) wc w1) (hnm : y.name = "<init>")
    (hlink : Cond.methodLink own index y ∈ lw_g) (hinst : Cond.instanceMethod y ∈ lw_g) (hini : Cond.initialized y.cls ∈ lw_g) (hcode : Cond.code y b ml none ∈ lw_g)
    (hneq : y.cls ≠ "java/lang/invoke/MethodHandle" ∧ y.cls ≠ "java/lang/invoke/VarHandle" ∧ (parseMethodDescriptor y.desc).map (fun d => d.parameters.length) = some n) (hR : fr + 1 ≤ R.frames ∧ 8 + (ml + 11) + lo ≤ R.locals)
    (hn : As.length = n) (hsize : ls.size = nL) (hstack : st0 = As.reverse ++ .ref a :: rest) (hW : (rest.map fun v => v.category).sum ≤ 8) (hdg : decode cc pc = .ok (.invokespecial index, 3)) (h1 : cells + mc = cells1) (h2 : slots + ms = slots1) (hf : cells1 ≤ R.cells ∧ slots1 ≤ R.slots)
    (kk : ∀ (z : α) (H1 : Heap) (locs1 : List Loc), St G A H0 H1 locs1 (wr ++ w1 z) → W p l e R s m args below meth c H1 locs1 cells1 slots1 Q (F0 m (pc + 3) ls rest)) : W p l e R s m args below meth c H locs cells slots Q (F0 m pc ls st0) := by
  subst h1; subst h2
  have hC : ∀ (k : Nat) (q : Nat × va_E), wc[k]? = some q → (wr ++ wc)[wr.length + k]? = some q := fun k q hk => by
    rw [List.getElem?_append_right (by omega), show wr.length + k - wr.length = k by omega]
    exact hk
  obtain ⟨hx, hb, hml, hown, hts, hK, -, -⟩ := C
  refine Cc.fin (a := (Value.ref a :: As).toArray) (va_runI (n := n) ⟨hx, hb, hml, hown, hts⟩ (hc H.size) ⟨⟨rfl, rfl, hR.1, hR.2, pay_in hts (good_cons hcode), List.mem_cons_self, hts _ hcode, hts _ hini, ⟨hneq.1, hneq.2.1⟩, par_of hneq.2.2, hts _ hlink⟩, hnm, hts _ hinst⟩
    ⟨blind, fun U hU hW => ⟨rfl, by rw [hU], by rw [hU]; exact fun k q hk => hs.1 _ q (hC k q hk), hK.warm hW, ⟨fun i j p q hi hj hpq => by have := hs.2.1.1 _ _ p q (hC i p hi) (hC j q hj) hpq; omega, fun _ _ _ => trivial⟩⟩⟩ rfl hn hsize hstack (lv_room hW) hdg hf) hs kk
/-- the same of a nest mate's private constructor -/
theorem Cc.IN {α : Type} {y : MethodName} {b : ByteArray} {ml fr lo mc ms index n : Nat} {a : Nat} {As st0 : List Value} {wr wc : va_W} {w1 : α → va_W} {cells1 slots1 : Nat} {host : String}
    (C : Cx p s m args meth c cc own nL ret G) (hs : St G A H0 H locs (wr ++ wc)) (hc : Cc l G y b ml fr lo mc ms (.ref a :: As) wc w1) (hnm : y.name = "<init>")
    (hlink : va_Nw (.methodLinkNest own index y host) s) (hinst : Cond.instanceMethod y ∈ lw_g) (hini : Cond.initialized y.cls ∈ lw_g) (hcode : Cond.code y b ml none ∈ lw_g)
    (hneq : y.cls ≠ "java/lang/invoke/MethodHandle" ∧ y.cls ≠ "java/lang/invoke/VarHandle" ∧ (parseMethodDescriptor y.desc).map (fun d => d.parameters.length) = some n) (hR : fr + 1 ≤ R.frames ∧ 8 + (ml + 11) + lo ≤ R.locals)
    (hn : As.length = n) (hsize : ls.size = nL) (hstack : st0 = As.reverse ++ .ref a :: rest) (hW : (rest.map fun v => v.category).sum ≤ 8) (hdg : decode cc pc = .ok (.invokespecial index, 3)) (h1 : cells + mc = cells1) (h2 : slots + ms = slots1) (hf : cells1 ≤ R.cells ∧ slots1 ≤ R.slots)
    (kk : ∀ (z : α) (H1 : Heap) (locs1 : List Loc), St G A H0 H1 locs1 (wr ++ w1 z) → W p l e R s m args below meth c H1 locs1 cells1 slots1 Q (F0 m (pc + 3) ls rest)) : W p l e R s m args below meth c H locs cells slots Q (F0 m pc ls st0) := by
  subst h1; subst h2
  have hC : ∀ (k : Nat) (q : Nat × va_E), wc[k]? = some q → (wr ++ wc)[wr.length + k]? = some q := fun k q hk => by
    rw [List.getElem?_append_right (by omega), show wr.length + k - wr.length = k by omega]
    exact hk
  obtain ⟨hx, hb, hml, hown, hts, hK, -, -⟩ := C
  refine Cc.fin (a := (Value.ref a :: As).toArray) (va_runIN (n := n) (host := host) ⟨hx, hb, hml, hown, hts⟩ (hc H.size) ⟨⟨⟨rfl, rfl, hR.1, hR.2, pay_in hts (good_cons hcode), List.mem_cons_self⟩, hts _ hcode, hts _ hini, ⟨hneq.1, hneq.2.1⟩, par_of hneq.2.2, va_Nw.use rfl hlink⟩, hnm, hts _ hinst⟩
    ⟨blind, fun U hU hW => ⟨rfl, by rw [hU], by rw [hU]; exact fun k q hk => hs.1 _ q (hC k q hk), hK.warm hW, ⟨fun i j p q hi hj hpq => by have := hs.2.1.1 _ _ p q (hC i p hi) (hC j q hj) hpq; omega, fun _ _ _ => trivial⟩⟩⟩ rfl hn hsize hstack (lv_room hW) hdg hf) hs kk
theorem rvN {α : Type} {w1 : α → va_W} (z : α) (C : Cx p s m args meth c cc own nL none G) (hs : St G A s.heap H locs (w1 z)) (hdg : decode cc pc = .ok (.return_, 1)) : W p l e R s m args below meth c H locs cells slots (MQ below (QofN G A w1) args s cells slots A) (F0 m pc ls []) :=
  W.vret C.1 C.2.1 C.2.2.2.2.2.2.1 (fun t ht _ => ⟨rfl, ⟨z, by rw [ht]; exact hs.1, hs.2.1⟩, hs.2.2.1.F ht⟩) hs.2.2.1.2.2 hdg C.2.2.2.2.2.2.2
theorem rep_get (n : Nat) : (fun j => (List.replicate n (0 : Int32)).getD j 0) = fun _ => 0 := by
  funext j
  by_cases h : j < n
  · simp [h]
  · simp [h]
/-- a new row of ints -/
theorem rna {n : Int32} {N' : Nat} {cells1 slots1 : Nat} (C : Cx p s m args meth c cc own nL ret G) (hs : St G A H0 H locs w) (hn : ¬ n < 0) (hN : n.toNatClampNeg = N') (hbytes : N' * 4 ≤ 536870912) (h1 : cells + 1 = cells1) (h2 : slots + N' = slots1) (hf : cells1 ≤ R.cells ∧ slots1 ≤ R.slots) (hdg : decode cc pc = .ok (.newarray .int, 2))
    (kk : ∀ (q : Nat) (H1 : Heap), St G A H0 H1 locs (w ++ [(q, ar G (List.replicate N' 0))]) → W p l e R s m args below meth c H1 locs cells1 slots1 Q (F0 m (pc + 2) ls (.ref q :: rest))) : W p l e R s m args below meth c H locs cells slots Q (F0 m pc ls (.int n :: rest)) := by
  subst h1; subst h2
  obtain ⟨hx, hb, hml, hown, hts, hK, -, -⟩ := C
  obtain ⟨hP, hD, hS, hA⟩ := hs
  refine va_newa (atype := .int) (ty := .int) (N' := N') (a0 := (N', .inl (fun _ => 0))) hx hb (hts _ tw_88) rfl hK.1 hP hD hS hA (fun cA => rfl) hn hN hbytes hf.1 hf.2 hdg (fun q cA H1 k1 k2 k3 k4 => kk q H1 ?_)
  have e1 : s.vm.findClass "[I" = some cA := (k1.2 2 (cA, .int) rfl).2
  have e2 : s.vm.findClass "[I" = some G.2.1 := (k1.2 0 (G.2.1, .int) rfl).2
  have e3 : cA = G.2.1 := Option.some.inj (e1.symm.trans e2)
  subst e3
  have e4 : ((q, .inl (G.2.1, N', .inl (fun _ => 0))) : Nat × va_E) = (q, ar G (List.replicate N' 0)) := by
    unfold ar
    rw [rep_get, List.length_replicate]
  rw [e4] at k2 k3
  exact ⟨k2, k3, k4, hA⟩
/-- a new row of harbours -/
theorem rnq {n : Int32} {N' index : Nat} {cells1 slots1 : Nat} (C : Cx p s m args meth c cc own nL ret G) (hs : St G A H0 H locs w) (hclink : Cond.classLink own index RX0 ∈ lw_g) (hn : ¬ n < 0) (hN : n.toNatClampNeg = N') (hbytes : N' * 4 ≤ 536870912) (h1 : cells + 1 = cells1) (h2 : slots + N' = slots1) (hf : cells1 ≤ R.cells ∧ slots1 ≤ R.slots) (hdg : decode cc pc = .ok (.anewarray index, 3))
    (kk : ∀ (q : Nat) (H1 : Heap), St G A H0 H1 locs (w ++ [(q, .inl (G.2.2, N', .inr (.inr (.inr (.inr (fun _ => none))))))]) → W p l e R s m args below meth c H1 locs cells1 slots1 Q (F0 m (pc + 3) ls (.ref q :: rest))) : W p l e R s m args below meth c H locs cells slots Q (F0 m pc ls (.int n :: rest)) := by
  subst h1; subst h2
  obtain ⟨hx, hb, hml, hown, hts, hK, -, -⟩ := C
  obtain ⟨hP, hD, hS, hA⟩ := hs
  refine va_newq (C := RX0) (N' := N') hx hb hown (hts _ hclink) hK.2.2.2.2.2 hK.1 hP hD hS hA hn hN hbytes hf.1 hf.2 hdg (fun q cA H1 k1 k2 k3 k4 => kk q H1 ?_)
  obtain ⟨-, -, -, -, -, e1⟩ := (k1.2 2 (cA, .object RX0) rfl).2
  obtain ⟨-, -, -, -, -, e2⟩ := (k1.2 1 (G.2.2, .object RX0) rfl).2
  have e3 : cA = G.2.2 := Option.some.inj (e1.symm.trans e2)
  subst e3
  exact ⟨k2, k3, k4, hA⟩
/-- a new object -/
theorem rno {Cn : String} {T : u_T} {N ci index : Nat} {cells1 slots1 : Nat} (ty0 : Nat → FieldType) (hty : ∀ k, k < N → parseFieldDescriptor (T k).2.2.1 = some (ty0 k)) (uin : ∀ w ∈ u_ws Cn T N, w ∈ lw_g) (hcl : vwCl[ci]? = some (Cn, T, N)) (C : Cx p s m args meth c cc own nL ret G) (hs : St G A H0 H locs w) (hclink : Cond.classLink own index Cn ∈ lw_g) (hinst : Cond.instantiable Cn N ∈ lw_g) (hini : Cond.initialized Cn ∈ lw_g) {fs : List Value} (hfs : ∀ j, j < N → defaultValue (ty0 j) = vp_V fs j)
    (h1 : cells + 1 = cells1) (h2 : slots + N = slots1) (hf : cells1 ≤ R.cells ∧ slots1 ≤ R.slots) (hdg : decode cc pc = .ok (.new index, 3))
    (kk : ∀ (q : Nat) (H1 : Heap), St G A H0 H1 locs (w ++ [(q, .inr (ci, fs))]) → W p l e R s m args below meth c H1 locs cells1 slots1 Q (F0 m (pc + 3) ls (.ref q :: rest))) : W p l e R s m args below meth c H locs cells slots Q (F0 m pc ls rest) := by
  subst h1; subst h2
  obtain ⟨hx, hb, hml, hown, hts, hK, -, -⟩ := C
  obtain ⟨hP, hD, hS, hA⟩ := hs
  exact va_new (D := G.1) (ci := ci) (fs := fs) (C := Cn) (T := T) (N := N) hx hb hts uin ty0 hty hown (hts _ hclink) (hts _ hinst) (hts _ hini) hK.1 hP hD hS hA hcl hfs hf.1 hf.2 hdg (fun q H1 k1 k2 k3 => kk q H1 ⟨k1, k2, k3, hA⟩)
/-- a final field, laid by its constructor -/
theorem rpF {Cn ref : String} {T : u_T} {N ci index a : Nat} (ty0 : Nat → FieldType) (hty : ∀ k, k < N → parseFieldDescriptor (T k).2.2.1 = some (ty0 k)) (hnm : ∀ a, a < N → ∀ b, b < N → a ≠ b → (T a).2.1 ≠ (T b).2.1) (uin : ∀ w ∈ u_ws Cn T N, w ∈ lw_g) (hcl : vwCl[ci]? = some (Cn, T, N)) (C : Cx p s m args meth c cc own nL ret G) (hs : St G A H0 H locs w) (hin2 : meth.name = "<init>") (q0 : Nat) {fs : List Value} (he : w[q0]? = some (a, .inr (ci, fs))) (k : Nat) (hk : k < N) (hlink : Cond.fieldLink own index ref (T k).2.1 (T k).2.2.1 ∈ lw_g) (href : (T k).1 = ref) (hfin : (T k).2.2.2 = true) (hdecl : (T k).1 = own) {v : Value} (hnv : narrow (ty0 k) v = v) (hfit : fits (ty0 k) v = true) (hl : k < fs.length) {w1 : va_W} (hw1 : w.set q0 (a, .inr (ci, fs.set k v)) = w1) (hdg : decode cc pc = .ok (.putfield index, 3))
    (kk : ∀ (H1 : Heap) (locs1 : List Loc), St G A H0 H1 locs1 w1 → W p l e R s m args below meth c H1 locs1 cells slots Q (F0 m (pc + 3) ls rest)) : W p l e R s m args below meth c H locs cells slots Q (F0 m pc ls (v :: .ref a :: rest)) := by
  subst hw1
  obtain ⟨hx, hb, hml, hown, hts, hK, -, -⟩ := C
  obtain ⟨hP, hD, hS, hA⟩ := hs
  exact va_putF (D := G.1) (ci := ci) (v := v) (ty := ty0 k) (C := Cn) (T := T) (N := N) hx hb hts uin ty0 hty hnm hown hK.1 hP hD hS q0 he hcl k hk (hts _ hlink) (fun x h => by rw [← href]; exact h) hfin hin2 hdecl (hty k hk) hnv hfit hl hdg (fun H1 locs1 h1 h2 h3 => kk H1 locs1 ⟨h1, h2, h3, hA⟩)
/-- the call of Object's constructor -/
theorem roi {idx a : Nat} (C : Cx p s m args meth c cc own nL ret G) (hlink : Cond.methodLink own idx objectInit ∈ lw_g) (hsize : ls.size = nL) (hW : (rest.map fun v => v.category).sum ≤ 0) (hR : 1 ≤ R.frames ∧ 20 ≤ R.locals) (hdg : decode cc pc = .ok (.invokespecial idx, 3))
    (kk : W p l e R s m args below meth c H locs cells slots Q (F0 m (pc + 3) ls rest)) : W p l e R s m args below meth c H locs cells slots Q (F0 m pc ls (.ref a :: rest)) := by
  obtain ⟨hx, hb, hml, hown, hts, hK, -, -⟩ := C
  refine W.objInit hx hb hown (hts _ hlink) (hts _ tw_30) (hts _ tw_31) rfl (by rw [hml]; exact hsize) rfl hdg hR.1 ?_ kk
  show 2 * 0 + (rest.map fun v => v.category).sum + 12 ≤ R.locals
  omega
end NEWS
def cz (a : Nat) (ad : Nat → Nat) : Nat → Nat := fun j => match j with
  | 0 => a
  | j + 1 => ad j
