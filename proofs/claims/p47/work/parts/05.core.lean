/-! the judgement that every contract of this proof is stated in: what a method answers, and its world behind, for a world of given cells -/
abbrev Gx : Type := va_G × ClassId × ClassId
abbrev tyl (G : Gx) : List (ClassId × FieldType) := [(G.2.1, .int), (G.2.2, .object RX0)]
def wn0 : Cond := .methodLinkNest RX4 31 yX3_init RX4
def wn1 : Cond := .methodLinkNest RX3 48 yX4_isGood RX4
def wn2 : Cond := .methodLinkNest RX3 80 yX4_misfit RX4
def wn3 : Cond := .methodLinkNest RX0 64 yX4_tideOf RX4
def wdK (G : Gx) (U : State) : Prop := va_K G.1 vwCl (tyl G) U ∧ va_Nw wn0 U ∧ va_Nw wn1 U ∧ va_Nw wn2 U ∧ va_Nw wn3 U ∧ va_AO RX0 U
theorem wdK.warm {G : Gx} {s U : State} (hW : s.WarmedH U.vm) (h : wdK G s) : wdK G U :=
  ⟨va_K.moved hW.alike h.1, va_Nw.warmM hW h.2.1, va_Nw.warmM hW h.2.2.1, va_Nw.warmM hW h.2.2.2.1, va_Nw.warmM hW h.2.2.2.2.1, va_AO.moved hW.alike h.2.2.2.2.2⟩
theorem wdK.call {G : Gx} {U : State} (g : JFrame) (mk : MethodId) (a : Array Value) (h : wdK G U) : wdK G (U.calling g mk a) :=
  ⟨va_K.moved (u := U) (U := U.calling g mk a) (Vm.Alike.refl U.vm) h.1, va_Nw.same rfl rfl h.2.1, va_Nw.same rfl rfl h.2.2.1, va_Nw.same rfl rfl h.2.2.2.1, va_Nw.same rfl rfl h.2.2.2.2.1, va_AO.moved (u := U) (U := U.calling g mk a) (Vm.Alike.refl U.vm) h.2.2.2.2.2⟩
abbrev ar (G : Gx) (L : List Int32) : va_E := .inl (G.2.1, L.length, .inl (fun j => L.getD j 0))
def rd (L : List Int32) (i : Int32) : Option Int32 := if 0 ≤ i ∧ i.toNatClampNeg < L.length then some (L.getD i.toNatClampNeg 0) else none
def wr (L : List Int32) (i x : Int32) : Option (List Int32) := if 0 ≤ i ∧ i.toNatClampNeg < L.length then some (L.set i.toNatClampNeg x) else none
/-- a boolean that is no constant -/
def c01 (v : Int32) : Option Int32 := if v = 0 then some 0 else if v = 1 then some 1 else none
/-- the world now -/
def St (G : Gx) (A : Nat → Prop) (H0 H : Heap) (locs : List Loc) (w : va_W) : Prop := va_P G.1 vwCl w H ∧ va_D A w ∧ va_S A H0 H locs ∧ ∀ q : Nat, H0.size ≤ q → A q
def Qof (G : Gx) (A : Nat → Prop) (v : Option Value) (w1 : va_W) : Array Value → State → Outcome → State → Prop := fun _ st o t => o = .returned v ∧ va_P G.1 vwCl w1 t.heap ∧ va_F A st t
abbrev pcOf (G : Gx) (sz : Nat) (w : va_W) (U : State) : Prop := U.heap.size = sz ∧ va_P G.1 vwCl w U.heap ∧ wdK G U ∧ va_D (fun _ => True) w
abbrev rmOf (fr lo : Nat) : Room := { frames := fr, cells := 0, slots := 0, locals := lo }
def Ct (l : Launch) (G : Gx) (y : MethodName) (b : ByteArray) (ml : Nat) (ret : Option FieldType) (fr lo : Nat) (av : List Value) (w : va_W) (v : Option Value) (w1 : va_W) : Prop :=
  w1.map Prod.fst = w.map Prod.fst ∧ ∀ sz : Nat, Met l y (.code y b ml ret :: lw_g) (rmOf fr lo) (va_Pc av (pcOf G sz w)) (Qof G (va_A w sz) v w1) 0 0 (va_A w sz)
def Cx (p : Program) (s : State) (m : MethodId) (args : Array Value) (meth : Method) (c : Code) (cc : ByteArray) (own : String) (nL : Nat) (ret : Option FieldType) (G : Gx) : Prop :=
  p.tables.exec = Jvm.exec ∧ c.code = cc ∧ c.maxLocals = nL ∧ s.vm.findClass own = some m.cls ∧ (∀ w ∈ lw_g, w.before args s = true) ∧ wdK G s ∧ meth.sig.returnType = ret ∧ meth.locks = false
theorem va_D.fst {A : Nat → Prop} {w w1 : va_W} (h : va_D A w) (e : w1.map Prod.fst = w.map Prod.fst) : va_D A w1 := by
  have key : ∀ (k : Nat) (q : Nat × va_E), w1[k]? = some q → ∃ q0, w[k]? = some q0 ∧ q0.1 = q.1 := by
    intro k q hk
    have h1 : (w1.map Prod.fst)[k]? = some q.1 := by rw [List.getElem?_map, hk]; rfl
    rw [e, List.getElem?_map] at h1
    cases hw : w[k]? with
    | none => rw [hw] at h1; cases h1
    | some q0 => rw [hw] at h1; exact ⟨q0, rfl, Option.some.inj h1⟩
  refine ⟨fun i j x y hi hj hxy => ?_, fun k q hk => ?_⟩
  · obtain ⟨a, h1, h2⟩ := key i x hi
    obtain ⟨b, h3, h4⟩ := key j y hj
    exact h.1 i j a b h1 h3 (by rw [h2, h4]; exact hxy)
  · obtain ⟨a, h1, h2⟩ := key k q hk
    rw [← h2]
    exact h.2 k a h1
theorem Met.ofWF {y : MethodName} {ws ws' : List Cond} {rm : Room} {l : Launch} {Pc : Array Value → State → Prop} {Qc : Array Value → State → Outcome → State → Prop} {mc ms : Nat} {free : Addr → Prop} {cc : ByteArray} {maxL : Nat} {ret : Option FieldType}
    (hy : plainFor y = true) (hw : ws = Cond.code y cc maxL ret :: ws')
    (body : ∀ p e s m args below meth c s₁, BodyLoose p l y (headSpec ws rm) cc maxL ret e s m args below meth c s₁ → c.maxLocals = maxL → Pc args s →
      W p l e (headSpec ws rm).room s m args below meth c s.heap [] 0 0 (MQ below Qc args s mc ms free) (entryFrame m args maxL)) : Met l y ws rm Pc Qc mc ms free := by
  refine MetFree.of_bodySF (code := cc) (maxLocals := maxL) (ret := ret) hy ?_ ?_
  · intro args s m h hn
    obtain ⟨meth, c, h1, h2, h3, h4, h5, h6, -, -⟩ := Cond.code_spec hn (atoms_spec (ws := ws) h _ (by rw [hw]; exact List.mem_cons_self))
    exact ⟨meth, c, h1, h2, h3, h4, h5, h6⟩
  · intro p e s m args below meth c s₁ B hml hP _
    have hh0 : s₁.heap = s.heap := by rw [B.state]; rfl
    obtain ⟨t, a1, o, b1, b2, b3⟩ := body p e s m args below meth c s₁ B hml hP s₁ hh0 (Stand.of_body B)
    exact ⟨t, o, a1, b1, b2, ⟨b3.1, b3.2⟩⟩
theorem Ct.intro {l : Launch} {G : Gx} {y : MethodName} {b : ByteArray} {ml : Nat} {ret : Option FieldType} {fr lo : Nat} {av : List Value} {w : va_W} {v : Option Value} {w1 : va_W} (own : String) (ho : y.cls = own) (hy : plainFor y = true) (hn : (lg_sl av).length ≤ ml) (ha : w1.map Prod.fst = w.map Prod.fst)
    (body : ∀ (p : Program) (e : Env) (s : State) (m : MethodId) (args : Array Value) (below : List Frame) (meth : Method) (c : Code) (A : Nat → Prop), Cx p s m args meth c b own ml ret G → ∀ (H : Heap) (locs : List Loc), St G A s.heap H locs w → ∀ ls : Array Slot, lv_has ls ml (lv_args 0 av) →
      W p l e (rmOf fr lo) s m args below meth c H locs 0 0 (MQ below (Qof G A v w1) args s 0 0 A) (F0 m 0 ls [])) : Ct l G y b ml ret fr lo av w v w1 := by
  refine ⟨ha, fun sz => Met.ofWF (cc := b) (maxL := ml) (ret := ret) hy rfl ?_⟩
  intro p e s m args below meth c s₁ B hml hv
  obtain ⟨rfl, hsz, hP, hK, hD0⟩ := hv
  have hts := atoms_spec (ws := .code y b ml ret :: lw_g) B.pre
  have hown : s.vm.findClass y.cls = some m.cls := findClass_of_methodNamed B.named
  subst hsz
  have hl := lv_entry av (n := ml) hn
  rw [lg_entry_eq]
  exact body p e s m _ below meth c (va_A w s.heap.size) ⟨B.exec, B.bytes, hml, by rw [← ho]; exact hown, fun w h => hts w (List.mem_cons_of_mem _ h), hK, B.returns, B.notSynchronized⟩ s.heap [] ⟨hP, hD0.self, va_S.rf, fun q h => Or.inr h⟩ _ hl
/-- what goes for some cells goes for them among others, which stay -/
theorem Ct.frame {l : Launch} {G : Gx} {y : MethodName} {b : ByteArray} {ml : Nat} {ret : Option FieldType} {fr lo : Nat} {av : List Value} {w : va_W} {v : Option Value} {w1 : va_W} (h : Ct l G y b ml ret fr lo av w v w1) (pre post : va_W) : Ct l G y b ml ret fr lo av (pre ++ w ++ post) v (pre ++ w1 ++ post) := by
  obtain ⟨ha, h⟩ := h
  have hlen : w1.length = w.length := by simpa using congrArg List.length ha
  have at1 : ∀ (k : Nat) (q : Nat × va_E), w[k]? = some q → (pre ++ w ++ post)[pre.length + k]? = some q := by
    intro k q hk
    have hl := (List.getElem?_eq_some_iff.mp hk).1
    rw [List.append_assoc, List.getElem?_append_right (by omega), List.getElem?_append_left (by omega), show pre.length + k - pre.length = k by omega]
    exact hk
  refine ⟨by simp [ha], fun sz => ?_⟩
  refine MetFree.mono (h sz) ?_ (fun _ _ _ _ _ hk => hk) ?_
  · intro a U hU
    obtain ⟨hU0, hsz, hP, hK, hD⟩ := hU
    exact ⟨hU0, hsz, fun k q hk => hP _ q (at1 k q hk), hK, ⟨fun i j p q hi hj hpq => by have := hD.1 _ _ p q (at1 i p hi) (at1 j q hj) hpq; omega, fun _ _ _ => trivial⟩⟩
  · intro a st o t hU ⟨⟨ho, hP1, hF⟩, L, hL, hLf⟩
    obtain ⟨hU0, hsz, hP, hK, hD⟩ := hU
    subst hsz
    have hA : ∀ q, va_A w st.heap.size q → va_A (pre ++ w ++ post) st.heap.size q := by
      intro q hq
      rcases hq with ⟨k, e, hk⟩ | hq
      · exact Or.inl ⟨_, e, at1 k _ hk⟩
      · exact Or.inr hq
    refine ⟨⟨ho, ?_, ⟨hF.1, fun q h1 h2 => hF.2 q h1 (fun z => h2 (hA q z))⟩⟩, L, hL, fun q hq => hA _ (hLf q hq)⟩
    have key : ∀ (i : Nat) (q : Nat × va_E), (i < pre.length ∨ pre.length + w.length ≤ i) → (pre ++ w ++ post)[i]? = some q → va_at G.1 vwCl q t.heap := by
      intro i q hi hq
      have h1 := hP i q hq
      refine h1.kept (hF.2 q.1 h1.lt ?_)
      rintro (⟨k, e, hk⟩ | hz)
      · have h2 := hD.1 _ _ q (q.1, e) hq (at1 k _ hk) rfl
        have h3 := (List.getElem?_eq_some_iff.mp hk).1
        omega
      · have := h1.lt
        omega
    intro k q hk
    by_cases c1 : k < pre.length
    · refine key k q (Or.inl c1) ?_
      rw [List.append_assoc, List.getElem?_append_left c1] at hk ⊢
      exact hk
    · by_cases c2 : k < pre.length + w.length
      · rw [List.append_assoc, List.getElem?_append_right (by omega), List.getElem?_append_left (by omega)] at hk
        exact hP1 _ q hk
      · refine key k q (Or.inr (by omega)) ?_
        rw [List.append_assoc, List.getElem?_append_right (by omega), List.getElem?_append_right (by omega)] at hk ⊢
        rw [hlen] at hk
        exact hk
section CORE
variable {p : Program} {l : Launch} {e : Env} {R : Room} {s : State} {m : MethodId} {args : Array Value} {below : List Frame} {meth : Method} {c : Code} {H : Heap} {locs : List Loc} {cells slots : Nat} {Q : State → Prop}
variable {cc : ByteArray} {own : String} {nL : Nat} {ret : Option FieldType} {G : Gx} {A : Nat → Prop} {H0 : Heap} {w : va_W} {pc : Nat} {ls : Array Slot} {rest : List Value}
theorem Ct.fin {w1 : va_W} {v : Option Value} {st0 : List Value} {a : Array Value} (hr : va_Run p l e R s m args below meth c H locs cells slots 0 0 (F0 m pc ls st0) rest (Qof G (va_A w H.size) v w1 a) (va_A w H.size)) (hs : St G A H0 H locs w) (ha : w1.map Prod.fst = w.map Prod.fst)
    (kk : ∀ (H1 : Heap) (locs1 : List Loc), St G A H0 H1 locs1 w1 → W p l e R s m args below meth c H1 locs1 cells slots Q (F0 m (pc + 3) ls (v.toList ++ rest))) : W p l e R s m args below meth c H locs cells slots Q (F0 m pc ls st0) := by
  intro T hT X
  obtain ⟨v', st₀, t, T', L, h0, X', hL, e1, e2, ⟨hv, hP1, hz, hk⟩, st⟩ := hr T hT X
  obtain ⟨hP, hD, hS, hA⟩ := hs
  cases hv
  rw [h0] at hz hk
  have hAw : ∀ q, va_A w H.size q → A q := by
    intro q hq
    rcases hq with ⟨k, e, hk⟩ | hq
    · exact hD.2 k _ hk
    · exact hA q (Nat.le_trans hS.1 hq)
  have hS1 : va_S A H0 T'.heap (locs ++ L) := ⟨Nat.le_trans hS.1 (by rw [e1]; exact hz), fun q h1 h2 => by rw [e1, hk q (Nat.lt_of_lt_of_le h1 hS.1) (fun z => h2 (hAw q z))]; exact hS.2.1 q h1 h2, fun q hq => by
      rcases List.mem_append.mp hq with h | h
      · exact hS.2.2 q h
      · exact hAw _ (hL q h)⟩
  obtain ⟨t2, a1, b1⟩ := kk T'.heap (locs ++ L) ⟨by rw [e1]; exact hP1, hD.fst ha, hS1, hA⟩ T' rfl X'
  exact ⟨t2, st t2 a1, b1⟩
theorem good_cons {y : MethodName} {b : ByteArray} {ml : Nat} {rt : Option FieldType} (hcode : Cond.code y b ml rt ∈ lw_g) : ∀ w ∈ (Cond.code y b ml rt :: lw_g), w ∈ lw_g ∧ ((w.onTables && w.keeps) = true ∨ ∃ ty, w = .arrayClass ty) := by
  intro w hw
  have h1 : w ∈ lw_g := by
    rcases List.mem_cons.mp hw with h | h
    · rw [h]; exact hcode
    · exact h
  exact ⟨h1, lw_good h1⟩
theorem blind {sz : Nat} {av : List Value} : FrameBlind (va_Pc av (pcOf G sz w)) := fun a U g mk q => ⟨q.1, q.2.1, q.2.2.1, q.2.2.2.1.call g mk a, q.2.2.2.2⟩
theorem par_of {y : MethodName} {n : Nat} (h : (parseMethodDescriptor y.desc).map (fun d => d.parameters.length) = some n) : ∀ sig, parseMethodDescriptor y.desc = some sig → n = sig.parameters.length := by
  intro sig hs
  rw [hs] at h
  exact (Option.some.inj h).symm
/-- a call of an instance's method, the world of both the same -/
theorem Ct.V {y : MethodName} {b : ByteArray} {ml fr lo index n : Nat} {rt : Option FieldType} {a : Nat} {As st0 st1 : List Value} {v : Option Value} {w1 : va_W} {Cn : String}
    (C : Cx p s m args meth c cc own nL ret G) (hs : St G A H0 H locs w) (hc : Ct l G y b ml rt fr lo (.ref a :: As) w v w1)
    (hlink : Cond.methodLink own index y ∈ lw_g) (hinst : Cond.instanceMethod y ∈ lw_g) (hsel : Cond.selects Cn y y ∈ lw_g) (hini : Cond.initialized y.cls ∈ lw_g) (hcode : Cond.code y b ml rt ∈ lw_g)
    (hneq : y.cls ≠ "java/lang/invoke/MethodHandle" ∧ y.cls ≠ "java/lang/invoke/VarHandle" ∧ (parseMethodDescriptor y.desc).map (fun d => d.parameters.length) = some n) (hR : fr + 1 ≤ R.frames ∧ 8 + (ml + 11) + lo ≤ R.locals)
    (q0 ci : Nat) {q : vw_C} {fs : List Value} (hcl : vwCl[ci]? = some q) (hq1 : q.1 = Cn) (he : w[q0]? = some (a, .inr (ci, fs)))
    (hn : As.length = n) (hsize : ls.size = nL) (hstack : st0 = As.reverse ++ .ref a :: rest) (hW : (rest.map fun v => v.category).sum ≤ 8) (hdg : decode cc pc = .ok (.invokevirtual index, 3)) (hf : cells ≤ R.cells ∧ slots ≤ R.slots) (hst : v.toList ++ rest = st1)
    (kk : ∀ (H1 : Heap) (locs1 : List Loc), St G A H0 H1 locs1 w1 → W p l e R s m args below meth c H1 locs1 cells slots Q (F0 m (pc + 3) ls st1)) : W p l e R s m args below meth c H locs cells slots Q (F0 m pc ls st0) := by
  subst hst; subst hq1
  obtain ⟨hx, hb, hml, hown, hts, hK, -, -⟩ := C
  refine Ct.fin (a := (Value.ref a :: As).toArray) (va_runV (C := q.1) (n := n) ⟨hx, hb, hml, hown, hts⟩ (hc.2 H.size) ⟨⟨rfl, rfl, hR.1, hR.2, pay_in hts (good_cons hcode), List.mem_cons_self, hts _ hcode, hts _ hini, ⟨hneq.1, hneq.2.1⟩, par_of hneq.2.2, hts _ hlink⟩, hts _ hinst, hts _ hsel⟩
    ⟨blind, va_recv hK.1 hs.1 hcl he, fun U hU hW => ⟨rfl, by rw [hU], by rw [hU]; exact hs.1, hK.warm hW, hs.2.1.weaken (fun _ _ _ _ => trivial)⟩⟩ rfl hn hsize hstack (lv_room hW) hdg hf) hs hc.1 kk
/-- a call of a static method of the same class -/
theorem Ct.S {y : MethodName} {b : ByteArray} {ml fr lo index n : Nat} {rt : Option FieldType} {As st0 st1 : List Value} {v : Option Value} {w1 : va_W}
    (C : Cx p s m args meth c cc own nL ret G) (hs : St G A H0 H locs w) (hc : Ct l G y b ml rt fr lo As w v w1)
    (hlink : Cond.methodLink own index y ∈ lw_g) (hstat : Cond.static y ∈ lw_g) (hini : Cond.initialized y.cls ∈ lw_g) (hcode : Cond.code y b ml rt ∈ lw_g)
    (hneq : y.cls ≠ "java/lang/invoke/MethodHandle" ∧ y.cls ≠ "java/lang/invoke/VarHandle" ∧ (parseMethodDescriptor y.desc).map (fun d => d.parameters.length) = some n) (hR : fr + 1 ≤ R.frames ∧ 8 + (ml + 11) + lo ≤ R.locals)
    (hn : As.length = n) (hsize : ls.size = nL) (hstack : st0 = As.reverse ++ rest) (hW : (rest.map fun v => v.category).sum ≤ 8) (hdg : decode cc pc = .ok (.invokestatic index, 3)) (hf : cells ≤ R.cells ∧ slots ≤ R.slots) (hst : v.toList ++ rest = st1)
    (kk : ∀ (H1 : Heap) (locs1 : List Loc), St G A H0 H1 locs1 w1 → W p l e R s m args below meth c H1 locs1 cells slots Q (F0 m (pc + 3) ls st1)) : W p l e R s m args below meth c H locs cells slots Q (F0 m pc ls st0) := by
  subst hst
  obtain ⟨hx, hb, hml, hown, hts, hK, -, -⟩ := C
  refine Ct.fin (a := As.toArray) (va_runS (n := n) ⟨hx, hb, hml, hown, hts⟩ (hc.2 H.size) ⟨⟨rfl, rfl, hR.1, hR.2, pay_in hts (good_cons hcode), List.mem_cons_self, hts _ hcode, hts _ hini, ⟨hneq.1, hneq.2.1⟩, par_of hneq.2.2, hts _ hlink⟩, hts _ hstat⟩
    ⟨blind, fun U hU hW => ⟨rfl, by rw [hU], by rw [hU]; exact hs.1, hK.warm hW, hs.2.1.weaken (fun _ _ _ _ => trivial)⟩⟩ rfl hn hsize hstack (lv_room hW) hdg hf) hs hc.1 kk
/-- a call of a nest mate's private static method -/
theorem Ct.SN {y : MethodName} {b : ByteArray} {ml fr lo index n : Nat} {rt : Option FieldType} {As st0 st1 : List Value} {v : Option Value} {w1 : va_W} {host : String}
    (C : Cx p s m args meth c cc own nL ret G) (hs : St G A H0 H locs w) (hc : Ct l G y b ml rt fr lo As w v w1)
    (hlink : va_Nw (.methodLinkNest own index y host) s) (hstat : Cond.static y ∈ lw_g) (hini : Cond.initialized y.cls ∈ lw_g) (hcode : Cond.code y b ml rt ∈ lw_g)
    (hneq : y.cls ≠ "java/lang/invoke/MethodHandle" ∧ y.cls ≠ "java/lang/invoke/VarHandle" ∧ (parseMethodDescriptor y.desc).map (fun d => d.parameters.length) = some n) (hR : fr + 1 ≤ R.frames ∧ 8 + (ml + 11) + lo ≤ R.locals)
    (hn : As.length = n) (hsize : ls.size = nL) (hstack : st0 = As.reverse ++ rest) (hW : (rest.map fun v => v.category).sum ≤ 8) (hdg : decode cc pc = .ok (.invokestatic index, 3)) (hf : cells ≤ R.cells ∧ slots ≤ R.slots) (hst : v.toList ++ rest = st1)
    (kk : ∀ (H1 : Heap) (locs1 : List Loc), St G A H0 H1 locs1 w1 → W p l e R s m args below meth c H1 locs1 cells slots Q (F0 m (pc + 3) ls st1)) : W p l e R s m args below meth c H locs cells slots Q (F0 m pc ls st0) := by
  subst hst
  obtain ⟨hx, hb, hml, hown, hts, hK, -, -⟩ := C
  refine Ct.fin (a := As.toArray) (va_runSN (n := n) (host := host) ⟨hx, hb, hml, hown, hts⟩ (hc.2 H.size) ⟨⟨⟨rfl, rfl, hR.1, hR.2, pay_in hts (good_cons hcode), List.mem_cons_self⟩, hts _ hcode, hts _ hini, ⟨hneq.1, hneq.2.1⟩, par_of hneq.2.2, va_Nw.use rfl hlink⟩, hts _ hstat, trivial⟩
    ⟨blind, fun U hU hW => ⟨rfl, by rw [hU], by rw [hU]; exact hs.1, hK.warm hW, hs.2.1.weaken (fun _ _ _ _ => trivial)⟩⟩ rfl hn hsize hstack (lv_room hW) hdg hf) hs hc.1 kk
/-- fields -/
theorem rg {Cn ref : String} {T : u_T} {N ci index a : Nat} (uin : ∀ w ∈ u_ws Cn T N, w ∈ lw_g) (hcl : vwCl[ci]? = some (Cn, T, N)) (C : Cx p s m args meth c cc own nL ret G) (hs : St G A H0 H locs w) (q0 : Nat) {fs : List Value} (he : w[q0]? = some (a, .inr (ci, fs))) (k : Nat) (hk : k < N) (hlink : Cond.fieldLink own index ref (T k).2.1 (T k).2.2.1 ∈ lw_g) (href : (T k).1 = ref) {v : Value} (hv : fs[k]? = some v) (hdg : decode cc pc = .ok (.getfield index, 3))
    (kk : W p l e R s m args below meth c H locs cells slots Q (F0 m (pc + 3) ls (v :: rest))) : W p l e R s m args below meth c H locs cells slots Q (F0 m pc ls (.ref a :: rest)) := by
  obtain ⟨hx, hb, hml, hown, hts, hK, -, -⟩ := C
  exact va_get (D := G.1) (ci := ci) (v := v) (C := Cn) (T := T) (N := N) hx hb hts uin hown hK.1 hs.1 q0 he hcl k hk (hts _ hlink) (fun x h => by rw [← href]; exact h) hv hdg kk
theorem rp {Cn ref : String} {T : u_T} {N ci index a : Nat} (ty0 : Nat → FieldType) (hty : ∀ k, k < N → parseFieldDescriptor (T k).2.2.1 = some (ty0 k)) (hnm : ∀ a, a < N → ∀ b, b < N → a ≠ b → (T a).2.1 ≠ (T b).2.1) (uin : ∀ w ∈ u_ws Cn T N, w ∈ lw_g) (hcl : vwCl[ci]? = some (Cn, T, N)) (C : Cx p s m args meth c cc own nL ret G) (hs : St G A H0 H locs w) (q0 : Nat) {fs : List Value} (he : w[q0]? = some (a, .inr (ci, fs))) (k : Nat) (hk : k < N) (hlink : Cond.fieldLink own index ref (T k).2.1 (T k).2.2.1 ∈ lw_g) (href : (T k).1 = ref) (hfin : (T k).2.2.2 = false) {v : Value} (hnv : narrow (ty0 k) v = v) (hfit : fits (ty0 k) v = true) (hl : k < fs.length) {w1 : va_W} (hw1 : w.set q0 (a, .inr (ci, fs.set k v)) = w1) (hdg : decode cc pc = .ok (.putfield index, 3))
    (kk : ∀ (H1 : Heap) (locs1 : List Loc), St G A H0 H1 locs1 w1 → W p l e R s m args below meth c H1 locs1 cells slots Q (F0 m (pc + 3) ls rest)) : W p l e R s m args below meth c H locs cells slots Q (F0 m pc ls (v :: .ref a :: rest)) := by
  subst hw1
  obtain ⟨hx, hb, hml, hown, hts, hK, -, -⟩ := C
  obtain ⟨hP, hD, hS, hA⟩ := hs
  exact va_put (D := G.1) (ci := ci) (v := v) (ty := ty0 k) (C := Cn) (T := T) (N := N) hx hb hts uin ty0 hty hnm hown hK.1 hP hD hS q0 he hcl k hk (hts _ hlink) (fun x h => by rw [← href]; exact h) hfin (hty k hk) hnv hfit hl hdg (fun H1 locs1 h1 h2 h3 => kk H1 locs1 ⟨h1, h2, h3, hA⟩)
/-- arrays of ints -/
theorem vp_inL {i : Int32} {n : Nat} (h1 : 0 ≤ i) (h2 : i.toNatClampNeg < n) : vp_in i n := by
  rintro (h | h)
  · exact absurd h1 (Int32.not_le.mpr h)
  · omega
theorem rd_in {L : List Int32} {i x : Int32} (h : rd L i = some x) : vp_in i L.length ∧ L.getD i.toNatClampNeg 0 = x := by
  unfold rd at h
  by_cases hc : 0 ≤ i ∧ i.toNatClampNeg < L.length
  · rw [if_pos hc] at h
    exact ⟨vp_inL hc.1 hc.2, Option.some.inj h⟩
  · rw [if_neg hc] at h
    cases h
theorem wr_in {L L1 : List Int32} {i x : Int32} (h : wr L i x = some L1) : vp_in i L.length ∧ i.toNatClampNeg < L.length ∧ L.set i.toNatClampNeg x = L1 := by
  unfold wr at h
  by_cases hc : 0 ≤ i ∧ i.toNatClampNeg < L.length
  · rw [if_pos hc] at h
    exact ⟨vp_inL hc.1 hc.2, hc.2, Option.some.inj h⟩
  · rw [if_neg hc] at h
    cases h
theorem ar_set {L : List Int32} {k : Nat} {x : Int32} (hk : k < L.length) : upd (fun j => L.getD j 0) k x = fun j => (L.set k x).getD j 0 := by
  funext j
  unfold upd
  by_cases h : j = k
  · subst h
    simp [hk]
  · simp [h, List.getElem?_set, Ne.symm h]
theorem rild {a : Nat} (C : Cx p s m args meth c cc own nL ret G) (hs : St G A H0 H locs w) (q0 : Nat) {L : List Int32} (he : w[q0]? = some (a, ar G L)) {i x : Int32} (h : rd L i = some x) (hdg : decode cc pc = .ok (.iaload, 1))
    (kk : W p l e R s m args below meth c H locs cells slots Q (F0 m (pc + 1) ls (.int x :: rest))) : W p l e R s m args below meth c H locs cells slots Q (F0 m pc ls (.int i :: .ref a :: rest)) := by
  obtain ⟨hx, hb, hml, hown, hts, hK, -, -⟩ := C
  obtain ⟨h1, h2⟩ := rd_in h
  subst h2
  exact va_iald hx hb hK.1 hs.1 q0 0 he rfl h1 hdg kk
theorem rist {a : Nat} (C : Cx p s m args meth c cc own nL ret G) (hs : St G A H0 H locs w) (q0 : Nat) {L L1 : List Int32} (he : w[q0]? = some (a, ar G L)) {i x : Int32} (h : wr L i x = some L1) {w1 : va_W} (hw1 : w.set q0 (a, ar G L1) = w1) (hdg : decode cc pc = .ok (.iastore, 1))
    (kk : ∀ (H1 : Heap) (locs1 : List Loc), St G A H0 H1 locs1 w1 → W p l e R s m args below meth c H1 locs1 cells slots Q (F0 m (pc + 1) ls rest)) : W p l e R s m args below meth c H locs cells slots Q (F0 m pc ls (.int x :: .int i :: .ref a :: rest)) := by
  obtain ⟨hx, hb, hml, hown, hts, hK, -, -⟩ := C
  obtain ⟨hP, hD, hS, hA⟩ := hs
  obtain ⟨h1, h2, h3⟩ := wr_in h
  refine va_iast hx hb hK.1 hP hD hS q0 0 he rfl h1 hdg (fun H1 locs1 k1 k2 k3 => kk H1 locs1 ?_)
  have e : ((G.2.1, L.length, .inl (upd (fun j => L.getD j 0) i.toNatClampNeg x)) : ClassId × vp_A) = (G.2.1, L1.length, .inl (fun j => L1.getD j 0)) := by
    rw [ar_set h2, ← h3, List.length_set]
  rw [e, hw1] at k1 k2
  exact ⟨k1, k2, k3, hA⟩
theorem rlen {a : Nat} (C : Cx p s m args meth c cc own nL ret G) (hs : St G A H0 H locs w) (q0 : Nat) {L : List Int32} (he : w[q0]? = some (a, ar G L)) (hdg : decode cc pc = .ok (.arraylength, 1))
    (kk : W p l e R s m args below meth c H locs cells slots Q (F0 m (pc + 1) ls (.int (Int32.ofNat L.length) :: rest))) : W p l e R s m args below meth c H locs cells slots Q (F0 m pc ls (.ref a :: rest)) := by
  obtain ⟨hx, hb, hml, hown, hts, hK, -, -⟩ := C
  exact va_alen hx hb hK.1 hs.1 q0 0 he (ty := .int) rfl rfl hdg kk
/-- ends -/
theorem ri {x : Int32} (C : Cx p s m args meth c cc own nL (some .int) G) (hs : St G A s.heap H locs w) (hdg : decode cc pc = .ok (.ireturn, 1)) : W p l e R s m args below meth c H locs 0 0 (MQ below (Qof G A (some (.int x)) w) args s 0 0 A) (F0 m pc ls [.int x]) :=
  W.iret C.1 C.2.1 C.2.2.2.2.2.2.1 (fun t ht _ => ⟨rfl, by rw [ht]; exact hs.1, hs.2.2.1.F ht⟩) hs.2.2.1.2.2 hdg C.2.2.2.2.2.2.2
theorem rz {x : Int32} (hx : narrow .boolean (.int x) = .int x) (C : Cx p s m args meth c cc own nL (some .boolean) G) (hs : St G A s.heap H locs w) (hdg : decode cc pc = .ok (.ireturn, 1)) : W p l e R s m args below meth c H locs 0 0 (MQ below (Qof G A (some (.int x)) w) args s 0 0 A) (F0 m pc ls [.int x]) :=
  W.zret C.1 C.2.1 C.2.2.2.2.2.2.1 hx (fun t ht _ => ⟨rfl, by rw [ht]; exact hs.1, hs.2.2.1.F ht⟩) hs.2.2.1.2.2 hdg C.2.2.2.2.2.2.2
theorem rl {x : Int64} (C : Cx p s m args meth c cc own nL (some .long) G) (hs : St G A s.heap H locs w) (hdg : decode cc pc = .ok (.lreturn, 1)) : W p l e R s m args below meth c H locs 0 0 (MQ below (Qof G A (some (.long x)) w) args s 0 0 A) (F0 m pc ls [.long x]) :=
  W.lret C.1 C.2.1 C.2.2.2.2.2.2.1 (fun t ht _ => ⟨rfl, by rw [ht]; exact hs.1, hs.2.2.1.F ht⟩) hs.2.2.1.2.2 hdg C.2.2.2.2.2.2.2
theorem rv (C : Cx p s m args meth c cc own nL none G) (hs : St G A s.heap H locs w) (hdg : decode cc pc = .ok (.return_, 1)) : W p l e R s m args below meth c H locs 0 0 (MQ below (Qof G A none w) args s 0 0 A) (F0 m pc ls []) :=
  W.vret C.1 C.2.1 C.2.2.2.2.2.2.1 (fun t ht _ => ⟨rfl, by rw [ht]; exact hs.1, hs.2.2.1.F ht⟩) hs.2.2.1.2.2 hdg C.2.2.2.2.2.2.2
theorem c01_z {x v : Int32} (h : c01 x = some v) : v = x ∧ narrow .boolean (.int x) = .int x := by
  unfold c01 at h
  by_cases h0 : x = 0
  · subst h0; simp at h; exact ⟨h.symm, rfl⟩
  · rw [if_neg h0] at h
    by_cases h1 : x = 1
    · subst h1; simp at h; exact ⟨h.symm, rfl⟩
    · rw [if_neg h1] at h; cases h
end CORE
