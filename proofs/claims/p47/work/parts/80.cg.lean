/-! methods that read the law's script, and may make cells -/
def pcG (G : Gx) (sz : Nat) (w : va_W) (bs L : Nat) (xs : Nat → Int32) (U : State) : Prop := pcOf G sz w U ∧ va_X bs L xs U U.heap ∧ bs < sz ∧ ¬ va_A w sz bs
def Cg (l : Launch) (G : Gx) (bs L : Nat) (xs : Nat → Int32) (y : MethodName) (b : ByteArray) (ml : Nat) (ret : Option FieldType) (fr lo mc ms : Nat) (av : List Value) (w : va_W) (v : Option Value) (w1 : va_W) : Prop :=
  w1.map Prod.fst = w.map Prod.fst ∧ ∀ sz : Nat, Met l y (.code y b ml ret :: lw_g) (rmN fr lo mc ms) (va_Pc av (pcG G sz w bs L xs)) (Qof G (va_A w sz) v w1) mc ms (va_A w sz)
theorem Cg.intro {l : Launch} {G : Gx} {bs L : Nat} {xs : Nat → Int32} {y : MethodName} {b : ByteArray} {ml : Nat} {ret : Option FieldType} {fr lo mc ms : Nat} {av : List Value} {w : va_W} {v : Option Value} {w1 : va_W} (own : String) (ho : y.cls = own) (hy : plainFor y = true) (hn : (lg_sl av).length ≤ ml) (ha : w1.map Prod.fst = w.map Prod.fst)
    (body : ∀ (p : Program) (e : Jvm.Env) (s : State) (m : MethodId) (args : Array Value) (below : List Frame) (meth : Method) (c : Code) (A : Nat → Prop), Cx p s m args meth c b own ml ret G → va_X bs L xs s s.heap → bs < s.heap.size → ¬ A bs → ∀ (H : Heap) (locs : List Loc), St G A s.heap H locs w → ∀ ls : Array Slot, lv_has ls ml (lv_args 0 av) →
      W p l e (rmN fr lo mc ms) s m args below meth c H locs 0 0 (MQ below (Qof G A v w1) args s mc ms A) (F0 m 0 ls [])) : Cg l G bs L xs y b ml ret fr lo mc ms av w v w1 := by
  refine ⟨ha, fun sz => Met.ofWF (cc := b) (maxL := ml) (ret := ret) hy rfl ?_⟩
  intro p e s m args below meth c s₁ B hml hv
  obtain ⟨rfl, ⟨hsz, hP, hK, hD0⟩, hX, hbl, hbA⟩ := hv
  have hts := atoms_spec (ws := .code y b ml ret :: lw_g) B.pre
  have hown : s.vm.findClass y.cls = some m.cls := findClass_of_methodNamed B.named
  subst hsz
  have hl := lv_entry av (n := ml) hn
  rw [lg_entry_eq]
  exact body p e s m _ below meth c (va_A w s.heap.size) ⟨B.exec, B.bytes, hml, by rw [← ho]; exact hown, fun w h => hts w (List.mem_cons_of_mem _ h), hK, B.returns, B.notSynchronized⟩ hX hbl hbA s.heap [] ⟨hP, hD0.self, va_S.rf, fun q h => Or.inr h⟩ _ hl
/-- the script, where a caller's world has come to -/
theorem pcG.of {G : Gx} {s U : State} {A : Nat → Prop} {H0 H : Heap} {locs : List Loc} {w : va_W} {bs L : Nat} {xs : Nat → Int32} (hs : St G A H0 H locs w) (hK : wdK G s) (hX : va_X bs L xs s H0) (hbl : bs < H0.size) (hbA : ¬ A bs) (hU : U.heap = H) (hW : s.WarmedH U.vm) : pcG G H.size w bs L xs U := by
  obtain ⟨hP, hD, hS, hA⟩ := hs
  refine ⟨⟨by rw [hU], by rw [hU]; exact hP, hK.warm hW, hD.weaken (fun _ _ _ _ => trivial)⟩, ?_, Nat.lt_of_lt_of_le hbl hS.1, ?_⟩
  · rw [hU]
    exact (hX.kept (hS.2.1 bs hbl hbA)).moved hW.alike
  · rintro (⟨k, e, hk⟩ | hz)
    · exact hbA (hD.2 k _ hk)
    · exact absurd hbl (Nat.not_lt.mpr (Nat.le_trans hS.1 hz))
theorem blindG {sz bs L : Nat} {xs : Nat → Int32} {G : Gx} {w : va_W} {av : List Value} : FrameBlind (va_Pc av (pcG G sz w bs L xs)) := fun a U g mk q => ⟨q.1, ⟨q.2.1.1, q.2.1.2.1, q.2.1.2.2.1.call g mk a, q.2.1.2.2.2⟩, q.2.2.1.moved (U := U.calling g mk a) (Vm.Alike.refl U.vm), q.2.2.2⟩
section CG
variable {p : Program} {l : Launch} {e : Jvm.Env} {R : Room} {s : State} {m : MethodId} {args : Array Value} {below : List Frame} {meth : Method} {c : Code} {H : Heap} {locs : List Loc} {cells slots : Nat} {Q : State → Prop}
variable {cc : ByteArray} {own : String} {nL : Nat} {ret : Option FieldType} {G : Gx} {A : Nat → Prop} {H0 : Heap} {w : va_W} {pc : Nat} {ls : Array Slot} {rest : List Value}
theorem Cg.fin {w1 : va_W} {v : Option Value} {mc ms : Nat} {st0 : List Value} {a : Array Value} (hr : va_Run p l e R s m args below meth c H locs cells slots mc ms (F0 m pc ls st0) rest (Qof G (va_A w H.size) v w1 a) (va_A w H.size)) (hs : St G A H0 H locs w) (ha : w1.map Prod.fst = w.map Prod.fst)
    (kk : ∀ (H1 : Heap) (locs1 : List Loc), St G A H0 H1 locs1 w1 → W p l e R s m args below meth c H1 locs1 (cells + mc) (slots + ms) Q (F0 m (pc + 3) ls (v.toList ++ rest))) : W p l e R s m args below meth c H locs cells slots Q (F0 m pc ls st0) := by
  intro T hT X
  obtain ⟨v', st₀, t, T', L, h0, X', hL, e1, e2, ⟨hv, hP1, hz, hk⟩, st⟩ := hr T hT X
  obtain ⟨hP, hD, hS, hA⟩ := hs
  cases hv
  rw [h0] at hz hk
  have hAw : ∀ q, va_A w H.size q → A q := by
    intro q hq
    rcases hq with ⟨k, e, hk⟩ | hq
    · exact hD.2 k _ hk
    · exact hA q (Nat.le_trans hS.1 hq)
  have hS1 : va_S A H0 T'.heap (locs ++ L) := ⟨Nat.le_trans hS.1 (by rw [e1]; exact hz), fun q h1 h2 => by rw [e1, hk q (Nat.lt_of_lt_of_le h1 hS.1) (fun z => h2 (hAw q z))]; exact hS.2.1 q h1 h2, fun q hq => by
      rcases List.mem_append.mp hq with h | h
      · exact hS.2.2 q h
      · exact hAw _ (hL q h)⟩
  obtain ⟨t2, a1, b1⟩ := kk T'.heap (locs ++ L) ⟨by rw [e1]; exact hP1, hD.fst ha, hS1, hA⟩ T' rfl X'
  exact ⟨t2, st t2 a1, b1⟩
/-- a call of a static method of the same class that reads the script -/
theorem Cg.S {bs L : Nat} {xs : Nat → Int32} {y : MethodName} {b : ByteArray} {ml fr lo mc ms index n cells1 slots1 : Nat} {rt : Option FieldType} {As st0 st1 : List Value} {v : Option Value} {w1 : va_W}
    (C : Cx p s m args meth c cc own nL ret G) (hX : va_X bs L xs s H0) (hbl : bs < H0.size) (hbA : ¬ A bs) (hs : St G A H0 H locs w) (hc : Cg l G bs L xs y b ml rt fr lo mc ms As w v w1)
    (hlink : Cond.methodLink own index y ∈ lw_g) (hstat : Cond.static y ∈ lw_g) (hini : Cond.initialized y.cls ∈ lw_g) (hcode : Cond.code y b ml rt ∈ lw_g)
    (hneq : y.cls ≠ "java/lang/invoke/MethodHandle" ∧ y.cls ≠ "java/lang/invoke/VarHandle" ∧ (parseMethodDescriptor y.desc).map (fun d => d.parameters.length) = some n) (hR : fr + 1 ≤ R.frames ∧ 8 + (ml + 11) + lo ≤ R.locals)
    (hn : As.length = n) (hsize : ls.size = nL) (hstack : st0 = As.reverse ++ rest) (hW : (rest.map fun v => v.category).sum ≤ 8) (hdg : decode cc pc = .ok (.invokestatic index, 3)) (h1 : cells + mc = cells1) (h2 : slots + ms = slots1) (hf : cells1 ≤ R.cells ∧ slots1 ≤ R.slots) (hst : v.toList ++ rest = st1)
    (kk : ∀ (H1 : Heap) (locs1 : List Loc), St G A H0 H1 locs1 w1 → W p l e R s m args below meth c H1 locs1 cells1 slots1 Q (F0 m (pc + 3) ls st1)) : W p l e R s m args below meth c H locs cells slots Q (F0 m pc ls st0) := by
  subst hst; subst h1; subst h2
  obtain ⟨hx, hb, hml, hown, hts, hK, -, -⟩ := C
  refine Cg.fin (a := As.toArray) (va_runS (n := n) ⟨hx, hb, hml, hown, hts⟩ (hc.2 H.size) ⟨⟨rfl, rfl, hR.1, hR.2, pay_in hts (good_cons hcode), List.mem_cons_self, hts _ hcode, hts _ hini, ⟨hneq.1, hneq.2.1⟩, par_of hneq.2.2, hts _ hlink⟩, hts _ hstat⟩
    ⟨blindG, fun U hU hW => ⟨rfl, pcG.of hs hK hX hbl hbA hU hW⟩⟩ rfl hn hsize hstack (lv_room hW) hdg hf) hs hc.1 kk
/-- the newest cell is let go -/
theorem St.pop {x : va_W} (hs : St G A H0 H locs (w ++ x)) : St G A H0 H locs w := by
  have in0 : ∀ (k : Nat) (q : Nat × va_E), w[k]? = some q → (w ++ x)[k]? = some q := fun k q hk => by
    rw [List.getElem?_append_left (List.getElem?_eq_some_iff.mp hk).1]
    exact hk
  obtain ⟨hP, hD, hS, hA⟩ := hs
  exact ⟨fun k q hk => hP k q (in0 k q hk), ⟨fun i j p q hi hj h => hD.1 i j p q (in0 i p hi) (in0 j q hj) h, fun k q hk => hD.2 k q (in0 k q hk)⟩, hS, hA⟩
theorem riN {x : Int32} {w0 : va_W} (C : Cx p s m args meth c cc own nL (some .int) G) (hs : St G A s.heap H locs w0) (hdg : decode cc pc = .ok (.ireturn, 1)) : W p l e R s m args below meth c H locs cells slots (MQ below (Qof G A (some (.int x)) w0) args s cells slots A) (F0 m pc ls [.int x]) :=
  W.iret C.1 C.2.1 C.2.2.2.2.2.2.1 (fun t ht _ => ⟨rfl, by rw [ht]; exact hs.1, hs.2.2.1.F ht⟩) hs.2.2.1.2.2 hdg C.2.2.2.2.2.2.2
theorem rvG {w0 : va_W} (C : Cx p s m args meth c cc own nL none G) (hs : St G A s.heap H locs w0) (hdg : decode cc pc = .ok (.return_, 1)) : W p l e R s m args below meth c H locs cells slots (MQ below (Qof G A none w0) args s cells slots A) (F0 m pc ls []) :=
  W.vret C.1 C.2.1 C.2.2.2.2.2.2.1 (fun t ht _ => ⟨rfl, by rw [ht]; exact hs.1, hs.2.2.1.F ht⟩) hs.2.2.1.2.2 hdg C.2.2.2.2.2.2.2
end CG
