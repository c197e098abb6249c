/-! a contract over some cells, at their place in a larger world -/
section AT
variable {l : Launch} {G : Gx} {y : MethodName} {b : ByteArray} {ml : Nat} {ret : Option FieldType} {fr lo : Nat} {av : List Value} {v : Option Value}
theorem Ct.pre {w w1 pre : va_W} (h : Ct l G y b ml ret fr lo av w v w1) : Ct l G y b ml ret fr lo av (pre ++ w) v (pre ++ w1) := by
  have h1 := Ct.frame h pre []
  rw [List.append_nil, List.append_nil] at h1
  exact h1
theorem Ct.post {w w1 post : va_W} (h : Ct l G y b ml ret fr lo av w v w1) : Ct l G y b ml ret fr lo av (w ++ post) v (w1 ++ post) := Ct.frame h [] post
theorem Ct.post2 {w x w1 x1 post : va_W} (h : Ct l G y b ml ret fr lo av (w ++ x) v (w1 ++ x1)) : Ct l G y b ml ret fr lo av (w ++ (x ++ post)) v (w1 ++ (x1 ++ post)) := by
  have h1 := Ct.post (post := post) h
  rw [List.append_assoc, List.append_assoc] at h1
  exact h1
theorem Ct.post3 {w x z w1 x1 z1 post : va_W} (h : Ct l G y b ml ret fr lo av (w ++ (x ++ z)) v (w1 ++ (x1 ++ z1))) : Ct l G y b ml ret fr lo av (w ++ (x ++ (z ++ post))) v (w1 ++ (x1 ++ (z1 ++ post))) := by
  have h1 := Ct.post (post := post) h
  rw [List.append_assoc, List.append_assoc, List.append_assoc, List.append_assoc] at h1
  exact h1
theorem va_A.swap {a b c : va_W} {sz q : Nat} (h : va_A ((a ++ b) ++ c) sz q) : va_A ((a ++ c) ++ b) sz q := by
  rcases h with ⟨k, e, hk⟩ | h
  · refine Or.inl ?_
    have hm : (q, e) ∈ (a ++ c) ++ b := by
      have := List.mem_of_getElem? hk
      simp only [List.mem_append] at this ⊢
      rcases this with (h | h) | h
      · exact Or.inl (Or.inl h)
      · exact Or.inr h
      · exact Or.inl (Or.inr h)
    obtain ⟨k2, hk2⟩ := List.getElem?_of_mem hm
    exact ⟨k2, e, hk2⟩
  · exact Or.inr h
theorem Ct.swap {a c d a1 c1 d1 : va_W} (ha : a1.map Prod.fst = a.map Prod.fst) (hc : c1.map Prod.fst = c.map Prod.fst) (hd : d1.map Prod.fst = d.map Prod.fst) (h : Ct l G y b ml ret fr lo av ((a ++ c) ++ d) v ((a1 ++ c1) ++ d1)) : Ct l G y b ml ret fr lo av ((a ++ d) ++ c) v ((a1 ++ d1) ++ c1) := by
  refine ⟨by simp [ha, hc, hd], fun sz => ?_⟩
  refine MetFree.mono (h.2 sz) ?_ (fun _ _ _ _ _ hk => hk) ?_
  · intro a U hU
    obtain ⟨hU0, hsz, hP, hK, hD⟩ := hU
    exact ⟨hU0, hsz, hP.swap, hK, hD.swap⟩
  · intro a st o t hU ⟨⟨ho, hP1, hF⟩, L, hL, hLf⟩
    exact ⟨⟨ho, hP1.swap, ⟨hF.1, fun q h1 h2 => hF.2 q h1 (fun z => h2 z.swap)⟩⟩, L, hL, fun q hq => (hLf q hq).swap⟩
/-- two worlds that others lie between -/
theorem Ct.two {a c a1 c1 Y Z : va_W} (ha : a1.map Prod.fst = a.map Prod.fst) (hc : c1.map Prod.fst = c.map Prod.fst) (h : Ct l G y b ml ret fr lo av (a ++ c) v (a1 ++ c1)) : Ct l G y b ml ret fr lo av (a ++ (Y ++ (c ++ Z))) v (a1 ++ (Y ++ (c1 ++ Z))) := by
  have h1 := Ct.post (post := Z) (Ct.swap (d := Y) (d1 := Y) ha hc rfl (Ct.post (post := Y) h))
  rw [List.append_assoc, List.append_assoc, List.append_assoc, List.append_assoc] at h1
  exact h1
theorem ra {p : Program} {e : Env} {R : Room} {s : State} {m : MethodId} {args : Array Value} {below : List Frame} {meth : Method} {c : Code} {H : Heap} {locs : List Loc} {cc : ByteArray} {own : String} {nL : Nat} {A : Nat → Prop} {w : va_W} {pc : Nat} {ls : Array Slot} {a : Nat} {n : String}
    (C : Cx p s m args meth c cc own nL (some (.object n)) G) (hs : St G A s.heap H locs w) (hdg : decode cc pc = .ok (.areturn, 1)) : W p l e R s m args below meth c H locs 0 0 (MQ below (Qof G A (some (.ref a)) w) args s 0 0 A) (F0 m pc ls [.ref a]) :=
  W.aret C.1 C.2.1 C.2.2.2.2.2.2.1 (Or.inl ⟨n, rfl⟩) (Or.inr ⟨a, rfl⟩) (fun t ht _ => ⟨rfl, by rw [ht]; exact hs.1, hs.2.2.1.F ht⟩) hs.2.2.1.2.2 hdg C.2.2.2.2.2.2.2
end AT
