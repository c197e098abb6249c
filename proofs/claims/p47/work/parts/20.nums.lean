/-! numbers: Int32s by the whole numbers that they are -/
def iI (a : Int) : Int32 := Int32.ofInt a
theorem iI_add (a b : Int) : iI a + iI b = iI (a + b) := (Int32.ofInt_add a b).symm
theorem iI_sub (a b : Int) : iI a - iI b = iI (a - b) := (Int32.ofInt_sub a b).symm
theorem iI_mul (a b : Int) : iI a * iI b = iI (a * b) := (Int32.ofInt_mul a b).symm
theorem iI_neg (a : Int) : -iI a = iI (-a) := (Int32.ofInt_neg a).symm
theorem iI_toInt {a : Int} (h1 : -2147483648 ≤ a) (h2 : a < 2147483648) : (iI a).toInt = a := Int32.toInt_ofInt_of_le (by omega) (by omega)
theorem iI_of (x : Int32) : iI x.toInt = x := Int32.ofInt_toInt x
theorem iI_lt {a b : Int} (h1 : -2147483648 ≤ a) (h2 : a < 2147483648) (h3 : -2147483648 ≤ b) (h4 : b < 2147483648) : (iI a < iI b) = (a < b) := by
  rw [Int32.lt_iff_toInt_lt, iI_toInt h1 h2, iI_toInt h3 h4]
theorem iI_le {a b : Int} (h1 : -2147483648 ≤ a) (h2 : a < 2147483648) (h3 : -2147483648 ≤ b) (h4 : b < 2147483648) : (iI a ≤ iI b) = (a ≤ b) := by
  rw [Int32.le_iff_toInt_le, iI_toInt h1 h2, iI_toInt h3 h4]
theorem iI_eq {a b : Int} (h1 : -2147483648 ≤ a) (h2 : a < 2147483648) (h3 : -2147483648 ≤ b) (h4 : b < 2147483648) : (iI a = iI b) = (a = b) := by
  rw [← Int32.toInt_inj, iI_toInt h1 h2, iI_toInt h3 h4]
theorem iI_div {a b : Int} (h1 : 0 ≤ a) (h2 : a < 2147483648) (h3 : 0 < b) (h4 : b < 2147483648) : iI a / iI b = iI (a / b) := by
  have hb : iI b ≠ -1 := by
    intro h
    have h5 : (iI b).toInt = -1 := by rw [h]; decide
    rw [iI_toInt (by omega) h4] at h5
    omega
  apply Int32.toInt_inj.mp
  rw [Int32.toInt_div_of_ne_right _ _ hb, iI_toInt (by omega) h2, iI_toInt (by omega) h4, Int.tdiv_eq_ediv_of_nonneg h1, iI_toInt]
  · have := Int.ediv_nonneg h1 (Int.le_of_lt h3)
    omega
  · have := Int.ediv_le_self b h1
    omega
theorem iI_nat {a : Int} (h1 : -2147483648 ≤ a) (h2 : a < 2147483648) : (iI a).toNatClampNeg = a.toNat := Int32.toNatClampNeg_ofInt_of_le (by omega) (by omega)
theorem iI_len (n : Nat) : Int32.ofNat n = iI (n : Int) := (Int32.ofInt_eq_ofNat (n := n)).symm
theorem iI_c {a b : Int} (h : a = b) : iI a = iI b := congrArg iI h
theorem sI {a b : Int} (h : a = b) : (some (iI a) : Option Int32) = some (iI b) := congrArg (fun x => some (iI x)) h
theorem mmax_iI {a b : Int} (h1 : -2147483648 ≤ a) (h2 : a < 2147483648) (h3 : -2147483648 ≤ b) (h4 : b < 2147483648) : mmax (iI a) (iI b) = iI (max a b) := by
  unfold mmax
  by_cases h : a < b
  · rw [if_pos (by rw [iI_lt h1 h2 h3 h4]; exact h)]
    exact iI_c (by omega)
  · rw [if_neg (by rw [iI_lt h1 h2 h3 h4]; exact h)]
    exact iI_c (by omega)
theorem mmin_iI {a b : Int} (h1 : -2147483648 ≤ a) (h2 : a < 2147483648) (h3 : -2147483648 ≤ b) (h4 : b < 2147483648) : mmin (iI a) (iI b) = iI (min a b) := by
  unfold mmin
  by_cases h : b < a
  · rw [if_pos (by rw [iI_lt h3 h4 h1 h2]; exact h)]
    exact iI_c (by omega)
  · rw [if_neg (by rw [iI_lt h3 h4 h1 h2]; exact h)]
    exact iI_c (by omega)
theorem mabs_iI {a : Int} (h1 : -2147483648 < a) (h2 : a < 2147483648) : mabs (iI a) = iI (a.natAbs : Int) := by
  unfold mabs
  rw [show (0 : Int32) = iI 0 by decide]
  by_cases h : 0 ≤ a
  · rw [if_pos (by rw [iI_le (by omega) (by omega) (by omega) h2]; exact h)]
    exact iI_c (by omega)
  · rw [if_neg (by rw [iI_le (by omega) (by omega) (by omega) h2]; exact h), iI_sub]
    exact iI_c (by omega)
/-! rows of numbers -/
def rq (n : Nat) (F : Nat → Int32) : List Int32 := (List.range n).map F
def upF (F : Nat → Int32) (k : Nat) (x : Int32) : Nat → Int32 := fun j => if j = k then x else F j
theorem rq_len (n : Nat) (F : Nat → Int32) : (rq n F).length = n := by simp [rq]
theorem rq_get {n : Nat} {F : Nat → Int32} {k : Nat} (h : k < n) : (rq n F).getD k 0 = F k := by
  simp [rq, h]
theorem rq_congr {n : Nat} {F F1 : Nat → Int32} (h : ∀ j, j < n → F j = F1 j) : rq n F = rq n F1 := by
  unfold rq
  exact List.map_congr_left (fun j hj => h j (List.mem_range.mp hj))
theorem rq_set {n : Nat} {F : Nat → Int32} {k : Nat} {x : Int32} : (rq n F).set k x = rq n (upF F k x) := by
  apply List.ext_getElem?
  intro j
  unfold rq upF
  by_cases h : j = k
  · subst h
    by_cases hj : j < n
    · rw [List.getElem?_set_self (by simpa using hj)]
      simp [hj]
    · rw [List.getElem?_eq_none (by simpa using Nat.le_of_not_lt hj), List.getElem?_eq_none (by simpa using Nat.le_of_not_lt hj)]
  · rw [List.getElem?_set_ne (Ne.symm h)]
    simp only [List.getElem?_map]
    cases hr : (List.range n)[j]? with
    | none => rfl
    | some z =>
      have : z = j := by
        obtain ⟨h1, h2⟩ := List.getElem?_eq_some_iff.mp hr
        simpa using h2.symm
      subst this
      simp [h]
theorem rq_of (L : List Int32) : L = rq L.length (fun j => L.getD j 0) := by
  apply List.ext_getElem?
  intro j
  unfold rq
  by_cases hj : j < L.length
  · simp [hj]
  · rw [List.getElem?_eq_none (by omega), List.getElem?_eq_none (by simp; omega)]
theorem rd_rq {n : Nat} {F : Nat → Int32} {a : Int} (h0 : 0 ≤ a) (h1 : a < (n : Int)) (h2 : (n : Int) < 2147483648) : rd (rq n F) (iI a) = some (F a.toNat) := by
  unfold rd
  rw [rq_len, iI_nat (by omega) (by omega), if_pos, rq_get (by omega)]
  refine ⟨?_, by omega⟩
  rw [show (0 : Int32) = iI 0 by decide, iI_le (by omega) (by omega) (by omega) (by omega)]
  exact h0
theorem wr_rq {n : Nat} {F : Nat → Int32} {a : Int} {x : Int32} (h0 : 0 ≤ a) (h1 : a < (n : Int)) (h2 : (n : Int) < 2147483648) : wr (rq n F) (iI a) x = some (rq n (upF F a.toNat x)) := by
  unfold wr
  rw [rq_len, iI_nat (by omega) (by omega), if_pos, rq_set]
  refine ⟨?_, by omega⟩
  rw [show (0 : Int32) = iI 0 by decide, iI_le (by omega) (by omega) (by omega) (by omega)]
  exact h0
theorem L0 : (0 : Int32) = iI 0 := by decide
theorem L1 : (1 : Int32) = iI 1 := by decide
theorem L2 : (2 : Int32) = iI 2 := by decide
theorem L3 : (3 : Int32) = iI 3 := by decide
theorem L4 : (4 : Int32) = iI 4 := by decide
theorem L5 : (5 : Int32) = iI 5 := by decide
theorem L6 : (6 : Int32) = iI 6 := by decide
theorem L7 : (7 : Int32) = iI 7 := by decide
theorem L8 : (8 : Int32) = iI 8 := by decide
theorem L9 : (9 : Int32) = iI 9 := by decide
theorem L10 : (10 : Int32) = iI 10 := by decide
theorem L12 : (12 : Int32) = iI 12 := by decide
theorem L16 : (16 : Int32) = iI 16 := by decide
theorem L20 : (20 : Int32) = iI 20 := by decide
theorem L31 : (31 : Int32) = iI 31 := by decide
theorem L40 : (40 : Int32) = iI 40 := by decide
theorem L48 : (48 : Int32) = iI 48 := by decide
theorem L56 : (56 : Int32) = iI 56 := by decide
theorem L57 : (57 : Int32) = iI 57 := by decide
theorem L59 : (59 : Int32) = iI 59 := by decide
theorem L60 : (60 : Int32) = iI 60 := by decide
theorem L63 : (63 : Int32) = iI 63 := by decide
theorem L96 : (96 : Int32) = iI 96 := by decide
theorem L98 : (98 : Int32) = iI 98 := by decide
theorem L99 : (99 : Int32) = iI 99 := by decide
theorem L100 : (100 : Int32) = iI 100 := by decide
theorem L101 : (101 : Int32) = iI 101 := by decide
theorem L103 : (103 : Int32) = iI 103 := by decide
theorem L104 : (104 : Int32) = iI 104 := by decide
theorem L111 : (111 : Int32) = iI 111 := by decide
theorem L115 : (115 : Int32) = iI 115 := by decide
theorem L116 : (116 : Int32) = iI 116 := by decide
theorem L117 : (117 : Int32) = iI 117 := by decide
theorem L127 : (127 : Int32) = iI 127 := by decide
theorem L168 : (168 : Int32) = iI 168 := by decide
theorem L192 : (192 : Int32) = iI 192 := by decide
theorem L255 : (255 : Int32) = iI 255 := by decide
theorem L560 : (560 : Int32) = iI 560 := by decide
theorem L616 : (616 : Int32) = iI 616 := by decide
theorem L999 : (999 : Int32) = iI 999 := by decide
theorem L1000 : (1000 : Int32) = iI 1000 := by decide
theorem L2000 : (2000 : Int32) = iI 2000 := by decide
theorem L1000000000 : (1000000000 : Int32) = iI 1000000000 := by decide
theorem L1103515245 : (1103515245 : Int32) = iI 1103515245 := by decide
theorem L12345 : (12345 : Int32) = iI 12345 := by decide
theorem L2147483647 : (2147483647 : Int32) = iI 2147483647 := by decide
theorem L65536 : (65536 : Int32) = iI 65536 := by decide
