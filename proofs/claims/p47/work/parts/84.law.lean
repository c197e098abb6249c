/-! the law's body: its joins and loops -/
def X_L_law_J402 (L : Nat) (xs : Nat → Int32) (k : Int32 → Rw → Option (Int32)) (r : Int32 → Int32 → Rw → Option (Int32)) (x2 : Int32) (x3 : Int32) (x4 : Int32) (x5 : Int32) (x6 : Int32) (x7 : Int32) (x8 : Int32) (x9 : Int32) (x10 : Int32) (S : Rw) : Option (Int32) :=
  r x9 (x10 + (1 : Int32)) S
def X_L_law_J309 (L : Nat) (xs : Nat → Int32) (k : Int32 → Rw → Option (Int32)) (r : Int32 → Int32 → Rw → Option (Int32)) (x2 : Int32) (x3 : Int32) (x4 : Int32) (x5 : Int32) (x6 : Int32) (x7 : Int32) (x8 : Int32) (x9 : Int32) (x10 : Int32) (x11 : Int32) (x12 : Int32) (x13 : Int32) (x14 : Int32) (S : Rw) : Option (Int32) :=
  (A_hides S x10 x14).bind fun u_49 =>
  if u_49.2 = (x11 - x14) then
  (A_good u_49.1 x10 (3 : Int32)).bind fun u_51 =>
  if u_51.2 < x12 then
  some 0
  else
  (A_good u_51.1 x10 (2 : Int32)).bind fun u_53 =>
  if u_53.2 = (x13 + x14) then
  (A_count u_53.1 (4 : Int32)).bind fun u_55 =>
  if u_55.2 < x6 then
  some 0
  else
  (A_hides u_55.1 x10 (-x14)).bind fun u_57 =>
  if u_57.2 = x11 then
  (A_good u_57.1 x10 (3 : Int32)).bind fun u_59 =>
  if u_59.2 = x12 then
  (A_restore u_59.1).bind fun u_61 =>
  if u_61.2 = x3 then
  X_L_law_J402 L xs k r x2 x3 x4 x5 x6 x7 x8 x9 x10 u_61.1
  else
  some 0
  else
  some 0
  else
  some 0
  else
  some 0
  else
  some 0
def X_L_law_J281 (L : Nat) (xs : Nat → Int32) (k : Int32 → Rw → Option (Int32)) (r : Int32 → Int32 → Rw → Option (Int32)) (x2 : Int32) (x3 : Int32) (x4 : Int32) (x5 : Int32) (x6 : Int32) (x7 : Int32) (x8 : Int32) (x9 : Int32) (x10 : Int32) (x11 : Int32) (x12 : Int32) (x13 : Int32) (S : Rw) : Option (Int32) :=
  (X_L_cell L xs ((23 : Int32) + x10)).bind fun u_45 =>
  (L_pick u_45 (x11 + (1 : Int32))).bind fun u_47 =>
  if (99 : Int32) < (x13 + u_47) then
  X_L_law_J402 L xs k r x2 x3 x4 x5 x6 x7 x8 x9 x10 S
  else
  X_L_law_J309 L xs k r x2 x3 x4 x5 x6 x7 x8 x9 x10 x11 x12 x13 u_47 S
def X_L_law_J238 (L : Nat) (xs : Nat → Int32) (k : Int32 → Rw → Option (Int32)) (r : Int32 → Int32 → Rw → Option (Int32)) (x2 : Int32) (x3 : Int32) (x4 : Int32) (x5 : Int32) (x6 : Int32) (x7 : Int32) (x8 : Int32) (x9 : Int32) (x10 : Int32) (x11 : Int32) (x12 : Int32) (x13 : Int32) (S : Rw) : Option (Int32) :=
  (A_deepest S (2 : Int32)).bind fun u_39 =>
  if u_39.2 < x12 then
  some 0
  else
  (A_thereIn u_39.1 x10 (0 : Int32)).bind fun u_41 =>
  if u_41.2 = x11 then
  (A_deepest u_41.1 (3 : Int32)).bind fun u_43 =>
  if ((u_43.2 >>> (x10 &&& 31)) &&& (1 : Int32)) = (1 : Int32) then
  if x12 ≤ (0 : Int32) then
  X_L_law_J281 L xs k r x2 x3 x4 x5 x6 x7 x8 x9 x10 x11 x12 x13 u_43.1
  else
  some 0
  else
  X_L_law_J281 L xs k r x2 x3 x4 x5 x6 x7 x8 x9 x10 x11 x12 x13 u_43.1
  else
  some 0
def X_L_law_J218 (L : Nat) (xs : Nat → Int32) (k : Int32 → Rw → Option (Int32)) (r : Int32 → Int32 → Rw → Option (Int32)) (x2 : Int32) (x3 : Int32) (x4 : Int32) (x5 : Int32) (x6 : Int32) (x7 : Int32) (x8 : Int32) (x9 : Int32) (x10 : Int32) (x11 : Int32) (x12 : Int32) (x13 : Int32) (S : Rw) : Option (Int32) :=
  if x12 = (0 : Int32) then
  (A_good S x10 (1 : Int32)).bind fun u_63 =>
  if x11 < ((7 : Int32) * u_63.2) then
  some 0
  else
  X_L_law_J238 L xs k r x2 x3 x4 x5 x6 x7 x8 x9 x10 x11 x12 x13 u_63.1
  else
  X_L_law_J238 L xs k r x2 x3 x4 x5 x6 x7 x8 x9 x10 x11 x12 x13 S
def X_L_law_J195 (L : Nat) (xs : Nat → Int32) (k : Int32 → Rw → Option (Int32)) (r : Int32 → Int32 → Rw → Option (Int32)) (x2 : Int32) (x3 : Int32) (x4 : Int32) (x5 : Int32) (x6 : Int32) (x7 : Int32) (x8 : Int32) (x9 : Int32) (x10 : Int32) (x11 : Int32) (x12 : Int32) (x13 : Int32) (S : Rw) : Option (Int32) :=
  if x12 ≤ (0 : Int32) then
  X_L_law_J218 L xs k r x2 x3 x4 x5 x6 x7 x8 x9 x10 x11 x12 x13 S
  else
  (A_good S x10 (1 : Int32)).bind fun u_65 =>
  if (x12 + x11) = ((7 : Int32) * u_65.2) then
  X_L_law_J218 L xs k r x2 x3 x4 x5 x6 x7 x8 x9 x10 x11 x12 x13 u_65.1
  else
  some 0
def X_L_law_L154 (k : Int32 → Rw → Option (Int32)) (L : Nat) (xs : Nat → Int32) (x2 : Int32) (x3 : Int32) (x4 : Int32) (x5 : Int32) (x6 : Int32) (x7 : Int32) (x8 : Int32) : Nat → Int32 → Int32 → Rw → Option (Int32)
  | 0, _, _, _ => none
  | n + 1, x9, x10, S =>
  if (6 : Int32) ≤ x10 then
  k x9 S
  else
  (A_good S x10 (0 : Int32)).bind fun u_33 =>
  (A_good u_33.1 x10 (3 : Int32)).bind fun u_35 =>
  (A_good u_35.1 x10 (2 : Int32)).bind fun u_37 =>
  X_L_law_J195 L xs k (X_L_law_L154 k L xs x2 x3 x4 x5 x6 x7 x8 n) x2 x3 x4 x5 x6 x7 x8 (x9 + u_35.2) x10 u_33.2 u_35.2 u_37.2 u_37.1
def X_L_law_J866 (k : Rw → Option (Int32)) (r : Int32 → Rw → Option (Int32)) (x2 : Int32) (x3 : Int32) (x4 : Int32) (x5 : Int32) (x6 : Int32) (x7 : Int32) (x8 : Int32) (x10 : Int32) (x11 : Int32) (x14 : Int32) (x15 : Int32) (x16 : Int32) (S : Rw) : Option (Int32) :=
  if x16 ≤ (0 : Int32) then
  r (x15 + (1 : Int32)) S
  else
  (A_good S x15 (2 : Int32)).bind fun u_87 =>
  if (99 : Int32) < (u_87.2 + x16) then
  r (x15 + (1 : Int32)) u_87.1
  else
  (A_hides u_87.1 x15 x16).bind fun u_89 =>
  if u_89.2 < (0 : Int32) then
  some 0
  else
  (A_comes u_89.1 x10).bind fun u_91 =>
  if u_91.2 < (0 : Int32) then
  some 0
  else
  (A_comes u_91.1 x10).bind fun u_93 =>
  if x7 < u_93.2 then
  some 0
  else
  (A_restore u_93.1).bind fun u_95 =>
  if u_95.2 = x3 then
  r (x15 + (1 : Int32)) u_95.1
  else
  some 0
def X_L_law_J847 (k : Rw → Option (Int32)) (r : Int32 → Rw → Option (Int32)) (x2 : Int32) (x3 : Int32) (x4 : Int32) (x5 : Int32) (x6 : Int32) (x7 : Int32) (x8 : Int32) (x10 : Int32) (x11 : Int32) (x14 : Int32) (x15 : Int32) (x16 : Int32) (S : Rw) : Option (Int32) :=
  if x16 = (0 : Int32) then
  if x11 < (0 : Int32) then
  some 0
  else
  if x11 ≤ x7 then
  X_L_law_J866 k r x2 x3 x4 x5 x6 x7 x8 x10 x11 x14 x15 x16 S
  else
  some 0
  else
  X_L_law_J866 k r x2 x3 x4 x5 x6 x7 x8 x10 x11 x14 x15 x16 S
def X_L_law_J830 (k : Rw → Option (Int32)) (r : Int32 → Rw → Option (Int32)) (x2 : Int32) (x3 : Int32) (x4 : Int32) (x5 : Int32) (x6 : Int32) (x7 : Int32) (x8 : Int32) (x10 : Int32) (x11 : Int32) (x14 : Int32) (x15 : Int32) (x16 : Int32) (S : Rw) : Option (Int32) :=
  if x11 < (0 : Int32) then
  X_L_law_J847 k r x2 x3 x4 x5 x6 x7 x8 x10 x11 x14 x15 x16 S
  else
  if x7 < x11 then
  X_L_law_J847 k r x2 x3 x4 x5 x6 x7 x8 x10 x11 x14 x15 x16 S
  else
  if x16 = (0 : Int32) then
  X_L_law_J847 k r x2 x3 x4 x5 x6 x7 x8 x10 x11 x14 x15 x16 S
  else
  some 0
def X_L_law_J806 (k : Rw → Option (Int32)) (r : Int32 → Rw → Option (Int32)) (x2 : Int32) (x3 : Int32) (x4 : Int32) (x5 : Int32) (x6 : Int32) (x7 : Int32) (x8 : Int32) (x10 : Int32) (x11 : Int32) (x14 : Int32) (x15 : Int32) (S : Rw) : Option (Int32) :=
  (A_hide S x15 x10 x7).bind fun u_83 =>
  (A_good u_83.1 x15 (0 : Int32)).bind fun u_85 =>
  if u_85.2 < u_83.2 then
  some 0
  else
  X_L_law_J830 k r x2 x3 x4 x5 x6 x7 x8 x10 x11 x14 x15 u_83.2 u_85.1
def X_L_law_L776 (k : Rw → Option (Int32)) (x2 : Int32) (x3 : Int32) (x4 : Int32) (x5 : Int32) (x6 : Int32) (x7 : Int32) (x8 : Int32) (x10 : Int32) (x11 : Int32) (x14 : Int32) : Nat → Int32 → Rw → Option (Int32)
  | 0, _, _ => none
  | n + 1, x15, S =>
  if (6 : Int32) ≤ x15 then
  k S
  else
  if ((x14 >>> (x15 &&& 31)) &&& (1 : Int32)) = (1 : Int32) then
  (A_good S x15 (3 : Int32)).bind fun u_97 =>
  if u_97.2 = (0 : Int32) then
  some 0
  else
  X_L_law_J806 k (X_L_law_L776 k x2 x3 x4 x5 x6 x7 x8 x10 x11 x14 n) x2 x3 x4 x5 x6 x7 x8 x10 x11 x14 x15 u_97.1
  else
  X_L_law_J806 k (X_L_law_L776 k x2 x3 x4 x5 x6 x7 x8 x10 x11 x14 n) x2 x3 x4 x5 x6 x7 x8 x10 x11 x14 x15 S
def X_L_law_J943 (k : Rw → Option (Int32)) (r : Int32 → Rw → Option (Int32)) (x2 : Int32) (x3 : Int32) (x4 : Int32) (x5 : Int32) (x6 : Int32) (x7 : Int32) (x8 : Int32) (x10 : Int32) (x11 : Int32) (x15 : Int32) (S : Rw) : Option (Int32) :=
  if x15 = (0 : Int32) then
  if x11 < (0 : Int32) then
  some 0
  else
  if x7 < x11 then
  some 0
  else
  r (x10 + (1 : Int32)) S
  else
  if x11 < (0 : Int32) then
  r (x10 + (1 : Int32)) S
  else
  if x7 < x11 then
  r (x10 + (1 : Int32)) S
  else
  some 0
def X_L_law_J933 (k : Rw → Option (Int32)) (r : Int32 → Rw → Option (Int32)) (x2 : Int32) (x3 : Int32) (x4 : Int32) (x5 : Int32) (x6 : Int32) (x7 : Int32) (x8 : Int32) (x10 : Int32) (x11 : Int32) (S : Rw) : Option (Int32) :=
  (A_fewest S x10 x7).bind fun u_100 =>
  X_L_law_J943 k r x2 x3 x4 x5 x6 x7 x8 x10 x11 u_100.2 u_100.1
def X_L_law_J773 (k : Rw → Option (Int32)) (r : Int32 → Rw → Option (Int32)) (x2 : Int32) (x3 : Int32) (x4 : Int32) (x5 : Int32) (x6 : Int32) (x7 : Int32) (x8 : Int32) (x10 : Int32) (x11 : Int32) (x14 : Int32) (S : Rw) : Option (Int32) :=
  X_L_law_L776 (fun S_99 =>
  X_L_law_J933 k r x2 x3 x4 x5 x6 x7 x8 x10 x11 S_99) x2 x3 x4 x5 x6 x7 x8 x10 x11 x14 1000 (0 : Int32) S
def X_L_law_J748 (k : Rw → Option (Int32)) (r : Int32 → Rw → Option (Int32)) (x2 : Int32) (x3 : Int32) (x4 : Int32) (x5 : Int32) (x6 : Int32) (x7 : Int32) (x8 : Int32) (x10 : Int32) (x11 : Int32) (S : Rw) : Option (Int32) :=
  (A_forWhat S x10).bind fun u_81 =>
  if ((x8 >>> (x10 &&& 31)) &&& (1 : Int32)) = (0 : Int32) then
  if u_81.2 = (0 : Int32) then
  X_L_law_J773 k r x2 x3 x4 x5 x6 x7 x8 x10 x11 u_81.2 u_81.1
  else
  some 0
  else
  X_L_law_J773 k r x2 x3 x4 x5 x6 x7 x8 x10 x11 u_81.2 u_81.1
def X_L_law_J702 (k : Rw → Option (Int32)) (r : Int32 → Rw → Option (Int32)) (x2 : Int32) (x3 : Int32) (x4 : Int32) (x5 : Int32) (x6 : Int32) (x7 : Int32) (x8 : Int32) (x10 : Int32) (x11 : Int32) (S : Rw) : Option (Int32) :=
  (A_byWhom S x10).bind fun u_79 =>
  if u_79.2 < (0 : Int32) then
  X_L_law_J748 k r x2 x3 x4 x5 x6 x7 x8 x10 x11 u_79.1
  else
  (A_shut u_79.1).bind fun u_102 =>
  if ((u_102.2 >>> (x10 &&& 31)) &&& (1 : Int32)) = (1 : Int32) then
  if u_79.2 = x10 then
  some 0
  else
  if ((x5 >>> (u_79.2 &&& 31)) &&& (1 : Int32)) = (1 : Int32) then
  some 0
  else
  X_L_law_J748 k r x2 x3 x4 x5 x6 x7 x8 x10 x11 u_102.1
  else
  some 0
def X_L_law_J683 (k : Rw → Option (Int32)) (r : Int32 → Rw → Option (Int32)) (x2 : Int32) (x3 : Int32) (x4 : Int32) (x5 : Int32) (x6 : Int32) (x7 : Int32) (x8 : Int32) (x10 : Int32) (x11 : Int32) (S : Rw) : Option (Int32) :=
  if x11 < (0 : Int32) then
  X_L_law_J702 k r x2 x3 x4 x5 x6 x7 x8 x10 x11 S
  else
  (A_loaded S x10 (1 : Int32)).bind fun u_104 =>
  if u_104.2 ≤ x11 then
  X_L_law_J702 k r x2 x3 x4 x5 x6 x7 x8 x10 x11 u_104.1
  else
  some 0
def X_L_law_J666 (k : Rw → Option (Int32)) (r : Int32 → Rw → Option (Int32)) (x2 : Int32) (x3 : Int32) (x4 : Int32) (x5 : Int32) (x6 : Int32) (x7 : Int32) (x8 : Int32) (x10 : Int32) (x11 : Int32) (S : Rw) : Option (Int32) :=
  if (0 : Int32) ≤ x11 then
  X_L_law_J683 k r x2 x3 x4 x5 x6 x7 x8 x10 x11 S
  else
  (A_loaded S x10 (1 : Int32)).bind fun u_106 =>
  if u_106.2 < (-9 : Int32) then
  some 0
  else
  X_L_law_J683 k r x2 x3 x4 x5 x6 x7 x8 x10 x11 u_106.1
def X_L_law_J654 (k : Rw → Option (Int32)) (r : Int32 → Rw → Option (Int32)) (x2 : Int32) (x3 : Int32) (x4 : Int32) (x5 : Int32) (x6 : Int32) (x7 : Int32) (x8 : Int32) (x10 : Int32) (x11 : Int32) (S : Rw) : Option (Int32) :=
  (A_sends S x10 (5 : Int32)).bind fun u_77 =>
  if u_77.2 = (-3 : Int32) then
  X_L_law_J666 k r x2 x3 x4 x5 x6 x7 x8 x10 x11 u_77.1
  else
  some 0
def X_L_law_J567 (k : Rw → Option (Int32)) (r : Int32 → Rw → Option (Int32)) (x2 : Int32) (x3 : Int32) (x4 : Int32) (x5 : Int32) (x6 : Int32) (x7 : Int32) (x8 : Int32) (x10 : Int32) (x11 : Int32) (x12 : Int32) (S : Rw) : Option (Int32) :=
  if x12 = (0 : Int32) then
  X_L_law_J654 k r x2 x3 x4 x5 x6 x7 x8 x10 x11 S
  else
  (A_forWhat S x10).bind fun u_108 =>
  if u_108.2 = (-3 : Int32) then
  (A_loaded u_108.1 x10 (0 : Int32)).bind fun u_110 =>
  if u_110.2 = (-3 : Int32) then
  (A_sends u_110.1 x10 (5 : Int32)).bind fun u_112 =>
  if u_112.2 < (0 : Int32) then
  some 0
  else
  (A_shipOf u_112.1 x10 (4 : Int32)).bind fun u_114 =>
  if u_114.2 = (0 : Int32) then
  (A_shipOf u_114.1 x10 (3 : Int32)).bind fun u_116 =>
  if u_116.2 = (5 : Int32) then
  (A_back u_116.1).bind fun u_118 =>
  if u_118.2 < (0 : Int32) then
  some 0
  else
  (A_shipOf u_118.1 x10 (4 : Int32)).bind fun u_120 =>
  if u_120.2 = (1 : Int32) then
  (A_restore u_120.1).bind fun u_122 =>
  if u_122.2 = x3 then
  r (x10 + (1 : Int32)) u_122.1
  else
  some 0
  else
  some 0
  else
  some 0
  else
  some 0
  else
  some 0
  else
  some 0
def X_L_law_J527 (k : Rw → Option (Int32)) (r : Int32 → Rw → Option (Int32)) (x2 : Int32) (x3 : Int32) (x4 : Int32) (x5 : Int32) (x6 : Int32) (x7 : Int32) (x8 : Int32) (x10 : Int32) (x11 : Int32) (x12 : Int32) (S : Rw) : Option (Int32) :=
  if x11 ≤ (0 : Int32) then
  X_L_law_J567 k r x2 x3 x4 x5 x6 x7 x8 x10 x11 x12 S
  else
  (A_then S x11 (1 : Int32)).bind fun u_124 =>
  if ((u_124.2 >>> (x10 &&& 31)) &&& (1 : Int32)) = (1 : Int32) then
  (A_then u_124.1 (x11 - (1 : Int32)) (1 : Int32)).bind fun u_126 =>
  if ((u_126.2 >>> (x10 &&& 31)) &&& (1 : Int32)) = (0 : Int32) then
  X_L_law_J567 k r x2 x3 x4 x5 x6 x7 x8 x10 x11 x12 u_126.1
  else
  some 0
  else
  some 0
def X_L_law_J502 (k : Rw → Option (Int32)) (r : Int32 → Rw → Option (Int32)) (x2 : Int32) (x3 : Int32) (x4 : Int32) (x5 : Int32) (x6 : Int32) (x7 : Int32) (x8 : Int32) (x10 : Int32) (x11 : Int32) (x12 : Int32) (S : Rw) : Option (Int32) :=
  (A_shipOf S x10 (7 : Int32)).bind fun u_71 =>
  (A_tide u_71.1 (0 : Int32)).bind fun u_73 =>
  (A_shipOf u_73.1 x10 (6 : Int32)).bind fun u_75 =>
  if u_71.2 = (u_73.2 + u_75.2) then
  X_L_law_J527 k r x2 x3 x4 x5 x6 x7 x8 x10 x11 x12 u_75.1
  else
  some 0
def X_L_law_J467 (k : Rw → Option (Int32)) (r : Int32 → Rw → Option (Int32)) (x2 : Int32) (x3 : Int32) (x4 : Int32) (x5 : Int32) (x6 : Int32) (x7 : Int32) (x8 : Int32) (x10 : Int32) (x11 : Int32) (x12 : Int32) (S : Rw) : Option (Int32) :=
  if x11 = (0 : Int32) then
  if ((x8 >>> (x10 &&& 31)) &&& (1 : Int32)) = (1 : Int32) then
  X_L_law_J502 k r x2 x3 x4 x5 x6 x7 x8 x10 x11 x12 S
  else
  some 0
  else
  if x11 = (1 : Int32) then
  if ((x8 >>> (x10 &&& 31)) &&& (1 : Int32)) = (1 : Int32) then
  X_L_law_J502 k r x2 x3 x4 x5 x6 x7 x8 x10 x11 x12 S
  else
  some 0
  else
  if ((x8 >>> (x10 &&& 31)) &&& (1 : Int32)) = (1 : Int32) then
  some 0
  else
  X_L_law_J502 k r x2 x3 x4 x5 x6 x7 x8 x10 x11 x12 S
def X_L_law_J452 (k : Rw → Option (Int32)) (r : Int32 → Rw → Option (Int32)) (x2 : Int32) (x3 : Int32) (x4 : Int32) (x5 : Int32) (x6 : Int32) (x7 : Int32) (x8 : Int32) (x10 : Int32) (x11 : Int32) (x12 : Int32) (S : Rw) : Option (Int32) :=
  if x11 = (0 : Int32) then
  if (1 : Int32) = x12 then
  X_L_law_J467 k r x2 x3 x4 x5 x6 x7 x8 x10 x11 x12 S
  else
  some 0
  else
  if (0 : Int32) = x12 then
  X_L_law_J467 k r x2 x3 x4 x5 x6 x7 x8 x10 x11 x12 S
  else
  some 0
def X_L_law_J434 (k : Rw → Option (Int32)) (r : Int32 → Rw → Option (Int32)) (x2 : Int32) (x3 : Int32) (x4 : Int32) (x5 : Int32) (x6 : Int32) (x7 : Int32) (x8 : Int32) (x10 : Int32) (x11 : Int32) (S : Rw) : Option (Int32) :=
  if ((x5 >>> (x10 &&& 31)) &&& (1 : Int32)) = (1 : Int32) then
  X_L_law_J452 k r x2 x3 x4 x5 x6 x7 x8 x10 x11 (1 : Int32) S
  else
  X_L_law_J452 k r x2 x3 x4 x5 x6 x7 x8 x10 x11 (0 : Int32) S
def X_L_law_L420 (k : Rw → Option (Int32)) (x2 : Int32) (x3 : Int32) (x4 : Int32) (x5 : Int32) (x6 : Int32) (x7 : Int32) (x8 : Int32) : Nat → Int32 → Rw → Option (Int32)
  | 0, _, _ => none
  | n + 1, x10, S =>
  if x2 ≤ x10 then
  k S
  else
  (A_comes S x10).bind fun u_69 =>
  X_L_law_J434 k (X_L_law_L420 k x2 x3 x4 x5 x6 x7 x8 n) x2 x3 x4 x5 x6 x7 x8 x10 u_69.2 u_69.1
def X_L_law_J1100 (k : Rw → Option (Int32)) (r : Int32 → Rw → Option (Int32)) (x2 : Int32) (x3 : Int32) (x4 : Int32) (x5 : Int32) (x6 : Int32) (x7 : Int32) (x10 : Int32) (x11 : Int32) (S : Rw) : Option (Int32) :=
  r (x11 + (1 : Int32)) S
def X_L_law_J1060 (k : Rw → Option (Int32)) (r : Int32 → Rw → Option (Int32)) (x2 : Int32) (x3 : Int32) (x4 : Int32) (x5 : Int32) (x6 : Int32) (x7 : Int32) (x10 : Int32) (x11 : Int32) (S : Rw) : Option (Int32) :=
  (A_race S x11 x10).bind fun u_131 =>
  (A_comes u_131.1 x11).bind fun u_133 =>
  (A_comes u_133.1 x10).bind fun u_135 =>
  if u_133.2 = u_135.2 then
  if u_131.2 = (mmin x11 x10) then
  X_L_law_J1100 k r x2 x3 x4 x5 x6 x7 x10 x11 u_135.1
  else
  some 0
  else
  if u_131.2 = x10 then
  X_L_law_J1100 k r x2 x3 x4 x5 x6 x7 x10 x11 u_135.1
  else
  some 0
def X_L_law_J1038 (k : Rw → Option (Int32)) (r : Int32 → Rw → Option (Int32)) (x2 : Int32) (x3 : Int32) (x4 : Int32) (x5 : Int32) (x6 : Int32) (x7 : Int32) (x10 : Int32) (x11 : Int32) (S : Rw) : Option (Int32) :=
  if x10 < (0 : Int32) then
  X_L_law_J1100 k r x2 x3 x4 x5 x6 x7 x10 x11 S
  else
  if x11 = x10 then
  X_L_law_J1100 k r x2 x3 x4 x5 x6 x7 x10 x11 S
  else
  if ((x5 >>> (x11 &&& 31)) &&& (1 : Int32)) = (0 : Int32) then
  X_L_law_J1060 k r x2 x3 x4 x5 x6 x7 x10 x11 S
  else
  X_L_law_J1100 k r x2 x3 x4 x5 x6 x7 x10 x11 S
def X_L_law_L991 (k : Rw → Option (Int32)) (x2 : Int32) (x3 : Int32) (x4 : Int32) (x5 : Int32) (x6 : Int32) (x7 : Int32) (x10 : Int32) : Nat → Int32 → Rw → Option (Int32)
  | 0, _, _ => none
  | n + 1, x11, S =>
  if x2 ≤ x11 then
  k S
  else
  if ((x5 >>> (x11 &&& 31)) &&& (1 : Int32)) = (0 : Int32) then
  (A_comes S x11).bind fun u_137 =>
  if u_137.2 ≤ (0 : Int32) then
  X_L_law_J1038 k (X_L_law_L991 k x2 x3 x4 x5 x6 x7 x10 n) x2 x3 x4 x5 x6 x7 x10 x11 u_137.1
  else
  if x10 < (0 : Int32) then
  some 0
  else
  (A_comes u_137.1 x10).bind fun u_139 =>
  (A_comes u_139.1 x11).bind fun u_141 =>
  if u_139.2 ≤ u_141.2 then
  X_L_law_J1038 k (X_L_law_L991 k x2 x3 x4 x5 x6 x7 x10 n) x2 x3 x4 x5 x6 x7 x10 x11 u_141.1
  else
  some 0
  else
  X_L_law_J1038 k (X_L_law_L991 k x2 x3 x4 x5 x6 x7 x10 n) x2 x3 x4 x5 x6 x7 x10 x11 S
def X_L_law_L1186 (k : Rw → List Int32 → Option (Int32)) (x2 : Int32) (x3 : Int32) (x4 : Int32) (x5 : Int32) (x6 : Int32) (x7 : Int32) (x12 : Int32) (x13 : Int32) : Nat → Int32 → Rw → List Int32 → Option (Int32)
  | 0, _, _, _ => none
  | n + 1, x15, S, t =>
  if (6 : Int32) ≤ x15 then
  k S t
  else
  (A_thereIn S x15 x7).bind fun u_153 =>
  (wr t x15 u_153.2).bind fun t_155 =>
  X_L_law_L1186 k x2 x3 x4 x5 x6 x7 x12 x13 n (x15 + (1 : Int32)) u_153.1 t_155
def X_L_law_J1341 (x2 : Int32) (x3 : Int32) (x4 : Int32) (x5 : Int32) (x6 : Int32) (S : Rw) (t : List Int32) : Option (Int32) :=
  (A_restore S).bind fun u_159 =>
  if u_159.2 = x3 then
  (A_count u_159.1 (2 : Int32)).bind fun u_161 =>
  if u_161.2 = x4 then
  (A_count u_161.1 (3 : Int32)).bind fun u_163 =>
  if u_163.2 = x5 then
  (A_count u_163.1 (4 : Int32)).bind fun u_165 =>
  if u_165.2 = x6 then
  (A_count u_165.1 (0 : Int32)).bind fun u_167 =>
  if u_167.2 = x2 then
  some 1
  else
  some 0
  else
  some 0
  else
  some 0
  else
  some 0
  else
  some 0
def X_L_law_L1283 (k : Rw → Option (Int32)) (x2 : Int32) (x3 : Int32) (x4 : Int32) (x5 : Int32) (x6 : Int32) (t : List Int32) : Nat → Int32 → Rw → Option (Int32)
  | 0, _, _ => none
  | n + 1, x15, S =>
  if (6 : Int32) ≤ x15 then
  k S
  else
  (A_good S x15 (0 : Int32)).bind fun u_179 =>
  (rd t x15).bind fun v_181 =>
  if u_179.2 = v_181 then
  X_L_law_L1283 k x2 x3 x4 x5 x6 t n (x15 + (1 : Int32)) u_179.1
  else
  some 0
def X_L_law_J1313 (x2 : Int32) (x3 : Int32) (x4 : Int32) (x5 : Int32) (x6 : Int32) (S : Rw) (t : List Int32) : Option (Int32) :=
  (A_back S).bind fun u_184 =>
  if u_184.2 < (0 : Int32) then
  some 0
  else
  (A_count u_184.1 (1 : Int32)).bind fun u_186 =>
  if u_186.2 = x3 then
  (A_count u_186.1 (3 : Int32)).bind fun u_188 =>
  if u_188.2 = x5 then
  X_L_law_J1341 x2 x3 x4 x5 x6 u_188.1 t
  else
  some 0
  else
  some 0
def X_L_law_J1280 (x2 : Int32) (x3 : Int32) (x4 : Int32) (x5 : Int32) (x6 : Int32) (S : Rw) (t : List Int32) : Option (Int32) :=
  X_L_law_L1283 (fun S_183 =>
  X_L_law_J1313 x2 x3 x4 x5 x6 S_183 t) x2 x3 x4 x5 x6 t 1000 (0 : Int32) S
def X_L_law_J1236 (x2 : Int32) (x3 : Int32) (x4 : Int32) (x5 : Int32) (x6 : Int32) (x7 : Int32) (x12 : Int32) (x13 : Int32) (S : Rw) (t : List Int32) : Option (Int32) :=
  (A_count S (3 : Int32)).bind fun u_173 =>
  if u_173.2 = x12 then
  (A_count u_173.1 (2 : Int32)).bind fun u_175 =>
  if u_175.2 = x13 then
  if (x5 &&& (x12 ^^^ (-1 : Int32))) = (0 : Int32) then
  (A_count u_175.1 (1 : Int32)).bind fun u_177 =>
  if u_177.2 = (x3 + x7) then
  X_L_law_J1280 x2 x3 x4 x5 x6 u_177.1 t
  else
  some 0
  else
  some 0
  else
  some 0
  else
  some 0
def X_L_law_J1212 (x2 : Int32) (x3 : Int32) (x4 : Int32) (x5 : Int32) (x6 : Int32) (x7 : Int32) (x12 : Int32) (x13 : Int32) (S : Rw) (t : List Int32) : Option (Int32) :=
  if (999 : Int32) < (x3 + x7) then
  X_L_law_J1341 x2 x3 x4 x5 x6 S t
  else
  (A_days S x7).bind fun u_169 =>
  (J6_bitCount_0f7a4 x12).bind fun u_171 =>
  if u_169.2 = u_171 then
  X_L_law_J1236 x2 x3 x4 x5 x6 x7 x12 x13 u_169.1 t
  else
  some 0
def X_L_law_J1159 (x2 : Int32) (x3 : Int32) (x4 : Int32) (x5 : Int32) (x6 : Int32) (x7 : Int32) (S : Rw) : Option (Int32) :=
  (A_then S x7 (1 : Int32)).bind fun u_148 =>
  (A_then u_148.1 x7 (0 : Int32)).bind fun u_150 =>
  X_L_law_L1186 (fun S_157 t_158 =>
  X_L_law_J1212 x2 x3 x4 x5 x6 x7 u_148.2 u_150.2 S_157 t_158) x2 x3 x4 x5 x6 x7 u_148.2 u_150.2 1000 (0 : Int32) u_150.1 (List.replicate 6 (0 : Int32))
def X_L_law_J1132 (x2 : Int32) (x3 : Int32) (x4 : Int32) (x5 : Int32) (x6 : Int32) (x7 : Int32) (S : Rw) : Option (Int32) :=
  (A_filled S).bind fun u_146 =>
  if u_146.2 = (0 : Int32) then
  if x6 = (0 : Int32) then
  X_L_law_J1159 x2 x3 x4 x5 x6 x7 u_146.1
  else
  some 0
  else
  if x6 = (0 : Int32) then
  some 0
  else
  X_L_law_J1159 x2 x3 x4 x5 x6 x7 u_146.1
def X_L_law_J1113 (x2 : Int32) (x3 : Int32) (x4 : Int32) (x5 : Int32) (x6 : Int32) (x7 : Int32) (x11 : Int32) (S : Rw) : Option (Int32) :=
  if x11 < (0 : Int32) then
  X_L_law_J1132 x2 x3 x4 x5 x6 x7 S
  else
  (A_bare S (1 : Int32)).bind fun u_190 =>
  (A_thereIn u_190.1 x11 u_190.2).bind fun u_192 =>
  if u_192.2 = (0 : Int32) then
  X_L_law_J1132 x2 x3 x4 x5 x6 x7 u_192.1
  else
  some 0
def X_L_law_J1106 (x2 : Int32) (x3 : Int32) (x4 : Int32) (x5 : Int32) (x6 : Int32) (x7 : Int32) (S : Rw) : Option (Int32) :=
  (A_bare S (0 : Int32)).bind fun u_144 =>
  X_L_law_J1113 x2 x3 x4 x5 x6 x7 u_144.2 u_144.1
def X_L_law_J981 (x2 : Int32) (x3 : Int32) (x4 : Int32) (x5 : Int32) (x6 : Int32) (x7 : Int32) (S : Rw) : Option (Int32) :=
  (A_comes S (-1 : Int32)).bind fun u_129 =>
  X_L_law_L991 (fun S_143 =>
  X_L_law_J1106 x2 x3 x4 x5 x6 x7 S_143) x2 x3 x4 x5 x6 x7 u_129.2 1000 (0 : Int32) u_129.1
def X_L_law_J417 (x2 : Int32) (x3 : Int32) (x4 : Int32) (x5 : Int32) (x6 : Int32) (x7 : Int32) (x8 : Int32) (S : Rw) : Option (Int32) :=
  X_L_law_L420 (fun S_128 =>
  X_L_law_J981 x2 x3 x4 x5 x6 x7 S_128) x2 x3 x4 x5 x6 x7 x8 1000 (0 : Int32) S
def X_L_law_J148 (L : Nat) (xs : Nat → Int32) (x2 : Int32) (x3 : Int32) (x4 : Int32) (x5 : Int32) (x6 : Int32) (x7 : Int32) (x8 : Int32) (S : Rw) : Option (Int32) :=
  X_L_law_L154 (fun y9_67 S_68 =>
  if y9_67 = x6 then
  X_L_law_J417 x2 x3 x4 x5 x6 x7 x8 S_68
  else
  some 0) L xs x2 x3 x4 x5 x6 x7 x8 1000 (0 : Int32) (0 : Int32) S
def X_L_law_J86 (L : Nat) (xs : Nat → Int32) (x2 : Int32) (x3 : Int32) (x4 : Int32) (x5 : Int32) (x6 : Int32) (x7 : Int32) (x8 : Int32) (S : Rw) : Option (Int32) :=
  (A_shut S).bind fun u_19 =>
  if (u_19.2 &&& x8) = (0 : Int32) then
  (A_want u_19.1 (0 : Int32)).bind fun u_21 =>
  if u_21.2 = x6 then
  (A_want u_21.1 x7).bind fun u_23 =>
  (A_want u_23.1 (x7 - (1 : Int32))).bind fun u_25 =>
  if u_23.2 < u_25.2 then
  some 0
  else
  (A_tide u_25.1 (0 : Int32)).bind fun u_27 =>
  if (4 : Int32) < u_27.2 then
  some 0
  else
  (A_tide u_27.1 (8 : Int32)).bind fun u_29 =>
  (A_tide u_29.1 (0 : Int32)).bind fun u_31 =>
  if u_29.2 = u_31.2 then
  X_L_law_J148 L xs x2 x3 x4 x5 x6 x7 x8 u_31.1
  else
  some 0
  else
  some 0
  else
  some 0
def X_L_law_J15 (L : Nat) (xs : Nat → Int32) (S : Rw) : Option (Int32) :=
  (A_count S (0 : Int32)).bind fun u_1 =>
  (A_count u_1.1 (1 : Int32)).bind fun u_3 =>
  (A_count u_3.1 (2 : Int32)).bind fun u_5 =>
  (A_count u_5.1 (3 : Int32)).bind fun u_7 =>
  (A_count u_7.1 (4 : Int32)).bind fun u_9 =>
  (X_L_cell L xs (22 : Int32)).bind fun u_11 =>
  (L_pick u_11 (30 : Int32)).bind fun u_13 =>
  (A_image u_9.1).bind fun u_15 =>
  (A_then u_15.1 (1 : Int32) (1 : Int32)).bind fun u_17 =>
  if (u_7.2 &&& (u_17.2 ^^^ (-1 : Int32))) = (0 : Int32) then
  X_L_law_J86 L xs u_1.2 u_3.2 u_5.2 u_7.2 u_9.2 ((1 : Int32) + u_13) u_17.2 u_17.1
  else
  some 0
set_option maxRecDepth 100000 in
set_option maxHeartbeats 4000000 in
theorem j_L_law_J402 {p : Program} {l : Launch} {e : Jvm.Env} {s : State} {m : MethodId} {below : List Frame} {meth : Method} {c : Code} {G : Gx} {a : Aw} {bs L : Nat} {xs : Nat → Int32} {x2 : Int32} {x3 : Int32} {x4 : Int32} {x5 : Int32} {x6 : Int32} {x7 : Int32} {x8 : Int32} (C : Cx p s m #[.ref bs] meth c cL_law RL 17 (some .boolean) G) (hX : va_X bs L xs s s.heap) (hbl : bs < s.heap.size) (hbA : ¬ (fun q : Nat => s.heap.size ≤ q) bs) {k : Int32 → Rw → Option (Int32)} {r : Int32 → Int32 → Rw → Option (Int32)} (hk : ∀ (y9 : Int32) (S : Rw), k y9 S = some (1 : Int32) → ∀ (H : Heap) (locs : List Loc), St G (fun q : Nat => s.heap.size ≤ q) s.heap H locs (wR G a S) → ∀ ls : Array Slot, lv_has ls 17 [(1, .ref (a.1 0)), (2, .int x2), (3, .int x3), (4, .int x4), (5, .int x5), (6, .int x6), (7, .int x7), (8, .int x8), (9, .int y9)] → W p l e room_1 s m #[.ref bs] below meth c H locs 5000 50000 (lw_Z below #[Value.ref bs] s) (F0 m 408 ls [])) (hr : ∀ (v9 : Int32) (v10 : Int32) (S : Rw), r v9 v10 S = some (1 : Int32) → ∀ (H : Heap) (locs : List Loc), St G (fun q : Nat => s.heap.size ≤ q) s.heap H locs (wR G a S) → ∀ ls : Array Slot, lv_has ls 17 [(0, .ref bs), (1, .ref (a.1 0)), (2, .int x2), (3, .int x3), (4, .int x4), (5, .int x5), (6, .int x6), (7, .int x7), (8, .int x8), (9, .int v9), (10, .int v10)] → W p l e room_1 s m #[.ref bs] below meth c H locs 5000 50000 (lw_Z below #[Value.ref bs] s) (F0 m 154 ls [])) : ∀ (x9 : Int32) (x10 : Int32) (S : Rw), X_L_law_J402 L xs k r x2 x3 x4 x5 x6 x7 x8 x9 x10 S = some (1 : Int32) → ∀ (H : Heap) (locs : List Loc), St G (fun q : Nat => s.heap.size ≤ q) s.heap H locs (wR G a S) → ∀ ls : Array Slot, lv_has ls 17 [(0, .ref bs), (1, .ref (a.1 0)), (2, .int x2), (3, .int x3), (4, .int x4), (5, .int x5), (6, .int x6), (7, .int x7), (8, .int x8), (9, .int x9), (10, .int x10)] → W p l e room_1 s m #[.ref bs] below meth c H locs 5000 50000 (lw_Z below #[Value.ref bs] s) (F0 m 402 ls []) := by
  obtain ⟨hx, hb, hml, hown, hts, hK, hret, hlk⟩ := id C
  intro x9 x10 S hf H locs hs ls hl
  unfold X_L_law_J402 at hf
  refine lv_iinc (v := (x10 + (1 : Int32))) (lv' := [(10, .int (x10 + (1 : Int32))), (0, .ref bs), (1, .ref (a.1 0)), (2, .int x2), (3, .int x3), (4, .int x4), (5, .int x5), (6, .int x6), (7, .int x7), (8, .int x8), (9, .int x9)]) hx hb (dk hL_law_5 18 rfl) hl (k := 10) rfl (by first | rfl | decide) (by decide) rfl (fun ls hl => ?_)
  refine lv_goto (tgt := 154) hx hb (dk hL_law_5 19 rfl) (by decide) ?_
  exact hr _ _ _ hf _ _ hs _ (lv_sub hl [1, 2, 3, 4, 5, 6, 7, 8, 9, 10, 0] rfl)
set_option maxRecDepth 100000 in
set_option maxHeartbeats 4000000 in
theorem j_L_law_J309 {p : Program} {l : Launch} {e : Jvm.Env} {s : State} {m : MethodId} {below : List Frame} {meth : Method} {c : Code} {G : Gx} {a : Aw} {bs L : Nat} {xs : Nat → Int32} {x2 : Int32} {x3 : Int32} {x4 : Int32} {x5 : Int32} {x6 : Int32} {x7 : Int32} {x8 : Int32} (C : Cx p s m #[.ref bs] meth c cL_law RL 17 (some .boolean) G) (hX : va_X bs L xs s s.heap) (hbl : bs < s.heap.size) (hbA : ¬ (fun q : Nat => s.heap.size ≤ q) bs) {k : Int32 → Rw → Option (Int32)} {r : Int32 → Int32 → Rw → Option (Int32)} (hk : ∀ (y9 : Int32) (S : Rw), k y9 S = some (1 : Int32) → ∀ (H : Heap) (locs : List Loc), St G (fun q : Nat => s.heap.size ≤ q) s.heap H locs (wR G a S) → ∀ ls : Array Slot, lv_has ls 17 [(1, .ref (a.1 0)), (2, .int x2), (3, .int x3), (4, .int x4), (5, .int x5), (6, .int x6), (7, .int x7), (8, .int x8), (9, .int y9)] → W p l e room_1 s m #[.ref bs] below meth c H locs 5000 50000 (lw_Z below #[Value.ref bs] s) (F0 m 408 ls [])) (hr : ∀ (v9 : Int32) (v10 : Int32) (S : Rw), r v9 v10 S = some (1 : Int32) → ∀ (H : Heap) (locs : List Loc), St G (fun q : Nat => s.heap.size ≤ q) s.heap H locs (wR G a S) → ∀ ls : Array Slot, lv_has ls 17 [(0, .ref bs), (1, .ref (a.1 0)), (2, .int x2), (3, .int x3), (4, .int x4), (5, .int x5), (6, .int x6), (7, .int x7), (8, .int x8), (9, .int v9), (10, .int v10)] → W p l e room_1 s m #[.ref bs] below meth c H locs 5000 50000 (lw_Z below #[Value.ref bs] s) (F0 m 154 ls [])) : ∀ (x9 : Int32) (x10 : Int32) (x11 : Int32) (x12 : Int32) (x13 : Int32) (x14 : Int32) (S : Rw), X_L_law_J309 L xs k r x2 x3 x4 x5 x6 x7 x8 x9 x10 x11 x12 x13 x14 S = some (1 : Int32) → ∀ (H : Heap) (locs : List Loc), St G (fun q : Nat => s.heap.size ≤ q) s.heap H locs (wR G a S) → ∀ ls : Array Slot, lv_has ls 17 [(0, .ref bs), (1, .ref (a.1 0)), (2, .int x2), (3, .int x3), (4, .int x4), (5, .int x5), (6, .int x6), (7, .int x7), (8, .int x8), (9, .int x9), (10, .int x10), (11, .int x11), (12, .int x12), (13, .int x13), (14, .int x14)] → W p l e room_1 s m #[.ref bs] below meth c H locs 5000 50000 (lw_Z below #[Value.ref bs] s) (F0 m 309 ls []) := by
  obtain ⟨hx, hb, hml, hown, hts, hK, hret, hlk⟩ := id C
  intro x9 x10 x11 x12 x13 x14 S hf H locs hs ls hl
  unfold X_L_law_J309 at hf
  refine lv_aload_n hx hb (dk hL_law_4 10 rfl) rfl (lv_at hl 1 rfl) ?_
  refine lv_iload hx hb (dk hL_law_4 11 rfl) (lv_at hl 10 rfl) ?_
  refine lv_iload hx hb (dk hL_law_4 12 rfl) (lv_at hl 14 rfl) ?_
  obtain ⟨u_49, e_50, hf⟩ := Option.bind_eq_some_iff.mp hf
  refine Ct.V (As := [.int x10, .int x14]) (rest := []) (st1 := [.int u_49.2]) (w1 := (wR G a u_49.1)) C hs (a_hides e_50) tw_228 tw_229 tw_230 tw_17 tw_231 nq_X4_hides (by decide) 0 4 rfl rfl rfl rfl hl.1 rfl (Nat.le_of_ble_eq_true rfl) (dk hL_law_4 13 rfl) ⟨by show 5000 ≤ 600000; omega, by show 50000 ≤ 7302250; omega⟩ rfl (fun H locs hs => ?_)
  refine lv_istore (lv' := [(15, .int u_49.2), (0, .ref bs), (1, .ref (a.1 0)), (2, .int x2), (3, .int x3), (4, .int x4), (5, .int x5), (6, .int x6), (7, .int x7), (8, .int x8), (9, .int x9), (10, .int x10), (11, .int x11), (12, .int x12), (13, .int x13), (14, .int x14)]) hx hb (dk hL_law_4 14 rfl) hl (by decide) rfl (fun ls hl => ?_)
  refine lv_iload hx hb (dk hL_law_4 15 rfl) (lv_at hl 0 rfl) ?_
  refine lv_iload hx hb (dk hL_law_4 16 rfl) (lv_at hl 12 rfl) ?_
  refine lv_iload hx hb (dk hL_law_4 17 rfl) (lv_at hl 15 rfl) ?_
  refine lv_isub hx hb (dk hL_law_4 18 rfl) ?_
  refine lv_icmp_ne (tgt := 400) hx hb (dk hL_law_4 19 rfl) (by decide) (fun hc => ?_) (fun hc => ?_)
  · replace hf := in_ hf hc
    refine lv_iconst (v := (0 : Int32)) hx hb (dk hL_law_5 16 rfl) (by decide) ?_
    exact absurd hf (by decide)
  · replace hf := ip hf hc
    refine lv_aload_n hx hb (dk hL_law_4 20 rfl) rfl (lv_at hl 2 rfl) ?_
    refine lv_iload hx hb (dk hL_law_4 21 rfl) (lv_at hl 11 rfl) ?_
    refine lv_iconst (v := (3 : Int32)) hx hb (dk hL_law_4 22 rfl) (by decide) ?_
    obtain ⟨u_51, e_52, hf⟩ := Option.bind_eq_some_iff.mp hf
    refine Ct.V (As := [.int x10, .int (3 : Int32)]) (rest := []) (st1 := [.int u_51.2]) (w1 := (wR G a u_51.1)) C hs (a_good e_52) tw_159 tw_160 tw_161 tw_17 tw_162 nq_X4_good (by decide) 0 4 rfl rfl rfl rfl hl.1 rfl (Nat.le_of_ble_eq_true rfl) (dk hL_law_4 23 rfl) ⟨by show 5000 ≤ 600000; omega, by show 50000 ≤ 7302250; omega⟩ rfl (fun H locs hs => ?_)
    refine lv_iload hx hb (dk hL_law_4 24 rfl) (lv_at hl 13 rfl) ?_
    refine lv_icmp_lt (tgt := 400) hx hb (dk hL_law_4 25 rfl) (by decide) (fun hc => ?_) (fun hc => ?_)
    · replace hf := ip hf hc
      refine lv_iconst (v := (0 : Int32)) hx hb (dk hL_law_5 16 rfl) (by decide) ?_
      exact absurd hf (by decide)
    · replace hf := in_ hf hc
      refine lv_aload_n hx hb (dk hL_law_4 26 rfl) rfl (lv_at hl 2 rfl) ?_
      refine lv_iload hx hb (dk hL_law_4 27 rfl) (lv_at hl 11 rfl) ?_
      refine lv_iconst (v := (2 : Int32)) hx hb (dk hL_law_4 28 rfl) (by decide) ?_
      obtain ⟨u_53, e_54, hf⟩ := Option.bind_eq_some_iff.mp hf
      refine Ct.V (As := [.int x10, .int (2 : Int32)]) (rest := []) (st1 := [.int u_53.2]) (w1 := (wR G a u_53.1)) C hs (a_good e_54) tw_159 tw_160 tw_161 tw_17 tw_162 nq_X4_good (by decide) 0 4 rfl rfl rfl rfl hl.1 rfl (Nat.le_of_ble_eq_true rfl) (dk hL_law_4 29 rfl) ⟨by show 5000 ≤ 600000; omega, by show 50000 ≤ 7302250; omega⟩ rfl (fun H locs hs => ?_)
      refine lv_iload hx hb (dk hL_law_4 30 rfl) (lv_at hl 14 rfl) ?_
      refine lv_iload hx hb (dk hL_law_4 31 rfl) (lv_at hl 15 rfl) ?_
      refine lv_iadd hx hb (dk hL_law_4 32 rfl) ?_
      refine lv_icmp_ne (tgt := 400) hx hb (dk hL_law_4 33 rfl) (by decide) (fun hc => ?_) (fun hc => ?_)
      · replace hf := in_ hf hc
        refine lv_iconst (v := (0 : Int32)) hx hb (dk hL_law_5 16 rfl) (by decide) ?_
        exact absurd hf (by decide)
      · replace hf := ip hf hc
        refine lv_aload_n hx hb (dk hL_law_4 34 rfl) rfl (lv_at hl 2 rfl) ?_
        refine lv_iconst (v := (4 : Int32)) hx hb (dk hL_law_4 35 rfl) (by decide) ?_
        obtain ⟨u_55, e_56, hf⟩ := Option.bind_eq_some_iff.mp hf
        refine Ct.V (As := [.int (4 : Int32)]) (rest := []) (st1 := [.int u_55.2]) (w1 := (wR G a u_55.1)) C hs (a_count e_56) tw_438 tw_439 tw_440 tw_17 tw_441 nq_X4_count (by decide) 0 4 rfl rfl rfl rfl hl.1 rfl (Nat.le_of_ble_eq_true rfl) (dk hL_law_4 36 rfl) ⟨by show 5000 ≤ 600000; omega, by show 50000 ≤ 7302250; omega⟩ rfl (fun H locs hs => ?_)
        refine lv_iload hx hb (dk hL_law_4 37 rfl) (lv_at hl 7 rfl) ?_
        refine lv_icmp_lt (tgt := 400) hx hb (dk hL_law_4 38 rfl) (by decide) (fun hc => ?_) (fun hc => ?_)
        · replace hf := ip hf hc
          refine lv_iconst (v := (0 : Int32)) hx hb (dk hL_law_5 16 rfl) (by decide) ?_
          exact absurd hf (by decide)
        · replace hf := in_ hf hc
          refine lv_aload_n hx hb (dk hL_law_4 39 rfl) rfl (lv_at hl 2 rfl) ?_
          refine lv_iload hx hb (dk hL_law_5 0 rfl) (lv_at hl 11 rfl) ?_
          refine lv_iload hx hb (dk hL_law_5 1 rfl) (lv_at hl 15 rfl) ?_
          refine lv_ineg hx hb (dk hL_law_5 2 rfl) ?_
          obtain ⟨u_57, e_58, hf⟩ := Option.bind_eq_some_iff.mp hf
          refine Ct.V (As := [.int x10, .int (-x14)]) (rest := []) (st1 := [.int u_57.2]) (w1 := (wR G a u_57.1)) C hs (a_hides e_58) tw_228 tw_229 tw_230 tw_17 tw_231 nq_X4_hides (by decide) 0 4 rfl rfl rfl rfl hl.1 rfl (Nat.le_of_ble_eq_true rfl) (dk hL_law_5 3 rfl) ⟨by show 5000 ≤ 600000; omega, by show 50000 ≤ 7302250; omega⟩ rfl (fun H locs hs => ?_)
          refine lv_iload hx hb (dk hL_law_5 4 rfl) (lv_at hl 12 rfl) ?_
          refine lv_icmp_ne (tgt := 400) hx hb (dk hL_law_5 5 rfl) (by decide) (fun hc => ?_) (fun hc => ?_)
          · replace hf := in_ hf hc
            refine lv_iconst (v := (0 : Int32)) hx hb (dk hL_law_5 16 rfl) (by decide) ?_
            exact absurd hf (by decide)
          · replace hf := ip hf hc
            refine lv_aload_n hx hb (dk hL_law_5 6 rfl) rfl (lv_at hl 2 rfl) ?_
            refine lv_iload hx hb (dk hL_law_5 7 rfl) (lv_at hl 11 rfl) ?_
            refine lv_iconst (v := (3 : Int32)) hx hb (dk hL_law_5 8 rfl) (by decide) ?_
            obtain ⟨u_59, e_60, hf⟩ := Option.bind_eq_some_iff.mp hf
            refine Ct.V (As := [.int x10, .int (3 : Int32)]) (rest := []) (st1 := [.int u_59.2]) (w1 := (wR G a u_59.1)) C hs (a_good e_60) tw_159 tw_160 tw_161 tw_17 tw_162 nq_X4_good (by decide) 0 4 rfl rfl rfl rfl hl.1 rfl (Nat.le_of_ble_eq_true rfl) (dk hL_law_5 9 rfl) ⟨by show 5000 ≤ 600000; omega, by show 50000 ≤ 7302250; omega⟩ rfl (fun H locs hs => ?_)
            refine lv_iload hx hb (dk hL_law_5 10 rfl) (lv_at hl 13 rfl) ?_
            refine lv_icmp_ne (tgt := 400) hx hb (dk hL_law_5 11 rfl) (by decide) (fun hc => ?_) (fun hc => ?_)
            · replace hf := in_ hf hc
              refine lv_iconst (v := (0 : Int32)) hx hb (dk hL_law_5 16 rfl) (by decide) ?_
              exact absurd hf (by decide)
            · replace hf := ip hf hc
              refine lv_aload_n hx hb (dk hL_law_5 12 rfl) rfl (lv_at hl 2 rfl) ?_
              obtain ⟨u_61, e_62, hf⟩ := Option.bind_eq_some_iff.mp hf
              refine Ct.V (As := []) (rest := []) (st1 := [.int u_61.2]) (w1 := (wR G a u_61.1)) C hs (a_restore e_62) tw_430 tw_431 tw_432 tw_17 tw_433 nq_X4_restore (by decide) 0 4 rfl rfl rfl rfl hl.1 rfl (Nat.le_of_ble_eq_true rfl) (dk hL_law_5 13 rfl) ⟨by show 5000 ≤ 600000; omega, by show 50000 ≤ 7302250; omega⟩ rfl (fun H locs hs => ?_)
              refine lv_iload_n hx hb (dk hL_law_5 14 rfl) rfl (lv_at hl 4 rfl) ?_
              refine lv_icmp_eq (tgt := 402) hx hb (dk hL_law_5 15 rfl) (by decide) (fun hc => ?_) (fun hc => ?_)
              · replace hf := ip hf hc
                exact j_L_law_J402 C hX hbl hbA hk hr _ _ _ hf _ _ hs _ (lv_sub hl [1, 2, 3, 4, 5, 6, 7, 8, 9, 10, 11] rfl)
              · replace hf := in_ hf hc
                refine lv_iconst (v := (0 : Int32)) hx hb (dk hL_law_5 16 rfl) (by decide) ?_
                exact absurd hf (by decide)
set_option maxRecDepth 100000 in
set_option maxHeartbeats 4000000 in
theorem j_L_law_J281 {p : Program} {l : Launch} {e : Jvm.Env} {s : State} {m : MethodId} {below : List Frame} {meth : Method} {c : Code} {G : Gx} {a : Aw} {bs L : Nat} {xs : Nat → Int32} {x2 : Int32} {x3 : Int32} {x4 : Int32} {x5 : Int32} {x6 : Int32} {x7 : Int32} {x8 : Int32} (C : Cx p s m #[.ref bs] meth c cL_law RL 17 (some .boolean) G) (hX : va_X bs L xs s s.heap) (hbl : bs < s.heap.size) (hbA : ¬ (fun q : Nat => s.heap.size ≤ q) bs) {k : Int32 → Rw → Option (Int32)} {r : Int32 → Int32 → Rw → Option (Int32)} (hk : ∀ (y9 : Int32) (S : Rw), k y9 S = some (1 : Int32) → ∀ (H : Heap) (locs : List Loc), St G (fun q : Nat => s.heap.size ≤ q) s.heap H locs (wR G a S) → ∀ ls : Array Slot, lv_has ls 17 [(1, .ref (a.1 0)), (2, .int x2), (3, .int x3), (4, .int x4), (5, .int x5), (6, .int x6), (7, .int x7), (8, .int x8), (9, .int y9)] → W p l e room_1 s m #[.ref bs] below meth c H locs 5000 50000 (lw_Z below #[Value.ref bs] s) (F0 m 408 ls [])) (hr : ∀ (v9 : Int32) (v10 : Int32) (S : Rw), r v9 v10 S = some (1 : Int32) → ∀ (H : Heap) (locs : List Loc), St G (fun q : Nat => s.heap.size ≤ q) s.heap H locs (wR G a S) → ∀ ls : Array Slot, lv_has ls 17 [(0, .ref bs), (1, .ref (a.1 0)), (2, .int x2), (3, .int x3), (4, .int x4), (5, .int x5), (6, .int x6), (7, .int x7), (8, .int x8), (9, .int v9), (10, .int v10)] → W p l e room_1 s m #[.ref bs] below meth c H locs 5000 50000 (lw_Z below #[Value.ref bs] s) (F0 m 154 ls [])) : ∀ (x9 : Int32) (x10 : Int32) (x11 : Int32) (x12 : Int32) (x13 : Int32) (S : Rw), X_L_law_J281 L xs k r x2 x3 x4 x5 x6 x7 x8 x9 x10 x11 x12 x13 S = some (1 : Int32) → ∀ (H : Heap) (locs : List Loc), St G (fun q : Nat => s.heap.size ≤ q) s.heap H locs (wR G a S) → ∀ ls : Array Slot, lv_has ls 17 [(0, .ref bs), (1, .ref (a.1 0)), (2, .int x2), (3, .int x3), (4, .int x4), (5, .int x5), (6, .int x6), (7, .int x7), (8, .int x8), (9, .int x9), (10, .int x10), (11, .int x11), (12, .int x12), (13, .int x13)] → W p l e room_1 s m #[.ref bs] below meth c H locs 5000 50000 (lw_Z below #[Value.ref bs] s) (F0 m 281 ls []) := by
  obtain ⟨hx, hb, hml, hown, hts, hK, hret, hlk⟩ := id C
  intro x9 x10 x11 x12 x13 S hf H locs hs ls hl
  unfold X_L_law_J281 at hf
  refine lv_aload_n hx hb (dk hL_law_3 35 rfl) rfl (lv_at hl 0 rfl) ?_
  refine lv_bipush (v := (23 : Int32)) hx hb (dk hL_law_3 36 rfl) (by decide) ?_
  refine lv_iload hx hb (dk hL_law_3 37 rfl) (lv_at hl 10 rfl) ?_
  refine lv_iadd hx hb (dk hL_law_3 38 rfl) ?_
  obtain ⟨u_45, e_46, hf⟩ := Option.bind_eq_some_iff.mp hf
  refine Cg.S (As := [.ref bs, .int ((23 : Int32) + x10)]) (rest := []) (st1 := [.int u_45]) (w1 := (wR G a S)) (cells1 := 5000) (slots1 := 50000) C hX hbl hbA hs (c_L_cell e_46) tw_446 tw_447 tw_16 tw_448 nq_L_cell (by decide) rfl hl.1 rfl (Nat.le_of_ble_eq_true rfl) (dk hL_law_3 39 rfl) rfl rfl ⟨by show 5000 ≤ 600000; omega, by show 50000 ≤ 7302250; omega⟩ rfl (fun H locs hs => ?_)
  refine lv_iload hx hb (dk hL_law_4 0 rfl) (lv_at hl 11 rfl) ?_
  refine lv_iconst (v := (1 : Int32)) hx hb (dk hL_law_4 1 rfl) (by decide) ?_
  refine lv_iadd hx hb (dk hL_law_4 2 rfl) ?_
  obtain ⟨u_47, e_48, hf⟩ := Option.bind_eq_some_iff.mp hf
  refine Ct.S (As := [.int u_45, .int (x11 + (1 : Int32))]) (rest := []) (st1 := [.int u_47]) (w1 := (wR G a S)) C hs (c_L_pick e_48) tw_449 tw_450 tw_16 tw_451 nq_L_pick (by decide) rfl hl.1 rfl (Nat.le_of_ble_eq_true rfl) (dk hL_law_4 3 rfl) ⟨by show 5000 ≤ 600000; omega, by show 50000 ≤ 7302250; omega⟩ rfl (fun H locs hs => ?_)
  refine lv_istore (lv' := [(14, .int u_47), (0, .ref bs), (1, .ref (a.1 0)), (2, .int x2), (3, .int x3), (4, .int x4), (5, .int x5), (6, .int x6), (7, .int x7), (8, .int x8), (9, .int x9), (10, .int x10), (11, .int x11), (12, .int x12), (13, .int x13)]) hx hb (dk hL_law_4 4 rfl) hl (by decide) rfl (fun ls hl => ?_)
  refine lv_iload hx hb (dk hL_law_4 5 rfl) (lv_at hl 14 rfl) ?_
  refine lv_iload hx hb (dk hL_law_4 6 rfl) (lv_at hl 0 rfl) ?_
  refine lv_iadd hx hb (dk hL_law_4 7 rfl) ?_
  refine lv_bipush (v := (99 : Int32)) hx hb (dk hL_law_4 8 rfl) (by decide) ?_
  refine lv_icmp_gt (tgt := 402) hx hb (dk hL_law_4 9 rfl) (by decide) (fun hc => ?_) (fun hc => ?_)
  · replace hf := ip hf hc
    exact j_L_law_J402 C hX hbl hbA hk hr _ _ _ hf _ _ hs _ (lv_sub hl [1, 2, 3, 4, 5, 6, 7, 8, 9, 10, 11] rfl)
  · replace hf := in_ hf hc
    exact j_L_law_J309 C hX hbl hbA hk hr _ _ _ _ _ _ _ hf _ _ hs _ (lv_sub hl [1, 2, 3, 4, 5, 6, 7, 8, 9, 10, 11, 12, 13, 14, 0] rfl)
set_option maxRecDepth 100000 in
set_option maxHeartbeats 4000000 in
theorem j_L_law_J238 {p : Program} {l : Launch} {e : Jvm.Env} {s : State} {m : MethodId} {below : List Frame} {meth : Method} {c : Code} {G : Gx} {a : Aw} {bs L : Nat} {xs : Nat → Int32} {x2 : Int32} {x3 : Int32} {x4 : Int32} {x5 : Int32} {x6 : Int32} {x7 : Int32} {x8 : Int32} (C : Cx p s m #[.ref bs] meth c cL_law RL 17 (some .boolean) G) (hX : va_X bs L xs s s.heap) (hbl : bs < s.heap.size) (hbA : ¬ (fun q : Nat => s.heap.size ≤ q) bs) {k : Int32 → Rw → Option (Int32)} {r : Int32 → Int32 → Rw → Option (Int32)} (hk : ∀ (y9 : Int32) (S : Rw), k y9 S = some (1 : Int32) → ∀ (H : Heap) (locs : List Loc), St G (fun q : Nat => s.heap.size ≤ q) s.heap H locs (wR G a S) → ∀ ls : Array Slot, lv_has ls 17 [(1, .ref (a.1 0)), (2, .int x2), (3, .int x3), (4, .int x4), (5, .int x5), (6, .int x6), (7, .int x7), (8, .int x8), (9, .int y9)] → W p l e room_1 s m #[.ref bs] below meth c H locs 5000 50000 (lw_Z below #[Value.ref bs] s) (F0 m 408 ls [])) (hr : ∀ (v9 : Int32) (v10 : Int32) (S : Rw), r v9 v10 S = some (1 : Int32) → ∀ (H : Heap) (locs : List Loc), St G (fun q : Nat => s.heap.size ≤ q) s.heap H locs (wR G a S) → ∀ ls : Array Slot, lv_has ls 17 [(0, .ref bs), (1, .ref (a.1 0)), (2, .int x2), (3, .int x3), (4, .int x4), (5, .int x5), (6, .int x6), (7, .int x7), (8, .int x8), (9, .int v9), (10, .int v10)] → W p l e room_1 s m #[.ref bs] below meth c H locs 5000 50000 (lw_Z below #[Value.ref bs] s) (F0 m 154 ls [])) : ∀ (x9 : Int32) (x10 : Int32) (x11 : Int32) (x12 : Int32) (x13 : Int32) (S : Rw), X_L_law_J238 L xs k r x2 x3 x4 x5 x6 x7 x8 x9 x10 x11 x12 x13 S = some (1 : Int32) → ∀ (H : Heap) (locs : List Loc), St G (fun q : Nat => s.heap.size ≤ q) s.heap H locs (wR G a S) → ∀ ls : Array Slot, lv_has ls 17 [(0, .ref bs), (1, .ref (a.1 0)), (2, .int x2), (3, .int x3), (4, .int x4), (5, .int x5), (6, .int x6), (7, .int x7), (8, .int x8), (9, .int x9), (10, .int x10), (11, .int x11), (12, .int x12), (13, .int x13)] → W p l e room_1 s m #[.ref bs] below meth c H locs 5000 50000 (lw_Z below #[Value.ref bs] s) (F0 m 238 ls []) := by
  obtain ⟨hx, hb, hml, hown, hts, hK, hret, hlk⟩ := id C
  intro x9 x10 x11 x12 x13 S hf H locs hs ls hl
  unfold X_L_law_J238 at hf
  refine lv_iload hx hb (dk hL_law_3 11 rfl) (lv_at hl 12 rfl) ?_
  refine lv_aload_n hx hb (dk hL_law_3 12 rfl) rfl (lv_at hl 1 rfl) ?_
  refine lv_iconst (v := (2 : Int32)) hx hb (dk hL_law_3 13 rfl) (by decide) ?_
  obtain ⟨u_39, e_40, hf⟩ := Option.bind_eq_some_iff.mp hf
  refine Ct.V (As := [.int (2 : Int32)]) (rest := [.int x12]) (st1 := [.int u_39.2, .int x12]) (w1 := (wR G a u_39.1)) C hs (a_deepest e_40) tw_394 tw_395 tw_396 tw_17 tw_397 nq_X4_deepest (by decide) 0 4 rfl rfl rfl rfl hl.1 rfl (Nat.le_of_ble_eq_true rfl) (dk hL_law_3 14 rfl) ⟨by show 5000 ≤ 600000; omega, by show 50000 ≤ 7302250; omega⟩ rfl (fun H locs hs => ?_)
  refine lv_icmp_gt (tgt := 279) hx hb (dk hL_law_3 15 rfl) (by decide) (fun hc => ?_) (fun hc => ?_)
  · replace hf := ip hf hc
    refine lv_iconst (v := (0 : Int32)) hx hb (dk hL_law_3 33 rfl) (by decide) ?_
    exact absurd hf (by decide)
  · replace hf := in_ hf hc
    refine lv_aload_n hx hb (dk hL_law_3 16 rfl) rfl (lv_at hl 1 rfl) ?_
    refine lv_iload hx hb (dk hL_law_3 17 rfl) (lv_at hl 10 rfl) ?_
    refine lv_iconst (v := (0 : Int32)) hx hb (dk hL_law_3 18 rfl) (by decide) ?_
    obtain ⟨u_41, e_42, hf⟩ := Option.bind_eq_some_iff.mp hf
    refine Ct.V (As := [.int x10, .int (0 : Int32)]) (rest := []) (st1 := [.int u_41.2]) (w1 := (wR G a u_41.1)) C hs (a_thereIn e_42) tw_308 tw_309 tw_310 tw_17 tw_311 nq_X4_thereIn (by decide) 0 4 rfl rfl rfl rfl hl.1 rfl (Nat.le_of_ble_eq_true rfl) (dk hL_law_3 19 rfl) ⟨by show 5000 ≤ 600000; omega, by show 50000 ≤ 7302250; omega⟩ rfl (fun H locs hs => ?_)
    refine lv_iload hx hb (dk hL_law_3 20 rfl) (lv_at hl 11 rfl) ?_
    refine lv_icmp_ne (tgt := 279) hx hb (dk hL_law_3 21 rfl) (by decide) (fun hc => ?_) (fun hc => ?_)
    · replace hf := in_ hf hc
      refine lv_iconst (v := (0 : Int32)) hx hb (dk hL_law_3 33 rfl) (by decide) ?_
      exact absurd hf (by decide)
    · replace hf := ip hf hc
      refine lv_aload_n hx hb (dk hL_law_3 22 rfl) rfl (lv_at hl 1 rfl) ?_
      refine lv_iconst (v := (3 : Int32)) hx hb (dk hL_law_3 23 rfl) (by decide) ?_
      obtain ⟨u_43, e_44, hf⟩ := Option.bind_eq_some_iff.mp hf
      refine Ct.V (As := [.int (3 : Int32)]) (rest := []) (st1 := [.int u_43.2]) (w1 := (wR G a u_43.1)) C hs (a_deepest e_44) tw_394 tw_395 tw_396 tw_17 tw_397 nq_X4_deepest (by decide) 0 4 rfl rfl rfl rfl hl.1 rfl (Nat.le_of_ble_eq_true rfl) (dk hL_law_3 24 rfl) ⟨by show 5000 ≤ 600000; omega, by show 50000 ≤ 7302250; omega⟩ rfl (fun H locs hs => ?_)
      refine lv_iload hx hb (dk hL_law_3 25 rfl) (lv_at hl 10 rfl) ?_
      refine lv_ishr hx hb (dk hL_law_3 26 rfl) ?_
      refine lv_iconst (v := (1 : Int32)) hx hb (dk hL_law_3 27 rfl) (by decide) ?_
      refine lv_iand hx hb (dk hL_law_3 28 rfl) ?_
      refine lv_iconst (v := (1 : Int32)) hx hb (dk hL_law_3 29 rfl) (by decide) ?_
      refine lv_icmp_ne (tgt := 281) hx hb (dk hL_law_3 30 rfl) (by decide) (fun hc => ?_) (fun hc => ?_)
      · replace hf := in_ hf hc
        exact j_L_law_J281 C hX hbl hbA hk hr _ _ _ _ _ _ hf _ _ hs _ (lv_sub hl [0, 1, 2, 3, 4, 5, 6, 7, 8, 9, 10, 11, 12, 13] rfl)
      · replace hf := ip hf hc
        refine lv_iload hx hb (dk hL_law_3 31 rfl) (lv_at hl 12 rfl) ?_
        refine lv_if_le (tgt := 281) hx hb (dk hL_law_3 32 rfl) (by decide) (fun hc => ?_) (fun hc => ?_)
        · replace hf := ip hf hc
          exact j_L_law_J281 C hX hbl hbA hk hr _ _ _ _ _ _ hf _ _ hs _ (lv_sub hl [0, 1, 2, 3, 4, 5, 6, 7, 8, 9, 10, 11, 12, 13] rfl)
        · replace hf := in_ hf hc
          refine lv_iconst (v := (0 : Int32)) hx hb (dk hL_law_3 33 rfl) (by decide) ?_
          exact absurd hf (by decide)
set_option maxRecDepth 100000 in
set_option maxHeartbeats 4000000 in
theorem j_L_law_J218 {p : Program} {l : Launch} {e : Jvm.Env} {s : State} {m : MethodId} {below : List Frame} {meth : Method} {c : Code} {G : Gx} {a : Aw} {bs L : Nat} {xs : Nat → Int32} {x2 : Int32} {x3 : Int32} {x4 : Int32} {x5 : Int32} {x6 : Int32} {x7 : Int32} {x8 : Int32} (C : Cx p s m #[.ref bs] meth c cL_law RL 17 (some .boolean) G) (hX : va_X bs L xs s s.heap) (hbl : bs < s.heap.size) (hbA : ¬ (fun q : Nat => s.heap.size ≤ q) bs) {k : Int32 → Rw → Option (Int32)} {r : Int32 → Int32 → Rw → Option (Int32)} (hk : ∀ (y9 : Int32) (S : Rw), k y9 S = some (1 : Int32) → ∀ (H : Heap) (locs : List Loc), St G (fun q : Nat => s.heap.size ≤ q) s.heap H locs (wR G a S) → ∀ ls : Array Slot, lv_has ls 17 [(1, .ref (a.1 0)), (2, .int x2), (3, .int x3), (4, .int x4), (5, .int x5), (6, .int x6), (7, .int x7), (8, .int x8), (9, .int y9)] → W p l e room_1 s m #[.ref bs] below meth c H locs 5000 50000 (lw_Z below #[Value.ref bs] s) (F0 m 408 ls [])) (hr : ∀ (v9 : Int32) (v10 : Int32) (S : Rw), r v9 v10 S = some (1 : Int32) → ∀ (H : Heap) (locs : List Loc), St G (fun q : Nat => s.heap.size ≤ q) s.heap H locs (wR G a S) → ∀ ls : Array Slot, lv_has ls 17 [(0, .ref bs), (1, .ref (a.1 0)), (2, .int x2), (3, .int x3), (4, .int x4), (5, .int x5), (6, .int x6), (7, .int x7), (8, .int x8), (9, .int v9), (10, .int v10)] → W p l e room_1 s m #[.ref bs] below meth c H locs 5000 50000 (lw_Z below #[Value.ref bs] s) (F0 m 154 ls [])) : ∀ (x9 : Int32) (x10 : Int32) (x11 : Int32) (x12 : Int32) (x13 : Int32) (S : Rw), X_L_law_J218 L xs k r x2 x3 x4 x5 x6 x7 x8 x9 x10 x11 x12 x13 S = some (1 : Int32) → ∀ (H : Heap) (locs : List Loc), St G (fun q : Nat => s.heap.size ≤ q) s.heap H locs (wR G a S) → ∀ ls : Array Slot, lv_has ls 17 [(0, .ref bs), (1, .ref (a.1 0)), (2, .int x2), (3, .int x3), (4, .int x4), (5, .int x5), (6, .int x6), (7, .int x7), (8, .int x8), (9, .int x9), (10, .int x10), (11, .int x11), (12, .int x12), (13, .int x13)] → W p l e room_1 s m #[.ref bs] below meth c H locs 5000 50000 (lw_Z below #[Value.ref bs] s) (F0 m 218 ls []) := by
  obtain ⟨hx, hb, hml, hown, hts, hK, hret, hlk⟩ := id C
  intro x9 x10 x11 x12 x13 S hf H locs hs ls hl
  unfold X_L_law_J218 at hf
  refine lv_iload hx hb (dk hL_law_3 1 rfl) (lv_at hl 12 rfl) ?_
  refine lv_if_ne (tgt := 238) hx hb (dk hL_law_3 2 rfl) (by decide) (fun hc => ?_) (fun hc => ?_)
  · replace hf := in_ hf hc
    exact j_L_law_J238 C hX hbl hbA hk hr _ _ _ _ _ _ hf _ _ hs _ (lv_sub hl [0, 1, 2, 3, 4, 5, 6, 7, 8, 9, 10, 11, 12, 13] rfl)
  · replace hf := ip hf hc
    refine lv_iload hx hb (dk hL_law_3 3 rfl) (lv_at hl 11 rfl) ?_
    refine lv_bipush (v := (7 : Int32)) hx hb (dk hL_law_3 4 rfl) (by decide) ?_
    refine lv_aload_n hx hb (dk hL_law_3 5 rfl) rfl (lv_at hl 1 rfl) ?_
    refine lv_iload hx hb (dk hL_law_3 6 rfl) (lv_at hl 10 rfl) ?_
    refine lv_iconst (v := (1 : Int32)) hx hb (dk hL_law_3 7 rfl) (by decide) ?_
    obtain ⟨u_63, e_64, hf⟩ := Option.bind_eq_some_iff.mp hf
    refine Ct.V (As := [.int x10, .int (1 : Int32)]) (rest := [.int (7 : Int32), .int x11]) (st1 := [.int u_63.2, .int (7 : Int32), .int x11]) (w1 := (wR G a u_63.1)) C hs (a_good e_64) tw_159 tw_160 tw_161 tw_17 tw_162 nq_X4_good (by decide) 0 4 rfl rfl rfl rfl hl.1 rfl (Nat.le_of_ble_eq_true rfl) (dk hL_law_3 8 rfl) ⟨by show 5000 ≤ 600000; omega, by show 50000 ≤ 7302250; omega⟩ rfl (fun H locs hs => ?_)
    refine lv_imul hx hb (dk hL_law_3 9 rfl) ?_
    refine lv_icmp_lt (tgt := 279) hx hb (dk hL_law_3 10 rfl) (by decide) (fun hc => ?_) (fun hc => ?_)
    · replace hf := ip hf hc
      refine lv_iconst (v := (0 : Int32)) hx hb (dk hL_law_3 33 rfl) (by decide) ?_
      exact absurd hf (by decide)
    · replace hf := in_ hf hc
      exact j_L_law_J238 C hX hbl hbA hk hr _ _ _ _ _ _ hf _ _ hs _ (lv_sub hl [0, 1, 2, 3, 4, 5, 6, 7, 8, 9, 10, 11, 12, 13] rfl)
set_option maxRecDepth 100000 in
set_option maxHeartbeats 4000000 in
theorem j_L_law_J195 {p : Program} {l : Launch} {e : Jvm.Env} {s : State} {m : MethodId} {below : List Frame} {meth : Method} {c : Code} {G : Gx} {a : Aw} {bs L : Nat} {xs : Nat → Int32} {x2 : Int32} {x3 : Int32} {x4 : Int32} {x5 : Int32} {x6 : Int32} {x7 : Int32} {x8 : Int32} (C : Cx p s m #[.ref bs] meth c cL_law RL 17 (some .boolean) G) (hX : va_X bs L xs s s.heap) (hbl : bs < s.heap.size) (hbA : ¬ (fun q : Nat => s.heap.size ≤ q) bs) {k : Int32 → Rw → Option (Int32)} {r : Int32 → Int32 → Rw → Option (Int32)} (hk : ∀ (y9 : Int32) (S : Rw), k y9 S = some (1 : Int32) → ∀ (H : Heap) (locs : List Loc), St G (fun q : Nat => s.heap.size ≤ q) s.heap H locs (wR G a S) → ∀ ls : Array Slot, lv_has ls 17 [(1, .ref (a.1 0)), (2, .int x2), (3, .int x3), (4, .int x4), (5, .int x5), (6, .int x6), (7, .int x7), (8, .int x8), (9, .int y9)] → W p l e room_1 s m #[.ref bs] below meth c H locs 5000 50000 (lw_Z below #[Value.ref bs] s) (F0 m 408 ls [])) (hr : ∀ (v9 : Int32) (v10 : Int32) (S : Rw), r v9 v10 S = some (1 : Int32) → ∀ (H : Heap) (locs : List Loc), St G (fun q : Nat => s.heap.size ≤ q) s.heap H locs (wR G a S) → ∀ ls : Array Slot, lv_has ls 17 [(0, .ref bs), (1, .ref (a.1 0)), (2, .int x2), (3, .int x3), (4, .int x4), (5, .int x5), (6, .int x6), (7, .int x7), (8, .int x8), (9, .int v9), (10, .int v10)] → W p l e room_1 s m #[.ref bs] below meth c H locs 5000 50000 (lw_Z below #[Value.ref bs] s) (F0 m 154 ls [])) : ∀ (x9 : Int32) (x10 : Int32) (x11 : Int32) (x12 : Int32) (x13 : Int32) (S : Rw), X_L_law_J195 L xs k r x2 x3 x4 x5 x6 x7 x8 x9 x10 x11 x12 x13 S = some (1 : Int32) → ∀ (H : Heap) (locs : List Loc), St G (fun q : Nat => s.heap.size ≤ q) s.heap H locs (wR G a S) → ∀ ls : Array Slot, lv_has ls 17 [(0, .ref bs), (1, .ref (a.1 0)), (2, .int x2), (3, .int x3), (4, .int x4), (5, .int x5), (6, .int x6), (7, .int x7), (8, .int x8), (9, .int x9), (10, .int x10), (11, .int x11), (12, .int x12), (13, .int x13)] → W p l e room_1 s m #[.ref bs] below meth c H locs 5000 50000 (lw_Z below #[Value.ref bs] s) (F0 m 195 ls []) := by
  obtain ⟨hx, hb, hml, hown, hts, hK, hret, hlk⟩ := id C
  intro x9 x10 x11 x12 x13 S hf H locs hs ls hl
  unfold X_L_law_J195 at hf
  refine lv_iload hx hb (dk hL_law_2 29 rfl) (lv_at hl 12 rfl) ?_
  refine lv_if_le (tgt := 218) hx hb (dk hL_law_2 30 rfl) (by decide) (fun hc => ?_) (fun hc => ?_)
  · replace hf := ip hf hc
    exact j_L_law_J218 C hX hbl hbA hk hr _ _ _ _ _ _ hf _ _ hs _ (lv_sub hl [0, 1, 2, 3, 4, 5, 6, 7, 8, 9, 10, 11, 12, 13] rfl)
  · replace hf := in_ hf hc
    refine lv_iload hx hb (dk hL_law_2 31 rfl) (lv_at hl 12 rfl) ?_
    refine lv_iload hx hb (dk hL_law_2 32 rfl) (lv_at hl 11 rfl) ?_
    refine lv_iadd hx hb (dk hL_law_2 33 rfl) ?_
    refine lv_bipush (v := (7 : Int32)) hx hb (dk hL_law_2 34 rfl) (by decide) ?_
    refine lv_aload_n hx hb (dk hL_law_2 35 rfl) rfl (lv_at hl 1 rfl) ?_
    refine lv_iload hx hb (dk hL_law_2 36 rfl) (lv_at hl 10 rfl) ?_
    refine lv_iconst (v := (1 : Int32)) hx hb (dk hL_law_2 37 rfl) (by decide) ?_
    obtain ⟨u_65, e_66, hf⟩ := Option.bind_eq_some_iff.mp hf
    refine Ct.V (As := [.int x10, .int (1 : Int32)]) (rest := [.int (7 : Int32), .int (x12 + x11)]) (st1 := [.int u_65.2, .int (7 : Int32), .int (x12 + x11)]) (w1 := (wR G a u_65.1)) C hs (a_good e_66) tw_159 tw_160 tw_161 tw_17 tw_162 nq_X4_good (by decide) 0 4 rfl rfl rfl rfl hl.1 rfl (Nat.le_of_ble_eq_true rfl) (dk hL_law_2 38 rfl) ⟨by show 5000 ≤ 600000; omega, by show 50000 ≤ 7302250; omega⟩ rfl (fun H locs hs => ?_)
    refine lv_imul hx hb (dk hL_law_2 39 rfl) ?_
    refine lv_icmp_ne (tgt := 279) hx hb (dk hL_law_3 0 rfl) (by decide) (fun hc => ?_) (fun hc => ?_)
    · replace hf := in_ hf hc
      refine lv_iconst (v := (0 : Int32)) hx hb (dk hL_law_3 33 rfl) (by decide) ?_
      exact absurd hf (by decide)
    · replace hf := ip hf hc
      exact j_L_law_J218 C hX hbl hbA hk hr _ _ _ _ _ _ hf _ _ hs _ (lv_sub hl [0, 1, 2, 3, 4, 5, 6, 7, 8, 9, 10, 11, 12, 13] rfl)
set_option maxRecDepth 100000 in
set_option maxHeartbeats 4000000 in
theorem l_L_law_L154 {p : Program} {l : Launch} {e : Jvm.Env} {s : State} {m : MethodId} {below : List Frame} {meth : Method} {c : Code} {G : Gx} {a : Aw} {bs L : Nat} {xs : Nat → Int32} {x2 : Int32} {x3 : Int32} {x4 : Int32} {x5 : Int32} {x6 : Int32} {x7 : Int32} {x8 : Int32} (C : Cx p s m #[.ref bs] meth c cL_law RL 17 (some .boolean) G) (hX : va_X bs L xs s s.heap) (hbl : bs < s.heap.size) (hbA : ¬ (fun q : Nat => s.heap.size ≤ q) bs) {k : Int32 → Rw → Option (Int32)} (hk : ∀ (y9 : Int32) (S : Rw), k y9 S = some (1 : Int32) → ∀ (H : Heap) (locs : List Loc), St G (fun q : Nat => s.heap.size ≤ q) s.heap H locs (wR G a S) → ∀ ls : Array Slot, lv_has ls 17 [(1, .ref (a.1 0)), (2, .int x2), (3, .int x3), (4, .int x4), (5, .int x5), (6, .int x6), (7, .int x7), (8, .int x8), (9, .int y9)] → W p l e room_1 s m #[.ref bs] below meth c H locs 5000 50000 (lw_Z below #[Value.ref bs] s) (F0 m 408 ls [])) : ∀ (n : Nat) (x9 : Int32) (x10 : Int32) (S : Rw), X_L_law_L154 k L xs x2 x3 x4 x5 x6 x7 x8 n x9 x10 S = some (1 : Int32) → ∀ (H : Heap) (locs : List Loc), St G (fun q : Nat => s.heap.size ≤ q) s.heap H locs (wR G a S) → ∀ ls : Array Slot, lv_has ls 17 [(0, .ref bs), (1, .ref (a.1 0)), (2, .int x2), (3, .int x3), (4, .int x4), (5, .int x5), (6, .int x6), (7, .int x7), (8, .int x8), (9, .int x9), (10, .int x10)] → W p l e room_1 s m #[.ref bs] below meth c H locs 5000 50000 (lw_Z below #[Value.ref bs] s) (F0 m 154 ls []) := by
  obtain ⟨hx, hb, hml, hown, hts, hK, hret, hlk⟩ := id C
  intro n
  induction n with
  | zero => intro x9 x10 S hf; cases hf
  | succ n ih =>
    intro x9 x10 S hf H locs hs ls hl
    rw [X_L_law_L154] at hf
    refine lv_iload hx hb (dk hL_law_2 7 rfl) (lv_at hl 10 rfl) ?_
    refine lv_bipush (v := (6 : Int32)) hx hb (dk hL_law_2 8 rfl) (by decide) ?_
    refine lv_icmp_ge (tgt := 408) hx hb (dk hL_law_2 9 rfl) (by decide) (fun hc => ?_) (fun hc => ?_)
    · replace hf := ip hf hc
      exact hk _ _ hf _ _ hs _ (lv_sub hl [1, 2, 3, 4, 5, 6, 7, 8, 9] rfl)
    · replace hf := in_ hf hc
      refine lv_aload_n hx hb (dk hL_law_2 10 rfl) rfl (lv_at hl 1 rfl) ?_
      refine lv_iload hx hb (dk hL_law_2 11 rfl) (lv_at hl 10 rfl) ?_
      refine lv_iconst (v := (0 : Int32)) hx hb (dk hL_law_2 12 rfl) (by decide) ?_
      obtain ⟨u_33, e_34, hf⟩ := Option.bind_eq_some_iff.mp hf
      refine Ct.V (As := [.int x10, .int (0 : Int32)]) (rest := []) (st1 := [.int u_33.2]) (w1 := (wR G a u_33.1)) C hs (a_good e_34) tw_159 tw_160 tw_161 tw_17 tw_162 nq_X4_good (by decide) 0 4 rfl rfl rfl rfl hl.1 rfl (Nat.le_of_ble_eq_true rfl) (dk hL_law_2 13 rfl) ⟨by show 5000 ≤ 600000; omega, by show 50000 ≤ 7302250; omega⟩ rfl (fun H locs hs => ?_)
      refine lv_istore (lv' := [(11, .int u_33.2), (0, .ref bs), (1, .ref (a.1 0)), (2, .int x2), (3, .int x3), (4, .int x4), (5, .int x5), (6, .int x6), (7, .int x7), (8, .int x8), (9, .int x9), (10, .int x10)]) hx hb (dk hL_law_2 14 rfl) hl (by decide) rfl (fun ls hl => ?_)
      refine lv_aload_n hx hb (dk hL_law_2 15 rfl) rfl (lv_at hl 2 rfl) ?_
      refine lv_iload hx hb (dk hL_law_2 16 rfl) (lv_at hl 11 rfl) ?_
      refine lv_iconst (v := (3 : Int32)) hx hb (dk hL_law_2 17 rfl) (by decide) ?_
      obtain ⟨u_35, e_36, hf⟩ := Option.bind_eq_some_iff.mp hf
      refine Ct.V (As := [.int x10, .int (3 : Int32)]) (rest := []) (st1 := [.int u_35.2]) (w1 := (wR G a u_35.1)) C hs (a_good e_36) tw_159 tw_160 tw_161 tw_17 tw_162 nq_X4_good (by decide) 0 4 rfl rfl rfl rfl hl.1 rfl (Nat.le_of_ble_eq_true rfl) (dk hL_law_2 18 rfl) ⟨by show 5000 ≤ 600000; omega, by show 50000 ≤ 7302250; omega⟩ rfl (fun H locs hs => ?_)
      refine lv_istore (lv' := [(12, .int u_35.2), (11, .int u_33.2), (0, .ref bs), (1, .ref (a.1 0)), (2, .int x2), (3, .int x3), (4, .int x4), (5, .int x5), (6, .int x6), (7, .int x7), (8, .int x8), (9, .int x9), (10, .int x10)]) hx hb (dk hL_law_2 19 rfl) hl (by decide) rfl (fun ls hl => ?_)
      refine lv_aload_n hx hb (dk hL_law_2 20 rfl) rfl (lv_at hl 3 rfl) ?_
      refine lv_iload hx hb (dk hL_law_2 21 rfl) (lv_at hl 12 rfl) ?_
      refine lv_iconst (v := (2 : Int32)) hx hb (dk hL_law_2 22 rfl) (by decide) ?_
      obtain ⟨u_37, e_38, hf⟩ := Option.bind_eq_some_iff.mp hf
      refine Ct.V (As := [.int x10, .int (2 : Int32)]) (rest := []) (st1 := [.int u_37.2]) (w1 := (wR G a u_37.1)) C hs (a_good e_38) tw_159 tw_160 tw_161 tw_17 tw_162 nq_X4_good (by decide) 0 4 rfl rfl rfl rfl hl.1 rfl (Nat.le_of_ble_eq_true rfl) (dk hL_law_2 23 rfl) ⟨by show 5000 ≤ 600000; omega, by show 50000 ≤ 7302250; omega⟩ rfl (fun H locs hs => ?_)
      refine lv_istore (lv' := [(13, .int u_37.2), (12, .int u_35.2), (11, .int u_33.2), (0, .ref bs), (1, .ref (a.1 0)), (2, .int x2), (3, .int x3), (4, .int x4), (5, .int x5), (6, .int x6), (7, .int x7), (8, .int x8), (9, .int x9), (10, .int x10)]) hx hb (dk hL_law_2 24 rfl) hl (by decide) rfl (fun ls hl => ?_)
      refine lv_iload hx hb (dk hL_law_2 25 rfl) (lv_at hl 12 rfl) ?_
      refine lv_iload hx hb (dk hL_law_2 26 rfl) (lv_at hl 1 rfl) ?_
      refine lv_iadd hx hb (dk hL_law_2 27 rfl) ?_
      refine lv_istore (lv' := [(9, .int (x9 + u_35.2)), (13, .int u_37.2), (12, .int u_35.2), (11, .int u_33.2), (0, .ref bs), (1, .ref (a.1 0)), (2, .int x2), (3, .int x3), (4, .int x4), (5, .int x5), (6, .int x6), (7, .int x7), (8, .int x8), (10, .int x10)]) hx hb (dk hL_law_2 28 rfl) hl (by decide) rfl (fun ls hl => ?_)
      exact j_L_law_J195 C hX hbl hbA hk (fun v0 v1 v2 hf => ih v0 v1 v2 hf) _ _ _ _ _ _ hf _ _ hs _ (lv_sub hl [4, 5, 6, 7, 8, 9, 10, 11, 12, 0, 13, 3, 2, 1] rfl)
set_option maxRecDepth 100000 in
set_option maxHeartbeats 4000000 in
theorem j_L_law_J866 {p : Program} {l : Launch} {e : Jvm.Env} {s : State} {m : MethodId} {below : List Frame} {meth : Method} {c : Code} {G : Gx} {a : Aw} {bs L : Nat} {xs : Nat → Int32} {x2 : Int32} {x3 : Int32} {x4 : Int32} {x5 : Int32} {x6 : Int32} {x7 : Int32} {x8 : Int32} {x10 : Int32} {x11 : Int32} {x14 : Int32} (C : Cx p s m #[.ref bs] meth c cL_law RL 17 (some .boolean) G) (hX : va_X bs L xs s s.heap) (hbl : bs < s.heap.size) (hbA : ¬ (fun q : Nat => s.heap.size ≤ q) bs) {k : Rw → Option (Int32)} {r : Int32 → Rw → Option (Int32)} (hk : ∀ (S : Rw), k S = some (1 : Int32) → ∀ (H : Heap) (locs : List Loc), St G (fun q : Nat => s.heap.size ≤ q) s.heap H locs (wR G a S) → ∀ ls : Array Slot, lv_has ls 17 [(1, .ref (a.1 0)), (2, .int x2), (3, .int x3), (4, .int x4), (5, .int x5), (6, .int x6), (7, .int x7), (8, .int x8), (10, .int x10), (11, .int x11)] → W p l e room_1 s m #[.ref bs] below meth c H locs 5000 50000 (lw_Z below #[Value.ref bs] s) (F0 m 933 ls [])) (hr : ∀ (v15 : Int32) (S : Rw), r v15 S = some (1 : Int32) → ∀ (H : Heap) (locs : List Loc), St G (fun q : Nat => s.heap.size ≤ q) s.heap H locs (wR G a S) → ∀ ls : Array Slot, lv_has ls 17 [(1, .ref (a.1 0)), (2, .int x2), (3, .int x3), (4, .int x4), (5, .int x5), (6, .int x6), (7, .int x7), (8, .int x8), (10, .int x10), (11, .int x11), (14, .int x14), (15, .int v15)] → W p l e room_1 s m #[.ref bs] below meth c H locs 5000 50000 (lw_Z below #[Value.ref bs] s) (F0 m 776 ls [])) : ∀ (x15 : Int32) (x16 : Int32) (S : Rw), X_L_law_J866 k r x2 x3 x4 x5 x6 x7 x8 x10 x11 x14 x15 x16 S = some (1 : Int32) → ∀ (H : Heap) (locs : List Loc), St G (fun q : Nat => s.heap.size ≤ q) s.heap H locs (wR G a S) → ∀ ls : Array Slot, lv_has ls 17 [(1, .ref (a.1 0)), (2, .int x2), (3, .int x3), (4, .int x4), (5, .int x5), (6, .int x6), (7, .int x7), (8, .int x8), (10, .int x10), (11, .int x11), (14, .int x14), (15, .int x15), (16, .int x16)] → W p l e room_1 s m #[.ref bs] below meth c H locs 5000 50000 (lw_Z below #[Value.ref bs] s) (F0 m 866 ls []) := by
  obtain ⟨hx, hb, hml, hown, hts, hK, hret, hlk⟩ := id C
  intro x15 x16 S hf H locs hs ls hl
  unfold X_L_law_J866 at hf
  refine lv_iload hx hb (dk hL_law_11 24 rfl) (lv_at hl 12 rfl) ?_
  refine lv_if_le (tgt := 927) hx hb (dk hL_law_11 25 rfl) (by decide) (fun hc => ?_) (fun hc => ?_)
  · replace hf := ip hf hc
    refine lv_iinc (v := (x15 + (1 : Int32))) (lv' := [(15, .int (x15 + (1 : Int32))), (1, .ref (a.1 0)), (2, .int x2), (3, .int x3), (4, .int x4), (5, .int x5), (6, .int x6), (7, .int x7), (8, .int x8), (10, .int x10), (11, .int x11), (14, .int x14), (16, .int x16)]) hx hb (dk hL_law_12 14 rfl) hl (k := 11) rfl (by first | rfl | decide) (by decide) rfl (fun ls hl => ?_)
    refine lv_goto (tgt := 776) hx hb (dk hL_law_12 15 rfl) (by decide) ?_
    exact hr _ _ hf _ _ hs _ (lv_sub hl [1, 2, 3, 4, 5, 6, 7, 8, 9, 10, 11, 0] rfl)
  · replace hf := in_ hf hc
    refine lv_aload_n hx hb (dk hL_law_11 26 rfl) rfl (lv_at hl 0 rfl) ?_
    refine lv_iload hx hb (dk hL_law_11 27 rfl) (lv_at hl 11 rfl) ?_
    refine lv_iconst (v := (2 : Int32)) hx hb (dk hL_law_11 28 rfl) (by decide) ?_
    obtain ⟨u_87, e_88, hf⟩ := Option.bind_eq_some_iff.mp hf
    refine Ct.V (As := [.int x15, .int (2 : Int32)]) (rest := []) (st1 := [.int u_87.2]) (w1 := (wR G a u_87.1)) C hs (a_good e_88) tw_159 tw_160 tw_161 tw_17 tw_162 nq_X4_good (by decide) 0 4 rfl rfl rfl rfl hl.1 rfl (Nat.le_of_ble_eq_true rfl) (dk hL_law_11 29 rfl) ⟨by show 5000 ≤ 600000; omega, by show 50000 ≤ 7302250; omega⟩ rfl (fun H locs hs => ?_)
    refine lv_iload hx hb (dk hL_law_11 30 rfl) (lv_at hl 12 rfl) ?_
    refine lv_iadd hx hb (dk hL_law_11 31 rfl) ?_
    refine lv_bipush (v := (99 : Int32)) hx hb (dk hL_law_11 32 rfl) (by decide) ?_
    refine lv_icmp_gt (tgt := 927) hx hb (dk hL_law_11 33 rfl) (by decide) (fun hc => ?_) (fun hc => ?_)
    · replace hf := ip hf hc
      refine lv_iinc (v := (x15 + (1 : Int32))) (lv' := [(15, .int (x15 + (1 : Int32))), (1, .ref (a.1 0)), (2, .int x2), (3, .int x3), (4, .int x4), (5, .int x5), (6, .int x6), (7, .int x7), (8, .int x8), (10, .int x10), (11, .int x11), (14, .int x14), (16, .int x16)]) hx hb (dk hL_law_12 14 rfl) hl (k := 11) rfl (by first | rfl | decide) (by decide) rfl (fun ls hl => ?_)
      refine lv_goto (tgt := 776) hx hb (dk hL_law_12 15 rfl) (by decide) ?_
      exact hr _ _ hf _ _ hs _ (lv_sub hl [1, 2, 3, 4, 5, 6, 7, 8, 9, 10, 11, 0] rfl)
    · replace hf := in_ hf hc
      refine lv_aload_n hx hb (dk hL_law_11 34 rfl) rfl (lv_at hl 0 rfl) ?_
      refine lv_iload hx hb (dk hL_law_11 35 rfl) (lv_at hl 11 rfl) ?_
      refine lv_iload hx hb (dk hL_law_11 36 rfl) (lv_at hl 12 rfl) ?_
      obtain ⟨u_89, e_90, hf⟩ := Option.bind_eq_some_iff.mp hf
      refine Ct.V (As := [.int x15, .int x16]) (rest := []) (st1 := [.int u_89.2]) (w1 := (wR G a u_89.1)) C hs (a_hides e_90) tw_228 tw_229 tw_230 tw_17 tw_231 nq_X4_hides (by decide) 0 4 rfl rfl rfl rfl hl.1 rfl (Nat.le_of_ble_eq_true rfl) (dk hL_law_11 37 rfl) ⟨by show 5000 ≤ 600000; omega, by show 50000 ≤ 7302250; omega⟩ rfl (fun H locs hs => ?_)
      refine lv_if_lt (tgt := 925) hx hb (dk hL_law_11 38 rfl) (by decide) (fun hc => ?_) (fun hc => ?_)
      · replace hf := ip hf hc
        refine lv_iconst (v := (0 : Int32)) hx hb (dk hL_law_12 12 rfl) (by decide) ?_
        exact absurd hf (by decide)
      · replace hf := in_ hf hc
        refine lv_aload_n hx hb (dk hL_law_11 39 rfl) rfl (lv_at hl 0 rfl) ?_
        refine lv_iload hx hb (dk hL_law_12 0 rfl) (lv_at hl 8 rfl) ?_
        obtain ⟨u_91, e_92, hf⟩ := Option.bind_eq_some_iff.mp hf
        refine Ct.V (As := [.int x10]) (rest := []) (st1 := [.int u_91.2]) (w1 := (wR G a u_91.1)) C hs (a_comes e_92) tw_321 tw_322 tw_323 tw_17 tw_324 nq_X4_comes (by decide) 0 4 rfl rfl rfl rfl hl.1 rfl (Nat.le_of_ble_eq_true rfl) (dk hL_law_12 1 rfl) ⟨by show 5000 ≤ 600000; omega, by show 50000 ≤ 7302250; omega⟩ rfl (fun H locs hs => ?_)
        refine lv_if_lt (tgt := 925) hx hb (dk hL_law_12 2 rfl) (by decide) (fun hc => ?_) (fun hc => ?_)
        · replace hf := ip hf hc
          refine lv_iconst (v := (0 : Int32)) hx hb (dk hL_law_12 12 rfl) (by decide) ?_
          exact absurd hf (by decide)
        · replace hf := in_ hf hc
          refine lv_aload_n hx hb (dk hL_law_12 3 rfl) rfl (lv_at hl 0 rfl) ?_
          refine lv_iload hx hb (dk hL_law_12 4 rfl) (lv_at hl 8 rfl) ?_
          obtain ⟨u_93, e_94, hf⟩ := Option.bind_eq_some_iff.mp hf
          refine Ct.V (As := [.int x10]) (rest := []) (st1 := [.int u_93.2]) (w1 := (wR G a u_93.1)) C hs (a_comes e_94) tw_321 tw_322 tw_323 tw_17 tw_324 nq_X4_comes (by decide) 0 4 rfl rfl rfl rfl hl.1 rfl (Nat.le_of_ble_eq_true rfl) (dk hL_law_12 5 rfl) ⟨by show 5000 ≤ 600000; omega, by show 50000 ≤ 7302250; omega⟩ rfl (fun H locs hs => ?_)
          refine lv_iload hx hb (dk hL_law_12 6 rfl) (lv_at hl 6 rfl) ?_
          refine lv_icmp_gt (tgt := 925) hx hb (dk hL_law_12 7 rfl) (by decide) (fun hc => ?_) (fun hc => ?_)
          · replace hf := ip hf hc
            refine lv_iconst (v := (0 : Int32)) hx hb (dk hL_law_12 12 rfl) (by decide) ?_
            exact absurd hf (by decide)
          · replace hf := in_ hf hc
            refine lv_aload_n hx hb (dk hL_law_12 8 rfl) rfl (lv_at hl 0 rfl) ?_
            obtain ⟨u_95, e_96, hf⟩ := Option.bind_eq_some_iff.mp hf
            refine Ct.V (As := []) (rest := []) (st1 := [.int u_95.2]) (w1 := (wR G a u_95.1)) C hs (a_restore e_96) tw_430 tw_431 tw_432 tw_17 tw_433 nq_X4_restore (by decide) 0 4 rfl rfl rfl rfl hl.1 rfl (Nat.le_of_ble_eq_true rfl) (dk hL_law_12 9 rfl) ⟨by show 5000 ≤ 600000; omega, by show 50000 ≤ 7302250; omega⟩ rfl (fun H locs hs => ?_)
            refine lv_iload_n hx hb (dk hL_law_12 10 rfl) rfl (lv_at hl 2 rfl) ?_
            refine lv_icmp_eq (tgt := 927) hx hb (dk hL_law_12 11 rfl) (by decide) (fun hc => ?_) (fun hc => ?_)
            · replace hf := ip hf hc
              refine lv_iinc (v := (x15 + (1 : Int32))) (lv' := [(15, .int (x15 + (1 : Int32))), (1, .ref (a.1 0)), (2, .int x2), (3, .int x3), (4, .int x4), (5, .int x5), (6, .int x6), (7, .int x7), (8, .int x8), (10, .int x10), (11, .int x11), (14, .int x14), (16, .int x16)]) hx hb (dk hL_law_12 14 rfl) hl (k := 11) rfl (by first | rfl | decide) (by decide) rfl (fun ls hl => ?_)
              refine lv_goto (tgt := 776) hx hb (dk hL_law_12 15 rfl) (by decide) ?_
              exact hr _ _ hf _ _ hs _ (lv_sub hl [1, 2, 3, 4, 5, 6, 7, 8, 9, 10, 11, 0] rfl)
            · replace hf := in_ hf hc
              refine lv_iconst (v := (0 : Int32)) hx hb (dk hL_law_12 12 rfl) (by decide) ?_
              exact absurd hf (by decide)
set_option maxRecDepth 100000 in
set_option maxHeartbeats 4000000 in
theorem j_L_law_J847 {p : Program} {l : Launch} {e : Jvm.Env} {s : State} {m : MethodId} {below : List Frame} {meth : Method} {c : Code} {G : Gx} {a : Aw} {bs L : Nat} {xs : Nat → Int32} {x2 : Int32} {x3 : Int32} {x4 : Int32} {x5 : Int32} {x6 : Int32} {x7 : Int32} {x8 : Int32} {x10 : Int32} {x11 : Int32} {x14 : Int32} (C : Cx p s m #[.ref bs] meth c cL_law RL 17 (some .boolean) G) (hX : va_X bs L xs s s.heap) (hbl : bs < s.heap.size) (hbA : ¬ (fun q : Nat => s.heap.size ≤ q) bs) {k : Rw → Option (Int32)} {r : Int32 → Rw → Option (Int32)} (hk : ∀ (S : Rw), k S = some (1 : Int32) → ∀ (H : Heap) (locs : List Loc), St G (fun q : Nat => s.heap.size ≤ q) s.heap H locs (wR G a S) → ∀ ls : Array Slot, lv_has ls 17 [(1, .ref (a.1 0)), (2, .int x2), (3, .int x3), (4, .int x4), (5, .int x5), (6, .int x6), (7, .int x7), (8, .int x8), (10, .int x10), (11, .int x11)] → W p l e room_1 s m #[.ref bs] below meth c H locs 5000 50000 (lw_Z below #[Value.ref bs] s) (F0 m 933 ls [])) (hr : ∀ (v15 : Int32) (S : Rw), r v15 S = some (1 : Int32) → ∀ (H : Heap) (locs : List Loc), St G (fun q : Nat => s.heap.size ≤ q) s.heap H locs (wR G a S) → ∀ ls : Array Slot, lv_has ls 17 [(1, .ref (a.1 0)), (2, .int x2), (3, .int x3), (4, .int x4), (5, .int x5), (6, .int x6), (7, .int x7), (8, .int x8), (10, .int x10), (11, .int x11), (14, .int x14), (15, .int v15)] → W p l e room_1 s m #[.ref bs] below meth c H locs 5000 50000 (lw_Z below #[Value.ref bs] s) (F0 m 776 ls [])) : ∀ (x15 : Int32) (x16 : Int32) (S : Rw), X_L_law_J847 k r x2 x3 x4 x5 x6 x7 x8 x10 x11 x14 x15 x16 S = some (1 : Int32) → ∀ (H : Heap) (locs : List Loc), St G (fun q : Nat => s.heap.size ≤ q) s.heap H locs (wR G a S) → ∀ ls : Array Slot, lv_has ls 17 [(1, .ref (a.1 0)), (2, .int x2), (3, .int x3), (4, .int x4), (5, .int x5), (6, .int x6), (7, .int x7), (8, .int x8), (10, .int x10), (11, .int x11), (14, .int x14), (15, .int x15), (16, .int x16)] → W p l e room_1 s m #[.ref bs] below meth c H locs 5000 50000 (lw_Z below #[Value.ref bs] s) (F0 m 847 ls []) := by
  obtain ⟨hx, hb, hml, hown, hts, hK, hret, hlk⟩ := id C
  intro x15 x16 S hf H locs hs ls hl
  unfold X_L_law_J847 at hf
  refine lv_iload hx hb (dk hL_law_11 15 rfl) (lv_at hl 12 rfl) ?_
  refine lv_if_ne (tgt := 866) hx hb (dk hL_law_11 16 rfl) (by decide) (fun hc => ?_) (fun hc => ?_)
  · replace hf := in_ hf hc
    exact j_L_law_J866 C hX hbl hbA hk hr _ _ _ hf _ _ hs _ (lv_sub hl [0, 1, 2, 3, 4, 5, 6, 7, 8, 9, 10, 11, 12] rfl)
  · replace hf := ip hf hc
    refine lv_iload hx hb (dk hL_law_11 17 rfl) (lv_at hl 9 rfl) ?_
    refine lv_if_lt (tgt := 864) hx hb (dk hL_law_11 18 rfl) (by decide) (fun hc => ?_) (fun hc => ?_)
    · replace hf := ip hf hc
      refine lv_iconst (v := (0 : Int32)) hx hb (dk hL_law_11 22 rfl) (by decide) ?_
      exact absurd hf (by decide)
    · replace hf := in_ hf hc
      refine lv_iload hx hb (dk hL_law_11 19 rfl) (lv_at hl 9 rfl) ?_
      refine lv_iload hx hb (dk hL_law_11 20 rfl) (lv_at hl 6 rfl) ?_
      refine lv_icmp_le (tgt := 866) hx hb (dk hL_law_11 21 rfl) (by decide) (fun hc => ?_) (fun hc => ?_)
      · replace hf := ip hf hc
        exact j_L_law_J866 C hX hbl hbA hk hr _ _ _ hf _ _ hs _ (lv_sub hl [0, 1, 2, 3, 4, 5, 6, 7, 8, 9, 10, 11, 12] rfl)
      · replace hf := in_ hf hc
        refine lv_iconst (v := (0 : Int32)) hx hb (dk hL_law_11 22 rfl) (by decide) ?_
        exact absurd hf (by decide)
set_option maxRecDepth 100000 in
set_option maxHeartbeats 4000000 in
theorem j_L_law_J830 {p : Program} {l : Launch} {e : Jvm.Env} {s : State} {m : MethodId} {below : List Frame} {meth : Method} {c : Code} {G : Gx} {a : Aw} {bs L : Nat} {xs : Nat → Int32} {x2 : Int32} {x3 : Int32} {x4 : Int32} {x5 : Int32} {x6 : Int32} {x7 : Int32} {x8 : Int32} {x10 : Int32} {x11 : Int32} {x14 : Int32} (C : Cx p s m #[.ref bs] meth c cL_law RL 17 (some .boolean) G) (hX : va_X bs L xs s s.heap) (hbl : bs < s.heap.size) (hbA : ¬ (fun q : Nat => s.heap.size ≤ q) bs) {k : Rw → Option (Int32)} {r : Int32 → Rw → Option (Int32)} (hk : ∀ (S : Rw), k S = some (1 : Int32) → ∀ (H : Heap) (locs : List Loc), St G (fun q : Nat => s.heap.size ≤ q) s.heap H locs (wR G a S) → ∀ ls : Array Slot, lv_has ls 17 [(1, .ref (a.1 0)), (2, .int x2), (3, .int x3), (4, .int x4), (5, .int x5), (6, .int x6), (7, .int x7), (8, .int x8), (10, .int x10), (11, .int x11)] → W p l e room_1 s m #[.ref bs] below meth c H locs 5000 50000 (lw_Z below #[Value.ref bs] s) (F0 m 933 ls [])) (hr : ∀ (v15 : Int32) (S : Rw), r v15 S = some (1 : Int32) → ∀ (H : Heap) (locs : List Loc), St G (fun q : Nat => s.heap.size ≤ q) s.heap H locs (wR G a S) → ∀ ls : Array Slot, lv_has ls 17 [(1, .ref (a.1 0)), (2, .int x2), (3, .int x3), (4, .int x4), (5, .int x5), (6, .int x6), (7, .int x7), (8, .int x8), (10, .int x10), (11, .int x11), (14, .int x14), (15, .int v15)] → W p l e room_1 s m #[.ref bs] below meth c H locs 5000 50000 (lw_Z below #[Value.ref bs] s) (F0 m 776 ls [])) : ∀ (x15 : Int32) (x16 : Int32) (S : Rw), X_L_law_J830 k r x2 x3 x4 x5 x6 x7 x8 x10 x11 x14 x15 x16 S = some (1 : Int32) → ∀ (H : Heap) (locs : List Loc), St G (fun q : Nat => s.heap.size ≤ q) s.heap H locs (wR G a S) → ∀ ls : Array Slot, lv_has ls 17 [(1, .ref (a.1 0)), (2, .int x2), (3, .int x3), (4, .int x4), (5, .int x5), (6, .int x6), (7, .int x7), (8, .int x8), (10, .int x10), (11, .int x11), (14, .int x14), (15, .int x15), (16, .int x16)] → W p l e room_1 s m #[.ref bs] below meth c H locs 5000 50000 (lw_Z below #[Value.ref bs] s) (F0 m 830 ls []) := by
  obtain ⟨hx, hb, hml, hown, hts, hK, hret, hlk⟩ := id C
  intro x15 x16 S hf H locs hs ls hl
  unfold X_L_law_J830 at hf
  refine lv_iload hx hb (dk hL_law_11 8 rfl) (lv_at hl 9 rfl) ?_
  refine lv_if_lt (tgt := 847) hx hb (dk hL_law_11 9 rfl) (by decide) (fun hc => ?_) (fun hc => ?_)
  · replace hf := ip hf hc
    exact j_L_law_J847 C hX hbl hbA hk hr _ _ _ hf _ _ hs _ (lv_sub hl [0, 1, 2, 3, 4, 5, 6, 7, 8, 9, 10, 11, 12] rfl)
  · replace hf := in_ hf hc
    refine lv_iload hx hb (dk hL_law_11 10 rfl) (lv_at hl 9 rfl) ?_
    refine lv_iload hx hb (dk hL_law_11 11 rfl) (lv_at hl 6 rfl) ?_
    refine lv_icmp_gt (tgt := 847) hx hb (dk hL_law_11 12 rfl) (by decide) (fun hc => ?_) (fun hc => ?_)
    · replace hf := ip hf hc
      exact j_L_law_J847 C hX hbl hbA hk hr _ _ _ hf _ _ hs _ (lv_sub hl [0, 1, 2, 3, 4, 5, 6, 7, 8, 9, 10, 11, 12] rfl)
    · replace hf := in_ hf hc
      refine lv_iload hx hb (dk hL_law_11 13 rfl) (lv_at hl 12 rfl) ?_
      refine lv_if_ne (tgt := 864) hx hb (dk hL_law_11 14 rfl) (by decide) (fun hc => ?_) (fun hc => ?_)
      · replace hf := in_ hf hc
        refine lv_iconst (v := (0 : Int32)) hx hb (dk hL_law_11 22 rfl) (by decide) ?_
        exact absurd hf (by decide)
      · replace hf := ip hf hc
        exact j_L_law_J847 C hX hbl hbA hk hr _ _ _ hf _ _ hs _ (lv_sub hl [0, 1, 2, 3, 4, 5, 6, 7, 8, 9, 10, 11, 12] rfl)
set_option maxRecDepth 100000 in
set_option maxHeartbeats 4000000 in
theorem j_L_law_J806 {p : Program} {l : Launch} {e : Jvm.Env} {s : State} {m : MethodId} {below : List Frame} {meth : Method} {c : Code} {G : Gx} {a : Aw} {bs L : Nat} {xs : Nat → Int32} {x2 : Int32} {x3 : Int32} {x4 : Int32} {x5 : Int32} {x6 : Int32} {x7 : Int32} {x8 : Int32} {x10 : Int32} {x11 : Int32} {x14 : Int32} (C : Cx p s m #[.ref bs] meth c cL_law RL 17 (some .boolean) G) (hX : va_X bs L xs s s.heap) (hbl : bs < s.heap.size) (hbA : ¬ (fun q : Nat => s.heap.size ≤ q) bs) {k : Rw → Option (Int32)} {r : Int32 → Rw → Option (Int32)} (hk : ∀ (S : Rw), k S = some (1 : Int32) → ∀ (H : Heap) (locs : List Loc), St G (fun q : Nat => s.heap.size ≤ q) s.heap H locs (wR G a S) → ∀ ls : Array Slot, lv_has ls 17 [(1, .ref (a.1 0)), (2, .int x2), (3, .int x3), (4, .int x4), (5, .int x5), (6, .int x6), (7, .int x7), (8, .int x8), (10, .int x10), (11, .int x11)] → W p l e room_1 s m #[.ref bs] below meth c H locs 5000 50000 (lw_Z below #[Value.ref bs] s) (F0 m 933 ls [])) (hr : ∀ (v15 : Int32) (S : Rw), r v15 S = some (1 : Int32) → ∀ (H : Heap) (locs : List Loc), St G (fun q : Nat => s.heap.size ≤ q) s.heap H locs (wR G a S) → ∀ ls : Array Slot, lv_has ls 17 [(1, .ref (a.1 0)), (2, .int x2), (3, .int x3), (4, .int x4), (5, .int x5), (6, .int x6), (7, .int x7), (8, .int x8), (10, .int x10), (11, .int x11), (14, .int x14), (15, .int v15)] → W p l e room_1 s m #[.ref bs] below meth c H locs 5000 50000 (lw_Z below #[Value.ref bs] s) (F0 m 776 ls [])) : ∀ (x15 : Int32) (S : Rw), X_L_law_J806 k r x2 x3 x4 x5 x6 x7 x8 x10 x11 x14 x15 S = some (1 : Int32) → ∀ (H : Heap) (locs : List Loc), St G (fun q : Nat => s.heap.size ≤ q) s.heap H locs (wR G a S) → ∀ ls : Array Slot, lv_has ls 17 [(1, .ref (a.1 0)), (2, .int x2), (3, .int x3), (4, .int x4), (5, .int x5), (6, .int x6), (7, .int x7), (8, .int x8), (10, .int x10), (11, .int x11), (14, .int x14), (15, .int x15)] → W p l e room_1 s m #[.ref bs] below meth c H locs 5000 50000 (lw_Z below #[Value.ref bs] s) (F0 m 806 ls []) := by
  obtain ⟨hx, hb, hml, hown, hts, hK, hret, hlk⟩ := id C
  intro x15 S hf H locs hs ls hl
  unfold X_L_law_J806 at hf
  refine lv_aload_n hx hb (dk hL_law_10 36 rfl) rfl (lv_at hl 0 rfl) ?_
  refine lv_iload hx hb (dk hL_law_10 37 rfl) (lv_at hl 11 rfl) ?_
  refine lv_iload hx hb (dk hL_law_10 38 rfl) (lv_at hl 8 rfl) ?_
  refine lv_iload hx hb (dk hL_law_10 39 rfl) (lv_at hl 6 rfl) ?_
  obtain ⟨u_83, e_84, hf⟩ := Option.bind_eq_some_iff.mp hf
  refine Ct.V (As := [.int x15, .int x10, .int x7]) (rest := []) (st1 := [.int u_83.2]) (w1 := (wR G a u_83.1)) C hs (a_hide e_84) tw_354 tw_355 tw_356 tw_17 tw_357 nq_X4_hide (by decide) 0 4 rfl rfl rfl rfl hl.1 rfl (Nat.le_of_ble_eq_true rfl) (dk hL_law_11 0 rfl) ⟨by show 5000 ≤ 600000; omega, by show 50000 ≤ 7302250; omega⟩ rfl (fun H locs hs => ?_)
  refine lv_istore (lv' := [(16, .int u_83.2), (1, .ref (a.1 0)), (2, .int x2), (3, .int x3), (4, .int x4), (5, .int x5), (6, .int x6), (7, .int x7), (8, .int x8), (10, .int x10), (11, .int x11), (14, .int x14), (15, .int x15)]) hx hb (dk hL_law_11 1 rfl) hl (by decide) rfl (fun ls hl => ?_)
  refine lv_iload hx hb (dk hL_law_11 2 rfl) (lv_at hl 0 rfl) ?_
  refine lv_aload_n hx hb (dk hL_law_11 3 rfl) rfl (lv_at hl 1 rfl) ?_
  refine lv_iload hx hb (dk hL_law_11 4 rfl) (lv_at hl 12 rfl) ?_
  refine lv_iconst (v := (0 : Int32)) hx hb (dk hL_law_11 5 rfl) (by decide) ?_
  obtain ⟨u_85, e_86, hf⟩ := Option.bind_eq_some_iff.mp hf
  refine Ct.V (As := [.int x15, .int (0 : Int32)]) (rest := [.int u_83.2]) (st1 := [.int u_85.2, .int u_83.2]) (w1 := (wR G a u_85.1)) C hs (a_good e_86) tw_159 tw_160 tw_161 tw_17 tw_162 nq_X4_good (by decide) 0 4 rfl rfl rfl rfl hl.1 rfl (Nat.le_of_ble_eq_true rfl) (dk hL_law_11 6 rfl) ⟨by show 5000 ≤ 600000; omega, by show 50000 ≤ 7302250; omega⟩ rfl (fun H locs hs => ?_)
  refine lv_icmp_gt (tgt := 864) hx hb (dk hL_law_11 7 rfl) (by decide) (fun hc => ?_) (fun hc => ?_)
  · replace hf := ip hf hc
    refine lv_iconst (v := (0 : Int32)) hx hb (dk hL_law_11 22 rfl) (by decide) ?_
    exact absurd hf (by decide)
  · replace hf := in_ hf hc
    exact j_L_law_J830 C hX hbl hbA hk hr _ _ _ hf _ _ hs _ (lv_sub hl [1, 2, 3, 4, 5, 6, 7, 8, 9, 10, 11, 12, 0] rfl)
set_option maxRecDepth 100000 in
set_option maxHeartbeats 4000000 in
theorem l_L_law_L776 {p : Program} {l : Launch} {e : Jvm.Env} {s : State} {m : MethodId} {below : List Frame} {meth : Method} {c : Code} {G : Gx} {a : Aw} {bs L : Nat} {xs : Nat → Int32} {x2 : Int32} {x3 : Int32} {x4 : Int32} {x5 : Int32} {x6 : Int32} {x7 : Int32} {x8 : Int32} {x10 : Int32} {x11 : Int32} {x14 : Int32} (C : Cx p s m #[.ref bs] meth c cL_law RL 17 (some .boolean) G) (hX : va_X bs L xs s s.heap) (hbl : bs < s.heap.size) (hbA : ¬ (fun q : Nat => s.heap.size ≤ q) bs) {k : Rw → Option (Int32)} (hk : ∀ (S : Rw), k S = some (1 : Int32) → ∀ (H : Heap) (locs : List Loc), St G (fun q : Nat => s.heap.size ≤ q) s.heap H locs (wR G a S) → ∀ ls : Array Slot, lv_has ls 17 [(1, .ref (a.1 0)), (2, .int x2), (3, .int x3), (4, .int x4), (5, .int x5), (6, .int x6), (7, .int x7), (8, .int x8), (10, .int x10), (11, .int x11)] → W p l e room_1 s m #[.ref bs] below meth c H locs 5000 50000 (lw_Z below #[Value.ref bs] s) (F0 m 933 ls [])) : ∀ (n : Nat) (x15 : Int32) (S : Rw), X_L_law_L776 k x2 x3 x4 x5 x6 x7 x8 x10 x11 x14 n x15 S = some (1 : Int32) → ∀ (H : Heap) (locs : List Loc), St G (fun q : Nat => s.heap.size ≤ q) s.heap H locs (wR G a S) → ∀ ls : Array Slot, lv_has ls 17 [(1, .ref (a.1 0)), (2, .int x2), (3, .int x3), (4, .int x4), (5, .int x5), (6, .int x6), (7, .int x7), (8, .int x8), (10, .int x10), (11, .int x11), (14, .int x14), (15, .int x15)] → W p l e room_1 s m #[.ref bs] below meth c H locs 5000 50000 (lw_Z below #[Value.ref bs] s) (F0 m 776 ls []) := by
  obtain ⟨hx, hb, hml, hown, hts, hK, hret, hlk⟩ := id C
  intro n
  induction n with
  | zero => intro x15 S hf; cases hf
  | succ n ih =>
    intro x15 S hf H locs hs ls hl
    rw [X_L_law_L776] at hf
    refine lv_iload hx hb (dk hL_law_10 19 rfl) (lv_at hl 11 rfl) ?_
    refine lv_bipush (v := (6 : Int32)) hx hb (dk hL_law_10 20 rfl) (by decide) ?_
    refine lv_icmp_ge (tgt := 933) hx hb (dk hL_law_10 21 rfl) (by decide) (fun hc => ?_) (fun hc => ?_)
    · replace hf := ip hf hc
      exact hk _ hf _ _ hs _ (lv_sub hl [0, 1, 2, 3, 4, 5, 6, 7, 8, 9] rfl)
    · replace hf := in_ hf hc
      refine lv_iload hx hb (dk hL_law_10 22 rfl) (lv_at hl 10 rfl) ?_
      refine lv_iload hx hb (dk hL_law_10 23 rfl) (lv_at hl 11 rfl) ?_
      refine lv_ishr hx hb (dk hL_law_10 24 rfl) ?_
      refine lv_iconst (v := (1 : Int32)) hx hb (dk hL_law_10 25 rfl) (by decide) ?_
      refine lv_iand hx hb (dk hL_law_10 26 rfl) ?_
      refine lv_iconst (v := (1 : Int32)) hx hb (dk hL_law_10 27 rfl) (by decide) ?_
      refine lv_icmp_ne (tgt := 806) hx hb (dk hL_law_10 28 rfl) (by decide) (fun hc => ?_) (fun hc => ?_)
      · replace hf := in_ hf hc
        exact j_L_law_J806 C hX hbl hbA hk (fun v0 v1 hf => ih v0 v1 hf) _ _ hf _ _ hs _ (lv_sub hl [0, 1, 2, 3, 4, 5, 6, 7, 8, 9, 10, 11] rfl)
      · replace hf := ip hf hc
        refine lv_aload_n hx hb (dk hL_law_10 29 rfl) rfl (lv_at hl 0 rfl) ?_
        refine lv_iload hx hb (dk hL_law_10 30 rfl) (lv_at hl 11 rfl) ?_
        refine lv_iconst (v := (3 : Int32)) hx hb (dk hL_law_10 31 rfl) (by decide) ?_
        obtain ⟨u_97, e_98, hf⟩ := Option.bind_eq_some_iff.mp hf
        refine Ct.V (As := [.int x15, .int (3 : Int32)]) (rest := []) (st1 := [.int u_97.2]) (w1 := (wR G a u_97.1)) C hs (a_good e_98) tw_159 tw_160 tw_161 tw_17 tw_162 nq_X4_good (by decide) 0 4 rfl rfl rfl rfl hl.1 rfl (Nat.le_of_ble_eq_true rfl) (dk hL_law_10 32 rfl) ⟨by show 5000 ≤ 600000; omega, by show 50000 ≤ 7302250; omega⟩ rfl (fun H locs hs => ?_)
        refine lv_if_ne (tgt := 806) hx hb (dk hL_law_10 33 rfl) (by decide) (fun hc => ?_) (fun hc => ?_)
        · replace hf := in_ hf hc
          exact j_L_law_J806 C hX hbl hbA hk (fun v0 v1 hf => ih v0 v1 hf) _ _ hf _ _ hs _ (lv_sub hl [0, 1, 2, 3, 4, 5, 6, 7, 8, 9, 10, 11] rfl)
        · replace hf := ip hf hc
          refine lv_iconst (v := (0 : Int32)) hx hb (dk hL_law_10 34 rfl) (by decide) ?_
          exact absurd hf (by decide)
set_option maxRecDepth 100000 in
set_option maxHeartbeats 4000000 in
theorem j_L_law_J943 {p : Program} {l : Launch} {e : Jvm.Env} {s : State} {m : MethodId} {below : List Frame} {meth : Method} {c : Code} {G : Gx} {a : Aw} {bs L : Nat} {xs : Nat → Int32} {x2 : Int32} {x3 : Int32} {x4 : Int32} {x5 : Int32} {x6 : Int32} {x7 : Int32} {x8 : Int32} (C : Cx p s m #[.ref bs] meth c cL_law RL 17 (some .boolean) G) (hX : va_X bs L xs s s.heap) (hbl : bs < s.heap.size) (hbA : ¬ (fun q : Nat => s.heap.size ≤ q) bs) {k : Rw → Option (Int32)} {r : Int32 → Rw → Option (Int32)} (hk : ∀ (S : Rw), k S = some (1 : Int32) → ∀ (H : Heap) (locs : List Loc), St G (fun q : Nat => s.heap.size ≤ q) s.heap H locs (wR G a S) → ∀ ls : Array Slot, lv_has ls 17 [(1, .ref (a.1 0)), (2, .int x2), (3, .int x3), (4, .int x4), (5, .int x5), (6, .int x6), (7, .int x7)] → W p l e room_1 s m #[.ref bs] below meth c H locs 5000 50000 (lw_Z below #[Value.ref bs] s) (F0 m 981 ls [])) (hr : ∀ (v10 : Int32) (S : Rw), r v10 S = some (1 : Int32) → ∀ (H : Heap) (locs : List Loc), St G (fun q : Nat => s.heap.size ≤ q) s.heap H locs (wR G a S) → ∀ ls : Array Slot, lv_has ls 17 [(1, .ref (a.1 0)), (2, .int x2), (3, .int x3), (4, .int x4), (5, .int x5), (6, .int x6), (7, .int x7), (8, .int x8), (10, .int v10)] → W p l e room_1 s m #[.ref bs] below meth c H locs 5000 50000 (lw_Z below #[Value.ref bs] s) (F0 m 420 ls [])) : ∀ (x10 : Int32) (x11 : Int32) (x15 : Int32) (S : Rw), X_L_law_J943 k r x2 x3 x4 x5 x6 x7 x8 x10 x11 x15 S = some (1 : Int32) → ∀ (H : Heap) (locs : List Loc), St G (fun q : Nat => s.heap.size ≤ q) s.heap H locs (wR G a S) → ∀ ls : Array Slot, lv_has ls 17 [(1, .ref (a.1 0)), (2, .int x2), (3, .int x3), (4, .int x4), (5, .int x5), (6, .int x6), (7, .int x7), (8, .int x8), (10, .int x10), (11, .int x11), (15, .int x15)] → W p l e room_1 s m #[.ref bs] below meth c H locs 5000 50000 (lw_Z below #[Value.ref bs] s) (F0 m 943 ls []) := by
  obtain ⟨hx, hb, hml, hown, hts, hK, hret, hlk⟩ := id C
  intro x10 x11 x15 S hf H locs hs ls hl
  unfold X_L_law_J943 at hf
  refine lv_iload hx hb (dk hL_law_12 21 rfl) (lv_at hl 10 rfl) ?_
  refine lv_if_ne (tgt := 952) hx hb (dk hL_law_12 22 rfl) (by decide) (fun hc => ?_) (fun hc => ?_)
  · replace hf := in_ hf hc
    refine lv_iconst (v := (0 : Int32)) hx hb (dk hL_law_12 25 rfl) (by decide) ?_
    refine lv_iload hx hb (dk hL_law_12 26 rfl) (lv_at hl 9 rfl) ?_
    refine lv_if_lt (tgt := 969) hx hb (dk hL_law_12 27 rfl) (by decide) (fun hc => ?_) (fun hc => ?_)
    · replace hf := ip hf hc
      refine lv_iconst (v := (0 : Int32)) hx hb (dk hL_law_12 33 rfl) (by decide) ?_
      refine lv_icmp_eq (tgt := 975) hx hb (dk hL_law_12 34 rfl) (by decide) (fun hc => ?_) (fun hc => ?_)
      · refine lv_iinc (v := (x10 + (1 : Int32))) (lv' := [(10, .int (x10 + (1 : Int32))), (1, .ref (a.1 0)), (2, .int x2), (3, .int x3), (4, .int x4), (5, .int x5), (6, .int x6), (7, .int x7), (8, .int x8), (11, .int x11), (15, .int x15)]) hx hb (dk hL_law_12 37 rfl) hl (k := 8) rfl (by first | rfl | decide) (by decide) rfl (fun ls hl => ?_)
        refine lv_goto (tgt := 420) hx hb (dk hL_law_12 38 rfl) (by decide) ?_
        exact hr _ _ hf _ _ hs _ (lv_sub hl [1, 2, 3, 4, 5, 6, 7, 8, 0] rfl)
      · exact absurd hc (by decide)
    · replace hf := in_ hf hc
      refine lv_iload hx hb (dk hL_law_12 28 rfl) (lv_at hl 9 rfl) ?_
      refine lv_iload hx hb (dk hL_law_12 29 rfl) (lv_at hl 6 rfl) ?_
      refine lv_icmp_gt (tgt := 969) hx hb (dk hL_law_12 30 rfl) (by decide) (fun hc => ?_) (fun hc => ?_)
      · replace hf := ip hf hc
        refine lv_iconst (v := (0 : Int32)) hx hb (dk hL_law_12 33 rfl) (by decide) ?_
        refine lv_icmp_eq (tgt := 975) hx hb (dk hL_law_12 34 rfl) (by decide) (fun hc => ?_) (fun hc => ?_)
        · refine lv_iinc (v := (x10 + (1 : Int32))) (lv' := [(10, .int (x10 + (1 : Int32))), (1, .ref (a.1 0)), (2, .int x2), (3, .int x3), (4, .int x4), (5, .int x5), (6, .int x6), (7, .int x7), (8, .int x8), (11, .int x11), (15, .int x15)]) hx hb (dk hL_law_12 37 rfl) hl (k := 8) rfl (by first | rfl | decide) (by decide) rfl (fun ls hl => ?_)
          refine lv_goto (tgt := 420) hx hb (dk hL_law_12 38 rfl) (by decide) ?_
          exact hr _ _ hf _ _ hs _ (lv_sub hl [1, 2, 3, 4, 5, 6, 7, 8, 0] rfl)
        · exact absurd hc (by decide)
      · replace hf := in_ hf hc
        refine lv_iconst (v := (1 : Int32)) hx hb (dk hL_law_12 31 rfl) (by decide) ?_
        refine lv_goto (tgt := 970) hx hb (dk hL_law_12 32 rfl) (by decide) ?_
        refine lv_icmp_eq (tgt := 975) hx hb (dk hL_law_12 34 rfl) (by decide) (fun hc => ?_) (fun hc => ?_)
        · exact absurd hc (by decide)
        · refine lv_iconst (v := (0 : Int32)) hx hb (dk hL_law_12 35 rfl) (by decide) ?_
          exact absurd hf (by decide)
  · replace hf := ip hf hc
    refine lv_iconst (v := (1 : Int32)) hx hb (dk hL_law_12 23 rfl) (by decide) ?_
    refine lv_goto (tgt := 953) hx hb (dk hL_law_12 24 rfl) (by decide) ?_
    refine lv_iload hx hb (dk hL_law_12 26 rfl) (lv_at hl 9 rfl) ?_
    refine lv_if_lt (tgt := 969) hx hb (dk hL_law_12 27 rfl) (by decide) (fun hc => ?_) (fun hc => ?_)
    · replace hf := ip hf hc
      refine lv_iconst (v := (0 : Int32)) hx hb (dk hL_law_12 33 rfl) (by decide) ?_
      refine lv_icmp_eq (tgt := 975) hx hb (dk hL_law_12 34 rfl) (by decide) (fun hc => ?_) (fun hc => ?_)
      · exact absurd hc (by decide)
      · refine lv_iconst (v := (0 : Int32)) hx hb (dk hL_law_12 35 rfl) (by decide) ?_
        exact absurd hf (by decide)
    · replace hf := in_ hf hc
      refine lv_iload hx hb (dk hL_law_12 28 rfl) (lv_at hl 9 rfl) ?_
      refine lv_iload hx hb (dk hL_law_12 29 rfl) (lv_at hl 6 rfl) ?_
      refine lv_icmp_gt (tgt := 969) hx hb (dk hL_law_12 30 rfl) (by decide) (fun hc => ?_) (fun hc => ?_)
      · replace hf := ip hf hc
        refine lv_iconst (v := (0 : Int32)) hx hb (dk hL_law_12 33 rfl) (by decide) ?_
        refine lv_icmp_eq (tgt := 975) hx hb (dk hL_law_12 34 rfl) (by decide) (fun hc => ?_) (fun hc => ?_)
        · exact absurd hc (by decide)
        · refine lv_iconst (v := (0 : Int32)) hx hb (dk hL_law_12 35 rfl) (by decide) ?_
          exact absurd hf (by decide)
      · replace hf := in_ hf hc
        refine lv_iconst (v := (1 : Int32)) hx hb (dk hL_law_12 31 rfl) (by decide) ?_
        refine lv_goto (tgt := 970) hx hb (dk hL_law_12 32 rfl) (by decide) ?_
        refine lv_icmp_eq (tgt := 975) hx hb (dk hL_law_12 34 rfl) (by decide) (fun hc => ?_) (fun hc => ?_)
        · refine lv_iinc (v := (x10 + (1 : Int32))) (lv' := [(10, .int (x10 + (1 : Int32))), (1, .ref (a.1 0)), (2, .int x2), (3, .int x3), (4, .int x4), (5, .int x5), (6, .int x6), (7, .int x7), (8, .int x8), (11, .int x11), (15, .int x15)]) hx hb (dk hL_law_12 37 rfl) hl (k := 8) rfl (by first | rfl | decide) (by decide) rfl (fun ls hl => ?_)
          refine lv_goto (tgt := 420) hx hb (dk hL_law_12 38 rfl) (by decide) ?_
          exact hr _ _ hf _ _ hs _ (lv_sub hl [1, 2, 3, 4, 5, 6, 7, 8, 0] rfl)
        · exact absurd hc (by decide)
set_option maxRecDepth 100000 in
set_option maxHeartbeats 4000000 in
theorem j_L_law_J933 {p : Program} {l : Launch} {e : Jvm.Env} {s : State} {m : MethodId} {below : List Frame} {meth : Method} {c : Code} {G : Gx} {a : Aw} {bs L : Nat} {xs : Nat → Int32} {x2 : Int32} {x3 : Int32} {x4 : Int32} {x5 : Int32} {x6 : Int32} {x7 : Int32} {x8 : Int32} (C : Cx p s m #[.ref bs] meth c cL_law RL 17 (some .boolean) G) (hX : va_X bs L xs s s.heap) (hbl : bs < s.heap.size) (hbA : ¬ (fun q : Nat => s.heap.size ≤ q) bs) {k : Rw → Option (Int32)} {r : Int32 → Rw → Option (Int32)} (hk : ∀ (S : Rw), k S = some (1 : Int32) → ∀ (H : Heap) (locs : List Loc), St G (fun q : Nat => s.heap.size ≤ q) s.heap H locs (wR G a S) → ∀ ls : Array Slot, lv_has ls 17 [(1, .ref (a.1 0)), (2, .int x2), (3, .int x3), (4, .int x4), (5, .int x5), (6, .int x6), (7, .int x7)] → W p l e room_1 s m #[.ref bs] below meth c H locs 5000 50000 (lw_Z below #[Value.ref bs] s) (F0 m 981 ls [])) (hr : ∀ (v10 : Int32) (S : Rw), r v10 S = some (1 : Int32) → ∀ (H : Heap) (locs : List Loc), St G (fun q : Nat => s.heap.size ≤ q) s.heap H locs (wR G a S) → ∀ ls : Array Slot, lv_has ls 17 [(1, .ref (a.1 0)), (2, .int x2), (3, .int x3), (4, .int x4), (5, .int x5), (6, .int x6), (7, .int x7), (8, .int x8), (10, .int v10)] → W p l e room_1 s m #[.ref bs] below meth c H locs 5000 50000 (lw_Z below #[Value.ref bs] s) (F0 m 420 ls [])) : ∀ (x10 : Int32) (x11 : Int32) (S : Rw), X_L_law_J933 k r x2 x3 x4 x5 x6 x7 x8 x10 x11 S = some (1 : Int32) → ∀ (H : Heap) (locs : List Loc), St G (fun q : Nat => s.heap.size ≤ q) s.heap H locs (wR G a S) → ∀ ls : Array Slot, lv_has ls 17 [(1, .ref (a.1 0)), (2, .int x2), (3, .int x3), (4, .int x4), (5, .int x5), (6, .int x6), (7, .int x7), (8, .int x8), (10, .int x10), (11, .int x11)] → W p l e room_1 s m #[.ref bs] below meth c H locs 5000 50000 (lw_Z below #[Value.ref bs] s) (F0 m 933 ls []) := by
  obtain ⟨hx, hb, hml, hown, hts, hK, hret, hlk⟩ := id C
  intro x10 x11 S hf H locs hs ls hl
  unfold X_L_law_J933 at hf
  refine lv_aload_n hx hb (dk hL_law_12 16 rfl) rfl (lv_at hl 0 rfl) ?_
  refine lv_iload hx hb (dk hL_law_12 17 rfl) (lv_at hl 8 rfl) ?_
  refine lv_iload hx hb (dk hL_law_12 18 rfl) (lv_at hl 6 rfl) ?_
  obtain ⟨u_100, e_101, hf⟩ := Option.bind_eq_some_iff.mp hf
  refine Ct.V (As := [.int x10, .int x7]) (rest := []) (st1 := [.int u_100.2]) (w1 := (wR G a u_100.1)) C hs (a_fewest e_101) tw_358 tw_359 tw_360 tw_17 tw_361 nq_X4_fewest (by decide) 0 4 rfl rfl rfl rfl hl.1 rfl (Nat.le_of_ble_eq_true rfl) (dk hL_law_12 19 rfl) ⟨by show 5000 ≤ 600000; omega, by show 50000 ≤ 7302250; omega⟩ rfl (fun H locs hs => ?_)
  refine lv_istore (lv' := [(15, .int u_100.2), (1, .ref (a.1 0)), (2, .int x2), (3, .int x3), (4, .int x4), (5, .int x5), (6, .int x6), (7, .int x7), (8, .int x8), (10, .int x10), (11, .int x11)]) hx hb (dk hL_law_12 20 rfl) hl (by decide) rfl (fun ls hl => ?_)
  exact j_L_law_J943 C hX hbl hbA hk hr _ _ _ _ hf _ _ hs _ (lv_sub hl [1, 2, 3, 4, 5, 6, 7, 8, 9, 10, 0] rfl)
set_option maxRecDepth 100000 in
set_option maxHeartbeats 4000000 in
theorem j_L_law_J773 {p : Program} {l : Launch} {e : Jvm.Env} {s : State} {m : MethodId} {below : List Frame} {meth : Method} {c : Code} {G : Gx} {a : Aw} {bs L : Nat} {xs : Nat → Int32} {x2 : Int32} {x3 : Int32} {x4 : Int32} {x5 : Int32} {x6 : Int32} {x7 : Int32} {x8 : Int32} (C : Cx p s m #[.ref bs] meth c cL_law RL 17 (some .boolean) G) (hX : va_X bs L xs s s.heap) (hbl : bs < s.heap.size) (hbA : ¬ (fun q : Nat => s.heap.size ≤ q) bs) {k : Rw → Option (Int32)} {r : Int32 → Rw → Option (Int32)} (hk : ∀ (S : Rw), k S = some (1 : Int32) → ∀ (H : Heap) (locs : List Loc), St G (fun q : Nat => s.heap.size ≤ q) s.heap H locs (wR G a S) → ∀ ls : Array Slot, lv_has ls 17 [(1, .ref (a.1 0)), (2, .int x2), (3, .int x3), (4, .int x4), (5, .int x5), (6, .int x6), (7, .int x7)] → W p l e room_1 s m #[.ref bs] below meth c H locs 5000 50000 (lw_Z below #[Value.ref bs] s) (F0 m 981 ls [])) (hr : ∀ (v10 : Int32) (S : Rw), r v10 S = some (1 : Int32) → ∀ (H : Heap) (locs : List Loc), St G (fun q : Nat => s.heap.size ≤ q) s.heap H locs (wR G a S) → ∀ ls : Array Slot, lv_has ls 17 [(1, .ref (a.1 0)), (2, .int x2), (3, .int x3), (4, .int x4), (5, .int x5), (6, .int x6), (7, .int x7), (8, .int x8), (10, .int v10)] → W p l e room_1 s m #[.ref bs] below meth c H locs 5000 50000 (lw_Z below #[Value.ref bs] s) (F0 m 420 ls [])) : ∀ (x10 : Int32) (x11 : Int32) (x14 : Int32) (S : Rw), X_L_law_J773 k r x2 x3 x4 x5 x6 x7 x8 x10 x11 x14 S = some (1 : Int32) → ∀ (H : Heap) (locs : List Loc), St G (fun q : Nat => s.heap.size ≤ q) s.heap H locs (wR G a S) → ∀ ls : Array Slot, lv_has ls 17 [(1, .ref (a.1 0)), (2, .int x2), (3, .int x3), (4, .int x4), (5, .int x5), (6, .int x6), (7, .int x7), (8, .int x8), (10, .int x10), (11, .int x11), (14, .int x14)] → W p l e room_1 s m #[.ref bs] below meth c H locs 5000 50000 (lw_Z below #[Value.ref bs] s) (F0 m 773 ls []) := by
  obtain ⟨hx, hb, hml, hown, hts, hK, hret, hlk⟩ := id C
  intro x10 x11 x14 S hf H locs hs ls hl
  unfold X_L_law_J773 at hf
  refine lv_iconst (v := (0 : Int32)) hx hb (dk hL_law_10 17 rfl) (by decide) ?_
  refine lv_istore (lv' := [(15, .int (0 : Int32)), (1, .ref (a.1 0)), (2, .int x2), (3, .int x3), (4, .int x4), (5, .int x5), (6, .int x6), (7, .int x7), (8, .int x8), (10, .int x10), (11, .int x11), (14, .int x14)]) hx hb (dk hL_law_10 18 rfl) hl (by decide) rfl (fun ls hl => ?_)
  refine l_L_law_L776 C hX hbl hbA (fun S_99 hf H locs hs ls hl => ?_) 1000 _ _ hf _ _ hs _ (lv_sub hl [1, 2, 3, 4, 5, 6, 7, 8, 9, 10, 11, 0] rfl)
  exact j_L_law_J933 C hX hbl hbA hk hr _ _ _ hf _ _ hs _ (lv_sub hl [0, 1, 2, 3, 4, 5, 6, 7, 8, 9] rfl)
set_option maxRecDepth 100000 in
set_option maxHeartbeats 4000000 in
theorem j_L_law_J748 {p : Program} {l : Launch} {e : Jvm.Env} {s : State} {m : MethodId} {below : List Frame} {meth : Method} {c : Code} {G : Gx} {a : Aw} {bs L : Nat} {xs : Nat → Int32} {x2 : Int32} {x3 : Int32} {x4 : Int32} {x5 : Int32} {x6 : Int32} {x7 : Int32} {x8 : Int32} (C : Cx p s m #[.ref bs] meth c cL_law RL 17 (some .boolean) G) (hX : va_X bs L xs s s.heap) (hbl : bs < s.heap.size) (hbA : ¬ (fun q : Nat => s.heap.size ≤ q) bs) {k : Rw → Option (Int32)} {r : Int32 → Rw → Option (Int32)} (hk : ∀ (S : Rw), k S = some (1 : Int32) → ∀ (H : Heap) (locs : List Loc), St G (fun q : Nat => s.heap.size ≤ q) s.heap H locs (wR G a S) → ∀ ls : Array Slot, lv_has ls 17 [(1, .ref (a.1 0)), (2, .int x2), (3, .int x3), (4, .int x4), (5, .int x5), (6, .int x6), (7, .int x7)] → W p l e room_1 s m #[.ref bs] below meth c H locs 5000 50000 (lw_Z below #[Value.ref bs] s) (F0 m 981 ls [])) (hr : ∀ (v10 : Int32) (S : Rw), r v10 S = some (1 : Int32) → ∀ (H : Heap) (locs : List Loc), St G (fun q : Nat => s.heap.size ≤ q) s.heap H locs (wR G a S) → ∀ ls : Array Slot, lv_has ls 17 [(1, .ref (a.1 0)), (2, .int x2), (3, .int x3), (4, .int x4), (5, .int x5), (6, .int x6), (7, .int x7), (8, .int x8), (10, .int v10)] → W p l e room_1 s m #[.ref bs] below meth c H locs 5000 50000 (lw_Z below #[Value.ref bs] s) (F0 m 420 ls [])) : ∀ (x10 : Int32) (x11 : Int32) (S : Rw), X_L_law_J748 k r x2 x3 x4 x5 x6 x7 x8 x10 x11 S = some (1 : Int32) → ∀ (H : Heap) (locs : List Loc), St G (fun q : Nat => s.heap.size ≤ q) s.heap H locs (wR G a S) → ∀ ls : Array Slot, lv_has ls 17 [(1, .ref (a.1 0)), (2, .int x2), (3, .int x3), (4, .int x4), (5, .int x5), (6, .int x6), (7, .int x7), (8, .int x8), (10, .int x10), (11, .int x11)] → W p l e room_1 s m #[.ref bs] below meth c H locs 5000 50000 (lw_Z below #[Value.ref bs] s) (F0 m 748 ls []) := by
  obtain ⟨hx, hb, hml, hown, hts, hK, hret, hlk⟩ := id C
  intro x10 x11 S hf H locs hs ls hl
  unfold X_L_law_J748 at hf
  refine lv_aload_n hx hb (dk hL_law_10 3 rfl) rfl (lv_at hl 0 rfl) ?_
  refine lv_iload hx hb (dk hL_law_10 4 rfl) (lv_at hl 8 rfl) ?_
  obtain ⟨u_81, e_82, hf⟩ := Option.bind_eq_some_iff.mp hf
  refine Ct.V (As := [.int x10]) (rest := []) (st1 := [.int u_81.2]) (w1 := (wR G a u_81.1)) C hs (a_forWhat e_82) tw_366 tw_367 tw_368 tw_17 tw_369 nq_X4_forWhat (by decide) 0 4 rfl rfl rfl rfl hl.1 rfl (Nat.le_of_ble_eq_true rfl) (dk hL_law_10 5 rfl) ⟨by show 5000 ≤ 600000; omega, by show 50000 ≤ 7302250; omega⟩ rfl (fun H locs hs => ?_)
  refine lv_istore (lv' := [(14, .int u_81.2), (1, .ref (a.1 0)), (2, .int x2), (3, .int x3), (4, .int x4), (5, .int x5), (6, .int x6), (7, .int x7), (8, .int x8), (10, .int x10), (11, .int x11)]) hx hb (dk hL_law_10 6 rfl) hl (by decide) rfl (fun ls hl => ?_)
  refine lv_iload hx hb (dk hL_law_10 7 rfl) (lv_at hl 8 rfl) ?_
  refine lv_iload hx hb (dk hL_law_10 8 rfl) (lv_at hl 9 rfl) ?_
  refine lv_ishr hx hb (dk hL_law_10 9 rfl) ?_
  refine lv_iconst (v := (1 : Int32)) hx hb (dk hL_law_10 10 rfl) (by decide) ?_
  refine lv_iand hx hb (dk hL_law_10 11 rfl) ?_
  refine lv_if_ne (tgt := 773) hx hb (dk hL_law_10 12 rfl) (by decide) (fun hc => ?_) (fun hc => ?_)
  · replace hf := in_ hf hc
    exact j_L_law_J773 C hX hbl hbA hk hr _ _ _ _ hf _ _ hs _ (lv_sub hl [1, 2, 3, 4, 5, 6, 7, 8, 9, 10, 0] rfl)
  · replace hf := ip hf hc
    refine lv_iload hx hb (dk hL_law_10 13 rfl) (lv_at hl 0 rfl) ?_
    refine lv_if_eq (tgt := 773) hx hb (dk hL_law_10 14 rfl) (by decide) (fun hc => ?_) (fun hc => ?_)
    · replace hf := ip hf hc
      exact j_L_law_J773 C hX hbl hbA hk hr _ _ _ _ hf _ _ hs _ (lv_sub hl [1, 2, 3, 4, 5, 6, 7, 8, 9, 10, 0] rfl)
    · replace hf := in_ hf hc
      refine lv_iconst (v := (0 : Int32)) hx hb (dk hL_law_10 15 rfl) (by decide) ?_
      exact absurd hf (by decide)
set_option maxRecDepth 100000 in
set_option maxHeartbeats 4000000 in
theorem j_L_law_J702 {p : Program} {l : Launch} {e : Jvm.Env} {s : State} {m : MethodId} {below : List Frame} {meth : Method} {c : Code} {G : Gx} {a : Aw} {bs L : Nat} {xs : Nat → Int32} {x2 : Int32} {x3 : Int32} {x4 : Int32} {x5 : Int32} {x6 : Int32} {x7 : Int32} {x8 : Int32} (C : Cx p s m #[.ref bs] meth c cL_law RL 17 (some .boolean) G) (hX : va_X bs L xs s s.heap) (hbl : bs < s.heap.size) (hbA : ¬ (fun q : Nat => s.heap.size ≤ q) bs) {k : Rw → Option (Int32)} {r : Int32 → Rw → Option (Int32)} (hk : ∀ (S : Rw), k S = some (1 : Int32) → ∀ (H : Heap) (locs : List Loc), St G (fun q : Nat => s.heap.size ≤ q) s.heap H locs (wR G a S) → ∀ ls : Array Slot, lv_has ls 17 [(1, .ref (a.1 0)), (2, .int x2), (3, .int x3), (4, .int x4), (5, .int x5), (6, .int x6), (7, .int x7)] → W p l e room_1 s m #[.ref bs] below meth c H locs 5000 50000 (lw_Z below #[Value.ref bs] s) (F0 m 981 ls [])) (hr : ∀ (v10 : Int32) (S : Rw), r v10 S = some (1 : Int32) → ∀ (H : Heap) (locs : List Loc), St G (fun q : Nat => s.heap.size ≤ q) s.heap H locs (wR G a S) → ∀ ls : Array Slot, lv_has ls 17 [(1, .ref (a.1 0)), (2, .int x2), (3, .int x3), (4, .int x4), (5, .int x5), (6, .int x6), (7, .int x7), (8, .int x8), (10, .int v10)] → W p l e room_1 s m #[.ref bs] below meth c H locs 5000 50000 (lw_Z below #[Value.ref bs] s) (F0 m 420 ls [])) : ∀ (x10 : Int32) (x11 : Int32) (S : Rw), X_L_law_J702 k r x2 x3 x4 x5 x6 x7 x8 x10 x11 S = some (1 : Int32) → ∀ (H : Heap) (locs : List Loc), St G (fun q : Nat => s.heap.size ≤ q) s.heap H locs (wR G a S) → ∀ ls : Array Slot, lv_has ls 17 [(1, .ref (a.1 0)), (2, .int x2), (3, .int x3), (4, .int x4), (5, .int x5), (6, .int x6), (7, .int x7), (8, .int x8), (10, .int x10), (11, .int x11)] → W p l e room_1 s m #[.ref bs] below meth c H locs 5000 50000 (lw_Z below #[Value.ref bs] s) (F0 m 702 ls []) := by
  obtain ⟨hx, hb, hml, hown, hts, hK, hret, hlk⟩ := id C
  intro x10 x11 S hf H locs hs ls hl
  unfold X_L_law_J702 at hf
  refine lv_aload_n hx hb (dk hL_law_9 17 rfl) rfl (lv_at hl 0 rfl) ?_
  refine lv_iload hx hb (dk hL_law_9 18 rfl) (lv_at hl 8 rfl) ?_
  obtain ⟨u_79, e_80, hf⟩ := Option.bind_eq_some_iff.mp hf
  refine Ct.V (As := [.int x10]) (rest := []) (st1 := [.int u_79.2]) (w1 := (wR G a u_79.1)) C hs (a_byWhom e_80) tw_346 tw_347 tw_348 tw_17 tw_349 nq_X4_byWhom (by decide) 0 4 rfl rfl rfl rfl hl.1 rfl (Nat.le_of_ble_eq_true rfl) (dk hL_law_9 19 rfl) ⟨by show 5000 ≤ 600000; omega, by show 50000 ≤ 7302250; omega⟩ rfl (fun H locs hs => ?_)
  refine lv_istore (lv' := [(13, .int u_79.2), (1, .ref (a.1 0)), (2, .int x2), (3, .int x3), (4, .int x4), (5, .int x5), (6, .int x6), (7, .int x7), (8, .int x8), (10, .int x10), (11, .int x11)]) hx hb (dk hL_law_9 20 rfl) hl (by decide) rfl (fun ls hl => ?_)
  refine lv_iload hx hb (dk hL_law_9 21 rfl) (lv_at hl 0 rfl) ?_
  refine lv_if_lt (tgt := 748) hx hb (dk hL_law_9 22 rfl) (by decide) (fun hc => ?_) (fun hc => ?_)
  · replace hf := ip hf hc
    exact j_L_law_J748 C hX hbl hbA hk hr _ _ _ hf _ _ hs _ (lv_sub hl [1, 2, 3, 4, 5, 6, 7, 8, 9, 10] rfl)
  · replace hf := in_ hf hc
    refine lv_aload_n hx hb (dk hL_law_9 23 rfl) rfl (lv_at hl 1 rfl) ?_
    obtain ⟨u_102, e_103, hf⟩ := Option.bind_eq_some_iff.mp hf
    refine Ct.V (As := []) (rest := []) (st1 := [.int u_102.2]) (w1 := (wR G a u_102.1)) C hs (a_shut e_103) tw_334 tw_335 tw_336 tw_17 tw_337 nq_X4_shut (by decide) 0 4 rfl rfl rfl rfl hl.1 rfl (Nat.le_of_ble_eq_true rfl) (dk hL_law_9 24 rfl) ⟨by show 5000 ≤ 600000; omega, by show 50000 ≤ 7302250; omega⟩ rfl (fun H locs hs => ?_)
    refine lv_iload hx hb (dk hL_law_9 25 rfl) (lv_at hl 9 rfl) ?_
    refine lv_ishr hx hb (dk hL_law_9 26 rfl) ?_
    refine lv_iconst (v := (1 : Int32)) hx hb (dk hL_law_9 27 rfl) (by decide) ?_
    refine lv_iand hx hb (dk hL_law_9 28 rfl) ?_
    refine lv_iconst (v := (1 : Int32)) hx hb (dk hL_law_9 29 rfl) (by decide) ?_
    refine lv_icmp_ne (tgt := 746) hx hb (dk hL_law_9 30 rfl) (by decide) (fun hc => ?_) (fun hc => ?_)
    · replace hf := in_ hf hc
      refine lv_iconst (v := (0 : Int32)) hx hb (dk hL_law_10 1 rfl) (by decide) ?_
      exact absurd hf (by decide)
    · replace hf := ip hf hc
      refine lv_iload hx hb (dk hL_law_9 31 rfl) (lv_at hl 0 rfl) ?_
      refine lv_iload hx hb (dk hL_law_9 32 rfl) (lv_at hl 9 rfl) ?_
      refine lv_icmp_eq (tgt := 746) hx hb (dk hL_law_9 33 rfl) (by decide) (fun hc => ?_) (fun hc => ?_)
      · replace hf := ip hf hc
        refine lv_iconst (v := (0 : Int32)) hx hb (dk hL_law_10 1 rfl) (by decide) ?_
        exact absurd hf (by decide)
      · replace hf := in_ hf hc
        refine lv_iload hx hb (dk hL_law_9 34 rfl) (lv_at hl 5 rfl) ?_
        refine lv_iload hx hb (dk hL_law_9 35 rfl) (lv_at hl 0 rfl) ?_
        refine lv_ishr hx hb (dk hL_law_9 36 rfl) ?_
        refine lv_iconst (v := (1 : Int32)) hx hb (dk hL_law_9 37 rfl) (by decide) ?_
        refine lv_iand hx hb (dk hL_law_9 38 rfl) ?_
        refine lv_iconst (v := (1 : Int32)) hx hb (dk hL_law_9 39 rfl) (by decide) ?_
        refine lv_icmp_ne (tgt := 748) hx hb (dk hL_law_10 0 rfl) (by decide) (fun hc => ?_) (fun hc => ?_)
        · replace hf := in_ hf hc
          exact j_L_law_J748 C hX hbl hbA hk hr _ _ _ hf _ _ hs _ (lv_sub hl [1, 2, 3, 4, 5, 6, 7, 8, 9, 10] rfl)
        · replace hf := ip hf hc
          refine lv_iconst (v := (0 : Int32)) hx hb (dk hL_law_10 1 rfl) (by decide) ?_
          exact absurd hf (by decide)
set_option maxRecDepth 100000 in
set_option maxHeartbeats 4000000 in
theorem j_L_law_J683 {p : Program} {l : Launch} {e : Jvm.Env} {s : State} {m : MethodId} {below : List Frame} {meth : Method} {c : Code} {G : Gx} {a : Aw} {bs L : Nat} {xs : Nat → Int32} {x2 : Int32} {x3 : Int32} {x4 : Int32} {x5 : Int32} {x6 : Int32} {x7 : Int32} {x8 : Int32} (C : Cx p s m #[.ref bs] meth c cL_law RL 17 (some .boolean) G) (hX : va_X bs L xs s s.heap) (hbl : bs < s.heap.size) (hbA : ¬ (fun q : Nat => s.heap.size ≤ q) bs) {k : Rw → Option (Int32)} {r : Int32 → Rw → Option (Int32)} (hk : ∀ (S : Rw), k S = some (1 : Int32) → ∀ (H : Heap) (locs : List Loc), St G (fun q : Nat => s.heap.size ≤ q) s.heap H locs (wR G a S) → ∀ ls : Array Slot, lv_has ls 17 [(1, .ref (a.1 0)), (2, .int x2), (3, .int x3), (4, .int x4), (5, .int x5), (6, .int x6), (7, .int x7)] → W p l e room_1 s m #[.ref bs] below meth c H locs 5000 50000 (lw_Z below #[Value.ref bs] s) (F0 m 981 ls [])) (hr : ∀ (v10 : Int32) (S : Rw), r v10 S = some (1 : Int32) → ∀ (H : Heap) (locs : List Loc), St G (fun q : Nat => s.heap.size ≤ q) s.heap H locs (wR G a S) → ∀ ls : Array Slot, lv_has ls 17 [(1, .ref (a.1 0)), (2, .int x2), (3, .int x3), (4, .int x4), (5, .int x5), (6, .int x6), (7, .int x7), (8, .int x8), (10, .int v10)] → W p l e room_1 s m #[.ref bs] below meth c H locs 5000 50000 (lw_Z below #[Value.ref bs] s) (F0 m 420 ls [])) : ∀ (x10 : Int32) (x11 : Int32) (S : Rw), X_L_law_J683 k r x2 x3 x4 x5 x6 x7 x8 x10 x11 S = some (1 : Int32) → ∀ (H : Heap) (locs : List Loc), St G (fun q : Nat => s.heap.size ≤ q) s.heap H locs (wR G a S) → ∀ ls : Array Slot, lv_has ls 17 [(1, .ref (a.1 0)), (2, .int x2), (3, .int x3), (4, .int x4), (5, .int x5), (6, .int x6), (7, .int x7), (8, .int x8), (10, .int x10), (11, .int x11)] → W p l e room_1 s m #[.ref bs] below meth c H locs 5000 50000 (lw_Z below #[Value.ref bs] s) (F0 m 683 ls []) := by
  obtain ⟨hx, hb, hml, hown, hts, hK, hret, hlk⟩ := id C
  intro x10 x11 S hf H locs hs ls hl
  unfold X_L_law_J683 at hf
  refine lv_iload hx hb (dk hL_law_9 7 rfl) (lv_at hl 9 rfl) ?_
  refine lv_if_lt (tgt := 702) hx hb (dk hL_law_9 8 rfl) (by decide) (fun hc => ?_) (fun hc => ?_)
  · replace hf := ip hf hc
    exact j_L_law_J702 C hX hbl hbA hk hr _ _ _ hf _ _ hs _ (lv_sub hl [0, 1, 2, 3, 4, 5, 6, 7, 8, 9] rfl)
  · replace hf := in_ hf hc
    refine lv_aload_n hx hb (dk hL_law_9 9 rfl) rfl (lv_at hl 0 rfl) ?_
    refine lv_iload hx hb (dk hL_law_9 10 rfl) (lv_at hl 8 rfl) ?_
    refine lv_iconst (v := (1 : Int32)) hx hb (dk hL_law_9 11 rfl) (by decide) ?_
    obtain ⟨u_104, e_105, hf⟩ := Option.bind_eq_some_iff.mp hf
    refine Ct.V (As := [.int x10, .int (1 : Int32)]) (rest := []) (st1 := [.int u_104.2]) (w1 := (wR G a u_104.1)) C hs (a_loaded e_105) tw_350 tw_351 tw_352 tw_17 tw_353 nq_X4_loaded (by decide) 0 4 rfl rfl rfl rfl hl.1 rfl (Nat.le_of_ble_eq_true rfl) (dk hL_law_9 12 rfl) ⟨by show 5000 ≤ 600000; omega, by show 50000 ≤ 7302250; omega⟩ rfl (fun H locs hs => ?_)
    refine lv_iload hx hb (dk hL_law_9 13 rfl) (lv_at hl 9 rfl) ?_
    refine lv_icmp_le (tgt := 702) hx hb (dk hL_law_9 14 rfl) (by decide) (fun hc => ?_) (fun hc => ?_)
    · replace hf := ip hf hc
      exact j_L_law_J702 C hX hbl hbA hk hr _ _ _ hf _ _ hs _ (lv_sub hl [0, 1, 2, 3, 4, 5, 6, 7, 8, 9] rfl)
    · replace hf := in_ hf hc
      refine lv_iconst (v := (0 : Int32)) hx hb (dk hL_law_9 15 rfl) (by decide) ?_
      exact absurd hf (by decide)
set_option maxRecDepth 100000 in
set_option maxHeartbeats 4000000 in
theorem j_L_law_J666 {p : Program} {l : Launch} {e : Jvm.Env} {s : State} {m : MethodId} {below : List Frame} {meth : Method} {c : Code} {G : Gx} {a : Aw} {bs L : Nat} {xs : Nat → Int32} {x2 : Int32} {x3 : Int32} {x4 : Int32} {x5 : Int32} {x6 : Int32} {x7 : Int32} {x8 : Int32} (C : Cx p s m #[.ref bs] meth c cL_law RL 17 (some .boolean) G) (hX : va_X bs L xs s s.heap) (hbl : bs < s.heap.size) (hbA : ¬ (fun q : Nat => s.heap.size ≤ q) bs) {k : Rw → Option (Int32)} {r : Int32 → Rw → Option (Int32)} (hk : ∀ (S : Rw), k S = some (1 : Int32) → ∀ (H : Heap) (locs : List Loc), St G (fun q : Nat => s.heap.size ≤ q) s.heap H locs (wR G a S) → ∀ ls : Array Slot, lv_has ls 17 [(1, .ref (a.1 0)), (2, .int x2), (3, .int x3), (4, .int x4), (5, .int x5), (6, .int x6), (7, .int x7)] → W p l e room_1 s m #[.ref bs] below meth c H locs 5000 50000 (lw_Z below #[Value.ref bs] s) (F0 m 981 ls [])) (hr : ∀ (v10 : Int32) (S : Rw), r v10 S = some (1 : Int32) → ∀ (H : Heap) (locs : List Loc), St G (fun q : Nat => s.heap.size ≤ q) s.heap H locs (wR G a S) → ∀ ls : Array Slot, lv_has ls 17 [(1, .ref (a.1 0)), (2, .int x2), (3, .int x3), (4, .int x4), (5, .int x5), (6, .int x6), (7, .int x7), (8, .int x8), (10, .int v10)] → W p l e room_1 s m #[.ref bs] below meth c H locs 5000 50000 (lw_Z below #[Value.ref bs] s) (F0 m 420 ls [])) : ∀ (x10 : Int32) (x11 : Int32) (S : Rw), X_L_law_J666 k r x2 x3 x4 x5 x6 x7 x8 x10 x11 S = some (1 : Int32) → ∀ (H : Heap) (locs : List Loc), St G (fun q : Nat => s.heap.size ≤ q) s.heap H locs (wR G a S) → ∀ ls : Array Slot, lv_has ls 17 [(1, .ref (a.1 0)), (2, .int x2), (3, .int x3), (4, .int x4), (5, .int x5), (6, .int x6), (7, .int x7), (8, .int x8), (10, .int x10), (11, .int x11)] → W p l e room_1 s m #[.ref bs] below meth c H locs 5000 50000 (lw_Z below #[Value.ref bs] s) (F0 m 666 ls []) := by
  obtain ⟨hx, hb, hml, hown, hts, hK, hret, hlk⟩ := id C
  intro x10 x11 S hf H locs hs ls hl
  unfold X_L_law_J666 at hf
  refine lv_iload hx hb (dk hL_law_8 39 rfl) (lv_at hl 9 rfl) ?_
  refine lv_if_ge (tgt := 683) hx hb (dk hL_law_9 0 rfl) (by decide) (fun hc => ?_) (fun hc => ?_)
  · replace hf := ip hf hc
    exact j_L_law_J683 C hX hbl hbA hk hr _ _ _ hf _ _ hs _ (lv_sub hl [0, 1, 2, 3, 4, 5, 6, 7, 8, 9] rfl)
  · replace hf := in_ hf hc
    refine lv_aload_n hx hb (dk hL_law_9 1 rfl) rfl (lv_at hl 0 rfl) ?_
    refine lv_iload hx hb (dk hL_law_9 2 rfl) (lv_at hl 8 rfl) ?_
    refine lv_iconst (v := (1 : Int32)) hx hb (dk hL_law_9 3 rfl) (by decide) ?_
    obtain ⟨u_106, e_107, hf⟩ := Option.bind_eq_some_iff.mp hf
    refine Ct.V (As := [.int x10, .int (1 : Int32)]) (rest := []) (st1 := [.int u_106.2]) (w1 := (wR G a u_106.1)) C hs (a_loaded e_107) tw_350 tw_351 tw_352 tw_17 tw_353 nq_X4_loaded (by decide) 0 4 rfl rfl rfl rfl hl.1 rfl (Nat.le_of_ble_eq_true rfl) (dk hL_law_9 4 rfl) ⟨by show 5000 ≤ 600000; omega, by show 50000 ≤ 7302250; omega⟩ rfl (fun H locs hs => ?_)
    refine lv_bipush (v := (-9 : Int32)) hx hb (dk hL_law_9 5 rfl) (by decide) ?_
    refine lv_icmp_lt (tgt := 700) hx hb (dk hL_law_9 6 rfl) (by decide) (fun hc => ?_) (fun hc => ?_)
    · replace hf := ip hf hc
      refine lv_iconst (v := (0 : Int32)) hx hb (dk hL_law_9 15 rfl) (by decide) ?_
      exact absurd hf (by decide)
    · replace hf := in_ hf hc
      exact j_L_law_J683 C hX hbl hbA hk hr _ _ _ hf _ _ hs _ (lv_sub hl [0, 1, 2, 3, 4, 5, 6, 7, 8, 9] rfl)
set_option maxRecDepth 100000 in
set_option maxHeartbeats 4000000 in
theorem j_L_law_J654 {p : Program} {l : Launch} {e : Jvm.Env} {s : State} {m : MethodId} {below : List Frame} {meth : Method} {c : Code} {G : Gx} {a : Aw} {bs L : Nat} {xs : Nat → Int32} {x2 : Int32} {x3 : Int32} {x4 : Int32} {x5 : Int32} {x6 : Int32} {x7 : Int32} {x8 : Int32} (C : Cx p s m #[.ref bs] meth c cL_law RL 17 (some .boolean) G) (hX : va_X bs L xs s s.heap) (hbl : bs < s.heap.size) (hbA : ¬ (fun q : Nat => s.heap.size ≤ q) bs) {k : Rw → Option (Int32)} {r : Int32 → Rw → Option (Int32)} (hk : ∀ (S : Rw), k S = some (1 : Int32) → ∀ (H : Heap) (locs : List Loc), St G (fun q : Nat => s.heap.size ≤ q) s.heap H locs (wR G a S) → ∀ ls : Array Slot, lv_has ls 17 [(1, .ref (a.1 0)), (2, .int x2), (3, .int x3), (4, .int x4), (5, .int x5), (6, .int x6), (7, .int x7)] → W p l e room_1 s m #[.ref bs] below meth c H locs 5000 50000 (lw_Z below #[Value.ref bs] s) (F0 m 981 ls [])) (hr : ∀ (v10 : Int32) (S : Rw), r v10 S = some (1 : Int32) → ∀ (H : Heap) (locs : List Loc), St G (fun q : Nat => s.heap.size ≤ q) s.heap H locs (wR G a S) → ∀ ls : Array Slot, lv_has ls 17 [(1, .ref (a.1 0)), (2, .int x2), (3, .int x3), (4, .int x4), (5, .int x5), (6, .int x6), (7, .int x7), (8, .int x8), (10, .int v10)] → W p l e room_1 s m #[.ref bs] below meth c H locs 5000 50000 (lw_Z below #[Value.ref bs] s) (F0 m 420 ls [])) : ∀ (x10 : Int32) (x11 : Int32) (S : Rw), X_L_law_J654 k r x2 x3 x4 x5 x6 x7 x8 x10 x11 S = some (1 : Int32) → ∀ (H : Heap) (locs : List Loc), St G (fun q : Nat => s.heap.size ≤ q) s.heap H locs (wR G a S) → ∀ ls : Array Slot, lv_has ls 17 [(1, .ref (a.1 0)), (2, .int x2), (3, .int x3), (4, .int x4), (5, .int x5), (6, .int x6), (7, .int x7), (8, .int x8), (10, .int x10), (11, .int x11)] → W p l e room_1 s m #[.ref bs] below meth c H locs 5000 50000 (lw_Z below #[Value.ref bs] s) (F0 m 654 ls []) := by
  obtain ⟨hx, hb, hml, hown, hts, hK, hret, hlk⟩ := id C
  intro x10 x11 S hf H locs hs ls hl
  unfold X_L_law_J654 at hf
  refine lv_aload_n hx hb (dk hL_law_8 33 rfl) rfl (lv_at hl 0 rfl) ?_
  refine lv_iload hx hb (dk hL_law_8 34 rfl) (lv_at hl 8 rfl) ?_
  refine lv_iconst (v := (5 : Int32)) hx hb (dk hL_law_8 35 rfl) (by decide) ?_
  obtain ⟨u_77, e_78, hf⟩ := Option.bind_eq_some_iff.mp hf
  refine Ct.V (As := [.int x10, .int (5 : Int32)]) (rest := []) (st1 := [.int u_77.2]) (w1 := (wR G a u_77.1)) C hs (a_sends e_78) tw_256 tw_257 tw_258 tw_17 tw_259 nq_X4_sends (by decide) 0 4 rfl rfl rfl rfl hl.1 rfl (Nat.le_of_ble_eq_true rfl) (dk hL_law_8 36 rfl) ⟨by show 5000 ≤ 600000; omega, by show 50000 ≤ 7302250; omega⟩ rfl (fun H locs hs => ?_)
  refine lv_bipush (v := (-3 : Int32)) hx hb (dk hL_law_8 37 rfl) (by decide) ?_
  refine lv_icmp_ne (tgt := 700) hx hb (dk hL_law_8 38 rfl) (by decide) (fun hc => ?_) (fun hc => ?_)
  · replace hf := in_ hf hc
    refine lv_iconst (v := (0 : Int32)) hx hb (dk hL_law_9 15 rfl) (by decide) ?_
    exact absurd hf (by decide)
  · replace hf := ip hf hc
    exact j_L_law_J666 C hX hbl hbA hk hr _ _ _ hf _ _ hs _ (lv_sub hl [0, 1, 2, 3, 4, 5, 6, 7, 8, 9] rfl)
set_option maxRecDepth 100000 in
set_option maxHeartbeats 4000000 in
theorem j_L_law_J567 {p : Program} {l : Launch} {e : Jvm.Env} {s : State} {m : MethodId} {below : List Frame} {meth : Method} {c : Code} {G : Gx} {a : Aw} {bs L : Nat} {xs : Nat → Int32} {x2 : Int32} {x3 : Int32} {x4 : Int32} {x5 : Int32} {x6 : Int32} {x7 : Int32} {x8 : Int32} (C : Cx p s m #[.ref bs] meth c cL_law RL 17 (some .boolean) G) (hX : va_X bs L xs s s.heap) (hbl : bs < s.heap.size) (hbA : ¬ (fun q : Nat => s.heap.size ≤ q) bs) {k : Rw → Option (Int32)} {r : Int32 → Rw → Option (Int32)} (hk : ∀ (S : Rw), k S = some (1 : Int32) → ∀ (H : Heap) (locs : List Loc), St G (fun q : Nat => s.heap.size ≤ q) s.heap H locs (wR G a S) → ∀ ls : Array Slot, lv_has ls 17 [(1, .ref (a.1 0)), (2, .int x2), (3, .int x3), (4, .int x4), (5, .int x5), (6, .int x6), (7, .int x7)] → W p l e room_1 s m #[.ref bs] below meth c H locs 5000 50000 (lw_Z below #[Value.ref bs] s) (F0 m 981 ls [])) (hr : ∀ (v10 : Int32) (S : Rw), r v10 S = some (1 : Int32) → ∀ (H : Heap) (locs : List Loc), St G (fun q : Nat => s.heap.size ≤ q) s.heap H locs (wR G a S) → ∀ ls : Array Slot, lv_has ls 17 [(1, .ref (a.1 0)), (2, .int x2), (3, .int x3), (4, .int x4), (5, .int x5), (6, .int x6), (7, .int x7), (8, .int x8), (10, .int v10)] → W p l e room_1 s m #[.ref bs] below meth c H locs 5000 50000 (lw_Z below #[Value.ref bs] s) (F0 m 420 ls [])) : ∀ (x10 : Int32) (x11 : Int32) (x12 : Int32) (S : Rw), X_L_law_J567 k r x2 x3 x4 x5 x6 x7 x8 x10 x11 x12 S = some (1 : Int32) → ∀ (H : Heap) (locs : List Loc), St G (fun q : Nat => s.heap.size ≤ q) s.heap H locs (wR G a S) → ∀ ls : Array Slot, lv_has ls 17 [(1, .ref (a.1 0)), (2, .int x2), (3, .int x3), (4, .int x4), (5, .int x5), (6, .int x6), (7, .int x7), (8, .int x8), (10, .int x10), (11, .int x11), (12, .int x12)] → W p l e room_1 s m #[.ref bs] below meth c H locs 5000 50000 (lw_Z below #[Value.ref bs] s) (F0 m 567 ls []) := by
  obtain ⟨hx, hb, hml, hown, hts, hK, hret, hlk⟩ := id C
  intro x10 x11 x12 S hf H locs hs ls hl
  unfold X_L_law_J567 at hf
  refine lv_iload hx hb (dk hL_law_7 29 rfl) (lv_at hl 10 rfl) ?_
  refine lv_if_eq (tgt := 654) hx hb (dk hL_law_7 30 rfl) (by decide) (fun hc => ?_) (fun hc => ?_)
  · replace hf := ip hf hc
    exact j_L_law_J654 C hX hbl hbA hk hr _ _ _ hf _ _ hs _ (lv_sub hl [0, 1, 2, 3, 4, 5, 6, 7, 8, 9] rfl)
  · replace hf := in_ hf hc
    refine lv_aload_n hx hb (dk hL_law_7 31 rfl) rfl (lv_at hl 0 rfl) ?_
    refine lv_iload hx hb (dk hL_law_7 32 rfl) (lv_at hl 8 rfl) ?_
    obtain ⟨u_108, e_109, hf⟩ := Option.bind_eq_some_iff.mp hf
    refine Ct.V (As := [.int x10]) (rest := []) (st1 := [.int u_108.2]) (w1 := (wR G a u_108.1)) C hs (a_forWhat e_109) tw_366 tw_367 tw_368 tw_17 tw_369 nq_X4_forWhat (by decide) 0 4 rfl rfl rfl rfl hl.1 rfl (Nat.le_of_ble_eq_true rfl) (dk hL_law_7 33 rfl) ⟨by show 5000 ≤ 600000; omega, by show 50000 ≤ 7302250; omega⟩ rfl (fun H locs hs => ?_)
    refine lv_bipush (v := (-3 : Int32)) hx hb (dk hL_law_7 34 rfl) (by decide) ?_
    refine lv_icmp_ne (tgt := 652) hx hb (dk hL_law_7 35 rfl) (by decide) (fun hc => ?_) (fun hc => ?_)
    · replace hf := in_ hf hc
      refine lv_iconst (v := (0 : Int32)) hx hb (dk hL_law_8 31 rfl) (by decide) ?_
      exact absurd hf (by decide)
    · replace hf := ip hf hc
      refine lv_aload_n hx hb (dk hL_law_7 36 rfl) rfl (lv_at hl 0 rfl) ?_
      refine lv_iload hx hb (dk hL_law_7 37 rfl) (lv_at hl 8 rfl) ?_
      refine lv_iconst (v := (0 : Int32)) hx hb (dk hL_law_7 38 rfl) (by decide) ?_
      obtain ⟨u_110, e_111, hf⟩ := Option.bind_eq_some_iff.mp hf
      refine Ct.V (As := [.int x10, .int (0 : Int32)]) (rest := []) (st1 := [.int u_110.2]) (w1 := (wR G a u_110.1)) C hs (a_loaded e_111) tw_350 tw_351 tw_352 tw_17 tw_353 nq_X4_loaded (by decide) 0 4 rfl rfl rfl rfl hl.1 rfl (Nat.le_of_ble_eq_true rfl) (dk hL_law_7 39 rfl) ⟨by show 5000 ≤ 600000; omega, by show 50000 ≤ 7302250; omega⟩ rfl (fun H locs hs => ?_)
      refine lv_bipush (v := (-3 : Int32)) hx hb (dk hL_law_8 0 rfl) (by decide) ?_
      refine lv_icmp_ne (tgt := 652) hx hb (dk hL_law_8 1 rfl) (by decide) (fun hc => ?_) (fun hc => ?_)
      · replace hf := in_ hf hc
        refine lv_iconst (v := (0 : Int32)) hx hb (dk hL_law_8 31 rfl) (by decide) ?_
        exact absurd hf (by decide)
      · replace hf := ip hf hc
        refine lv_aload_n hx hb (dk hL_law_8 2 rfl) rfl (lv_at hl 0 rfl) ?_
        refine lv_iload hx hb (dk hL_law_8 3 rfl) (lv_at hl 8 rfl) ?_
        refine lv_iconst (v := (5 : Int32)) hx hb (dk hL_law_8 4 rfl) (by decide) ?_
        obtain ⟨u_112, e_113, hf⟩ := Option.bind_eq_some_iff.mp hf
        refine Ct.V (As := [.int x10, .int (5 : Int32)]) (rest := []) (st1 := [.int u_112.2]) (w1 := (wR G a u_112.1)) C hs (a_sends e_113) tw_256 tw_257 tw_258 tw_17 tw_259 nq_X4_sends (by decide) 0 4 rfl rfl rfl rfl hl.1 rfl (Nat.le_of_ble_eq_true rfl) (dk hL_law_8 5 rfl) ⟨by show 5000 ≤ 600000; omega, by show 50000 ≤ 7302250; omega⟩ rfl (fun H locs hs => ?_)
        refine lv_if_lt (tgt := 652) hx hb (dk hL_law_8 6 rfl) (by decide) (fun hc => ?_) (fun hc => ?_)
        · replace hf := ip hf hc
          refine lv_iconst (v := (0 : Int32)) hx hb (dk hL_law_8 31 rfl) (by decide) ?_
          exact absurd hf (by decide)
        · replace hf := in_ hf hc
          refine lv_aload_n hx hb (dk hL_law_8 7 rfl) rfl (lv_at hl 0 rfl) ?_
          refine lv_iload hx hb (dk hL_law_8 8 rfl) (lv_at hl 8 rfl) ?_
          refine lv_iconst (v := (4 : Int32)) hx hb (dk hL_law_8 9 rfl) (by decide) ?_
          obtain ⟨u_114, e_115, hf⟩ := Option.bind_eq_some_iff.mp hf
          refine Ct.V (As := [.int x10, .int (4 : Int32)]) (rest := []) (st1 := [.int u_114.2]) (w1 := (wR G a u_114.1)) C hs (a_shipOf e_115) tw_174 tw_175 tw_176 tw_17 tw_177 nq_X4_shipOf (by decide) 0 4 rfl rfl rfl rfl hl.1 rfl (Nat.le_of_ble_eq_true rfl) (dk hL_law_8 10 rfl) ⟨by show 5000 ≤ 600000; omega, by show 50000 ≤ 7302250; omega⟩ rfl (fun H locs hs => ?_)
          refine lv_if_ne (tgt := 652) hx hb (dk hL_law_8 11 rfl) (by decide) (fun hc => ?_) (fun hc => ?_)
          · replace hf := in_ hf hc
            refine lv_iconst (v := (0 : Int32)) hx hb (dk hL_law_8 31 rfl) (by decide) ?_
            exact absurd hf (by decide)
          · replace hf := ip hf hc
            refine lv_aload_n hx hb (dk hL_law_8 12 rfl) rfl (lv_at hl 0 rfl) ?_
            refine lv_iload hx hb (dk hL_law_8 13 rfl) (lv_at hl 8 rfl) ?_
            refine lv_iconst (v := (3 : Int32)) hx hb (dk hL_law_8 14 rfl) (by decide) ?_
            obtain ⟨u_116, e_117, hf⟩ := Option.bind_eq_some_iff.mp hf
            refine Ct.V (As := [.int x10, .int (3 : Int32)]) (rest := []) (st1 := [.int u_116.2]) (w1 := (wR G a u_116.1)) C hs (a_shipOf e_117) tw_174 tw_175 tw_176 tw_17 tw_177 nq_X4_shipOf (by decide) 0 4 rfl rfl rfl rfl hl.1 rfl (Nat.le_of_ble_eq_true rfl) (dk hL_law_8 15 rfl) ⟨by show 5000 ≤ 600000; omega, by show 50000 ≤ 7302250; omega⟩ rfl (fun H locs hs => ?_)
            refine lv_iconst (v := (5 : Int32)) hx hb (dk hL_law_8 16 rfl) (by decide) ?_
            refine lv_icmp_ne (tgt := 652) hx hb (dk hL_law_8 17 rfl) (by decide) (fun hc => ?_) (fun hc => ?_)
            · replace hf := in_ hf hc
              refine lv_iconst (v := (0 : Int32)) hx hb (dk hL_law_8 31 rfl) (by decide) ?_
              exact absurd hf (by decide)
            · replace hf := ip hf hc
              refine lv_aload_n hx hb (dk hL_law_8 18 rfl) rfl (lv_at hl 0 rfl) ?_
              obtain ⟨u_118, e_119, hf⟩ := Option.bind_eq_some_iff.mp hf
              refine Ct.V (As := []) (rest := []) (st1 := [.int u_118.2]) (w1 := (wR G a u_118.1)) C hs (a_back e_119) tw_296 tw_297 tw_298 tw_17 tw_299 nq_X4_back (by decide) 0 4 rfl rfl rfl rfl hl.1 rfl (Nat.le_of_ble_eq_true rfl) (dk hL_law_8 19 rfl) ⟨by show 5000 ≤ 600000; omega, by show 50000 ≤ 7302250; omega⟩ rfl (fun H locs hs => ?_)
              refine lv_if_lt (tgt := 652) hx hb (dk hL_law_8 20 rfl) (by decide) (fun hc => ?_) (fun hc => ?_)
              · replace hf := ip hf hc
                refine lv_iconst (v := (0 : Int32)) hx hb (dk hL_law_8 31 rfl) (by decide) ?_
                exact absurd hf (by decide)
              · replace hf := in_ hf hc
                refine lv_aload_n hx hb (dk hL_law_8 21 rfl) rfl (lv_at hl 0 rfl) ?_
                refine lv_iload hx hb (dk hL_law_8 22 rfl) (lv_at hl 8 rfl) ?_
                refine lv_iconst (v := (4 : Int32)) hx hb (dk hL_law_8 23 rfl) (by decide) ?_
                obtain ⟨u_120, e_121, hf⟩ := Option.bind_eq_some_iff.mp hf
                refine Ct.V (As := [.int x10, .int (4 : Int32)]) (rest := []) (st1 := [.int u_120.2]) (w1 := (wR G a u_120.1)) C hs (a_shipOf e_121) tw_174 tw_175 tw_176 tw_17 tw_177 nq_X4_shipOf (by decide) 0 4 rfl rfl rfl rfl hl.1 rfl (Nat.le_of_ble_eq_true rfl) (dk hL_law_8 24 rfl) ⟨by show 5000 ≤ 600000; omega, by show 50000 ≤ 7302250; omega⟩ rfl (fun H locs hs => ?_)
                refine lv_iconst (v := (1 : Int32)) hx hb (dk hL_law_8 25 rfl) (by decide) ?_
                refine lv_icmp_ne (tgt := 652) hx hb (dk hL_law_8 26 rfl) (by decide) (fun hc => ?_) (fun hc => ?_)
                · replace hf := in_ hf hc
                  refine lv_iconst (v := (0 : Int32)) hx hb (dk hL_law_8 31 rfl) (by decide) ?_
                  exact absurd hf (by decide)
                · replace hf := ip hf hc
                  refine lv_aload_n hx hb (dk hL_law_8 27 rfl) rfl (lv_at hl 0 rfl) ?_
                  obtain ⟨u_122, e_123, hf⟩ := Option.bind_eq_some_iff.mp hf
                  refine Ct.V (As := []) (rest := []) (st1 := [.int u_122.2]) (w1 := (wR G a u_122.1)) C hs (a_restore e_123) tw_430 tw_431 tw_432 tw_17 tw_433 nq_X4_restore (by decide) 0 4 rfl rfl rfl rfl hl.1 rfl (Nat.le_of_ble_eq_true rfl) (dk hL_law_8 28 rfl) ⟨by show 5000 ≤ 600000; omega, by show 50000 ≤ 7302250; omega⟩ rfl (fun H locs hs => ?_)
                  refine lv_iload_n hx hb (dk hL_law_8 29 rfl) rfl (lv_at hl 2 rfl) ?_
                  refine lv_icmp_eq (tgt := 975) hx hb (dk hL_law_8 30 rfl) (by decide) (fun hc => ?_) (fun hc => ?_)
                  · replace hf := ip hf hc
                    refine lv_iinc (v := (x10 + (1 : Int32))) (lv' := [(10, .int (x10 + (1 : Int32))), (1, .ref (a.1 0)), (2, .int x2), (3, .int x3), (4, .int x4), (5, .int x5), (6, .int x6), (7, .int x7), (8, .int x8), (11, .int x11), (12, .int x12)]) hx hb (dk hL_law_12 37 rfl) hl (k := 8) rfl (by first | rfl | decide) (by decide) rfl (fun ls hl => ?_)
                    refine lv_goto (tgt := 420) hx hb (dk hL_law_12 38 rfl) (by decide) ?_
                    exact hr _ _ hf _ _ hs _ (lv_sub hl [1, 2, 3, 4, 5, 6, 7, 8, 0] rfl)
                  · replace hf := in_ hf hc
                    refine lv_iconst (v := (0 : Int32)) hx hb (dk hL_law_8 31 rfl) (by decide) ?_
                    exact absurd hf (by decide)
set_option maxRecDepth 100000 in
set_option maxHeartbeats 4000000 in
theorem j_L_law_J527 {p : Program} {l : Launch} {e : Jvm.Env} {s : State} {m : MethodId} {below : List Frame} {meth : Method} {c : Code} {G : Gx} {a : Aw} {bs L : Nat} {xs : Nat → Int32} {x2 : Int32} {x3 : Int32} {x4 : Int32} {x5 : Int32} {x6 : Int32} {x7 : Int32} {x8 : Int32} (C : Cx p s m #[.ref bs] meth c cL_law RL 17 (some .boolean) G) (hX : va_X bs L xs s s.heap) (hbl : bs < s.heap.size) (hbA : ¬ (fun q : Nat => s.heap.size ≤ q) bs) {k : Rw → Option (Int32)} {r : Int32 → Rw → Option (Int32)} (hk : ∀ (S : Rw), k S = some (1 : Int32) → ∀ (H : Heap) (locs : List Loc), St G (fun q : Nat => s.heap.size ≤ q) s.heap H locs (wR G a S) → ∀ ls : Array Slot, lv_has ls 17 [(1, .ref (a.1 0)), (2, .int x2), (3, .int x3), (4, .int x4), (5, .int x5), (6, .int x6), (7, .int x7)] → W p l e room_1 s m #[.ref bs] below meth c H locs 5000 50000 (lw_Z below #[Value.ref bs] s) (F0 m 981 ls [])) (hr : ∀ (v10 : Int32) (S : Rw), r v10 S = some (1 : Int32) → ∀ (H : Heap) (locs : List Loc), St G (fun q : Nat => s.heap.size ≤ q) s.heap H locs (wR G a S) → ∀ ls : Array Slot, lv_has ls 17 [(1, .ref (a.1 0)), (2, .int x2), (3, .int x3), (4, .int x4), (5, .int x5), (6, .int x6), (7, .int x7), (8, .int x8), (10, .int v10)] → W p l e room_1 s m #[.ref bs] below meth c H locs 5000 50000 (lw_Z below #[Value.ref bs] s) (F0 m 420 ls [])) : ∀ (x10 : Int32) (x11 : Int32) (x12 : Int32) (S : Rw), X_L_law_J527 k r x2 x3 x4 x5 x6 x7 x8 x10 x11 x12 S = some (1 : Int32) → ∀ (H : Heap) (locs : List Loc), St G (fun q : Nat => s.heap.size ≤ q) s.heap H locs (wR G a S) → ∀ ls : Array Slot, lv_has ls 17 [(1, .ref (a.1 0)), (2, .int x2), (3, .int x3), (4, .int x4), (5, .int x5), (6, .int x6), (7, .int x7), (8, .int x8), (10, .int x10), (11, .int x11), (12, .int x12)] → W p l e room_1 s m #[.ref bs] below meth c H locs 5000 50000 (lw_Z below #[Value.ref bs] s) (F0 m 527 ls []) := by
  obtain ⟨hx, hb, hml, hown, hts, hK, hret, hlk⟩ := id C
  intro x10 x11 x12 S hf H locs hs ls hl
  unfold X_L_law_J527 at hf
  refine lv_iload hx hb (dk hL_law_7 4 rfl) (lv_at hl 9 rfl) ?_
  refine lv_if_le (tgt := 567) hx hb (dk hL_law_7 5 rfl) (by decide) (fun hc => ?_) (fun hc => ?_)
  · replace hf := ip hf hc
    exact j_L_law_J567 C hX hbl hbA hk hr _ _ _ _ hf _ _ hs _ (lv_sub hl [0, 1, 2, 3, 4, 5, 6, 7, 8, 9, 10] rfl)
  · replace hf := in_ hf hc
    refine lv_aload_n hx hb (dk hL_law_7 6 rfl) rfl (lv_at hl 0 rfl) ?_
    refine lv_iload hx hb (dk hL_law_7 7 rfl) (lv_at hl 9 rfl) ?_
    refine lv_iconst (v := (1 : Int32)) hx hb (dk hL_law_7 8 rfl) (by decide) ?_
    obtain ⟨u_124, e_125, hf⟩ := Option.bind_eq_some_iff.mp hf
    refine Ct.V (As := [.int x11, .int (1 : Int32)]) (rest := []) (st1 := [.int u_124.2]) (w1 := (wR G a u_124.1)) C hs (a_then e_125) tw_317 tw_318 tw_319 tw_17 tw_320 nq_X4_then (by decide) 0 4 rfl rfl rfl rfl hl.1 rfl (Nat.le_of_ble_eq_true rfl) (dk hL_law_7 9 rfl) ⟨by show 5000 ≤ 600000; omega, by show 50000 ≤ 7302250; omega⟩ rfl (fun H locs hs => ?_)
    refine lv_iload hx hb (dk hL_law_7 10 rfl) (lv_at hl 8 rfl) ?_
    refine lv_ishr hx hb (dk hL_law_7 11 rfl) ?_
    refine lv_iconst (v := (1 : Int32)) hx hb (dk hL_law_7 12 rfl) (by decide) ?_
    refine lv_iand hx hb (dk hL_law_7 13 rfl) ?_
    refine lv_iconst (v := (1 : Int32)) hx hb (dk hL_law_7 14 rfl) (by decide) ?_
    refine lv_icmp_ne (tgt := 565) hx hb (dk hL_law_7 15 rfl) (by decide) (fun hc => ?_) (fun hc => ?_)
    · replace hf := in_ hf hc
      refine lv_iconst (v := (0 : Int32)) hx hb (dk hL_law_7 27 rfl) (by decide) ?_
      exact absurd hf (by decide)
    · replace hf := ip hf hc
      refine lv_aload_n hx hb (dk hL_law_7 16 rfl) rfl (lv_at hl 0 rfl) ?_
      refine lv_iload hx hb (dk hL_law_7 17 rfl) (lv_at hl 9 rfl) ?_
      refine lv_iconst (v := (1 : Int32)) hx hb (dk hL_law_7 18 rfl) (by decide) ?_
      refine lv_isub hx hb (dk hL_law_7 19 rfl) ?_
      refine lv_iconst (v := (1 : Int32)) hx hb (dk hL_law_7 20 rfl) (by decide) ?_
      obtain ⟨u_126, e_127, hf⟩ := Option.bind_eq_some_iff.mp hf
      refine Ct.V (As := [.int (x11 - (1 : Int32)), .int (1 : Int32)]) (rest := []) (st1 := [.int u_126.2]) (w1 := (wR G a u_126.1)) C hs (a_then e_127) tw_317 tw_318 tw_319 tw_17 tw_320 nq_X4_then (by decide) 0 4 rfl rfl rfl rfl hl.1 rfl (Nat.le_of_ble_eq_true rfl) (dk hL_law_7 21 rfl) ⟨by show 5000 ≤ 600000; omega, by show 50000 ≤ 7302250; omega⟩ rfl (fun H locs hs => ?_)
      refine lv_iload hx hb (dk hL_law_7 22 rfl) (lv_at hl 8 rfl) ?_
      refine lv_ishr hx hb (dk hL_law_7 23 rfl) ?_
      refine lv_iconst (v := (1 : Int32)) hx hb (dk hL_law_7 24 rfl) (by decide) ?_
      refine lv_iand hx hb (dk hL_law_7 25 rfl) ?_
      refine lv_if_eq (tgt := 567) hx hb (dk hL_law_7 26 rfl) (by decide) (fun hc => ?_) (fun hc => ?_)
      · replace hf := ip hf hc
        exact j_L_law_J567 C hX hbl hbA hk hr _ _ _ _ hf _ _ hs _ (lv_sub hl [0, 1, 2, 3, 4, 5, 6, 7, 8, 9, 10] rfl)
      · replace hf := in_ hf hc
        refine lv_iconst (v := (0 : Int32)) hx hb (dk hL_law_7 27 rfl) (by decide) ?_
        exact absurd hf (by decide)
set_option maxRecDepth 100000 in
set_option maxHeartbeats 4000000 in
theorem j_L_law_J502 {p : Program} {l : Launch} {e : Jvm.Env} {s : State} {m : MethodId} {below : List Frame} {meth : Method} {c : Code} {G : Gx} {a : Aw} {bs L : Nat} {xs : Nat → Int32} {x2 : Int32} {x3 : Int32} {x4 : Int32} {x5 : Int32} {x6 : Int32} {x7 : Int32} {x8 : Int32} (C : Cx p s m #[.ref bs] meth c cL_law RL 17 (some .boolean) G) (hX : va_X bs L xs s s.heap) (hbl : bs < s.heap.size) (hbA : ¬ (fun q : Nat => s.heap.size ≤ q) bs) {k : Rw → Option (Int32)} {r : Int32 → Rw → Option (Int32)} (hk : ∀ (S : Rw), k S = some (1 : Int32) → ∀ (H : Heap) (locs : List Loc), St G (fun q : Nat => s.heap.size ≤ q) s.heap H locs (wR G a S) → ∀ ls : Array Slot, lv_has ls 17 [(1, .ref (a.1 0)), (2, .int x2), (3, .int x3), (4, .int x4), (5, .int x5), (6, .int x6), (7, .int x7)] → W p l e room_1 s m #[.ref bs] below meth c H locs 5000 50000 (lw_Z below #[Value.ref bs] s) (F0 m 981 ls [])) (hr : ∀ (v10 : Int32) (S : Rw), r v10 S = some (1 : Int32) → ∀ (H : Heap) (locs : List Loc), St G (fun q : Nat => s.heap.size ≤ q) s.heap H locs (wR G a S) → ∀ ls : Array Slot, lv_has ls 17 [(1, .ref (a.1 0)), (2, .int x2), (3, .int x3), (4, .int x4), (5, .int x5), (6, .int x6), (7, .int x7), (8, .int x8), (10, .int v10)] → W p l e room_1 s m #[.ref bs] below meth c H locs 5000 50000 (lw_Z below #[Value.ref bs] s) (F0 m 420 ls [])) : ∀ (x10 : Int32) (x11 : Int32) (x12 : Int32) (S : Rw), X_L_law_J502 k r x2 x3 x4 x5 x6 x7 x8 x10 x11 x12 S = some (1 : Int32) → ∀ (H : Heap) (locs : List Loc), St G (fun q : Nat => s.heap.size ≤ q) s.heap H locs (wR G a S) → ∀ ls : Array Slot, lv_has ls 17 [(1, .ref (a.1 0)), (2, .int x2), (3, .int x3), (4, .int x4), (5, .int x5), (6, .int x6), (7, .int x7), (8, .int x8), (10, .int x10), (11, .int x11), (12, .int x12)] → W p l e room_1 s m #[.ref bs] below meth c H locs 5000 50000 (lw_Z below #[Value.ref bs] s) (F0 m 502 ls []) := by
  obtain ⟨hx, hb, hml, hown, hts, hK, hret, hlk⟩ := id C
  intro x10 x11 x12 S hf H locs hs ls hl
  unfold X_L_law_J502 at hf
  refine lv_aload_n hx hb (dk hL_law_6 31 rfl) rfl (lv_at hl 0 rfl) ?_
  refine lv_iload hx hb (dk hL_law_6 32 rfl) (lv_at hl 8 rfl) ?_
  refine lv_bipush (v := (7 : Int32)) hx hb (dk hL_law_6 33 rfl) (by decide) ?_
  obtain ⟨u_71, e_72, hf⟩ := Option.bind_eq_some_iff.mp hf
  refine Ct.V (As := [.int x10, .int (7 : Int32)]) (rest := []) (st1 := [.int u_71.2]) (w1 := (wR G a u_71.1)) C hs (a_shipOf e_72) tw_174 tw_175 tw_176 tw_17 tw_177 nq_X4_shipOf (by decide) 0 4 rfl rfl rfl rfl hl.1 rfl (Nat.le_of_ble_eq_true rfl) (dk hL_law_6 34 rfl) ⟨by show 5000 ≤ 600000; omega, by show 50000 ≤ 7302250; omega⟩ rfl (fun H locs hs => ?_)
  refine lv_aload_n hx hb (dk hL_law_6 35 rfl) rfl (lv_at hl 0 rfl) ?_
  refine lv_iconst (v := (0 : Int32)) hx hb (dk hL_law_6 36 rfl) (by decide) ?_
  obtain ⟨u_73, e_74, hf⟩ := Option.bind_eq_some_iff.mp hf
  refine Ct.V (As := [.int (0 : Int32)]) (rest := [.int u_71.2]) (st1 := [.int u_73.2, .int u_71.2]) (w1 := (wR G a u_73.1)) C hs (a_tide e_74) tw_220 tw_221 tw_222 tw_17 tw_223 nq_X4_tide (by decide) 0 4 rfl rfl rfl rfl hl.1 rfl (Nat.le_of_ble_eq_true rfl) (dk hL_law_6 37 rfl) ⟨by show 5000 ≤ 600000; omega, by show 50000 ≤ 7302250; omega⟩ rfl (fun H locs hs => ?_)
  refine lv_aload_n hx hb (dk hL_law_6 38 rfl) rfl (lv_at hl 0 rfl) ?_
  refine lv_iload hx hb (dk hL_law_6 39 rfl) (lv_at hl 8 rfl) ?_
  refine lv_bipush (v := (6 : Int32)) hx hb (dk hL_law_7 0 rfl) (by decide) ?_
  obtain ⟨u_75, e_76, hf⟩ := Option.bind_eq_some_iff.mp hf
  refine Ct.V (As := [.int x10, .int (6 : Int32)]) (rest := [.int u_73.2, .int u_71.2]) (st1 := [.int u_75.2, .int u_73.2, .int u_71.2]) (w1 := (wR G a u_75.1)) C hs (a_shipOf e_76) tw_174 tw_175 tw_176 tw_17 tw_177 nq_X4_shipOf (by decide) 0 4 rfl rfl rfl rfl hl.1 rfl (Nat.le_of_ble_eq_true rfl) (dk hL_law_7 1 rfl) ⟨by show 5000 ≤ 600000; omega, by show 50000 ≤ 7302250; omega⟩ rfl (fun H locs hs => ?_)
  refine lv_iadd hx hb (dk hL_law_7 2 rfl) ?_
  refine lv_icmp_ne (tgt := 565) hx hb (dk hL_law_7 3 rfl) (by decide) (fun hc => ?_) (fun hc => ?_)
  · replace hf := in_ hf hc
    refine lv_iconst (v := (0 : Int32)) hx hb (dk hL_law_7 27 rfl) (by decide) ?_
    exact absurd hf (by decide)
  · replace hf := ip hf hc
    exact j_L_law_J527 C hX hbl hbA hk hr _ _ _ _ hf _ _ hs _ (lv_sub hl [0, 1, 2, 3, 4, 5, 6, 7, 8, 9, 10] rfl)
set_option maxRecDepth 100000 in
set_option maxHeartbeats 4000000 in
theorem j_L_law_J467 {p : Program} {l : Launch} {e : Jvm.Env} {s : State} {m : MethodId} {below : List Frame} {meth : Method} {c : Code} {G : Gx} {a : Aw} {bs L : Nat} {xs : Nat → Int32} {x2 : Int32} {x3 : Int32} {x4 : Int32} {x5 : Int32} {x6 : Int32} {x7 : Int32} {x8 : Int32} (C : Cx p s m #[.ref bs] meth c cL_law RL 17 (some .boolean) G) (hX : va_X bs L xs s s.heap) (hbl : bs < s.heap.size) (hbA : ¬ (fun q : Nat => s.heap.size ≤ q) bs) {k : Rw → Option (Int32)} {r : Int32 → Rw → Option (Int32)} (hk : ∀ (S : Rw), k S = some (1 : Int32) → ∀ (H : Heap) (locs : List Loc), St G (fun q : Nat => s.heap.size ≤ q) s.heap H locs (wR G a S) → ∀ ls : Array Slot, lv_has ls 17 [(1, .ref (a.1 0)), (2, .int x2), (3, .int x3), (4, .int x4), (5, .int x5), (6, .int x6), (7, .int x7)] → W p l e room_1 s m #[.ref bs] below meth c H locs 5000 50000 (lw_Z below #[Value.ref bs] s) (F0 m 981 ls [])) (hr : ∀ (v10 : Int32) (S : Rw), r v10 S = some (1 : Int32) → ∀ (H : Heap) (locs : List Loc), St G (fun q : Nat => s.heap.size ≤ q) s.heap H locs (wR G a S) → ∀ ls : Array Slot, lv_has ls 17 [(1, .ref (a.1 0)), (2, .int x2), (3, .int x3), (4, .int x4), (5, .int x5), (6, .int x6), (7, .int x7), (8, .int x8), (10, .int v10)] → W p l e room_1 s m #[.ref bs] below meth c H locs 5000 50000 (lw_Z below #[Value.ref bs] s) (F0 m 420 ls [])) : ∀ (x10 : Int32) (x11 : Int32) (x12 : Int32) (S : Rw), X_L_law_J467 k r x2 x3 x4 x5 x6 x7 x8 x10 x11 x12 S = some (1 : Int32) → ∀ (H : Heap) (locs : List Loc), St G (fun q : Nat => s.heap.size ≤ q) s.heap H locs (wR G a S) → ∀ ls : Array Slot, lv_has ls 17 [(1, .ref (a.1 0)), (2, .int x2), (3, .int x3), (4, .int x4), (5, .int x5), (6, .int x6), (7, .int x7), (8, .int x8), (10, .int x10), (11, .int x11), (12, .int x12)] → W p l e room_1 s m #[.ref bs] below meth c H locs 5000 50000 (lw_Z below #[Value.ref bs] s) (F0 m 467 ls []) := by
  obtain ⟨hx, hb, hml, hown, hts, hK, hret, hlk⟩ := id C
  intro x10 x11 x12 S hf H locs hs ls hl
  unfold X_L_law_J467 at hf
  refine lv_iload hx hb (dk hL_law_6 12 rfl) (lv_at hl 9 rfl) ?_
  refine lv_if_eq (tgt := 478) hx hb (dk hL_law_6 13 rfl) (by decide) (fun hc => ?_) (fun hc => ?_)
  · replace hf := ip hf hc
    refine lv_iconst (v := (1 : Int32)) hx hb (dk hL_law_6 17 rfl) (by decide) ?_
    refine lv_goto (tgt := 483) hx hb (dk hL_law_6 18 rfl) (by decide) ?_
    refine lv_iload hx hb (dk hL_law_6 20 rfl) (lv_at hl 7 rfl) ?_
    refine lv_iload hx hb (dk hL_law_6 21 rfl) (lv_at hl 8 rfl) ?_
    refine lv_ishr hx hb (dk hL_law_6 22 rfl) ?_
    refine lv_iconst (v := (1 : Int32)) hx hb (dk hL_law_6 23 rfl) (by decide) ?_
    refine lv_iand hx hb (dk hL_law_6 24 rfl) ?_
    refine lv_iconst (v := (1 : Int32)) hx hb (dk hL_law_6 25 rfl) (by decide) ?_
    refine lv_icmp_ne (tgt := 498) hx hb (dk hL_law_6 26 rfl) (by decide) (fun hc => ?_) (fun hc => ?_)
    · replace hf := in_ hf hc
      refine lv_iconst (v := (0 : Int32)) hx hb (dk hL_law_6 29 rfl) (by decide) ?_
      refine lv_icmp_ne (tgt := 565) hx hb (dk hL_law_6 30 rfl) (by decide) (fun hc => ?_) (fun hc => ?_)
      · refine lv_iconst (v := (0 : Int32)) hx hb (dk hL_law_7 27 rfl) (by decide) ?_
        exact absurd hf (by decide)
      · exact absurd hc (by decide)
    · replace hf := ip hf hc
      refine lv_iconst (v := (1 : Int32)) hx hb (dk hL_law_6 27 rfl) (by decide) ?_
      refine lv_goto (tgt := 499) hx hb (dk hL_law_6 28 rfl) (by decide) ?_
      refine lv_icmp_ne (tgt := 565) hx hb (dk hL_law_6 30 rfl) (by decide) (fun hc => ?_) (fun hc => ?_)
      · exact absurd hc (by decide)
      · exact j_L_law_J502 C hX hbl hbA hk hr _ _ _ _ hf _ _ hs _ (lv_sub hl [0, 1, 2, 3, 4, 5, 6, 7, 8, 9, 10] rfl)
  · replace hf := in_ hf hc
    refine lv_iload hx hb (dk hL_law_6 14 rfl) (lv_at hl 9 rfl) ?_
    refine lv_iconst (v := (1 : Int32)) hx hb (dk hL_law_6 15 rfl) (by decide) ?_
    refine lv_icmp_ne (tgt := 482) hx hb (dk hL_law_6 16 rfl) (by decide) (fun hc => ?_) (fun hc => ?_)
    · replace hf := in_ hf hc
      refine lv_iconst (v := (0 : Int32)) hx hb (dk hL_law_6 19 rfl) (by decide) ?_
      refine lv_iload hx hb (dk hL_law_6 20 rfl) (lv_at hl 7 rfl) ?_
      refine lv_iload hx hb (dk hL_law_6 21 rfl) (lv_at hl 8 rfl) ?_
      refine lv_ishr hx hb (dk hL_law_6 22 rfl) ?_
      refine lv_iconst (v := (1 : Int32)) hx hb (dk hL_law_6 23 rfl) (by decide) ?_
      refine lv_iand hx hb (dk hL_law_6 24 rfl) ?_
      refine lv_iconst (v := (1 : Int32)) hx hb (dk hL_law_6 25 rfl) (by decide) ?_
      refine lv_icmp_ne (tgt := 498) hx hb (dk hL_law_6 26 rfl) (by decide) (fun hc => ?_) (fun hc => ?_)
      · replace hf := in_ hf hc
        refine lv_iconst (v := (0 : Int32)) hx hb (dk hL_law_6 29 rfl) (by decide) ?_
        refine lv_icmp_ne (tgt := 565) hx hb (dk hL_law_6 30 rfl) (by decide) (fun hc => ?_) (fun hc => ?_)
        · exact absurd hc (by decide)
        · exact j_L_law_J502 C hX hbl hbA hk hr _ _ _ _ hf _ _ hs _ (lv_sub hl [0, 1, 2, 3, 4, 5, 6, 7, 8, 9, 10] rfl)
      · replace hf := ip hf hc
        refine lv_iconst (v := (1 : Int32)) hx hb (dk hL_law_6 27 rfl) (by decide) ?_
        refine lv_goto (tgt := 499) hx hb (dk hL_law_6 28 rfl) (by decide) ?_
        refine lv_icmp_ne (tgt := 565) hx hb (dk hL_law_6 30 rfl) (by decide) (fun hc => ?_) (fun hc => ?_)
        · refine lv_iconst (v := (0 : Int32)) hx hb (dk hL_law_7 27 rfl) (by decide) ?_
          exact absurd hf (by decide)
        · exact absurd hc (by decide)
    · replace hf := ip hf hc
      refine lv_iconst (v := (1 : Int32)) hx hb (dk hL_law_6 17 rfl) (by decide) ?_
      refine lv_goto (tgt := 483) hx hb (dk hL_law_6 18 rfl) (by decide) ?_
      refine lv_iload hx hb (dk hL_law_6 20 rfl) (lv_at hl 7 rfl) ?_
      refine lv_iload hx hb (dk hL_law_6 21 rfl) (lv_at hl 8 rfl) ?_
      refine lv_ishr hx hb (dk hL_law_6 22 rfl) ?_
      refine lv_iconst (v := (1 : Int32)) hx hb (dk hL_law_6 23 rfl) (by decide) ?_
      refine lv_iand hx hb (dk hL_law_6 24 rfl) ?_
      refine lv_iconst (v := (1 : Int32)) hx hb (dk hL_law_6 25 rfl) (by decide) ?_
      refine lv_icmp_ne (tgt := 498) hx hb (dk hL_law_6 26 rfl) (by decide) (fun hc => ?_) (fun hc => ?_)
      · replace hf := in_ hf hc
        refine lv_iconst (v := (0 : Int32)) hx hb (dk hL_law_6 29 rfl) (by decide) ?_
        refine lv_icmp_ne (tgt := 565) hx hb (dk hL_law_6 30 rfl) (by decide) (fun hc => ?_) (fun hc => ?_)
        · refine lv_iconst (v := (0 : Int32)) hx hb (dk hL_law_7 27 rfl) (by decide) ?_
          exact absurd hf (by decide)
        · exact absurd hc (by decide)
      · replace hf := ip hf hc
        refine lv_iconst (v := (1 : Int32)) hx hb (dk hL_law_6 27 rfl) (by decide) ?_
        refine lv_goto (tgt := 499) hx hb (dk hL_law_6 28 rfl) (by decide) ?_
        refine lv_icmp_ne (tgt := 565) hx hb (dk hL_law_6 30 rfl) (by decide) (fun hc => ?_) (fun hc => ?_)
        · exact absurd hc (by decide)
        · exact j_L_law_J502 C hX hbl hbA hk hr _ _ _ _ hf _ _ hs _ (lv_sub hl [0, 1, 2, 3, 4, 5, 6, 7, 8, 9, 10] rfl)
set_option maxRecDepth 100000 in
set_option maxHeartbeats 4000000 in
theorem j_L_law_J452 {p : Program} {l : Launch} {e : Jvm.Env} {s : State} {m : MethodId} {below : List Frame} {meth : Method} {c : Code} {G : Gx} {a : Aw} {bs L : Nat} {xs : Nat → Int32} {x2 : Int32} {x3 : Int32} {x4 : Int32} {x5 : Int32} {x6 : Int32} {x7 : Int32} {x8 : Int32} (C : Cx p s m #[.ref bs] meth c cL_law RL 17 (some .boolean) G) (hX : va_X bs L xs s s.heap) (hbl : bs < s.heap.size) (hbA : ¬ (fun q : Nat => s.heap.size ≤ q) bs) {k : Rw → Option (Int32)} {r : Int32 → Rw → Option (Int32)} (hk : ∀ (S : Rw), k S = some (1 : Int32) → ∀ (H : Heap) (locs : List Loc), St G (fun q : Nat => s.heap.size ≤ q) s.heap H locs (wR G a S) → ∀ ls : Array Slot, lv_has ls 17 [(1, .ref (a.1 0)), (2, .int x2), (3, .int x3), (4, .int x4), (5, .int x5), (6, .int x6), (7, .int x7)] → W p l e room_1 s m #[.ref bs] below meth c H locs 5000 50000 (lw_Z below #[Value.ref bs] s) (F0 m 981 ls [])) (hr : ∀ (v10 : Int32) (S : Rw), r v10 S = some (1 : Int32) → ∀ (H : Heap) (locs : List Loc), St G (fun q : Nat => s.heap.size ≤ q) s.heap H locs (wR G a S) → ∀ ls : Array Slot, lv_has ls 17 [(1, .ref (a.1 0)), (2, .int x2), (3, .int x3), (4, .int x4), (5, .int x5), (6, .int x6), (7, .int x7), (8, .int x8), (10, .int v10)] → W p l e room_1 s m #[.ref bs] below meth c H locs 5000 50000 (lw_Z below #[Value.ref bs] s) (F0 m 420 ls [])) : ∀ (x10 : Int32) (x11 : Int32) (x12 : Int32) (S : Rw), X_L_law_J452 k r x2 x3 x4 x5 x6 x7 x8 x10 x11 x12 S = some (1 : Int32) → ∀ (H : Heap) (locs : List Loc), St G (fun q : Nat => s.heap.size ≤ q) s.heap H locs (wR G a S) → ∀ ls : Array Slot, lv_has ls 17 [(1, .ref (a.1 0)), (2, .int x2), (3, .int x3), (4, .int x4), (5, .int x5), (6, .int x6), (7, .int x7), (8, .int x8), (10, .int x10), (11, .int x11), (12, .int x12)] → W p l e room_1 s m #[.ref bs] below meth c H locs 5000 50000 (lw_Z below #[Value.ref bs] s) (F0 m 452 ls []) := by
  obtain ⟨hx, hb, hml, hown, hts, hK, hret, hlk⟩ := id C
  intro x10 x11 x12 S hf H locs hs ls hl
  unfold X_L_law_J452 at hf
  refine lv_iload hx hb (dk hL_law_6 5 rfl) (lv_at hl 9 rfl) ?_
  refine lv_if_ne (tgt := 461) hx hb (dk hL_law_6 6 rfl) (by decide) (fun hc => ?_) (fun hc => ?_)
  · replace hf := in_ hf hc
    refine lv_iconst (v := (0 : Int32)) hx hb (dk hL_law_6 9 rfl) (by decide) ?_
    refine lv_iload hx hb (dk hL_law_6 10 rfl) (lv_at hl 10 rfl) ?_
    refine lv_icmp_ne (tgt := 565) hx hb (dk hL_law_6 11 rfl) (by decide) (fun hc => ?_) (fun hc => ?_)
    · replace hf := in_ hf hc
      refine lv_iconst (v := (0 : Int32)) hx hb (dk hL_law_7 27 rfl) (by decide) ?_
      exact absurd hf (by decide)
    · replace hf := ip hf hc
      exact j_L_law_J467 C hX hbl hbA hk hr _ _ _ _ hf _ _ hs _ (lv_sub hl [0, 1, 2, 3, 4, 5, 6, 7, 8, 9, 10] rfl)
  · replace hf := ip hf hc
    refine lv_iconst (v := (1 : Int32)) hx hb (dk hL_law_6 7 rfl) (by decide) ?_
    refine lv_goto (tgt := 462) hx hb (dk hL_law_6 8 rfl) (by decide) ?_
    refine lv_iload hx hb (dk hL_law_6 10 rfl) (lv_at hl 10 rfl) ?_
    refine lv_icmp_ne (tgt := 565) hx hb (dk hL_law_6 11 rfl) (by decide) (fun hc => ?_) (fun hc => ?_)
    · replace hf := in_ hf hc
      refine lv_iconst (v := (0 : Int32)) hx hb (dk hL_law_7 27 rfl) (by decide) ?_
      exact absurd hf (by decide)
    · replace hf := ip hf hc
      exact j_L_law_J467 C hX hbl hbA hk hr _ _ _ _ hf _ _ hs _ (lv_sub hl [0, 1, 2, 3, 4, 5, 6, 7, 8, 9, 10] rfl)
set_option maxRecDepth 100000 in
set_option maxHeartbeats 4000000 in
theorem j_L_law_J434 {p : Program} {l : Launch} {e : Jvm.Env} {s : State} {m : MethodId} {below : List Frame} {meth : Method} {c : Code} {G : Gx} {a : Aw} {bs L : Nat} {xs : Nat → Int32} {x2 : Int32} {x3 : Int32} {x4 : Int32} {x5 : Int32} {x6 : Int32} {x7 : Int32} {x8 : Int32} (C : Cx p s m #[.ref bs] meth c cL_law RL 17 (some .boolean) G) (hX : va_X bs L xs s s.heap) (hbl : bs < s.heap.size) (hbA : ¬ (fun q : Nat => s.heap.size ≤ q) bs) {k : Rw → Option (Int32)} {r : Int32 → Rw → Option (Int32)} (hk : ∀ (S : Rw), k S = some (1 : Int32) → ∀ (H : Heap) (locs : List Loc), St G (fun q : Nat => s.heap.size ≤ q) s.heap H locs (wR G a S) → ∀ ls : Array Slot, lv_has ls 17 [(1, .ref (a.1 0)), (2, .int x2), (3, .int x3), (4, .int x4), (5, .int x5), (6, .int x6), (7, .int x7)] → W p l e room_1 s m #[.ref bs] below meth c H locs 5000 50000 (lw_Z below #[Value.ref bs] s) (F0 m 981 ls [])) (hr : ∀ (v10 : Int32) (S : Rw), r v10 S = some (1 : Int32) → ∀ (H : Heap) (locs : List Loc), St G (fun q : Nat => s.heap.size ≤ q) s.heap H locs (wR G a S) → ∀ ls : Array Slot, lv_has ls 17 [(1, .ref (a.1 0)), (2, .int x2), (3, .int x3), (4, .int x4), (5, .int x5), (6, .int x6), (7, .int x7), (8, .int x8), (10, .int v10)] → W p l e room_1 s m #[.ref bs] below meth c H locs 5000 50000 (lw_Z below #[Value.ref bs] s) (F0 m 420 ls [])) : ∀ (x10 : Int32) (x11 : Int32) (S : Rw), X_L_law_J434 k r x2 x3 x4 x5 x6 x7 x8 x10 x11 S = some (1 : Int32) → ∀ (H : Heap) (locs : List Loc), St G (fun q : Nat => s.heap.size ≤ q) s.heap H locs (wR G a S) → ∀ ls : Array Slot, lv_has ls 17 [(1, .ref (a.1 0)), (2, .int x2), (3, .int x3), (4, .int x4), (5, .int x5), (6, .int x6), (7, .int x7), (8, .int x8), (10, .int x10), (11, .int x11)] → W p l e room_1 s m #[.ref bs] below meth c H locs 5000 50000 (lw_Z below #[Value.ref bs] s) (F0 m 434 ls []) := by
  obtain ⟨hx, hb, hml, hown, hts, hK, hret, hlk⟩ := id C
  intro x10 x11 S hf H locs hs ls hl
  unfold X_L_law_J434 at hf
  refine lv_iload hx hb (dk hL_law_5 34 rfl) (lv_at hl 4 rfl) ?_
  refine lv_iload hx hb (dk hL_law_5 35 rfl) (lv_at hl 8 rfl) ?_
  refine lv_ishr hx hb (dk hL_law_5 36 rfl) ?_
  refine lv_iconst (v := (1 : Int32)) hx hb (dk hL_law_5 37 rfl) (by decide) ?_
  refine lv_iand hx hb (dk hL_law_5 38 rfl) ?_
  refine lv_iconst (v := (1 : Int32)) hx hb (dk hL_law_5 39 rfl) (by decide) ?_
  refine lv_icmp_ne (tgt := 449) hx hb (dk hL_law_6 0 rfl) (by decide) (fun hc => ?_) (fun hc => ?_)
  · replace hf := in_ hf hc
    refine lv_iconst (v := (0 : Int32)) hx hb (dk hL_law_6 3 rfl) (by decide) ?_
    refine lv_istore (lv' := [(12, .int (0 : Int32)), (1, .ref (a.1 0)), (2, .int x2), (3, .int x3), (4, .int x4), (5, .int x5), (6, .int x6), (7, .int x7), (8, .int x8), (10, .int x10), (11, .int x11)]) hx hb (dk hL_law_6 4 rfl) hl (by decide) rfl (fun ls hl => ?_)
    exact j_L_law_J452 C hX hbl hbA hk hr _ _ _ _ hf _ _ hs _ (lv_sub hl [1, 2, 3, 4, 5, 6, 7, 8, 9, 10, 0] rfl)
  · replace hf := ip hf hc
    refine lv_iconst (v := (1 : Int32)) hx hb (dk hL_law_6 1 rfl) (by decide) ?_
    refine lv_goto (tgt := 450) hx hb (dk hL_law_6 2 rfl) (by decide) ?_
    refine lv_istore (lv' := [(12, .int (1 : Int32)), (1, .ref (a.1 0)), (2, .int x2), (3, .int x3), (4, .int x4), (5, .int x5), (6, .int x6), (7, .int x7), (8, .int x8), (10, .int x10), (11, .int x11)]) hx hb (dk hL_law_6 4 rfl) hl (by decide) rfl (fun ls hl => ?_)
    exact j_L_law_J452 C hX hbl hbA hk hr _ _ _ _ hf _ _ hs _ (lv_sub hl [1, 2, 3, 4, 5, 6, 7, 8, 9, 10, 0] rfl)
set_option maxRecDepth 100000 in
set_option maxHeartbeats 4000000 in
theorem l_L_law_L420 {p : Program} {l : Launch} {e : Jvm.Env} {s : State} {m : MethodId} {below : List Frame} {meth : Method} {c : Code} {G : Gx} {a : Aw} {bs L : Nat} {xs : Nat → Int32} {x2 : Int32} {x3 : Int32} {x4 : Int32} {x5 : Int32} {x6 : Int32} {x7 : Int32} {x8 : Int32} (C : Cx p s m #[.ref bs] meth c cL_law RL 17 (some .boolean) G) (hX : va_X bs L xs s s.heap) (hbl : bs < s.heap.size) (hbA : ¬ (fun q : Nat => s.heap.size ≤ q) bs) {k : Rw → Option (Int32)} (hk : ∀ (S : Rw), k S = some (1 : Int32) → ∀ (H : Heap) (locs : List Loc), St G (fun q : Nat => s.heap.size ≤ q) s.heap H locs (wR G a S) → ∀ ls : Array Slot, lv_has ls 17 [(1, .ref (a.1 0)), (2, .int x2), (3, .int x3), (4, .int x4), (5, .int x5), (6, .int x6), (7, .int x7)] → W p l e room_1 s m #[.ref bs] below meth c H locs 5000 50000 (lw_Z below #[Value.ref bs] s) (F0 m 981 ls [])) : ∀ (n : Nat) (x10 : Int32) (S : Rw), X_L_law_L420 k x2 x3 x4 x5 x6 x7 x8 n x10 S = some (1 : Int32) → ∀ (H : Heap) (locs : List Loc), St G (fun q : Nat => s.heap.size ≤ q) s.heap H locs (wR G a S) → ∀ ls : Array Slot, lv_has ls 17 [(1, .ref (a.1 0)), (2, .int x2), (3, .int x3), (4, .int x4), (5, .int x5), (6, .int x6), (7, .int x7), (8, .int x8), (10, .int x10)] → W p l e room_1 s m #[.ref bs] below meth c H locs 5000 50000 (lw_Z below #[Value.ref bs] s) (F0 m 420 ls []) := by
  obtain ⟨hx, hb, hml, hown, hts, hK, hret, hlk⟩ := id C
  intro n
  induction n with
  | zero => intro x10 S hf; cases hf
  | succ n ih =>
    intro x10 S hf H locs hs ls hl
    rw [X_L_law_L420] at hf
    refine lv_iload hx hb (dk hL_law_5 27 rfl) (lv_at hl 8 rfl) ?_
    refine lv_iload_n hx hb (dk hL_law_5 28 rfl) rfl (lv_at hl 1 rfl) ?_
    refine lv_icmp_ge (tgt := 981) hx hb (dk hL_law_5 29 rfl) (by decide) (fun hc => ?_) (fun hc => ?_)
    · replace hf := ip hf hc
      exact hk _ hf _ _ hs _ (lv_sub hl [0, 1, 2, 3, 4, 5, 6] rfl)
    · replace hf := in_ hf hc
      refine lv_aload_n hx hb (dk hL_law_5 30 rfl) rfl (lv_at hl 0 rfl) ?_
      refine lv_iload hx hb (dk hL_law_5 31 rfl) (lv_at hl 8 rfl) ?_
      obtain ⟨u_69, e_70, hf⟩ := Option.bind_eq_some_iff.mp hf
      refine Ct.V (As := [.int x10]) (rest := []) (st1 := [.int u_69.2]) (w1 := (wR G a u_69.1)) C hs (a_comes e_70) tw_321 tw_322 tw_323 tw_17 tw_324 nq_X4_comes (by decide) 0 4 rfl rfl rfl rfl hl.1 rfl (Nat.le_of_ble_eq_true rfl) (dk hL_law_5 32 rfl) ⟨by show 5000 ≤ 600000; omega, by show 50000 ≤ 7302250; omega⟩ rfl (fun H locs hs => ?_)
      refine lv_istore (lv' := [(11, .int u_69.2), (1, .ref (a.1 0)), (2, .int x2), (3, .int x3), (4, .int x4), (5, .int x5), (6, .int x6), (7, .int x7), (8, .int x8), (10, .int x10)]) hx hb (dk hL_law_5 33 rfl) hl (by decide) rfl (fun ls hl => ?_)
      exact j_L_law_J434 C hX hbl hbA hk (fun v0 v1 hf => ih v0 v1 hf) _ _ _ hf _ _ hs _ (lv_sub hl [1, 2, 3, 4, 5, 6, 7, 8, 9, 0] rfl)
set_option maxRecDepth 100000 in
set_option maxHeartbeats 4000000 in
theorem j_L_law_J1100 {p : Program} {l : Launch} {e : Jvm.Env} {s : State} {m : MethodId} {below : List Frame} {meth : Method} {c : Code} {G : Gx} {a : Aw} {bs L : Nat} {xs : Nat → Int32} {x2 : Int32} {x3 : Int32} {x4 : Int32} {x5 : Int32} {x6 : Int32} {x7 : Int32} {x10 : Int32} (C : Cx p s m #[.ref bs] meth c cL_law RL 17 (some .boolean) G) (hX : va_X bs L xs s s.heap) (hbl : bs < s.heap.size) (hbA : ¬ (fun q : Nat => s.heap.size ≤ q) bs) {k : Rw → Option (Int32)} {r : Int32 → Rw → Option (Int32)} (hk : ∀ (S : Rw), k S = some (1 : Int32) → ∀ (H : Heap) (locs : List Loc), St G (fun q : Nat => s.heap.size ≤ q) s.heap H locs (wR G a S) → ∀ ls : Array Slot, lv_has ls 17 [(1, .ref (a.1 0)), (2, .int x2), (3, .int x3), (4, .int x4), (5, .int x5), (6, .int x6), (7, .int x7)] → W p l e room_1 s m #[.ref bs] below meth c H locs 5000 50000 (lw_Z below #[Value.ref bs] s) (F0 m 1106 ls [])) (hr : ∀ (v11 : Int32) (S : Rw), r v11 S = some (1 : Int32) → ∀ (H : Heap) (locs : List Loc), St G (fun q : Nat => s.heap.size ≤ q) s.heap H locs (wR G a S) → ∀ ls : Array Slot, lv_has ls 17 [(1, .ref (a.1 0)), (2, .int x2), (3, .int x3), (4, .int x4), (5, .int x5), (6, .int x6), (7, .int x7), (10, .int x10), (11, .int v11)] → W p l e room_1 s m #[.ref bs] below meth c H locs 5000 50000 (lw_Z below #[Value.ref bs] s) (F0 m 991 ls [])) : ∀ (x11 : Int32) (S : Rw), X_L_law_J1100 k r x2 x3 x4 x5 x6 x7 x10 x11 S = some (1 : Int32) → ∀ (H : Heap) (locs : List Loc), St G (fun q : Nat => s.heap.size ≤ q) s.heap H locs (wR G a S) → ∀ ls : Array Slot, lv_has ls 17 [(1, .ref (a.1 0)), (2, .int x2), (3, .int x3), (4, .int x4), (5, .int x5), (6, .int x6), (7, .int x7), (10, .int x10), (11, .int x11)] → W p l e room_1 s m #[.ref bs] below meth c H locs 5000 50000 (lw_Z below #[Value.ref bs] s) (F0 m 1100 ls []) := by
  obtain ⟨hx, hb, hml, hown, hts, hK, hret, hlk⟩ := id C
  intro x11 S hf H locs hs ls hl
  unfold X_L_law_J1100 at hf
  refine lv_iinc (v := (x11 + (1 : Int32))) (lv' := [(11, .int (x11 + (1 : Int32))), (1, .ref (a.1 0)), (2, .int x2), (3, .int x3), (4, .int x4), (5, .int x5), (6, .int x6), (7, .int x7), (10, .int x10)]) hx hb (dk hL_law_14 19 rfl) hl (k := 8) rfl (by first | rfl | decide) (by decide) rfl (fun ls hl => ?_)
  refine lv_goto (tgt := 991) hx hb (dk hL_law_14 20 rfl) (by decide) ?_
  exact hr _ _ hf _ _ hs _ (lv_sub hl [1, 2, 3, 4, 5, 6, 7, 8, 0] rfl)
set_option maxRecDepth 100000 in
set_option maxHeartbeats 4000000 in
theorem j_L_law_J1060 {p : Program} {l : Launch} {e : Jvm.Env} {s : State} {m : MethodId} {below : List Frame} {meth : Method} {c : Code} {G : Gx} {a : Aw} {bs L : Nat} {xs : Nat → Int32} {x2 : Int32} {x3 : Int32} {x4 : Int32} {x5 : Int32} {x6 : Int32} {x7 : Int32} {x10 : Int32} (C : Cx p s m #[.ref bs] meth c cL_law RL 17 (some .boolean) G) (hX : va_X bs L xs s s.heap) (hbl : bs < s.heap.size) (hbA : ¬ (fun q : Nat => s.heap.size ≤ q) bs) {k : Rw → Option (Int32)} {r : Int32 → Rw → Option (Int32)} (hk : ∀ (S : Rw), k S = some (1 : Int32) → ∀ (H : Heap) (locs : List Loc), St G (fun q : Nat => s.heap.size ≤ q) s.heap H locs (wR G a S) → ∀ ls : Array Slot, lv_has ls 17 [(1, .ref (a.1 0)), (2, .int x2), (3, .int x3), (4, .int x4), (5, .int x5), (6, .int x6), (7, .int x7)] → W p l e room_1 s m #[.ref bs] below meth c H locs 5000 50000 (lw_Z below #[Value.ref bs] s) (F0 m 1106 ls [])) (hr : ∀ (v11 : Int32) (S : Rw), r v11 S = some (1 : Int32) → ∀ (H : Heap) (locs : List Loc), St G (fun q : Nat => s.heap.size ≤ q) s.heap H locs (wR G a S) → ∀ ls : Array Slot, lv_has ls 17 [(1, .ref (a.1 0)), (2, .int x2), (3, .int x3), (4, .int x4), (5, .int x5), (6, .int x6), (7, .int x7), (10, .int x10), (11, .int v11)] → W p l e room_1 s m #[.ref bs] below meth c H locs 5000 50000 (lw_Z below #[Value.ref bs] s) (F0 m 991 ls [])) : ∀ (x11 : Int32) (S : Rw), X_L_law_J1060 k r x2 x3 x4 x5 x6 x7 x10 x11 S = some (1 : Int32) → ∀ (H : Heap) (locs : List Loc), St G (fun q : Nat => s.heap.size ≤ q) s.heap H locs (wR G a S) → ∀ ls : Array Slot, lv_has ls 17 [(1, .ref (a.1 0)), (2, .int x2), (3, .int x3), (4, .int x4), (5, .int x5), (6, .int x6), (7, .int x7), (10, .int x10), (11, .int x11)] → W p l e room_1 s m #[.ref bs] below meth c H locs 5000 50000 (lw_Z below #[Value.ref bs] s) (F0 m 1060 ls []) := by
  obtain ⟨hx, hb, hml, hown, hts, hK, hret, hlk⟩ := id C
  intro x11 S hf H locs hs ls hl
  unfold X_L_law_J1060 at hf
  refine lv_aload_n hx hb (dk hL_law_14 0 rfl) rfl (lv_at hl 0 rfl) ?_
  refine lv_iload hx hb (dk hL_law_14 1 rfl) (lv_at hl 8 rfl) ?_
  refine lv_iload hx hb (dk hL_law_14 2 rfl) (lv_at hl 7 rfl) ?_
  obtain ⟨u_131, e_132, hf⟩ := Option.bind_eq_some_iff.mp hf
  refine Ct.V (As := [.int x11, .int x10]) (rest := []) (st1 := [.int u_131.2]) (w1 := (wR G a u_131.1)) C hs (a_race e_132) tw_420 tw_421 tw_422 tw_17 tw_423 nq_X4_race (by decide) 0 4 rfl rfl rfl rfl hl.1 rfl (Nat.le_of_ble_eq_true rfl) (dk hL_law_14 3 rfl) ⟨by show 5000 ≤ 600000; omega, by show 50000 ≤ 7302250; omega⟩ rfl (fun H locs hs => ?_)
  refine lv_aload_n hx hb (dk hL_law_14 4 rfl) rfl (lv_at hl 0 rfl) ?_
  refine lv_iload hx hb (dk hL_law_14 5 rfl) (lv_at hl 8 rfl) ?_
  obtain ⟨u_133, e_134, hf⟩ := Option.bind_eq_some_iff.mp hf
  refine Ct.V (As := [.int x11]) (rest := [.int u_131.2]) (st1 := [.int u_133.2, .int u_131.2]) (w1 := (wR G a u_133.1)) C hs (a_comes e_134) tw_321 tw_322 tw_323 tw_17 tw_324 nq_X4_comes (by decide) 0 4 rfl rfl rfl rfl hl.1 rfl (Nat.le_of_ble_eq_true rfl) (dk hL_law_14 6 rfl) ⟨by show 5000 ≤ 600000; omega, by show 50000 ≤ 7302250; omega⟩ rfl (fun H locs hs => ?_)
  refine lv_aload_n hx hb (dk hL_law_14 7 rfl) rfl (lv_at hl 0 rfl) ?_
  refine lv_iload hx hb (dk hL_law_14 8 rfl) (lv_at hl 7 rfl) ?_
  obtain ⟨u_135, e_136, hf⟩ := Option.bind_eq_some_iff.mp hf
  refine Ct.V (As := [.int x10]) (rest := [.int u_133.2, .int u_131.2]) (st1 := [.int u_135.2, .int u_133.2, .int u_131.2]) (w1 := (wR G a u_135.1)) C hs (a_comes e_136) tw_321 tw_322 tw_323 tw_17 tw_324 nq_X4_comes (by decide) 0 4 rfl rfl rfl rfl hl.1 rfl (Nat.le_of_ble_eq_true rfl) (dk hL_law_14 9 rfl) ⟨by show 5000 ≤ 600000; omega, by show 50000 ≤ 7302250; omega⟩ rfl (fun H locs hs => ?_)
  refine lv_icmp_ne (tgt := 1093) hx hb (dk hL_law_14 10 rfl) (by decide) (fun hc => ?_) (fun hc => ?_)
  · replace hf := in_ hf hc
    refine lv_iload hx hb (dk hL_law_14 15 rfl) (lv_at hl 7 rfl) ?_
    refine lv_icmp_eq (tgt := 1100) hx hb (dk hL_law_14 16 rfl) (by decide) (fun hc => ?_) (fun hc => ?_)
    · replace hf := ip hf hc
      exact j_L_law_J1100 C hX hbl hbA hk hr _ _ hf _ _ hs _ (lv_sub hl [0, 1, 2, 3, 4, 5, 6, 7, 8] rfl)
    · replace hf := in_ hf hc
      refine lv_iconst (v := (0 : Int32)) hx hb (dk hL_law_14 17 rfl) (by decide) ?_
      exact absurd hf (by decide)
  · replace hf := ip hf hc
    refine lv_iload hx hb (dk hL_law_14 11 rfl) (lv_at hl 8 rfl) ?_
    refine lv_iload hx hb (dk hL_law_14 12 rfl) (lv_at hl 7 rfl) ?_
    refine va_mmin hx hb (hml.trans hl.1.symm) hown (hts _ tw_533) (hts _ tw_287) (hts _ tw_22) (hts _ tw_288) (by decide) (Nat.le_of_ble_eq_true rfl) (by show 5000 ≤ 600000; omega) (by show 50000 ≤ 7302250; omega) (dk hL_law_14 13 rfl) ?_
    refine lv_goto (tgt := 1095) hx hb (dk hL_law_14 14 rfl) (by decide) ?_
    refine lv_icmp_eq (tgt := 1100) hx hb (dk hL_law_14 16 rfl) (by decide) (fun hc => ?_) (fun hc => ?_)
    · replace hf := ip hf hc
      exact j_L_law_J1100 C hX hbl hbA hk hr _ _ hf _ _ hs _ (lv_sub hl [0, 1, 2, 3, 4, 5, 6, 7, 8] rfl)
    · replace hf := in_ hf hc
      refine lv_iconst (v := (0 : Int32)) hx hb (dk hL_law_14 17 rfl) (by decide) ?_
      exact absurd hf (by decide)
set_option maxRecDepth 100000 in
set_option maxHeartbeats 4000000 in
theorem j_L_law_J1038 {p : Program} {l : Launch} {e : Jvm.Env} {s : State} {m : MethodId} {below : List Frame} {meth : Method} {c : Code} {G : Gx} {a : Aw} {bs L : Nat} {xs : Nat → Int32} {x2 : Int32} {x3 : Int32} {x4 : Int32} {x5 : Int32} {x6 : Int32} {x7 : Int32} {x10 : Int32} (C : Cx p s m #[.ref bs] meth c cL_law RL 17 (some .boolean) G) (hX : va_X bs L xs s s.heap) (hbl : bs < s.heap.size) (hbA : ¬ (fun q : Nat => s.heap.size ≤ q) bs) {k : Rw → Option (Int32)} {r : Int32 → Rw → Option (Int32)} (hk : ∀ (S : Rw), k S = some (1 : Int32) → ∀ (H : Heap) (locs : List Loc), St G (fun q : Nat => s.heap.size ≤ q) s.heap H locs (wR G a S) → ∀ ls : Array Slot, lv_has ls 17 [(1, .ref (a.1 0)), (2, .int x2), (3, .int x3), (4, .int x4), (5, .int x5), (6, .int x6), (7, .int x7)] → W p l e room_1 s m #[.ref bs] below meth c H locs 5000 50000 (lw_Z below #[Value.ref bs] s) (F0 m 1106 ls [])) (hr : ∀ (v11 : Int32) (S : Rw), r v11 S = some (1 : Int32) → ∀ (H : Heap) (locs : List Loc), St G (fun q : Nat => s.heap.size ≤ q) s.heap H locs (wR G a S) → ∀ ls : Array Slot, lv_has ls 17 [(1, .ref (a.1 0)), (2, .int x2), (3, .int x3), (4, .int x4), (5, .int x5), (6, .int x6), (7, .int x7), (10, .int x10), (11, .int v11)] → W p l e room_1 s m #[.ref bs] below meth c H locs 5000 50000 (lw_Z below #[Value.ref bs] s) (F0 m 991 ls [])) : ∀ (x11 : Int32) (S : Rw), X_L_law_J1038 k r x2 x3 x4 x5 x6 x7 x10 x11 S = some (1 : Int32) → ∀ (H : Heap) (locs : List Loc), St G (fun q : Nat => s.heap.size ≤ q) s.heap H locs (wR G a S) → ∀ ls : Array Slot, lv_has ls 17 [(1, .ref (a.1 0)), (2, .int x2), (3, .int x3), (4, .int x4), (5, .int x5), (6, .int x6), (7, .int x7), (10, .int x10), (11, .int x11)] → W p l e room_1 s m #[.ref bs] below meth c H locs 5000 50000 (lw_Z below #[Value.ref bs] s) (F0 m 1038 ls []) := by
  obtain ⟨hx, hb, hml, hown, hts, hK, hret, hlk⟩ := id C
  intro x11 S hf H locs hs ls hl
  unfold X_L_law_J1038 at hf
  refine lv_iload hx hb (dk hL_law_13 29 rfl) (lv_at hl 7 rfl) ?_
  refine lv_if_lt (tgt := 1100) hx hb (dk hL_law_13 30 rfl) (by decide) (fun hc => ?_) (fun hc => ?_)
  · replace hf := ip hf hc
    exact j_L_law_J1100 C hX hbl hbA hk hr _ _ hf _ _ hs _ (lv_sub hl [0, 1, 2, 3, 4, 5, 6, 7, 8] rfl)
  · replace hf := in_ hf hc
    refine lv_iload hx hb (dk hL_law_13 31 rfl) (lv_at hl 8 rfl) ?_
    refine lv_iload hx hb (dk hL_law_13 32 rfl) (lv_at hl 7 rfl) ?_
    refine lv_icmp_eq (tgt := 1100) hx hb (dk hL_law_13 33 rfl) (by decide) (fun hc => ?_) (fun hc => ?_)
    · replace hf := ip hf hc
      exact j_L_law_J1100 C hX hbl hbA hk hr _ _ hf _ _ hs _ (lv_sub hl [0, 1, 2, 3, 4, 5, 6, 7, 8] rfl)
    · replace hf := in_ hf hc
      refine lv_iload hx hb (dk hL_law_13 34 rfl) (lv_at hl 4 rfl) ?_
      refine lv_iload hx hb (dk hL_law_13 35 rfl) (lv_at hl 8 rfl) ?_
      refine lv_ishr hx hb (dk hL_law_13 36 rfl) ?_
      refine lv_iconst (v := (1 : Int32)) hx hb (dk hL_law_13 37 rfl) (by decide) ?_
      refine lv_iand hx hb (dk hL_law_13 38 rfl) ?_
      refine lv_if_ne (tgt := 1100) hx hb (dk hL_law_13 39 rfl) (by decide) (fun hc => ?_) (fun hc => ?_)
      · replace hf := in_ hf hc
        exact j_L_law_J1100 C hX hbl hbA hk hr _ _ hf _ _ hs _ (lv_sub hl [0, 1, 2, 3, 4, 5, 6, 7, 8] rfl)
      · replace hf := ip hf hc
        exact j_L_law_J1060 C hX hbl hbA hk hr _ _ hf _ _ hs _ (lv_sub hl [0, 1, 2, 3, 4, 5, 6, 7, 8] rfl)
set_option maxRecDepth 100000 in
set_option maxHeartbeats 4000000 in
theorem l_L_law_L991 {p : Program} {l : Launch} {e : Jvm.Env} {s : State} {m : MethodId} {below : List Frame} {meth : Method} {c : Code} {G : Gx} {a : Aw} {bs L : Nat} {xs : Nat → Int32} {x2 : Int32} {x3 : Int32} {x4 : Int32} {x5 : Int32} {x6 : Int32} {x7 : Int32} {x10 : Int32} (C : Cx p s m #[.ref bs] meth c cL_law RL 17 (some .boolean) G) (hX : va_X bs L xs s s.heap) (hbl : bs < s.heap.size) (hbA : ¬ (fun q : Nat => s.heap.size ≤ q) bs) {k : Rw → Option (Int32)} (hk : ∀ (S : Rw), k S = some (1 : Int32) → ∀ (H : Heap) (locs : List Loc), St G (fun q : Nat => s.heap.size ≤ q) s.heap H locs (wR G a S) → ∀ ls : Array Slot, lv_has ls 17 [(1, .ref (a.1 0)), (2, .int x2), (3, .int x3), (4, .int x4), (5, .int x5), (6, .int x6), (7, .int x7)] → W p l e room_1 s m #[.ref bs] below meth c H locs 5000 50000 (lw_Z below #[Value.ref bs] s) (F0 m 1106 ls [])) : ∀ (n : Nat) (x11 : Int32) (S : Rw), X_L_law_L991 k x2 x3 x4 x5 x6 x7 x10 n x11 S = some (1 : Int32) → ∀ (H : Heap) (locs : List Loc), St G (fun q : Nat => s.heap.size ≤ q) s.heap H locs (wR G a S) → ∀ ls : Array Slot, lv_has ls 17 [(1, .ref (a.1 0)), (2, .int x2), (3, .int x3), (4, .int x4), (5, .int x5), (6, .int x6), (7, .int x7), (10, .int x10), (11, .int x11)] → W p l e room_1 s m #[.ref bs] below meth c H locs 5000 50000 (lw_Z below #[Value.ref bs] s) (F0 m 991 ls []) := by
  obtain ⟨hx, hb, hml, hown, hts, hK, hret, hlk⟩ := id C
  intro n
  induction n with
  | zero => intro x11 S hf; cases hf
  | succ n ih =>
    intro x11 S hf H locs hs ls hl
    rw [X_L_law_L991] at hf
    refine lv_iload hx hb (dk hL_law_13 5 rfl) (lv_at hl 8 rfl) ?_
    refine lv_iload_n hx hb (dk hL_law_13 6 rfl) rfl (lv_at hl 1 rfl) ?_
    refine lv_icmp_ge (tgt := 1106) hx hb (dk hL_law_13 7 rfl) (by decide) (fun hc => ?_) (fun hc => ?_)
    · replace hf := ip hf hc
      exact hk _ hf _ _ hs _ (lv_sub hl [0, 1, 2, 3, 4, 5, 6] rfl)
    · replace hf := in_ hf hc
      refine lv_iload hx hb (dk hL_law_13 8 rfl) (lv_at hl 4 rfl) ?_
      refine lv_iload hx hb (dk hL_law_13 9 rfl) (lv_at hl 8 rfl) ?_
      refine lv_ishr hx hb (dk hL_law_13 10 rfl) ?_
      refine lv_iconst (v := (1 : Int32)) hx hb (dk hL_law_13 11 rfl) (by decide) ?_
      refine lv_iand hx hb (dk hL_law_13 12 rfl) ?_
      refine lv_if_ne (tgt := 1038) hx hb (dk hL_law_13 13 rfl) (by decide) (fun hc => ?_) (fun hc => ?_)
      · replace hf := in_ hf hc
        exact j_L_law_J1038 C hX hbl hbA hk (fun v0 v1 hf => ih v0 v1 hf) _ _ hf _ _ hs _ (lv_sub hl [0, 1, 2, 3, 4, 5, 6, 7, 8] rfl)
      · replace hf := ip hf hc
        refine lv_aload_n hx hb (dk hL_law_13 14 rfl) rfl (lv_at hl 0 rfl) ?_
        refine lv_iload hx hb (dk hL_law_13 15 rfl) (lv_at hl 8 rfl) ?_
        obtain ⟨u_137, e_138, hf⟩ := Option.bind_eq_some_iff.mp hf
        refine Ct.V (As := [.int x11]) (rest := []) (st1 := [.int u_137.2]) (w1 := (wR G a u_137.1)) C hs (a_comes e_138) tw_321 tw_322 tw_323 tw_17 tw_324 nq_X4_comes (by decide) 0 4 rfl rfl rfl rfl hl.1 rfl (Nat.le_of_ble_eq_true rfl) (dk hL_law_13 16 rfl) ⟨by show 5000 ≤ 600000; omega, by show 50000 ≤ 7302250; omega⟩ rfl (fun H locs hs => ?_)
        refine lv_if_le (tgt := 1038) hx hb (dk hL_law_13 17 rfl) (by decide) (fun hc => ?_) (fun hc => ?_)
        · replace hf := ip hf hc
          exact j_L_law_J1038 C hX hbl hbA hk (fun v0 v1 hf => ih v0 v1 hf) _ _ hf _ _ hs _ (lv_sub hl [0, 1, 2, 3, 4, 5, 6, 7, 8] rfl)
        · replace hf := in_ hf hc
          refine lv_iload hx hb (dk hL_law_13 18 rfl) (lv_at hl 7 rfl) ?_
          refine lv_if_lt (tgt := 1036) hx hb (dk hL_law_13 19 rfl) (by decide) (fun hc => ?_) (fun hc => ?_)
          · replace hf := ip hf hc
            refine lv_iconst (v := (0 : Int32)) hx hb (dk hL_law_13 27 rfl) (by decide) ?_
            exact absurd hf (by decide)
          · replace hf := in_ hf hc
            refine lv_aload_n hx hb (dk hL_law_13 20 rfl) rfl (lv_at hl 0 rfl) ?_
            refine lv_iload hx hb (dk hL_law_13 21 rfl) (lv_at hl 7 rfl) ?_
            obtain ⟨u_139, e_140, hf⟩ := Option.bind_eq_some_iff.mp hf
            refine Ct.V (As := [.int x10]) (rest := []) (st1 := [.int u_139.2]) (w1 := (wR G a u_139.1)) C hs (a_comes e_140) tw_321 tw_322 tw_323 tw_17 tw_324 nq_X4_comes (by decide) 0 4 rfl rfl rfl rfl hl.1 rfl (Nat.le_of_ble_eq_true rfl) (dk hL_law_13 22 rfl) ⟨by show 5000 ≤ 600000; omega, by show 50000 ≤ 7302250; omega⟩ rfl (fun H locs hs => ?_)
            refine lv_aload_n hx hb (dk hL_law_13 23 rfl) rfl (lv_at hl 0 rfl) ?_
            refine lv_iload hx hb (dk hL_law_13 24 rfl) (lv_at hl 8 rfl) ?_
            obtain ⟨u_141, e_142, hf⟩ := Option.bind_eq_some_iff.mp hf
            refine Ct.V (As := [.int x11]) (rest := [.int u_139.2]) (st1 := [.int u_141.2, .int u_139.2]) (w1 := (wR G a u_141.1)) C hs (a_comes e_142) tw_321 tw_322 tw_323 tw_17 tw_324 nq_X4_comes (by decide) 0 4 rfl rfl rfl rfl hl.1 rfl (Nat.le_of_ble_eq_true rfl) (dk hL_law_13 25 rfl) ⟨by show 5000 ≤ 600000; omega, by show 50000 ≤ 7302250; omega⟩ rfl (fun H locs hs => ?_)
            refine lv_icmp_le (tgt := 1038) hx hb (dk hL_law_13 26 rfl) (by decide) (fun hc => ?_) (fun hc => ?_)
            · replace hf := ip hf hc
              exact j_L_law_J1038 C hX hbl hbA hk (fun v0 v1 hf => ih v0 v1 hf) _ _ hf _ _ hs _ (lv_sub hl [0, 1, 2, 3, 4, 5, 6, 7, 8] rfl)
            · replace hf := in_ hf hc
              refine lv_iconst (v := (0 : Int32)) hx hb (dk hL_law_13 27 rfl) (by decide) ?_
              exact absurd hf (by decide)
set_option maxRecDepth 100000 in
set_option maxHeartbeats 4000000 in
theorem l_L_law_L1186 {p : Program} {l : Launch} {e : Jvm.Env} {s : State} {m : MethodId} {below : List Frame} {meth : Method} {c : Code} {G : Gx} {a : Aw} {bs L : Nat} {xs : Nat → Int32} {x2 : Int32} {x3 : Int32} {x4 : Int32} {x5 : Int32} {x6 : Int32} {x7 : Int32} {x12 : Int32} {x13 : Int32} {z : Nat} (C : Cx p s m #[.ref bs] meth c cL_law RL 17 (some .boolean) G) (hX : va_X bs L xs s s.heap) (hbl : bs < s.heap.size) (hbA : ¬ (fun q : Nat => s.heap.size ≤ q) bs) {k : Rw → List Int32 → Option (Int32)} (hk : ∀ (S : Rw) (t : List Int32), k S t = some (1 : Int32) → ∀ (H : Heap) (locs : List Loc), St G (fun q : Nat => s.heap.size ≤ q) s.heap H locs (wR G a S ++ [(z, ar G t)]) → ∀ ls : Array Slot, lv_has ls 17 [(1, .ref (a.1 0)), (2, .int x2), (3, .int x3), (4, .int x4), (5, .int x5), (6, .int x6), (7, .int x7), (12, .int x12), (13, .int x13), (14, .ref z)] → W p l e room_1 s m #[.ref bs] below meth c H locs 5001 50006 (lw_Z below #[Value.ref bs] s) (F0 m 1212 ls [])) : ∀ (n : Nat) (x15 : Int32) (S : Rw) (t : List Int32), X_L_law_L1186 k x2 x3 x4 x5 x6 x7 x12 x13 n x15 S t = some (1 : Int32) → ∀ (H : Heap) (locs : List Loc), St G (fun q : Nat => s.heap.size ≤ q) s.heap H locs (wR G a S ++ [(z, ar G t)]) → ∀ ls : Array Slot, lv_has ls 17 [(1, .ref (a.1 0)), (2, .int x2), (3, .int x3), (4, .int x4), (5, .int x5), (6, .int x6), (7, .int x7), (12, .int x12), (13, .int x13), (14, .ref z), (15, .int x15)] → W p l e room_1 s m #[.ref bs] below meth c H locs 5001 50006 (lw_Z below #[Value.ref bs] s) (F0 m 1186 ls []) := by
  obtain ⟨hx, hb, hml, hown, hts, hK, hret, hlk⟩ := id C
  intro n
  induction n with
  | zero => intro x15 S t hf; cases hf
  | succ n ih =>
    intro x15 S t hf H locs hs ls hl
    rw [X_L_law_L1186] at hf
    refine lv_iload hx hb (dk hL_law_15 23 rfl) (lv_at hl 10 rfl) ?_
    refine lv_bipush (v := (6 : Int32)) hx hb (dk hL_law_15 24 rfl) (by decide) ?_
    refine lv_icmp_ge (tgt := 1212) hx hb (dk hL_law_15 25 rfl) (by decide) (fun hc => ?_) (fun hc => ?_)
    · replace hf := ip hf hc
      exact hk _ _ hf _ _ hs _ (lv_sub hl [0, 1, 2, 3, 4, 5, 6, 7, 8, 9] rfl)
    · replace hf := in_ hf hc
      refine lv_aload hx hb (dk hL_law_15 26 rfl) (lv_at hl 9 rfl) ?_
      refine lv_iload hx hb (dk hL_law_15 27 rfl) (lv_at hl 10 rfl) ?_
      refine lv_aload_n hx hb (dk hL_law_15 28 rfl) rfl (lv_at hl 0 rfl) ?_
      refine lv_iload hx hb (dk hL_law_15 29 rfl) (lv_at hl 10 rfl) ?_
      refine lv_iload hx hb (dk hL_law_15 30 rfl) (lv_at hl 6 rfl) ?_
      obtain ⟨u_153, e_154, hf⟩ := Option.bind_eq_some_iff.mp hf
      refine Ct.V (As := [.int x15, .int x7]) (rest := [.int x15, .ref z]) (st1 := [.int u_153.2, .int x15, .ref z]) (w1 := (wR G a u_153.1 ++ [(z, ar G t)])) C hs (Ct.post (a_thereIn e_154)) tw_308 tw_309 tw_310 tw_17 tw_311 nq_X4_thereIn (by decide) 0 4 rfl rfl rfl rfl hl.1 rfl (Nat.le_of_ble_eq_true rfl) (dk hL_law_15 31 rfl) ⟨by show 5001 ≤ 600000; omega, by show 50006 ≤ 7302250; omega⟩ rfl (fun H locs hs => ?_)
      obtain ⟨t_155, e_156, hf⟩ := Option.bind_eq_some_iff.mp hf
      refine rist (w1 := (wR G a u_153.1 ++ [(z, ar G t_155)])) C hs 97 rfl e_156 rfl (dk hL_law_15 32 rfl) (fun H locs hs => ?_)
      refine lv_iinc (v := (x15 + (1 : Int32))) (lv' := [(15, .int (x15 + (1 : Int32))), (1, .ref (a.1 0)), (2, .int x2), (3, .int x3), (4, .int x4), (5, .int x5), (6, .int x6), (7, .int x7), (12, .int x12), (13, .int x13), (14, .ref z)]) hx hb (dk hL_law_15 33 rfl) hl (k := 10) rfl (by first | rfl | decide) (by decide) rfl (fun ls hl => ?_)
      refine lv_goto (tgt := 1186) hx hb (dk hL_law_15 34 rfl) (by decide) ?_
      exact ih _ _ _ hf _ _ hs _ (lv_sub hl [1, 2, 3, 4, 5, 6, 7, 8, 9, 10, 0] rfl)
set_option maxRecDepth 100000 in
set_option maxHeartbeats 4000000 in
theorem j_L_law_J1341 {p : Program} {l : Launch} {e : Jvm.Env} {s : State} {m : MethodId} {below : List Frame} {meth : Method} {c : Code} {G : Gx} {a : Aw} {bs L : Nat} {xs : Nat → Int32} {z : Nat} (C : Cx p s m #[.ref bs] meth c cL_law RL 17 (some .boolean) G) (hX : va_X bs L xs s s.heap) (hbl : bs < s.heap.size) (hbA : ¬ (fun q : Nat => s.heap.size ≤ q) bs) : ∀ (x2 : Int32) (x3 : Int32) (x4 : Int32) (x5 : Int32) (x6 : Int32) (S : Rw) (t : List Int32), X_L_law_J1341 x2 x3 x4 x5 x6 S t = some (1 : Int32) → ∀ (H : Heap) (locs : List Loc), St G (fun q : Nat => s.heap.size ≤ q) s.heap H locs (wR G a S ++ [(z, ar G t)]) → ∀ ls : Array Slot, lv_has ls 17 [(1, .ref (a.1 0)), (2, .int x2), (3, .int x3), (4, .int x4), (5, .int x5), (6, .int x6)] → W p l e room_1 s m #[.ref bs] below meth c H locs 5001 50006 (lw_Z below #[Value.ref bs] s) (F0 m 1341 ls []) := by
  obtain ⟨hx, hb, hml, hown, hts, hK, hret, hlk⟩ := id C
  intro x2 x3 x4 x5 x6 S t hf H locs hs ls hl
  unfold X_L_law_J1341 at hf
  refine lv_aload_n hx hb (dk hL_law_17 23 rfl) rfl (lv_at hl 0 rfl) ?_
  obtain ⟨u_159, e_160, hf⟩ := Option.bind_eq_some_iff.mp hf
  refine Ct.V (As := []) (rest := []) (st1 := [.int u_159.2]) (w1 := (wR G a u_159.1 ++ [(z, ar G t)])) C hs (Ct.post (a_restore e_160)) tw_430 tw_431 tw_432 tw_17 tw_433 nq_X4_restore (by decide) 0 4 rfl rfl rfl rfl hl.1 rfl (Nat.le_of_ble_eq_true rfl) (dk hL_law_17 24 rfl) ⟨by show 5001 ≤ 600000; omega, by show 50006 ≤ 7302250; omega⟩ rfl (fun H locs hs => ?_)
  refine lv_iload_n hx hb (dk hL_law_17 25 rfl) rfl (lv_at hl 2 rfl) ?_
  refine lv_icmp_ne (tgt := 1392) hx hb (dk hL_law_17 26 rfl) (by decide) (fun hc => ?_) (fun hc => ?_)
  · replace hf := in_ hf hc
    refine lv_iconst (v := (0 : Int32)) hx hb (dk hL_law_18 9 rfl) (by decide) ?_
    exact absurd hf (by decide)
  · replace hf := ip hf hc
    refine lv_aload_n hx hb (dk hL_law_17 27 rfl) rfl (lv_at hl 0 rfl) ?_
    refine lv_iconst (v := (2 : Int32)) hx hb (dk hL_law_17 28 rfl) (by decide) ?_
    obtain ⟨u_161, e_162, hf⟩ := Option.bind_eq_some_iff.mp hf
    refine Ct.V (As := [.int (2 : Int32)]) (rest := []) (st1 := [.int u_161.2]) (w1 := (wR G a u_161.1 ++ [(z, ar G t)])) C hs (Ct.post (a_count e_162)) tw_438 tw_439 tw_440 tw_17 tw_441 nq_X4_count (by decide) 0 4 rfl rfl rfl rfl hl.1 rfl (Nat.le_of_ble_eq_true rfl) (dk hL_law_17 29 rfl) ⟨by show 5001 ≤ 600000; omega, by show 50006 ≤ 7302250; omega⟩ rfl (fun H locs hs => ?_)
    refine lv_iload hx hb (dk hL_law_17 30 rfl) (lv_at hl 3 rfl) ?_
    refine lv_icmp_ne (tgt := 1392) hx hb (dk hL_law_17 31 rfl) (by decide) (fun hc => ?_) (fun hc => ?_)
    · replace hf := in_ hf hc
      refine lv_iconst (v := (0 : Int32)) hx hb (dk hL_law_18 9 rfl) (by decide) ?_
      exact absurd hf (by decide)
    · replace hf := ip hf hc
      refine lv_aload_n hx hb (dk hL_law_17 32 rfl) rfl (lv_at hl 0 rfl) ?_
      refine lv_iconst (v := (3 : Int32)) hx hb (dk hL_law_17 33 rfl) (by decide) ?_
      obtain ⟨u_163, e_164, hf⟩ := Option.bind_eq_some_iff.mp hf
      refine Ct.V (As := [.int (3 : Int32)]) (rest := []) (st1 := [.int u_163.2]) (w1 := (wR G a u_163.1 ++ [(z, ar G t)])) C hs (Ct.post (a_count e_164)) tw_438 tw_439 tw_440 tw_17 tw_441 nq_X4_count (by decide) 0 4 rfl rfl rfl rfl hl.1 rfl (Nat.le_of_ble_eq_true rfl) (dk hL_law_17 34 rfl) ⟨by show 5001 ≤ 600000; omega, by show 50006 ≤ 7302250; omega⟩ rfl (fun H locs hs => ?_)
      refine lv_iload hx hb (dk hL_law_17 35 rfl) (lv_at hl 4 rfl) ?_
      refine lv_icmp_ne (tgt := 1392) hx hb (dk hL_law_17 36 rfl) (by decide) (fun hc => ?_) (fun hc => ?_)
      · replace hf := in_ hf hc
        refine lv_iconst (v := (0 : Int32)) hx hb (dk hL_law_18 9 rfl) (by decide) ?_
        exact absurd hf (by decide)
      · replace hf := ip hf hc
        refine lv_aload_n hx hb (dk hL_law_17 37 rfl) rfl (lv_at hl 0 rfl) ?_
        refine lv_iconst (v := (4 : Int32)) hx hb (dk hL_law_17 38 rfl) (by decide) ?_
        obtain ⟨u_165, e_166, hf⟩ := Option.bind_eq_some_iff.mp hf
        refine Ct.V (As := [.int (4 : Int32)]) (rest := []) (st1 := [.int u_165.2]) (w1 := (wR G a u_165.1 ++ [(z, ar G t)])) C hs (Ct.post (a_count e_166)) tw_438 tw_439 tw_440 tw_17 tw_441 nq_X4_count (by decide) 0 4 rfl rfl rfl rfl hl.1 rfl (Nat.le_of_ble_eq_true rfl) (dk hL_law_17 39 rfl) ⟨by show 5001 ≤ 600000; omega, by show 50006 ≤ 7302250; omega⟩ rfl (fun H locs hs => ?_)
        refine lv_iload hx hb (dk hL_law_18 0 rfl) (lv_at hl 5 rfl) ?_
        refine lv_icmp_ne (tgt := 1392) hx hb (dk hL_law_18 1 rfl) (by decide) (fun hc => ?_) (fun hc => ?_)
        · replace hf := in_ hf hc
          refine lv_iconst (v := (0 : Int32)) hx hb (dk hL_law_18 9 rfl) (by decide) ?_
          exact absurd hf (by decide)
        · replace hf := ip hf hc
          refine lv_aload_n hx hb (dk hL_law_18 2 rfl) rfl (lv_at hl 0 rfl) ?_
          refine lv_iconst (v := (0 : Int32)) hx hb (dk hL_law_18 3 rfl) (by decide) ?_
          obtain ⟨u_167, e_168, hf⟩ := Option.bind_eq_some_iff.mp hf
          refine Ct.V (As := [.int (0 : Int32)]) (rest := []) (st1 := [.int u_167.2]) (w1 := (wR G a u_167.1 ++ [(z, ar G t)])) C hs (Ct.post (a_count e_168)) tw_438 tw_439 tw_440 tw_17 tw_441 nq_X4_count (by decide) 0 4 rfl rfl rfl rfl hl.1 rfl (Nat.le_of_ble_eq_true rfl) (dk hL_law_18 4 rfl) ⟨by show 5001 ≤ 600000; omega, by show 50006 ≤ 7302250; omega⟩ rfl (fun H locs hs => ?_)
          refine lv_iload_n hx hb (dk hL_law_18 5 rfl) rfl (lv_at hl 1 rfl) ?_
          refine lv_icmp_ne (tgt := 1392) hx hb (dk hL_law_18 6 rfl) (by decide) (fun hc => ?_) (fun hc => ?_)
          · replace hf := in_ hf hc
            refine lv_iconst (v := (0 : Int32)) hx hb (dk hL_law_18 9 rfl) (by decide) ?_
            exact absurd hf (by decide)
          · replace hf := ip hf hc
            refine lv_iconst (v := (1 : Int32)) hx hb (dk hL_law_18 7 rfl) (by decide) ?_
            refine lv_goto (tgt := 1393) hx hb (dk hL_law_18 8 rfl) (by decide) ?_
            refine va_forget (fun q hq => hs.2.2.1.2.2 q hq) ?_
            refine W.widen (k := 600000) (n := 7302250) (Nat.le_of_ble_eq_true rfl) (Nat.le_of_ble_eq_true rfl) ?_
            exact lw_ret hx hb hret hlk (dk hL_law_18 10 rfl)
set_option maxRecDepth 100000 in
set_option maxHeartbeats 4000000 in
theorem l_L_law_L1283 {p : Program} {l : Launch} {e : Jvm.Env} {s : State} {m : MethodId} {below : List Frame} {meth : Method} {c : Code} {G : Gx} {a : Aw} {bs L : Nat} {xs : Nat → Int32} {x2 : Int32} {x3 : Int32} {x4 : Int32} {x5 : Int32} {x6 : Int32} {z : Nat} {t : List Int32} (C : Cx p s m #[.ref bs] meth c cL_law RL 17 (some .boolean) G) (hX : va_X bs L xs s s.heap) (hbl : bs < s.heap.size) (hbA : ¬ (fun q : Nat => s.heap.size ≤ q) bs) {k : Rw → Option (Int32)} (hk : ∀ (S : Rw), k S = some (1 : Int32) → ∀ (H : Heap) (locs : List Loc), St G (fun q : Nat => s.heap.size ≤ q) s.heap H locs (wR G a S ++ [(z, ar G t)]) → ∀ ls : Array Slot, lv_has ls 17 [(1, .ref (a.1 0)), (2, .int x2), (3, .int x3), (4, .int x4), (5, .int x5), (6, .int x6)] → W p l e room_1 s m #[.ref bs] below meth c H locs 5001 50006 (lw_Z below #[Value.ref bs] s) (F0 m 1313 ls [])) : ∀ (n : Nat) (x15 : Int32) (S : Rw), X_L_law_L1283 k x2 x3 x4 x5 x6 t n x15 S = some (1 : Int32) → ∀ (H : Heap) (locs : List Loc), St G (fun q : Nat => s.heap.size ≤ q) s.heap H locs (wR G a S ++ [(z, ar G t)]) → ∀ ls : Array Slot, lv_has ls 17 [(1, .ref (a.1 0)), (2, .int x2), (3, .int x3), (4, .int x4), (5, .int x5), (6, .int x6), (14, .ref z), (15, .int x15)] → W p l e room_1 s m #[.ref bs] below meth c H locs 5001 50006 (lw_Z below #[Value.ref bs] s) (F0 m 1283 ls []) := by
  obtain ⟨hx, hb, hml, hown, hts, hK, hret, hlk⟩ := id C
  intro n
  induction n with
  | zero => intro x15 S hf; cases hf
  | succ n ih =>
    intro x15 S hf H locs hs ls hl
    rw [X_L_law_L1283] at hf
    refine lv_iload hx hb (dk hL_law_16 33 rfl) (lv_at hl 7 rfl) ?_
    refine lv_bipush (v := (6 : Int32)) hx hb (dk hL_law_16 34 rfl) (by decide) ?_
    refine lv_icmp_ge (tgt := 1313) hx hb (dk hL_law_16 35 rfl) (by decide) (fun hc => ?_) (fun hc => ?_)
    · replace hf := ip hf hc
      exact hk _ hf _ _ hs _ (lv_sub hl [0, 1, 2, 3, 4, 5] rfl)
    · replace hf := in_ hf hc
      refine lv_aload_n hx hb (dk hL_law_16 36 rfl) rfl (lv_at hl 0 rfl) ?_
      refine lv_iload hx hb (dk hL_law_16 37 rfl) (lv_at hl 7 rfl) ?_
      refine lv_iconst (v := (0 : Int32)) hx hb (dk hL_law_16 38 rfl) (by decide) ?_
      obtain ⟨u_179, e_180, hf⟩ := Option.bind_eq_some_iff.mp hf
      refine Ct.V (As := [.int x15, .int (0 : Int32)]) (rest := []) (st1 := [.int u_179.2]) (w1 := (wR G a u_179.1 ++ [(z, ar G t)])) C hs (Ct.post (a_good e_180)) tw_159 tw_160 tw_161 tw_17 tw_162 nq_X4_good (by decide) 0 4 rfl rfl rfl rfl hl.1 rfl (Nat.le_of_ble_eq_true rfl) (dk hL_law_16 39 rfl) ⟨by show 5001 ≤ 600000; omega, by show 50006 ≤ 7302250; omega⟩ rfl (fun H locs hs => ?_)
      refine lv_aload hx hb (dk hL_law_17 0 rfl) (lv_at hl 6 rfl) ?_
      refine lv_iload hx hb (dk hL_law_17 1 rfl) (lv_at hl 7 rfl) ?_
      obtain ⟨v_181, e_182, hf⟩ := Option.bind_eq_some_iff.mp hf
      refine rild C hs 97 rfl e_182 (dk hL_law_17 2 rfl) ?_
      refine lv_icmp_eq (tgt := 1307) hx hb (dk hL_law_17 3 rfl) (by decide) (fun hc => ?_) (fun hc => ?_)
      · replace hf := ip hf hc
        refine lv_iinc (v := (x15 + (1 : Int32))) (lv' := [(15, .int (x15 + (1 : Int32))), (1, .ref (a.1 0)), (2, .int x2), (3, .int x3), (4, .int x4), (5, .int x5), (6, .int x6), (14, .ref z)]) hx hb (dk hL_law_17 6 rfl) hl (k := 7) rfl (by first | rfl | decide) (by decide) rfl (fun ls hl => ?_)
        refine lv_goto (tgt := 1283) hx hb (dk hL_law_17 7 rfl) (by decide) ?_
        exact ih _ _ hf _ _ hs _ (lv_sub hl [1, 2, 3, 4, 5, 6, 7, 0] rfl)
      · replace hf := in_ hf hc
        refine lv_iconst (v := (0 : Int32)) hx hb (dk hL_law_17 4 rfl) (by decide) ?_
        exact absurd hf (by decide)
set_option maxRecDepth 100000 in
set_option maxHeartbeats 4000000 in
theorem j_L_law_J1313 {p : Program} {l : Launch} {e : Jvm.Env} {s : State} {m : MethodId} {below : List Frame} {meth : Method} {c : Code} {G : Gx} {a : Aw} {bs L : Nat} {xs : Nat → Int32} {z : Nat} (C : Cx p s m #[.ref bs] meth c cL_law RL 17 (some .boolean) G) (hX : va_X bs L xs s s.heap) (hbl : bs < s.heap.size) (hbA : ¬ (fun q : Nat => s.heap.size ≤ q) bs) : ∀ (x2 : Int32) (x3 : Int32) (x4 : Int32) (x5 : Int32) (x6 : Int32) (S : Rw) (t : List Int32), X_L_law_J1313 x2 x3 x4 x5 x6 S t = some (1 : Int32) → ∀ (H : Heap) (locs : List Loc), St G (fun q : Nat => s.heap.size ≤ q) s.heap H locs (wR G a S ++ [(z, ar G t)]) → ∀ ls : Array Slot, lv_has ls 17 [(1, .ref (a.1 0)), (2, .int x2), (3, .int x3), (4, .int x4), (5, .int x5), (6, .int x6)] → W p l e room_1 s m #[.ref bs] below meth c H locs 5001 50006 (lw_Z below #[Value.ref bs] s) (F0 m 1313 ls []) := by
  obtain ⟨hx, hb, hml, hown, hts, hK, hret, hlk⟩ := id C
  intro x2 x3 x4 x5 x6 S t hf H locs hs ls hl
  unfold X_L_law_J1313 at hf
  refine lv_aload_n hx hb (dk hL_law_17 8 rfl) rfl (lv_at hl 0 rfl) ?_
  obtain ⟨u_184, e_185, hf⟩ := Option.bind_eq_some_iff.mp hf
  refine Ct.V (As := []) (rest := []) (st1 := [.int u_184.2]) (w1 := (wR G a u_184.1 ++ [(z, ar G t)])) C hs (Ct.post (a_back e_185)) tw_296 tw_297 tw_298 tw_17 tw_299 nq_X4_back (by decide) 0 4 rfl rfl rfl rfl hl.1 rfl (Nat.le_of_ble_eq_true rfl) (dk hL_law_17 9 rfl) ⟨by show 5001 ≤ 600000; omega, by show 50006 ≤ 7302250; omega⟩ rfl (fun H locs hs => ?_)
  refine lv_if_lt (tgt := 1339) hx hb (dk hL_law_17 10 rfl) (by decide) (fun hc => ?_) (fun hc => ?_)
  · replace hf := ip hf hc
    refine lv_iconst (v := (0 : Int32)) hx hb (dk hL_law_17 21 rfl) (by decide) ?_
    exact absurd hf (by decide)
  · replace hf := in_ hf hc
    refine lv_aload_n hx hb (dk hL_law_17 11 rfl) rfl (lv_at hl 0 rfl) ?_
    refine lv_iconst (v := (1 : Int32)) hx hb (dk hL_law_17 12 rfl) (by decide) ?_
    obtain ⟨u_186, e_187, hf⟩ := Option.bind_eq_some_iff.mp hf
    refine Ct.V (As := [.int (1 : Int32)]) (rest := []) (st1 := [.int u_186.2]) (w1 := (wR G a u_186.1 ++ [(z, ar G t)])) C hs (Ct.post (a_count e_187)) tw_438 tw_439 tw_440 tw_17 tw_441 nq_X4_count (by decide) 0 4 rfl rfl rfl rfl hl.1 rfl (Nat.le_of_ble_eq_true rfl) (dk hL_law_17 13 rfl) ⟨by show 5001 ≤ 600000; omega, by show 50006 ≤ 7302250; omega⟩ rfl (fun H locs hs => ?_)
    refine lv_iload_n hx hb (dk hL_law_17 14 rfl) rfl (lv_at hl 2 rfl) ?_
    refine lv_icmp_ne (tgt := 1339) hx hb (dk hL_law_17 15 rfl) (by decide) (fun hc => ?_) (fun hc => ?_)
    · replace hf := in_ hf hc
      refine lv_iconst (v := (0 : Int32)) hx hb (dk hL_law_17 21 rfl) (by decide) ?_
      exact absurd hf (by decide)
    · replace hf := ip hf hc
      refine lv_aload_n hx hb (dk hL_law_17 16 rfl) rfl (lv_at hl 0 rfl) ?_
      refine lv_iconst (v := (3 : Int32)) hx hb (dk hL_law_17 17 rfl) (by decide) ?_
      obtain ⟨u_188, e_189, hf⟩ := Option.bind_eq_some_iff.mp hf
      refine Ct.V (As := [.int (3 : Int32)]) (rest := []) (st1 := [.int u_188.2]) (w1 := (wR G a u_188.1 ++ [(z, ar G t)])) C hs (Ct.post (a_count e_189)) tw_438 tw_439 tw_440 tw_17 tw_441 nq_X4_count (by decide) 0 4 rfl rfl rfl rfl hl.1 rfl (Nat.le_of_ble_eq_true rfl) (dk hL_law_17 18 rfl) ⟨by show 5001 ≤ 600000; omega, by show 50006 ≤ 7302250; omega⟩ rfl (fun H locs hs => ?_)
      refine lv_iload hx hb (dk hL_law_17 19 rfl) (lv_at hl 4 rfl) ?_
      refine lv_icmp_eq (tgt := 1341) hx hb (dk hL_law_17 20 rfl) (by decide) (fun hc => ?_) (fun hc => ?_)
      · replace hf := ip hf hc
        exact j_L_law_J1341 C hX hbl hbA _ _ _ _ _ _ _ hf _ _ hs _ (lv_sub hl [0, 1, 2, 3, 4, 5] rfl)
      · replace hf := in_ hf hc
        refine lv_iconst (v := (0 : Int32)) hx hb (dk hL_law_17 21 rfl) (by decide) ?_
        exact absurd hf (by decide)
set_option maxRecDepth 100000 in
set_option maxHeartbeats 4000000 in
theorem j_L_law_J1280 {p : Program} {l : Launch} {e : Jvm.Env} {s : State} {m : MethodId} {below : List Frame} {meth : Method} {c : Code} {G : Gx} {a : Aw} {bs L : Nat} {xs : Nat → Int32} {z : Nat} (C : Cx p s m #[.ref bs] meth c cL_law RL 17 (some .boolean) G) (hX : va_X bs L xs s s.heap) (hbl : bs < s.heap.size) (hbA : ¬ (fun q : Nat => s.heap.size ≤ q) bs) : ∀ (x2 : Int32) (x3 : Int32) (x4 : Int32) (x5 : Int32) (x6 : Int32) (S : Rw) (t : List Int32), X_L_law_J1280 x2 x3 x4 x5 x6 S t = some (1 : Int32) → ∀ (H : Heap) (locs : List Loc), St G (fun q : Nat => s.heap.size ≤ q) s.heap H locs (wR G a S ++ [(z, ar G t)]) → ∀ ls : Array Slot, lv_has ls 17 [(1, .ref (a.1 0)), (2, .int x2), (3, .int x3), (4, .int x4), (5, .int x5), (6, .int x6), (14, .ref z)] → W p l e room_1 s m #[.ref bs] below meth c H locs 5001 50006 (lw_Z below #[Value.ref bs] s) (F0 m 1280 ls []) := by
  obtain ⟨hx, hb, hml, hown, hts, hK, hret, hlk⟩ := id C
  intro x2 x3 x4 x5 x6 S t hf H locs hs ls hl
  unfold X_L_law_J1280 at hf
  refine lv_iconst (v := (0 : Int32)) hx hb (dk hL_law_16 31 rfl) (by decide) ?_
  refine lv_istore (lv' := [(15, .int (0 : Int32)), (1, .ref (a.1 0)), (2, .int x2), (3, .int x3), (4, .int x4), (5, .int x5), (6, .int x6), (14, .ref z)]) hx hb (dk hL_law_16 32 rfl) hl (by decide) rfl (fun ls hl => ?_)
  refine l_L_law_L1283 C hX hbl hbA (fun S_183 hf H locs hs ls hl => ?_) 1000 _ _ hf _ _ hs _ (lv_sub hl [1, 2, 3, 4, 5, 6, 7, 0] rfl)
  exact j_L_law_J1313 C hX hbl hbA _ _ _ _ _ _ _ hf _ _ hs _ (lv_sub hl [0, 1, 2, 3, 4, 5] rfl)
set_option maxRecDepth 100000 in
set_option maxHeartbeats 4000000 in
theorem j_L_law_J1236 {p : Program} {l : Launch} {e : Jvm.Env} {s : State} {m : MethodId} {below : List Frame} {meth : Method} {c : Code} {G : Gx} {a : Aw} {bs L : Nat} {xs : Nat → Int32} {z : Nat} (C : Cx p s m #[.ref bs] meth c cL_law RL 17 (some .boolean) G) (hX : va_X bs L xs s s.heap) (hbl : bs < s.heap.size) (hbA : ¬ (fun q : Nat => s.heap.size ≤ q) bs) : ∀ (x2 : Int32) (x3 : Int32) (x4 : Int32) (x5 : Int32) (x6 : Int32) (x7 : Int32) (x12 : Int32) (x13 : Int32) (S : Rw) (t : List Int32), X_L_law_J1236 x2 x3 x4 x5 x6 x7 x12 x13 S t = some (1 : Int32) → ∀ (H : Heap) (locs : List Loc), St G (fun q : Nat => s.heap.size ≤ q) s.heap H locs (wR G a S ++ [(z, ar G t)]) → ∀ ls : Array Slot, lv_has ls 17 [(1, .ref (a.1 0)), (2, .int x2), (3, .int x3), (4, .int x4), (5, .int x5), (6, .int x6), (7, .int x7), (12, .int x12), (13, .int x13), (14, .ref z)] → W p l e room_1 s m #[.ref bs] below meth c H locs 5001 50006 (lw_Z below #[Value.ref bs] s) (F0 m 1236 ls []) := by
  obtain ⟨hx, hb, hml, hown, hts, hK, hret, hlk⟩ := id C
  intro x2 x3 x4 x5 x6 x7 x12 x13 S t hf H locs hs ls hl
  unfold X_L_law_J1236 at hf
  refine lv_aload_n hx hb (dk hL_law_16 6 rfl) rfl (lv_at hl 0 rfl) ?_
  refine lv_iconst (v := (3 : Int32)) hx hb (dk hL_law_16 7 rfl) (by decide) ?_
  obtain ⟨u_173, e_174, hf⟩ := Option.bind_eq_some_iff.mp hf
  refine Ct.V (As := [.int (3 : Int32)]) (rest := []) (st1 := [.int u_173.2]) (w1 := (wR G a u_173.1 ++ [(z, ar G t)])) C hs (Ct.post (a_count e_174)) tw_438 tw_439 tw_440 tw_17 tw_441 nq_X4_count (by decide) 0 4 rfl rfl rfl rfl hl.1 rfl (Nat.le_of_ble_eq_true rfl) (dk hL_law_16 8 rfl) ⟨by show 5001 ≤ 600000; omega, by show 50006 ≤ 7302250; omega⟩ rfl (fun H locs hs => ?_)
  refine lv_iload hx hb (dk hL_law_16 9 rfl) (lv_at hl 7 rfl) ?_
  refine lv_icmp_ne (tgt := 1278) hx hb (dk hL_law_16 10 rfl) (by decide) (fun hc => ?_) (fun hc => ?_)
  · replace hf := in_ hf hc
    refine lv_iconst (v := (0 : Int32)) hx hb (dk hL_law_16 29 rfl) (by decide) ?_
    exact absurd hf (by decide)
  · replace hf := ip hf hc
    refine lv_aload_n hx hb (dk hL_law_16 11 rfl) rfl (lv_at hl 0 rfl) ?_
    refine lv_iconst (v := (2 : Int32)) hx hb (dk hL_law_16 12 rfl) (by decide) ?_
    obtain ⟨u_175, e_176, hf⟩ := Option.bind_eq_some_iff.mp hf
    refine Ct.V (As := [.int (2 : Int32)]) (rest := []) (st1 := [.int u_175.2]) (w1 := (wR G a u_175.1 ++ [(z, ar G t)])) C hs (Ct.post (a_count e_176)) tw_438 tw_439 tw_440 tw_17 tw_441 nq_X4_count (by decide) 0 4 rfl rfl rfl rfl hl.1 rfl (Nat.le_of_ble_eq_true rfl) (dk hL_law_16 13 rfl) ⟨by show 5001 ≤ 600000; omega, by show 50006 ≤ 7302250; omega⟩ rfl (fun H locs hs => ?_)
    refine lv_iload hx hb (dk hL_law_16 14 rfl) (lv_at hl 8 rfl) ?_
    refine lv_icmp_ne (tgt := 1278) hx hb (dk hL_law_16 15 rfl) (by decide) (fun hc => ?_) (fun hc => ?_)
    · replace hf := in_ hf hc
      refine lv_iconst (v := (0 : Int32)) hx hb (dk hL_law_16 29 rfl) (by decide) ?_
      exact absurd hf (by decide)
    · replace hf := ip hf hc
      refine lv_iload hx hb (dk hL_law_16 16 rfl) (lv_at hl 4 rfl) ?_
      refine lv_iload hx hb (dk hL_law_16 17 rfl) (lv_at hl 7 rfl) ?_
      refine lv_iconst (v := (-1 : Int32)) hx hb (dk hL_law_16 18 rfl) (by decide) ?_
      refine lv_ixor hx hb (dk hL_law_16 19 rfl) ?_
      refine lv_iand hx hb (dk hL_law_16 20 rfl) ?_
      refine lv_if_ne (tgt := 1278) hx hb (dk hL_law_16 21 rfl) (by decide) (fun hc => ?_) (fun hc => ?_)
      · replace hf := in_ hf hc
        refine lv_iconst (v := (0 : Int32)) hx hb (dk hL_law_16 29 rfl) (by decide) ?_
        exact absurd hf (by decide)
      · replace hf := ip hf hc
        refine lv_aload_n hx hb (dk hL_law_16 22 rfl) rfl (lv_at hl 0 rfl) ?_
        refine lv_iconst (v := (1 : Int32)) hx hb (dk hL_law_16 23 rfl) (by decide) ?_
        obtain ⟨u_177, e_178, hf⟩ := Option.bind_eq_some_iff.mp hf
        refine Ct.V (As := [.int (1 : Int32)]) (rest := []) (st1 := [.int u_177.2]) (w1 := (wR G a u_177.1 ++ [(z, ar G t)])) C hs (Ct.post (a_count e_178)) tw_438 tw_439 tw_440 tw_17 tw_441 nq_X4_count (by decide) 0 4 rfl rfl rfl rfl hl.1 rfl (Nat.le_of_ble_eq_true rfl) (dk hL_law_16 24 rfl) ⟨by show 5001 ≤ 600000; omega, by show 50006 ≤ 7302250; omega⟩ rfl (fun H locs hs => ?_)
        refine lv_iload_n hx hb (dk hL_law_16 25 rfl) rfl (lv_at hl 2 rfl) ?_
        refine lv_iload hx hb (dk hL_law_16 26 rfl) (lv_at hl 6 rfl) ?_
        refine lv_iadd hx hb (dk hL_law_16 27 rfl) ?_
        refine lv_icmp_eq (tgt := 1280) hx hb (dk hL_law_16 28 rfl) (by decide) (fun hc => ?_) (fun hc => ?_)
        · replace hf := ip hf hc
          exact j_L_law_J1280 C hX hbl hbA _ _ _ _ _ _ _ hf _ _ hs _ (lv_sub hl [0, 1, 2, 3, 4, 5, 9] rfl)
        · replace hf := in_ hf hc
          refine lv_iconst (v := (0 : Int32)) hx hb (dk hL_law_16 29 rfl) (by decide) ?_
          exact absurd hf (by decide)
set_option maxRecDepth 100000 in
set_option maxHeartbeats 4000000 in
theorem j_L_law_J1212 {p : Program} {l : Launch} {e : Jvm.Env} {s : State} {m : MethodId} {below : List Frame} {meth : Method} {c : Code} {G : Gx} {a : Aw} {bs L : Nat} {xs : Nat → Int32} {z : Nat} (C : Cx p s m #[.ref bs] meth c cL_law RL 17 (some .boolean) G) (hX : va_X bs L xs s s.heap) (hbl : bs < s.heap.size) (hbA : ¬ (fun q : Nat => s.heap.size ≤ q) bs) : ∀ (x2 : Int32) (x3 : Int32) (x4 : Int32) (x5 : Int32) (x6 : Int32) (x7 : Int32) (x12 : Int32) (x13 : Int32) (S : Rw) (t : List Int32), X_L_law_J1212 x2 x3 x4 x5 x6 x7 x12 x13 S t = some (1 : Int32) → ∀ (H : Heap) (locs : List Loc), St G (fun q : Nat => s.heap.size ≤ q) s.heap H locs (wR G a S ++ [(z, ar G t)]) → ∀ ls : Array Slot, lv_has ls 17 [(1, .ref (a.1 0)), (2, .int x2), (3, .int x3), (4, .int x4), (5, .int x5), (6, .int x6), (7, .int x7), (12, .int x12), (13, .int x13), (14, .ref z)] → W p l e room_1 s m #[.ref bs] below meth c H locs 5001 50006 (lw_Z below #[Value.ref bs] s) (F0 m 1212 ls []) := by
  obtain ⟨hx, hb, hml, hown, hts, hK, hret, hlk⟩ := id C
  intro x2 x3 x4 x5 x6 x7 x12 x13 S t hf H locs hs ls hl
  unfold X_L_law_J1212 at hf
  refine lv_iload_n hx hb (dk hL_law_15 35 rfl) rfl (lv_at hl 2 rfl) ?_
  refine lv_iload hx hb (dk hL_law_15 36 rfl) (lv_at hl 6 rfl) ?_
  refine lv_iadd hx hb (dk hL_law_15 37 rfl) ?_
  refine lv_sipush (v := (999 : Int32)) hx hb (dk hL_law_15 38 rfl) (by decide) ?_
  refine lv_icmp_gt (tgt := 1341) hx hb (dk hL_law_15 39 rfl) (by decide) (fun hc => ?_) (fun hc => ?_)
  · replace hf := ip hf hc
    exact j_L_law_J1341 C hX hbl hbA _ _ _ _ _ _ _ hf _ _ hs _ (lv_sub hl [0, 1, 2, 3, 4, 5] rfl)
  · replace hf := in_ hf hc
    refine lv_aload_n hx hb (dk hL_law_16 0 rfl) rfl (lv_at hl 0 rfl) ?_
    refine lv_iload hx hb (dk hL_law_16 1 rfl) (lv_at hl 6 rfl) ?_
    obtain ⟨u_169, e_170, hf⟩ := Option.bind_eq_some_iff.mp hf
    refine Ct.V (As := [.int x7]) (rest := []) (st1 := [.int u_169.2]) (w1 := (wR G a u_169.1 ++ [(z, ar G t)])) C hs (Ct.post (a_days e_170)) tw_264 tw_265 tw_266 tw_17 tw_267 nq_X4_days (by decide) 0 4 rfl rfl rfl rfl hl.1 rfl (Nat.le_of_ble_eq_true rfl) (dk hL_law_16 2 rfl) ⟨by show 5001 ≤ 600000; omega, by show 50006 ≤ 7302250; omega⟩ rfl (fun H locs hs => ?_)
    refine lv_iload hx hb (dk hL_law_16 3 rfl) (lv_at hl 7 rfl) ?_
    obtain ⟨u_171, e_172, hf⟩ := Option.bind_eq_some_iff.mp hf
    refine Ct.S (As := [.int x12]) (rest := [.int u_169.2]) (st1 := [.int u_171, .int u_169.2]) (w1 := (wR G a u_169.1 ++ [(z, ar G t)])) C hs (c_J6_bitCount_0f7a4 e_172) tw_532 tw_291 tw_23 tw_292 nq_J6_bitCount_0f7a4 (by decide) rfl hl.1 rfl (Nat.le_of_ble_eq_true rfl) (dk hL_law_16 4 rfl) ⟨by show 5001 ≤ 600000; omega, by show 50006 ≤ 7302250; omega⟩ rfl (fun H locs hs => ?_)
    refine lv_icmp_ne (tgt := 1278) hx hb (dk hL_law_16 5 rfl) (by decide) (fun hc => ?_) (fun hc => ?_)
    · replace hf := in_ hf hc
      refine lv_iconst (v := (0 : Int32)) hx hb (dk hL_law_16 29 rfl) (by decide) ?_
      exact absurd hf (by decide)
    · replace hf := ip hf hc
      exact j_L_law_J1236 C hX hbl hbA _ _ _ _ _ _ _ _ _ _ hf _ _ hs _ (lv_sub hl [0, 1, 2, 3, 4, 5, 6, 7, 8, 9] rfl)
set_option maxRecDepth 100000 in
set_option maxHeartbeats 4000000 in
theorem j_L_law_J1159 {p : Program} {l : Launch} {e : Jvm.Env} {s : State} {m : MethodId} {below : List Frame} {meth : Method} {c : Code} {G : Gx} {a : Aw} {bs L : Nat} {xs : Nat → Int32} (C : Cx p s m #[.ref bs] meth c cL_law RL 17 (some .boolean) G) (hX : va_X bs L xs s s.heap) (hbl : bs < s.heap.size) (hbA : ¬ (fun q : Nat => s.heap.size ≤ q) bs) : ∀ (x2 : Int32) (x3 : Int32) (x4 : Int32) (x5 : Int32) (x6 : Int32) (x7 : Int32) (S : Rw), X_L_law_J1159 x2 x3 x4 x5 x6 x7 S = some (1 : Int32) → ∀ (H : Heap) (locs : List Loc), St G (fun q : Nat => s.heap.size ≤ q) s.heap H locs (wR G a S) → ∀ ls : Array Slot, lv_has ls 17 [(1, .ref (a.1 0)), (2, .int x2), (3, .int x3), (4, .int x4), (5, .int x5), (6, .int x6), (7, .int x7)] → W p l e room_1 s m #[.ref bs] below meth c H locs 5000 50000 (lw_Z below #[Value.ref bs] s) (F0 m 1159 ls []) := by
  obtain ⟨hx, hb, hml, hown, hts, hK, hret, hlk⟩ := id C
  intro x2 x3 x4 x5 x6 x7 S hf H locs hs ls hl
  unfold X_L_law_J1159 at hf
  refine lv_aload_n hx hb (dk hL_law_15 8 rfl) rfl (lv_at hl 0 rfl) ?_
  refine lv_iload hx hb (dk hL_law_15 9 rfl) (lv_at hl 6 rfl) ?_
  refine lv_iconst (v := (1 : Int32)) hx hb (dk hL_law_15 10 rfl) (by decide) ?_
  obtain ⟨u_148, e_149, hf⟩ := Option.bind_eq_some_iff.mp hf
  refine Ct.V (As := [.int x7, .int (1 : Int32)]) (rest := []) (st1 := [.int u_148.2]) (w1 := (wR G a u_148.1)) C hs (a_then e_149) tw_317 tw_318 tw_319 tw_17 tw_320 nq_X4_then (by decide) 0 4 rfl rfl rfl rfl hl.1 rfl (Nat.le_of_ble_eq_true rfl) (dk hL_law_15 11 rfl) ⟨by show 5000 ≤ 600000; omega, by show 50000 ≤ 7302250; omega⟩ rfl (fun H locs hs => ?_)
  refine lv_istore (lv' := [(12, .int u_148.2), (1, .ref (a.1 0)), (2, .int x2), (3, .int x3), (4, .int x4), (5, .int x5), (6, .int x6), (7, .int x7)]) hx hb (dk hL_law_15 12 rfl) hl (by decide) rfl (fun ls hl => ?_)
  refine lv_aload_n hx hb (dk hL_law_15 13 rfl) rfl (lv_at hl 1 rfl) ?_
  refine lv_iload hx hb (dk hL_law_15 14 rfl) (lv_at hl 7 rfl) ?_
  refine lv_iconst (v := (0 : Int32)) hx hb (dk hL_law_15 15 rfl) (by decide) ?_
  obtain ⟨u_150, e_151, hf⟩ := Option.bind_eq_some_iff.mp hf
  refine Ct.V (As := [.int x7, .int (0 : Int32)]) (rest := []) (st1 := [.int u_150.2]) (w1 := (wR G a u_150.1)) C hs (a_then e_151) tw_317 tw_318 tw_319 tw_17 tw_320 nq_X4_then (by decide) 0 4 rfl rfl rfl rfl hl.1 rfl (Nat.le_of_ble_eq_true rfl) (dk hL_law_15 16 rfl) ⟨by show 5000 ≤ 600000; omega, by show 50000 ≤ 7302250; omega⟩ rfl (fun H locs hs => ?_)
  refine lv_istore (lv' := [(13, .int u_150.2), (12, .int u_148.2), (1, .ref (a.1 0)), (2, .int x2), (3, .int x3), (4, .int x4), (5, .int x5), (6, .int x6), (7, .int x7)]) hx hb (dk hL_law_15 17 rfl) hl (by decide) rfl (fun ls hl => ?_)
  refine lv_bipush (v := (6 : Int32)) hx hb (dk hL_law_15 18 rfl) (by decide) ?_
  refine rna (N' := 6) (cells1 := 5001) (slots1 := 50006) C hs (by decide) (by decide) (Nat.le_of_ble_eq_true rfl) rfl rfl ⟨by show 5001 ≤ 600000; omega, by show 50006 ≤ 7302250; omega⟩ (dk hL_law_15 19 rfl) (fun z_152 H hs => ?_)
  refine lv_astore (lv' := [(14, .ref z_152), (13, .int u_150.2), (12, .int u_148.2), (1, .ref (a.1 0)), (2, .int x2), (3, .int x3), (4, .int x4), (5, .int x5), (6, .int x6), (7, .int x7)]) hx hb (dk hL_law_15 20 rfl) hl (by decide) rfl (fun ls hl => ?_)
  refine lv_iconst (v := (0 : Int32)) hx hb (dk hL_law_15 21 rfl) (by decide) ?_
  refine lv_istore (lv' := [(15, .int (0 : Int32)), (14, .ref z_152), (13, .int u_150.2), (12, .int u_148.2), (1, .ref (a.1 0)), (2, .int x2), (3, .int x3), (4, .int x4), (5, .int x5), (6, .int x6), (7, .int x7)]) hx hb (dk hL_law_15 22 rfl) hl (by decide) rfl (fun ls hl => ?_)
  refine l_L_law_L1186 C hX hbl hbA (fun S_157 t_158 hf H locs hs ls hl => ?_) 1000 _ _ _ hf _ _ hs _ (lv_sub hl [4, 5, 6, 7, 8, 9, 10, 3, 2, 1, 0] rfl)
  exact j_L_law_J1212 C hX hbl hbA _ _ _ _ _ _ _ _ _ _ hf _ _ hs _ (lv_sub hl [0, 1, 2, 3, 4, 5, 6, 7, 8, 9] rfl)
set_option maxRecDepth 100000 in
set_option maxHeartbeats 4000000 in
theorem j_L_law_J1132 {p : Program} {l : Launch} {e : Jvm.Env} {s : State} {m : MethodId} {below : List Frame} {meth : Method} {c : Code} {G : Gx} {a : Aw} {bs L : Nat} {xs : Nat → Int32} (C : Cx p s m #[.ref bs] meth c cL_law RL 17 (some .boolean) G) (hX : va_X bs L xs s s.heap) (hbl : bs < s.heap.size) (hbA : ¬ (fun q : Nat => s.heap.size ≤ q) bs) : ∀ (x2 : Int32) (x3 : Int32) (x4 : Int32) (x5 : Int32) (x6 : Int32) (x7 : Int32) (S : Rw), X_L_law_J1132 x2 x3 x4 x5 x6 x7 S = some (1 : Int32) → ∀ (H : Heap) (locs : List Loc), St G (fun q : Nat => s.heap.size ≤ q) s.heap H locs (wR G a S) → ∀ ls : Array Slot, lv_has ls 17 [(1, .ref (a.1 0)), (2, .int x2), (3, .int x3), (4, .int x4), (5, .int x5), (6, .int x6), (7, .int x7)] → W p l e room_1 s m #[.ref bs] below meth c H locs 5000 50000 (lw_Z below #[Value.ref bs] s) (F0 m 1132 ls []) := by
  obtain ⟨hx, hb, hml, hown, hts, hK, hret, hlk⟩ := id C
  intro x2 x3 x4 x5 x6 x7 S hf H locs hs ls hl
  unfold X_L_law_J1132 at hf
  refine lv_aload_n hx hb (dk hL_law_14 34 rfl) rfl (lv_at hl 0 rfl) ?_
  obtain ⟨u_146, e_147, hf⟩ := Option.bind_eq_some_iff.mp hf
  refine Ct.V (As := []) (rest := []) (st1 := [.int u_146.2]) (w1 := (wR G a u_146.1)) C hs (a_filled e_147) tw_414 tw_415 tw_416 tw_17 tw_417 nq_X4_filled (by decide) 0 4 rfl rfl rfl rfl hl.1 rfl (Nat.le_of_ble_eq_true rfl) (dk hL_law_14 35 rfl) ⟨by show 5000 ≤ 600000; omega, by show 50000 ≤ 7302250; omega⟩ rfl (fun H locs hs => ?_)
  refine lv_if_ne (tgt := 1143) hx hb (dk hL_law_14 36 rfl) (by decide) (fun hc => ?_) (fun hc => ?_)
  · replace hf := in_ hf hc
    refine lv_iconst (v := (0 : Int32)) hx hb (dk hL_law_14 39 rfl) (by decide) ?_
    refine lv_iload hx hb (dk hL_law_15 0 rfl) (lv_at hl 5 rfl) ?_
    refine lv_if_ne (tgt := 1153) hx hb (dk hL_law_15 1 rfl) (by decide) (fun hc => ?_) (fun hc => ?_)
    · replace hf := in_ hf hc
      refine lv_iconst (v := (0 : Int32)) hx hb (dk hL_law_15 4 rfl) (by decide) ?_
      refine lv_icmp_eq (tgt := 1159) hx hb (dk hL_law_15 5 rfl) (by decide) (fun hc => ?_) (fun hc => ?_)
      · exact j_L_law_J1159 C hX hbl hbA _ _ _ _ _ _ _ hf _ _ hs _ (lv_sub hl [0, 1, 2, 3, 4, 5, 6] rfl)
      · exact absurd hc (by decide)
    · replace hf := ip hf hc
      refine lv_iconst (v := (1 : Int32)) hx hb (dk hL_law_15 2 rfl) (by decide) ?_
      refine lv_goto (tgt := 1154) hx hb (dk hL_law_15 3 rfl) (by decide) ?_
      refine lv_icmp_eq (tgt := 1159) hx hb (dk hL_law_15 5 rfl) (by decide) (fun hc => ?_) (fun hc => ?_)
      · exact absurd hc (by decide)
      · refine lv_iconst (v := (0 : Int32)) hx hb (dk hL_law_15 6 rfl) (by decide) ?_
        exact absurd hf (by decide)
  · replace hf := ip hf hc
    refine lv_iconst (v := (1 : Int32)) hx hb (dk hL_law_14 37 rfl) (by decide) ?_
    refine lv_goto (tgt := 1144) hx hb (dk hL_law_14 38 rfl) (by decide) ?_
    refine lv_iload hx hb (dk hL_law_15 0 rfl) (lv_at hl 5 rfl) ?_
    refine lv_if_ne (tgt := 1153) hx hb (dk hL_law_15 1 rfl) (by decide) (fun hc => ?_) (fun hc => ?_)
    · replace hf := in_ hf hc
      refine lv_iconst (v := (0 : Int32)) hx hb (dk hL_law_15 4 rfl) (by decide) ?_
      refine lv_icmp_eq (tgt := 1159) hx hb (dk hL_law_15 5 rfl) (by decide) (fun hc => ?_) (fun hc => ?_)
      · exact absurd hc (by decide)
      · refine lv_iconst (v := (0 : Int32)) hx hb (dk hL_law_15 6 rfl) (by decide) ?_
        exact absurd hf (by decide)
    · replace hf := ip hf hc
      refine lv_iconst (v := (1 : Int32)) hx hb (dk hL_law_15 2 rfl) (by decide) ?_
      refine lv_goto (tgt := 1154) hx hb (dk hL_law_15 3 rfl) (by decide) ?_
      refine lv_icmp_eq (tgt := 1159) hx hb (dk hL_law_15 5 rfl) (by decide) (fun hc => ?_) (fun hc => ?_)
      · exact j_L_law_J1159 C hX hbl hbA _ _ _ _ _ _ _ hf _ _ hs _ (lv_sub hl [0, 1, 2, 3, 4, 5, 6] rfl)
      · exact absurd hc (by decide)
set_option maxRecDepth 100000 in
set_option maxHeartbeats 4000000 in
theorem j_L_law_J1113 {p : Program} {l : Launch} {e : Jvm.Env} {s : State} {m : MethodId} {below : List Frame} {meth : Method} {c : Code} {G : Gx} {a : Aw} {bs L : Nat} {xs : Nat → Int32} (C : Cx p s m #[.ref bs] meth c cL_law RL 17 (some .boolean) G) (hX : va_X bs L xs s s.heap) (hbl : bs < s.heap.size) (hbA : ¬ (fun q : Nat => s.heap.size ≤ q) bs) : ∀ (x2 : Int32) (x3 : Int32) (x4 : Int32) (x5 : Int32) (x6 : Int32) (x7 : Int32) (x11 : Int32) (S : Rw), X_L_law_J1113 x2 x3 x4 x5 x6 x7 x11 S = some (1 : Int32) → ∀ (H : Heap) (locs : List Loc), St G (fun q : Nat => s.heap.size ≤ q) s.heap H locs (wR G a S) → ∀ ls : Array Slot, lv_has ls 17 [(1, .ref (a.1 0)), (2, .int x2), (3, .int x3), (4, .int x4), (5, .int x5), (6, .int x6), (7, .int x7), (11, .int x11)] → W p l e room_1 s m #[.ref bs] below meth c H locs 5000 50000 (lw_Z below #[Value.ref bs] s) (F0 m 1113 ls []) := by
  obtain ⟨hx, hb, hml, hown, hts, hK, hret, hlk⟩ := id C
  intro x2 x3 x4 x5 x6 x7 x11 S hf H locs hs ls hl
  unfold X_L_law_J1113 at hf
  refine lv_iload hx hb (dk hL_law_14 25 rfl) (lv_at hl 7 rfl) ?_
  refine lv_if_lt (tgt := 1132) hx hb (dk hL_law_14 26 rfl) (by decide) (fun hc => ?_) (fun hc => ?_)
  · replace hf := ip hf hc
    exact j_L_law_J1132 C hX hbl hbA _ _ _ _ _ _ _ hf _ _ hs _ (lv_sub hl [0, 1, 2, 3, 4, 5, 6] rfl)
  · replace hf := in_ hf hc
    refine lv_aload_n hx hb (dk hL_law_14 27 rfl) rfl (lv_at hl 0 rfl) ?_
    refine lv_iload hx hb (dk hL_law_14 28 rfl) (lv_at hl 7 rfl) ?_
    refine lv_aload_n hx hb (dk hL_law_14 29 rfl) rfl (lv_at hl 0 rfl) ?_
    refine lv_iconst (v := (1 : Int32)) hx hb (dk hL_law_14 30 rfl) (by decide) ?_
    obtain ⟨u_190, e_191, hf⟩ := Option.bind_eq_some_iff.mp hf
    refine Ct.V (As := [.int (1 : Int32)]) (rest := [.int x11, .ref (a.1 0)]) (st1 := [.int u_190.2, .int x11, .ref (a.1 0)]) (w1 := (wR G a u_190.1)) C hs (a_bare e_191) tw_386 tw_387 tw_388 tw_17 tw_389 nq_X4_bare (by decide) 0 4 rfl rfl rfl rfl hl.1 rfl (Nat.le_of_ble_eq_true rfl) (dk hL_law_14 31 rfl) ⟨by show 5000 ≤ 600000; omega, by show 50000 ≤ 7302250; omega⟩ rfl (fun H locs hs => ?_)
    obtain ⟨u_192, e_193, hf⟩ := Option.bind_eq_some_iff.mp hf
    refine Ct.V (As := [.int x11, .int u_190.2]) (rest := []) (st1 := [.int u_192.2]) (w1 := (wR G a u_192.1)) C hs (a_thereIn e_193) tw_308 tw_309 tw_310 tw_17 tw_311 nq_X4_thereIn (by decide) 0 4 rfl rfl rfl rfl hl.1 rfl (Nat.le_of_ble_eq_true rfl) (dk hL_law_14 32 rfl) ⟨by show 5000 ≤ 600000; omega, by show 50000 ≤ 7302250; omega⟩ rfl (fun H locs hs => ?_)
    refine lv_if_ne (tgt := 1157) hx hb (dk hL_law_14 33 rfl) (by decide) (fun hc => ?_) (fun hc => ?_)
    · replace hf := in_ hf hc
      refine lv_iconst (v := (0 : Int32)) hx hb (dk hL_law_15 6 rfl) (by decide) ?_
      exact absurd hf (by decide)
    · replace hf := ip hf hc
      exact j_L_law_J1132 C hX hbl hbA _ _ _ _ _ _ _ hf _ _ hs _ (lv_sub hl [0, 1, 2, 3, 4, 5, 6] rfl)
set_option maxRecDepth 100000 in
set_option maxHeartbeats 4000000 in
theorem j_L_law_J1106 {p : Program} {l : Launch} {e : Jvm.Env} {s : State} {m : MethodId} {below : List Frame} {meth : Method} {c : Code} {G : Gx} {a : Aw} {bs L : Nat} {xs : Nat → Int32} (C : Cx p s m #[.ref bs] meth c cL_law RL 17 (some .boolean) G) (hX : va_X bs L xs s s.heap) (hbl : bs < s.heap.size) (hbA : ¬ (fun q : Nat => s.heap.size ≤ q) bs) : ∀ (x2 : Int32) (x3 : Int32) (x4 : Int32) (x5 : Int32) (x6 : Int32) (x7 : Int32) (S : Rw), X_L_law_J1106 x2 x3 x4 x5 x6 x7 S = some (1 : Int32) → ∀ (H : Heap) (locs : List Loc), St G (fun q : Nat => s.heap.size ≤ q) s.heap H locs (wR G a S) → ∀ ls : Array Slot, lv_has ls 17 [(1, .ref (a.1 0)), (2, .int x2), (3, .int x3), (4, .int x4), (5, .int x5), (6, .int x6), (7, .int x7)] → W p l e room_1 s m #[.ref bs] below meth c H locs 5000 50000 (lw_Z below #[Value.ref bs] s) (F0 m 1106 ls []) := by
  obtain ⟨hx, hb, hml, hown, hts, hK, hret, hlk⟩ := id C
  intro x2 x3 x4 x5 x6 x7 S hf H locs hs ls hl
  unfold X_L_law_J1106 at hf
  refine lv_aload_n hx hb (dk hL_law_14 21 rfl) rfl (lv_at hl 0 rfl) ?_
  refine lv_iconst (v := (0 : Int32)) hx hb (dk hL_law_14 22 rfl) (by decide) ?_
  obtain ⟨u_144, e_145, hf⟩ := Option.bind_eq_some_iff.mp hf
  refine Ct.V (As := [.int (0 : Int32)]) (rest := []) (st1 := [.int u_144.2]) (w1 := (wR G a u_144.1)) C hs (a_bare e_145) tw_386 tw_387 tw_388 tw_17 tw_389 nq_X4_bare (by decide) 0 4 rfl rfl rfl rfl hl.1 rfl (Nat.le_of_ble_eq_true rfl) (dk hL_law_14 23 rfl) ⟨by show 5000 ≤ 600000; omega, by show 50000 ≤ 7302250; omega⟩ rfl (fun H locs hs => ?_)
  refine lv_istore (lv' := [(11, .int u_144.2), (1, .ref (a.1 0)), (2, .int x2), (3, .int x3), (4, .int x4), (5, .int x5), (6, .int x6), (7, .int x7)]) hx hb (dk hL_law_14 24 rfl) hl (by decide) rfl (fun ls hl => ?_)
  exact j_L_law_J1113 C hX hbl hbA _ _ _ _ _ _ _ _ hf _ _ hs _ (lv_sub hl [1, 2, 3, 4, 5, 6, 7, 0] rfl)
set_option maxRecDepth 100000 in
set_option maxHeartbeats 4000000 in
theorem j_L_law_J981 {p : Program} {l : Launch} {e : Jvm.Env} {s : State} {m : MethodId} {below : List Frame} {meth : Method} {c : Code} {G : Gx} {a : Aw} {bs L : Nat} {xs : Nat → Int32} (C : Cx p s m #[.ref bs] meth c cL_law RL 17 (some .boolean) G) (hX : va_X bs L xs s s.heap) (hbl : bs < s.heap.size) (hbA : ¬ (fun q : Nat => s.heap.size ≤ q) bs) : ∀ (x2 : Int32) (x3 : Int32) (x4 : Int32) (x5 : Int32) (x6 : Int32) (x7 : Int32) (S : Rw), X_L_law_J981 x2 x3 x4 x5 x6 x7 S = some (1 : Int32) → ∀ (H : Heap) (locs : List Loc), St G (fun q : Nat => s.heap.size ≤ q) s.heap H locs (wR G a S) → ∀ ls : Array Slot, lv_has ls 17 [(1, .ref (a.1 0)), (2, .int x2), (3, .int x3), (4, .int x4), (5, .int x5), (6, .int x6), (7, .int x7)] → W p l e room_1 s m #[.ref bs] below meth c H locs 5000 50000 (lw_Z below #[Value.ref bs] s) (F0 m 981 ls []) := by
  obtain ⟨hx, hb, hml, hown, hts, hK, hret, hlk⟩ := id C
  intro x2 x3 x4 x5 x6 x7 S hf H locs hs ls hl
  unfold X_L_law_J981 at hf
  refine lv_aload_n hx hb (dk hL_law_12 39 rfl) rfl (lv_at hl 0 rfl) ?_
  refine lv_iconst (v := (-1 : Int32)) hx hb (dk hL_law_13 0 rfl) (by decide) ?_
  obtain ⟨u_129, e_130, hf⟩ := Option.bind_eq_some_iff.mp hf
  refine Ct.V (As := [.int (-1 : Int32)]) (rest := []) (st1 := [.int u_129.2]) (w1 := (wR G a u_129.1)) C hs (a_comes e_130) tw_321 tw_322 tw_323 tw_17 tw_324 nq_X4_comes (by decide) 0 4 rfl rfl rfl rfl hl.1 rfl (Nat.le_of_ble_eq_true rfl) (dk hL_law_13 1 rfl) ⟨by show 5000 ≤ 600000; omega, by show 50000 ≤ 7302250; omega⟩ rfl (fun H locs hs => ?_)
  refine lv_istore (lv' := [(10, .int u_129.2), (1, .ref (a.1 0)), (2, .int x2), (3, .int x3), (4, .int x4), (5, .int x5), (6, .int x6), (7, .int x7)]) hx hb (dk hL_law_13 2 rfl) hl (by decide) rfl (fun ls hl => ?_)
  refine lv_iconst (v := (0 : Int32)) hx hb (dk hL_law_13 3 rfl) (by decide) ?_
  refine lv_istore (lv' := [(11, .int (0 : Int32)), (10, .int u_129.2), (1, .ref (a.1 0)), (2, .int x2), (3, .int x3), (4, .int x4), (5, .int x5), (6, .int x6), (7, .int x7)]) hx hb (dk hL_law_13 4 rfl) hl (by decide) rfl (fun ls hl => ?_)
  refine l_L_law_L991 C hX hbl hbA (fun S_143 hf H locs hs ls hl => ?_) 1000 _ _ hf _ _ hs _ (lv_sub hl [2, 3, 4, 5, 6, 7, 8, 1, 0] rfl)
  exact j_L_law_J1106 C hX hbl hbA _ _ _ _ _ _ _ hf _ _ hs _ (lv_sub hl [0, 1, 2, 3, 4, 5, 6] rfl)
set_option maxRecDepth 100000 in
set_option maxHeartbeats 4000000 in
theorem j_L_law_J417 {p : Program} {l : Launch} {e : Jvm.Env} {s : State} {m : MethodId} {below : List Frame} {meth : Method} {c : Code} {G : Gx} {a : Aw} {bs L : Nat} {xs : Nat → Int32} (C : Cx p s m #[.ref bs] meth c cL_law RL 17 (some .boolean) G) (hX : va_X bs L xs s s.heap) (hbl : bs < s.heap.size) (hbA : ¬ (fun q : Nat => s.heap.size ≤ q) bs) : ∀ (x2 : Int32) (x3 : Int32) (x4 : Int32) (x5 : Int32) (x6 : Int32) (x7 : Int32) (x8 : Int32) (S : Rw), X_L_law_J417 x2 x3 x4 x5 x6 x7 x8 S = some (1 : Int32) → ∀ (H : Heap) (locs : List Loc), St G (fun q : Nat => s.heap.size ≤ q) s.heap H locs (wR G a S) → ∀ ls : Array Slot, lv_has ls 17 [(1, .ref (a.1 0)), (2, .int x2), (3, .int x3), (4, .int x4), (5, .int x5), (6, .int x6), (7, .int x7), (8, .int x8)] → W p l e room_1 s m #[.ref bs] below meth c H locs 5000 50000 (lw_Z below #[Value.ref bs] s) (F0 m 417 ls []) := by
  obtain ⟨hx, hb, hml, hown, hts, hK, hret, hlk⟩ := id C
  intro x2 x3 x4 x5 x6 x7 x8 S hf H locs hs ls hl
  unfold X_L_law_J417 at hf
  refine lv_iconst (v := (0 : Int32)) hx hb (dk hL_law_5 25 rfl) (by decide) ?_
  refine lv_istore (lv' := [(10, .int (0 : Int32)), (1, .ref (a.1 0)), (2, .int x2), (3, .int x3), (4, .int x4), (5, .int x5), (6, .int x6), (7, .int x7), (8, .int x8)]) hx hb (dk hL_law_5 26 rfl) hl (by decide) rfl (fun ls hl => ?_)
  refine l_L_law_L420 C hX hbl hbA (fun S_128 hf H locs hs ls hl => ?_) 1000 _ _ hf _ _ hs _ (lv_sub hl [1, 2, 3, 4, 5, 6, 7, 8, 0] rfl)
  exact j_L_law_J981 C hX hbl hbA _ _ _ _ _ _ _ hf _ _ hs _ (lv_sub hl [0, 1, 2, 3, 4, 5, 6] rfl)
set_option maxRecDepth 100000 in
set_option maxHeartbeats 4000000 in
theorem j_L_law_J148 {p : Program} {l : Launch} {e : Jvm.Env} {s : State} {m : MethodId} {below : List Frame} {meth : Method} {c : Code} {G : Gx} {a : Aw} {bs L : Nat} {xs : Nat → Int32} (C : Cx p s m #[.ref bs] meth c cL_law RL 17 (some .boolean) G) (hX : va_X bs L xs s s.heap) (hbl : bs < s.heap.size) (hbA : ¬ (fun q : Nat => s.heap.size ≤ q) bs) : ∀ (x2 : Int32) (x3 : Int32) (x4 : Int32) (x5 : Int32) (x6 : Int32) (x7 : Int32) (x8 : Int32) (S : Rw), X_L_law_J148 L xs x2 x3 x4 x5 x6 x7 x8 S = some (1 : Int32) → ∀ (H : Heap) (locs : List Loc), St G (fun q : Nat => s.heap.size ≤ q) s.heap H locs (wR G a S) → ∀ ls : Array Slot, lv_has ls 17 [(0, .ref bs), (1, .ref (a.1 0)), (2, .int x2), (3, .int x3), (4, .int x4), (5, .int x5), (6, .int x6), (7, .int x7), (8, .int x8)] → W p l e room_1 s m #[.ref bs] below meth c H locs 5000 50000 (lw_Z below #[Value.ref bs] s) (F0 m 148 ls []) := by
  obtain ⟨hx, hb, hml, hown, hts, hK, hret, hlk⟩ := id C
  intro x2 x3 x4 x5 x6 x7 x8 S hf H locs hs ls hl
  unfold X_L_law_J148 at hf
  refine lv_iconst (v := (0 : Int32)) hx hb (dk hL_law_2 3 rfl) (by decide) ?_
  refine lv_istore (lv' := [(9, .int (0 : Int32)), (0, .ref bs), (1, .ref (a.1 0)), (2, .int x2), (3, .int x3), (4, .int x4), (5, .int x5), (6, .int x6), (7, .int x7), (8, .int x8)]) hx hb (dk hL_law_2 4 rfl) hl (by decide) rfl (fun ls hl => ?_)
  refine lv_iconst (v := (0 : Int32)) hx hb (dk hL_law_2 5 rfl) (by decide) ?_
  refine lv_istore (lv' := [(10, .int (0 : Int32)), (9, .int (0 : Int32)), (0, .ref bs), (1, .ref (a.1 0)), (2, .int x2), (3, .int x3), (4, .int x4), (5, .int x5), (6, .int x6), (7, .int x7), (8, .int x8)]) hx hb (dk hL_law_2 6 rfl) hl (by decide) rfl (fun ls hl => ?_)
  refine l_L_law_L154 C hX hbl hbA (fun y9_67 S_68 hf H locs hs ls hl => ?_) 1000 _ _ _ hf _ _ hs _ (lv_sub hl [2, 3, 4, 5, 6, 7, 8, 9, 10, 1, 0] rfl)
  refine lv_iload hx hb (dk hL_law_5 20 rfl) (lv_at hl 8 rfl) ?_
  refine lv_iload hx hb (dk hL_law_5 21 rfl) (lv_at hl 5 rfl) ?_
  refine lv_icmp_eq (tgt := 417) hx hb (dk hL_law_5 22 rfl) (by decide) (fun hc => ?_) (fun hc => ?_)
  · replace hf := ip hf hc
    exact j_L_law_J417 C hX hbl hbA _ _ _ _ _ _ _ _ hf _ _ hs _ (lv_sub hl [0, 1, 2, 3, 4, 5, 6, 7] rfl)
  · replace hf := in_ hf hc
    refine lv_iconst (v := (0 : Int32)) hx hb (dk hL_law_5 23 rfl) (by decide) ?_
    exact absurd hf (by decide)
set_option maxRecDepth 100000 in
set_option maxHeartbeats 4000000 in
theorem j_L_law_J86 {p : Program} {l : Launch} {e : Jvm.Env} {s : State} {m : MethodId} {below : List Frame} {meth : Method} {c : Code} {G : Gx} {a : Aw} {bs L : Nat} {xs : Nat → Int32} (C : Cx p s m #[.ref bs] meth c cL_law RL 17 (some .boolean) G) (hX : va_X bs L xs s s.heap) (hbl : bs < s.heap.size) (hbA : ¬ (fun q : Nat => s.heap.size ≤ q) bs) : ∀ (x2 : Int32) (x3 : Int32) (x4 : Int32) (x5 : Int32) (x6 : Int32) (x7 : Int32) (x8 : Int32) (S : Rw), X_L_law_J86 L xs x2 x3 x4 x5 x6 x7 x8 S = some (1 : Int32) → ∀ (H : Heap) (locs : List Loc), St G (fun q : Nat => s.heap.size ≤ q) s.heap H locs (wR G a S) → ∀ ls : Array Slot, lv_has ls 17 [(0, .ref bs), (1, .ref (a.1 0)), (2, .int x2), (3, .int x3), (4, .int x4), (5, .int x5), (6, .int x6), (7, .int x7), (8, .int x8)] → W p l e room_1 s m #[.ref bs] below meth c H locs 5000 50000 (lw_Z below #[Value.ref bs] s) (F0 m 86 ls []) := by
  obtain ⟨hx, hb, hml, hown, hts, hK, hret, hlk⟩ := id C
  intro x2 x3 x4 x5 x6 x7 x8 S hf H locs hs ls hl
  unfold X_L_law_J86 at hf
  refine lv_aload_n hx hb (dk hL_law_1 10 rfl) rfl (lv_at hl 1 rfl) ?_
  obtain ⟨u_19, e_20, hf⟩ := Option.bind_eq_some_iff.mp hf
  refine Ct.V (As := []) (rest := []) (st1 := [.int u_19.2]) (w1 := (wR G a u_19.1)) C hs (a_shut e_20) tw_334 tw_335 tw_336 tw_17 tw_337 nq_X4_shut (by decide) 0 4 rfl rfl rfl rfl hl.1 rfl (Nat.le_of_ble_eq_true rfl) (dk hL_law_1 11 rfl) ⟨by show 5000 ≤ 600000; omega, by show 50000 ≤ 7302250; omega⟩ rfl (fun H locs hs => ?_)
  refine lv_iload hx hb (dk hL_law_1 12 rfl) (lv_at hl 8 rfl) ?_
  refine lv_iand hx hb (dk hL_law_1 13 rfl) ?_
  refine lv_if_ne (tgt := 146) hx hb (dk hL_law_1 14 rfl) (by decide) (fun hc => ?_) (fun hc => ?_)
  · replace hf := in_ hf hc
    refine lv_iconst (v := (0 : Int32)) hx hb (dk hL_law_2 1 rfl) (by decide) ?_
    exact absurd hf (by decide)
  · replace hf := ip hf hc
    refine lv_aload_n hx hb (dk hL_law_1 15 rfl) rfl (lv_at hl 1 rfl) ?_
    refine lv_iconst (v := (0 : Int32)) hx hb (dk hL_law_1 16 rfl) (by decide) ?_
    obtain ⟨u_21, e_22, hf⟩ := Option.bind_eq_some_iff.mp hf
    refine Ct.V (As := [.int (0 : Int32)]) (rest := []) (st1 := [.int u_21.2]) (w1 := (wR G a u_21.1)) C hs (a_want e_22) tw_374 tw_375 tw_376 tw_17 tw_377 nq_X4_want (by decide) 0 4 rfl rfl rfl rfl hl.1 rfl (Nat.le_of_ble_eq_true rfl) (dk hL_law_1 17 rfl) ⟨by show 5000 ≤ 600000; omega, by show 50000 ≤ 7302250; omega⟩ rfl (fun H locs hs => ?_)
    refine lv_iload hx hb (dk hL_law_1 18 rfl) (lv_at hl 6 rfl) ?_
    refine lv_icmp_ne (tgt := 146) hx hb (dk hL_law_1 19 rfl) (by decide) (fun hc => ?_) (fun hc => ?_)
    · replace hf := in_ hf hc
      refine lv_iconst (v := (0 : Int32)) hx hb (dk hL_law_2 1 rfl) (by decide) ?_
      exact absurd hf (by decide)
    · replace hf := ip hf hc
      refine lv_aload_n hx hb (dk hL_law_1 20 rfl) rfl (lv_at hl 1 rfl) ?_
      refine lv_iload hx hb (dk hL_law_1 21 rfl) (lv_at hl 7 rfl) ?_
      obtain ⟨u_23, e_24, hf⟩ := Option.bind_eq_some_iff.mp hf
      refine Ct.V (As := [.int x7]) (rest := []) (st1 := [.int u_23.2]) (w1 := (wR G a u_23.1)) C hs (a_want e_24) tw_374 tw_375 tw_376 tw_17 tw_377 nq_X4_want (by decide) 0 4 rfl rfl rfl rfl hl.1 rfl (Nat.le_of_ble_eq_true rfl) (dk hL_law_1 22 rfl) ⟨by show 5000 ≤ 600000; omega, by show 50000 ≤ 7302250; omega⟩ rfl (fun H locs hs => ?_)
      refine lv_aload_n hx hb (dk hL_law_1 23 rfl) rfl (lv_at hl 1 rfl) ?_
      refine lv_iload hx hb (dk hL_law_1 24 rfl) (lv_at hl 7 rfl) ?_
      refine lv_iconst (v := (1 : Int32)) hx hb (dk hL_law_1 25 rfl) (by decide) ?_
      refine lv_isub hx hb (dk hL_law_1 26 rfl) ?_
      obtain ⟨u_25, e_26, hf⟩ := Option.bind_eq_some_iff.mp hf
      refine Ct.V (As := [.int (x7 - (1 : Int32))]) (rest := [.int u_23.2]) (st1 := [.int u_25.2, .int u_23.2]) (w1 := (wR G a u_25.1)) C hs (a_want e_26) tw_374 tw_375 tw_376 tw_17 tw_377 nq_X4_want (by decide) 0 4 rfl rfl rfl rfl hl.1 rfl (Nat.le_of_ble_eq_true rfl) (dk hL_law_1 27 rfl) ⟨by show 5000 ≤ 600000; omega, by show 50000 ≤ 7302250; omega⟩ rfl (fun H locs hs => ?_)
      refine lv_icmp_lt (tgt := 146) hx hb (dk hL_law_1 28 rfl) (by decide) (fun hc => ?_) (fun hc => ?_)
      · replace hf := ip hf hc
        refine lv_iconst (v := (0 : Int32)) hx hb (dk hL_law_2 1 rfl) (by decide) ?_
        exact absurd hf (by decide)
      · replace hf := in_ hf hc
        refine lv_aload_n hx hb (dk hL_law_1 29 rfl) rfl (lv_at hl 1 rfl) ?_
        refine lv_iconst (v := (0 : Int32)) hx hb (dk hL_law_1 30 rfl) (by decide) ?_
        obtain ⟨u_27, e_28, hf⟩ := Option.bind_eq_some_iff.mp hf
        refine Ct.V (As := [.int (0 : Int32)]) (rest := []) (st1 := [.int u_27.2]) (w1 := (wR G a u_27.1)) C hs (a_tide e_28) tw_220 tw_221 tw_222 tw_17 tw_223 nq_X4_tide (by decide) 0 4 rfl rfl rfl rfl hl.1 rfl (Nat.le_of_ble_eq_true rfl) (dk hL_law_1 31 rfl) ⟨by show 5000 ≤ 600000; omega, by show 50000 ≤ 7302250; omega⟩ rfl (fun H locs hs => ?_)
        refine lv_iconst (v := (4 : Int32)) hx hb (dk hL_law_1 32 rfl) (by decide) ?_
        refine lv_icmp_gt (tgt := 146) hx hb (dk hL_law_1 33 rfl) (by decide) (fun hc => ?_) (fun hc => ?_)
        · replace hf := ip hf hc
          refine lv_iconst (v := (0 : Int32)) hx hb (dk hL_law_2 1 rfl) (by decide) ?_
          exact absurd hf (by decide)
        · replace hf := in_ hf hc
          refine lv_aload_n hx hb (dk hL_law_1 34 rfl) rfl (lv_at hl 1 rfl) ?_
          refine lv_bipush (v := (8 : Int32)) hx hb (dk hL_law_1 35 rfl) (by decide) ?_
          obtain ⟨u_29, e_30, hf⟩ := Option.bind_eq_some_iff.mp hf
          refine Ct.V (As := [.int (8 : Int32)]) (rest := []) (st1 := [.int u_29.2]) (w1 := (wR G a u_29.1)) C hs (a_tide e_30) tw_220 tw_221 tw_222 tw_17 tw_223 nq_X4_tide (by decide) 0 4 rfl rfl rfl rfl hl.1 rfl (Nat.le_of_ble_eq_true rfl) (dk hL_law_1 36 rfl) ⟨by show 5000 ≤ 600000; omega, by show 50000 ≤ 7302250; omega⟩ rfl (fun H locs hs => ?_)
          refine lv_aload_n hx hb (dk hL_law_1 37 rfl) rfl (lv_at hl 1 rfl) ?_
          refine lv_iconst (v := (0 : Int32)) hx hb (dk hL_law_1 38 rfl) (by decide) ?_
          obtain ⟨u_31, e_32, hf⟩ := Option.bind_eq_some_iff.mp hf
          refine Ct.V (As := [.int (0 : Int32)]) (rest := [.int u_29.2]) (st1 := [.int u_31.2, .int u_29.2]) (w1 := (wR G a u_31.1)) C hs (a_tide e_32) tw_220 tw_221 tw_222 tw_17 tw_223 nq_X4_tide (by decide) 0 4 rfl rfl rfl rfl hl.1 rfl (Nat.le_of_ble_eq_true rfl) (dk hL_law_1 39 rfl) ⟨by show 5000 ≤ 600000; omega, by show 50000 ≤ 7302250; omega⟩ rfl (fun H locs hs => ?_)
          refine lv_icmp_eq (tgt := 148) hx hb (dk hL_law_2 0 rfl) (by decide) (fun hc => ?_) (fun hc => ?_)
          · replace hf := ip hf hc
            exact j_L_law_J148 C hX hbl hbA _ _ _ _ _ _ _ _ hf _ _ hs _ (lv_sub hl [0, 1, 2, 3, 4, 5, 6, 7, 8] rfl)
          · replace hf := in_ hf hc
            refine lv_iconst (v := (0 : Int32)) hx hb (dk hL_law_2 1 rfl) (by decide) ?_
            exact absurd hf (by decide)
set_option maxRecDepth 100000 in
set_option maxHeartbeats 4000000 in
theorem j_L_law_J15 {p : Program} {l : Launch} {e : Jvm.Env} {s : State} {m : MethodId} {below : List Frame} {meth : Method} {c : Code} {G : Gx} {a : Aw} {bs L : Nat} {xs : Nat → Int32} (C : Cx p s m #[.ref bs] meth c cL_law RL 17 (some .boolean) G) (hX : va_X bs L xs s s.heap) (hbl : bs < s.heap.size) (hbA : ¬ (fun q : Nat => s.heap.size ≤ q) bs) : ∀ (S : Rw), X_L_law_J15 L xs S = some (1 : Int32) → ∀ (H : Heap) (locs : List Loc), St G (fun q : Nat => s.heap.size ≤ q) s.heap H locs (wR G a S) → ∀ ls : Array Slot, lv_has ls 17 [(0, .ref bs), (1, .ref (a.1 0))] → W p l e room_1 s m #[.ref bs] below meth c H locs 5000 50000 (lw_Z below #[Value.ref bs] s) (F0 m 15 ls []) := by
  obtain ⟨hx, hb, hml, hown, hts, hK, hret, hlk⟩ := id C
  intro S hf H locs hs ls hl
  unfold X_L_law_J15 at hf
  refine lv_aload_n hx hb (dk hL_law_0 8 rfl) rfl (lv_at hl 1 rfl) ?_
  refine lv_iconst (v := (0 : Int32)) hx hb (dk hL_law_0 9 rfl) (by decide) ?_
  obtain ⟨u_1, e_2, hf⟩ := Option.bind_eq_some_iff.mp hf
  refine Ct.V (As := [.int (0 : Int32)]) (rest := []) (st1 := [.int u_1.2]) (w1 := (wR G a u_1.1)) C hs (a_count e_2) tw_438 tw_439 tw_440 tw_17 tw_441 nq_X4_count (by decide) 0 4 rfl rfl rfl rfl hl.1 rfl (Nat.le_of_ble_eq_true rfl) (dk hL_law_0 10 rfl) ⟨by show 5000 ≤ 600000; omega, by show 50000 ≤ 7302250; omega⟩ rfl (fun H locs hs => ?_)
  refine lv_istore_n (lv' := [(2, .int u_1.2), (0, .ref bs), (1, .ref (a.1 0))]) hx hb (dk hL_law_0 11 rfl) rfl hl (by decide) rfl (fun ls hl => ?_)
  refine lv_aload_n hx hb (dk hL_law_0 12 rfl) rfl (lv_at hl 2 rfl) ?_
  refine lv_iconst (v := (1 : Int32)) hx hb (dk hL_law_0 13 rfl) (by decide) ?_
  obtain ⟨u_3, e_4, hf⟩ := Option.bind_eq_some_iff.mp hf
  refine Ct.V (As := [.int (1 : Int32)]) (rest := []) (st1 := [.int u_3.2]) (w1 := (wR G a u_3.1)) C hs (a_count e_4) tw_438 tw_439 tw_440 tw_17 tw_441 nq_X4_count (by decide) 0 4 rfl rfl rfl rfl hl.1 rfl (Nat.le_of_ble_eq_true rfl) (dk hL_law_0 14 rfl) ⟨by show 5000 ≤ 600000; omega, by show 50000 ≤ 7302250; omega⟩ rfl (fun H locs hs => ?_)
  refine lv_istore_n (lv' := [(3, .int u_3.2), (2, .int u_1.2), (0, .ref bs), (1, .ref (a.1 0))]) hx hb (dk hL_law_0 15 rfl) rfl hl (by decide) rfl (fun ls hl => ?_)
  refine lv_aload_n hx hb (dk hL_law_0 16 rfl) rfl (lv_at hl 3 rfl) ?_
  refine lv_iconst (v := (2 : Int32)) hx hb (dk hL_law_0 17 rfl) (by decide) ?_
  obtain ⟨u_5, e_6, hf⟩ := Option.bind_eq_some_iff.mp hf
  refine Ct.V (As := [.int (2 : Int32)]) (rest := []) (st1 := [.int u_5.2]) (w1 := (wR G a u_5.1)) C hs (a_count e_6) tw_438 tw_439 tw_440 tw_17 tw_441 nq_X4_count (by decide) 0 4 rfl rfl rfl rfl hl.1 rfl (Nat.le_of_ble_eq_true rfl) (dk hL_law_0 18 rfl) ⟨by show 5000 ≤ 600000; omega, by show 50000 ≤ 7302250; omega⟩ rfl (fun H locs hs => ?_)
  refine lv_istore (lv' := [(4, .int u_5.2), (3, .int u_3.2), (2, .int u_1.2), (0, .ref bs), (1, .ref (a.1 0))]) hx hb (dk hL_law_0 19 rfl) hl (by decide) rfl (fun ls hl => ?_)
  refine lv_aload_n hx hb (dk hL_law_0 20 rfl) rfl (lv_at hl 4 rfl) ?_
  refine lv_iconst (v := (3 : Int32)) hx hb (dk hL_law_0 21 rfl) (by decide) ?_
  obtain ⟨u_7, e_8, hf⟩ := Option.bind_eq_some_iff.mp hf
  refine Ct.V (As := [.int (3 : Int32)]) (rest := []) (st1 := [.int u_7.2]) (w1 := (wR G a u_7.1)) C hs (a_count e_8) tw_438 tw_439 tw_440 tw_17 tw_441 nq_X4_count (by decide) 0 4 rfl rfl rfl rfl hl.1 rfl (Nat.le_of_ble_eq_true rfl) (dk hL_law_0 22 rfl) ⟨by show 5000 ≤ 600000; omega, by show 50000 ≤ 7302250; omega⟩ rfl (fun H locs hs => ?_)
  refine lv_istore (lv' := [(5, .int u_7.2), (4, .int u_5.2), (3, .int u_3.2), (2, .int u_1.2), (0, .ref bs), (1, .ref (a.1 0))]) hx hb (dk hL_law_0 23 rfl) hl (by decide) rfl (fun ls hl => ?_)
  refine lv_aload_n hx hb (dk hL_law_0 24 rfl) rfl (lv_at hl 5 rfl) ?_
  refine lv_iconst (v := (4 : Int32)) hx hb (dk hL_law_0 25 rfl) (by decide) ?_
  obtain ⟨u_9, e_10, hf⟩ := Option.bind_eq_some_iff.mp hf
  refine Ct.V (As := [.int (4 : Int32)]) (rest := []) (st1 := [.int u_9.2]) (w1 := (wR G a u_9.1)) C hs (a_count e_10) tw_438 tw_439 tw_440 tw_17 tw_441 nq_X4_count (by decide) 0 4 rfl rfl rfl rfl hl.1 rfl (Nat.le_of_ble_eq_true rfl) (dk hL_law_0 26 rfl) ⟨by show 5000 ≤ 600000; omega, by show 50000 ≤ 7302250; omega⟩ rfl (fun H locs hs => ?_)
  refine lv_istore (lv' := [(6, .int u_9.2), (5, .int u_7.2), (4, .int u_5.2), (3, .int u_3.2), (2, .int u_1.2), (0, .ref bs), (1, .ref (a.1 0))]) hx hb (dk hL_law_0 27 rfl) hl (by decide) rfl (fun ls hl => ?_)
  refine lv_iconst (v := (1 : Int32)) hx hb (dk hL_law_0 28 rfl) (by decide) ?_
  refine lv_aload_n hx hb (dk hL_law_0 29 rfl) rfl (lv_at hl 5 rfl) ?_
  refine lv_bipush (v := (22 : Int32)) hx hb (dk hL_law_0 30 rfl) (by decide) ?_
  obtain ⟨u_11, e_12, hf⟩ := Option.bind_eq_some_iff.mp hf
  refine Cg.S (As := [.ref bs, .int (22 : Int32)]) (rest := [.int (1 : Int32)]) (st1 := [.int u_11, .int (1 : Int32)]) (w1 := (wR G a u_9.1)) (cells1 := 5000) (slots1 := 50000) C hX hbl hbA hs (c_L_cell e_12) tw_446 tw_447 tw_16 tw_448 nq_L_cell (by decide) rfl hl.1 rfl (Nat.le_of_ble_eq_true rfl) (dk hL_law_0 31 rfl) rfl rfl ⟨by show 5000 ≤ 600000; omega, by show 50000 ≤ 7302250; omega⟩ rfl (fun H locs hs => ?_)
  refine lv_bipush (v := (30 : Int32)) hx hb (dk hL_law_0 32 rfl) (by decide) ?_
  obtain ⟨u_13, e_14, hf⟩ := Option.bind_eq_some_iff.mp hf
  refine Ct.S (As := [.int u_11, .int (30 : Int32)]) (rest := [.int (1 : Int32)]) (st1 := [.int u_13, .int (1 : Int32)]) (w1 := (wR G a u_9.1)) C hs (c_L_pick e_14) tw_449 tw_450 tw_16 tw_451 nq_L_pick (by decide) rfl hl.1 rfl (Nat.le_of_ble_eq_true rfl) (dk hL_law_0 33 rfl) ⟨by show 5000 ≤ 600000; omega, by show 50000 ≤ 7302250; omega⟩ rfl (fun H locs hs => ?_)
  refine lv_iadd hx hb (dk hL_law_0 34 rfl) ?_
  refine lv_istore (lv' := [(7, .int ((1 : Int32) + u_13)), (6, .int u_9.2), (5, .int u_7.2), (4, .int u_5.2), (3, .int u_3.2), (2, .int u_1.2), (0, .ref bs), (1, .ref (a.1 0))]) hx hb (dk hL_law_0 35 rfl) hl (by decide) rfl (fun ls hl => ?_)
  refine lv_aload_n hx hb (dk hL_law_0 36 rfl) rfl (lv_at hl 7 rfl) ?_
  obtain ⟨u_15, e_16, hf⟩ := Option.bind_eq_some_iff.mp hf
  refine Ct.V (As := []) (rest := []) (st1 := [.int u_15.2]) (w1 := (wR G a u_15.1)) C hs (a_image e_16) tw_426 tw_427 tw_428 tw_17 tw_429 nq_X4_image (by decide) 0 4 rfl rfl rfl rfl hl.1 rfl (Nat.le_of_ble_eq_true rfl) (dk hL_law_0 37 rfl) ⟨by show 5000 ≤ 600000; omega, by show 50000 ≤ 7302250; omega⟩ rfl (fun H locs hs => ?_)
  refine lv_pop hx hb (dk hL_law_0 38 rfl) rfl ?_
  refine lv_aload_n hx hb (dk hL_law_0 39 rfl) rfl (lv_at hl 7 rfl) ?_
  refine lv_iconst (v := (1 : Int32)) hx hb (dk hL_law_1 0 rfl) (by decide) ?_
  refine lv_iconst (v := (1 : Int32)) hx hb (dk hL_law_1 1 rfl) (by decide) ?_
  obtain ⟨u_17, e_18, hf⟩ := Option.bind_eq_some_iff.mp hf
  refine Ct.V (As := [.int (1 : Int32), .int (1 : Int32)]) (rest := []) (st1 := [.int u_17.2]) (w1 := (wR G a u_17.1)) C hs (a_then e_18) tw_317 tw_318 tw_319 tw_17 tw_320 nq_X4_then (by decide) 0 4 rfl rfl rfl rfl hl.1 rfl (Nat.le_of_ble_eq_true rfl) (dk hL_law_1 2 rfl) ⟨by show 5000 ≤ 600000; omega, by show 50000 ≤ 7302250; omega⟩ rfl (fun H locs hs => ?_)
  refine lv_istore (lv' := [(8, .int u_17.2), (7, .int ((1 : Int32) + u_13)), (6, .int u_9.2), (5, .int u_7.2), (4, .int u_5.2), (3, .int u_3.2), (2, .int u_1.2), (0, .ref bs), (1, .ref (a.1 0))]) hx hb (dk hL_law_1 3 rfl) hl (by decide) rfl (fun ls hl => ?_)
  refine lv_iload hx hb (dk hL_law_1 4 rfl) (lv_at hl 3 rfl) ?_
  refine lv_iload hx hb (dk hL_law_1 5 rfl) (lv_at hl 0 rfl) ?_
  refine lv_iconst (v := (-1 : Int32)) hx hb (dk hL_law_1 6 rfl) (by decide) ?_
  refine lv_ixor hx hb (dk hL_law_1 7 rfl) ?_
  refine lv_iand hx hb (dk hL_law_1 8 rfl) ?_
  refine lv_if_ne (tgt := 146) hx hb (dk hL_law_1 9 rfl) (by decide) (fun hc => ?_) (fun hc => ?_)
  · replace hf := in_ hf hc
    refine lv_iconst (v := (0 : Int32)) hx hb (dk hL_law_2 1 rfl) (by decide) ?_
    exact absurd hf (by decide)
  · replace hf := ip hf hc
    exact j_L_law_J86 C hX hbl hbA _ _ _ _ _ _ _ _ hf _ _ hs _ (lv_sub hl [7, 8, 6, 5, 4, 3, 2, 1, 0] rfl)
