/-! one step of the law, a method: class and reference answer alike, and the invariant stands -/
set_option maxRecDepth 100000 in
set_option maxHeartbeats 4000000 in
theorem st_feed {lc : Launch} {G : Gx} {a : Ax} {S : Lx} (hI : Inv S) (p0 : Int32) : CI lc G a S yX4_feed cX4_feed 2 1 22 yX5_feed cX5_feed 3 1 22 [.int p0] := by
  obtain ⟨R, ⟨A1, A2, A3, A4, A5, A6, A7, a1, a2, a3, a4⟩, ⟨B1, B2, B3, B4, B5, B6, B7, c1, c2, c3, c4⟩, kk, ⟨⟨u, hd, k, f, g, l⟩, sh, ⟨t, i, co, d⟩⟩, rG, n, T, tn, b, perm, hist, F, L, At, W, C, rd, st, z1, z2, gf, lw, bg, bw, lo⟩ := S
  obtain ⟨hR, hM, hK, hS, hH, hn, htn, hT⟩ := hI
  have hE := sE hS
  have hsh := sSh hS
  have hX := (sX hS).mono (show 999 ≤ 1000 by omega)
  have hO := hS.2.2.2.2
  have hhd := hS.2.1
  obtain ⟨R1, T1, n1, r, h4, h5, hn1, hT1, hR1⟩ := op_feed (p := p0) hT htn hR
  exact ⟨r, _, ⟨R1, (A1, A2, A3, A4, A5, A6, A7, a1, a2, a3, a4), (B1, B2, B3, B4, B5, B6, B7, c1, c2, c3, c4), kk, ((u, hd, k, f, g, l), sh, (t, i, co, d)), rG, n, T1, n1, b, perm, hist, F, L, At, W, C, rd, st, z1, z2, gf, lw, bg, bw, lo⟩, Ct.post (c_X4_feed h4), ⟨_, rfl⟩, Ct.pre (c_X5_feed h5), hR1, hM, hK, hS, hH, hn, hn1, hT1⟩
set_option maxRecDepth 100000 in
set_option maxHeartbeats 4000000 in
theorem st_harbour {lc : Launch} {G : Gx} {a : Ax} {S : Lx} (hI : Inv S) : CI lc G a S yX4_harbour cX4_harbour 2 7 158 yX5_harbour cX5_harbour 3 9 194 [] := by
  obtain ⟨R, ⟨A1, A2, A3, A4, A5, A6, A7, a1, a2, a3, a4⟩, ⟨B1, B2, B3, B4, B5, B6, B7, c1, c2, c3, c4⟩, kk, ⟨⟨u, hd, k, f, g, l⟩, sh, ⟨t, i, co, d⟩⟩, rG, n, T, tn, b, perm, hist, F, L, At, W, C, rd, st, z1, z2, gf, lw, bg, bw, lo⟩ := S
  obtain ⟨hR, hM, hK, hS, hH, hn, htn, hT⟩ := hI
  have hE := sE hS
  have hsh := sSh hS
  have hX := (sX hS).mono (show 999 ≤ 1000 by omega)
  have hO := hS.2.2.2.2
  have hhd := hS.2.1
  obtain ⟨Mz, Z1, L1, At1, W1, F1, b1, y1, y2, y3, y4, r, h4, h5, hM1, hS1, hH1, hF1⟩ := op_harbour (L := L) (A := At) (W := W) (rd0 := rd) (st0 := st) (z1 := z1) (z2 := z2) hM hS hH hT htn
  exact ⟨r, _, ⟨R, Mz, (B1, B2, B3, B4, B5, B6, B7, c1, c2, c3, c4), kk, Z1, rG, n, T, 0, b1, perm, hist, F1, L1, At1, W1, C, y1, y2, y3, y4, gf, lw, bg, bw, lo⟩, Ct.post (c_X4_harbour h4), ⟨_, rfl⟩, Ct.pre (c_X5_harbour h5), hR, hM1, hK.kp2 hF1, hS1, hH1, hn, Nat.zero_le _, hT⟩
set_option maxRecDepth 100000 in
set_option maxHeartbeats 4000000 in
theorem st_good {lc : Launch} {G : Gx} {a : Ax} {S : Lx} (hI : Inv S) (p0 p1 : Int32) : CI lc G a S yX4_good cX4_good 3 1 22 yX5_good cX5_good 3 1 21 [.int p0, .int p1] := by
  obtain ⟨R, ⟨A1, A2, A3, A4, A5, A6, A7, a1, a2, a3, a4⟩, ⟨B1, B2, B3, B4, B5, B6, B7, c1, c2, c3, c4⟩, kk, ⟨⟨u, hd, k, f, g, l⟩, sh, ⟨t, i, co, d⟩⟩, rG, n, T, tn, b, perm, hist, F, L, At, W, C, rd, st, z1, z2, gf, lw, bg, bw, lo⟩ := S
  obtain ⟨hR, hM, hK, hS, hH, hn, htn, hT⟩ := hI
  have hE := sE hS
  have hsh := sSh hS
  have hX := (sX hS).mono (show 999 ≤ 1000 by omega)
  have hO := hS.2.2.2.2
  have hhd := hS.2.1
  obtain ⟨R1, r, h4, h5, hR1⟩ := op_good (hd := hd) (p := p0) (q := p1) (xT hX) (oU hE) hR
  exact ⟨r, _, ⟨R1, (A1, A2, A3, A4, A5, A6, A7, a1, a2, a3, a4), (B1, B2, B3, B4, B5, B6, B7, c1, c2, c3, c4), kk, ((u, hd, k, f, g, l), sh, (t, i, co, d)), rG, n, T, tn, b, perm, hist, F, L, At, W, C, rd, st, z1, z2, gf, lw, bg, bw, lo⟩, Ct.post (c_X4_good h4), ⟨_, rfl⟩, Ct.pre (c_X5_good h5), hR1, hM, hK, hS, hH, hn, htn, hT⟩
set_option maxRecDepth 100000 in
set_option maxHeartbeats 4000000 in
theorem st_shipOf {lc : Launch} {G : Gx} {a : Ax} {S : Lx} (hI : Inv S) (p0 p1 : Int32) : CI lc G a S yX4_shipOf cX4_shipOf 3 4 87 yX5_shipOf cX5_shipOf 3 4 86 [.int p0, .int p1] := by
  obtain ⟨R, ⟨A1, A2, A3, A4, A5, A6, A7, a1, a2, a3, a4⟩, ⟨B1, B2, B3, B4, B5, B6, B7, c1, c2, c3, c4⟩, kk, ⟨⟨u, hd, k, f, g, l⟩, sh, ⟨t, i, co, d⟩⟩, rG, n, T, tn, b, perm, hist, F, L, At, W, C, rd, st, z1, z2, gf, lw, bg, bw, lo⟩ := S
  obtain ⟨hR, hM, hK, hS, hH, hn, htn, hT⟩ := hI
  have hE := sE hS
  have hsh := sSh hS
  have hX := (sX hS).mono (show 999 ≤ 1000 by omega)
  have hO := hS.2.2.2.2
  have hhd := hS.2.1
  obtain ⟨R1, r, h4, h5, hR1⟩ := op_shipOf  (p := p0) (q := p1) hE hsh hX hR
  exact ⟨r, _, ⟨R1, (A1, A2, A3, A4, A5, A6, A7, a1, a2, a3, a4), (B1, B2, B3, B4, B5, B6, B7, c1, c2, c3, c4), kk, ((u, hd, k, f, g, l), sh, (t, i, co, d)), rG, n, T, tn, b, perm, hist, F, L, At, W, C, rd, st, z1, z2, gf, lw, bg, bw, lo⟩, Ct.post (c_X4_shipOf h4), ⟨_, rfl⟩, Ct.pre (c_X5_shipOf h5), hR1, hM, hK, hS, hH, hn, htn, hT⟩
set_option maxRecDepth 100000 in
set_option maxHeartbeats 4000000 in
theorem st_tide {lc : Launch} {G : Gx} {a : Ax} {S : Lx} (hI : Inv S) (p0 : Int32) : CI lc G a S yX4_tide cX4_tide 3 2 44 yX5_tide cX5_tide 3 1 22 [.int p0] := by
  obtain ⟨R, ⟨A1, A2, A3, A4, A5, A6, A7, a1, a2, a3, a4⟩, ⟨B1, B2, B3, B4, B5, B6, B7, c1, c2, c3, c4⟩, kk, ⟨⟨u, hd, k, f, g, l⟩, sh, ⟨t, i, co, d⟩⟩, rG, n, T, tn, b, perm, hist, F, L, At, W, C, rd, st, z1, z2, gf, lw, bg, bw, lo⟩ := S
  obtain ⟨hR, hM, hK, hS, hH, hn, htn, hT⟩ := hI
  have hE := sE hS
  have hsh := sSh hS
  have hX := (sX hS).mono (show 999 ≤ 1000 by omega)
  have hO := hS.2.2.2.2
  have hhd := hS.2.1
  obtain ⟨R1, r, h4, h5, hR1⟩ := op_tide  (p := p0) (xD hX) hR
  exact ⟨r, _, ⟨R1, (A1, A2, A3, A4, A5, A6, A7, a1, a2, a3, a4), (B1, B2, B3, B4, B5, B6, B7, c1, c2, c3, c4), kk, ((u, hd, k, f, g, l), sh, (t, i, co, d)), rG, n, T, tn, b, perm, hist, F, L, At, W, C, rd, st, z1, z2, gf, lw, bg, bw, lo⟩, Ct.post (c_X4_tide h4), ⟨_, rfl⟩, Ct.pre (c_X5_tide h5), hR1, hM, hK, hS, hH, hn, htn, hT⟩
set_option maxRecDepth 100000 in
set_option maxHeartbeats 4000000 in
theorem st_ship {lc : Launch} {G : Gx} {a : Ax} {S : Lx} (hI : Inv S) (p0 p1 p2 p3 : Int32) : CI lc G a S yX4_ship cX4_ship 5 2 45 yX5_ship cX5_ship 6 1 24 [.int p0, .int p1, .int p2, .int p3] := by
  obtain ⟨R, ⟨A1, A2, A3, A4, A5, A6, A7, a1, a2, a3, a4⟩, ⟨B1, B2, B3, B4, B5, B6, B7, c1, c2, c3, c4⟩, kk, ⟨⟨u, hd, k, f, g, l⟩, sh, ⟨t, i, co, d⟩⟩, rG, n, T, tn, b, perm, hist, F, L, At, W, C, rd, st, z1, z2, gf, lw, bg, bw, lo⟩ := S
  obtain ⟨hR, hM, hK, hS, hH, hn, htn, hT⟩ := hI
  have hE := sE hS
  have hsh := sSh hS
  have hX := (sX hS).mono (show 999 ≤ 1000 by omega)
  have hO := hS.2.2.2.2
  have hhd := hS.2.1
  obtain ⟨R1, k1, f1, g1, l1, i1, sh1, b1, r, h4, h5, hS1, hH1, hR1⟩ := op_ship (p := p0) (q := p1) (v := p2) (w := p3) hS hH hR
  exact ⟨r, _, ⟨R1, (A1, A2, A3, A4, A5, A6, A7, a1, a2, a3, a4), (B1, B2, B3, B4, B5, B6, B7, c1, c2, c3, c4), kk, ((u, hd, k1, f1, g1, l1), sh1, (t, i1, co, d)), rG, n, T, tn, b1, perm, hist, F, L, At, W, C, rd, st, z1, z2, gf, lw, bg, bw, lo⟩, Ct.post (c_X4_ship h4), ⟨_, rfl⟩, Ct.pre (c_X5_ship h5), hR1, hM, hK, hS1, hH1, hn, htn, hT⟩
set_option maxRecDepth 100000 in
set_option maxHeartbeats 4000000 in
theorem st_hides {lc : Launch} {G : Gx} {a : Ax} {S : Lx} (hI : Inv S) (p0 p1 : Int32) : CI lc G a S yX4_hides cX4_hides 3 2 44 yX5_hides cX5_hides 4 3 65 [.int p0, .int p1] := by
  obtain ⟨R, ⟨A1, A2, A3, A4, A5, A6, A7, a1, a2, a3, a4⟩, ⟨B1, B2, B3, B4, B5, B6, B7, c1, c2, c3, c4⟩, kk, ⟨⟨u, hd, k, f, g, l⟩, sh, ⟨t, i, co, d⟩⟩, rG, n, T, tn, b, perm, hist, F, L, At, W, C, rd, st, z1, z2, gf, lw, bg, bw, lo⟩ := S
  obtain ⟨hR, hM, hK, hS, hH, hn, htn, hT⟩ := hI
  have hE := sE hS
  have hsh := sSh hS
  have hX := (sX hS).mono (show 999 ≤ 1000 by omega)
  have hO := hS.2.2.2.2
  have hhd := hS.2.1
  obtain ⟨R1, t1, hd1, b1, perm1, hist1, F1, y1, y2, r, h4, h5, hS1, hH1, hF1, hR1⟩ := op_hides (z1 := z1) (z2 := z2) (p := p0) (q := p1) hS hH hR
  exact ⟨r, _, ⟨R1, (A1, A2, A3, A4, A5, A6, A7, a1, a2, a3, a4), (B1, B2, B3, B4, B5, B6, B7, c1, c2, c3, c4), kk, ((u, hd1, k, f, g, l), sh, (t1, i, co, d)), rG, n, T, tn, b1, perm1, hist1, F1, L, At, W, C, rd, st, y1, y2, gf, lw, bg, bw, lo⟩, Ct.post (c_X4_hides h4), ⟨_, rfl⟩, Ct.pre (c_X5_hides h5), hR1, hM, hK.kp hF1, hS1, hH1, hn, htn, hT⟩
set_option maxRecDepth 100000 in
set_option maxHeartbeats 4000000 in
theorem st_uses {lc : Launch} {G : Gx} {a : Ax} {S : Lx} (hI : Inv S) (p0 p1 : Int32) : CI lc G a S yX4_uses cX4_uses 5 2 44 yX5_uses cX5_uses 5 3 65 [.int p0, .int p1] := by
  obtain ⟨R, ⟨A1, A2, A3, A4, A5, A6, A7, a1, a2, a3, a4⟩, ⟨B1, B2, B3, B4, B5, B6, B7, c1, c2, c3, c4⟩, kk, ⟨⟨u, hd, k, f, g, l⟩, sh, ⟨t, i, co, d⟩⟩, rG, n, T, tn, b, perm, hist, F, L, At, W, C, rd, st, z1, z2, gf, lw, bg, bw, lo⟩ := S
  obtain ⟨hR, hM, hK, hS, hH, hn, htn, hT⟩ := hI
  have hE := sE hS
  have hsh := sSh hS
  have hX := (sX hS).mono (show 999 ≤ 1000 by omega)
  have hO := hS.2.2.2.2
  have hhd := hS.2.1
  obtain ⟨R1, u1, b1, perm1, hist1, F1, y1, y2, r, h4, h5, hS1, hH1, hF1, hR1⟩ := op_uses (z1 := z1) (z2 := z2) (p := p0) (q := p1) hS hH hR
  exact ⟨r, _, ⟨R1, (A1, A2, A3, A4, A5, A6, A7, a1, a2, a3, a4), (B1, B2, B3, B4, B5, B6, B7, c1, c2, c3, c4), kk, ((u1, hd, k, f, g, l), sh, (t, i, co, d)), rG, n, T, tn, b1, perm1, hist1, F1, L, At, W, C, rd, st, y1, y2, gf, lw, bg, bw, lo⟩, Ct.post (c_X4_uses h4), ⟨_, rfl⟩, Ct.pre (c_X5_uses h5), hR1, hM, hK.kp hF1, hS1, hH1, hn, htn, hT⟩
set_option maxRecDepth 100000 in
set_option maxHeartbeats 4000000 in
theorem st_sends {lc : Launch} {G : Gx} {a : Ax} {S : Lx} (hI : Inv S) (p0 p1 : Int32) : CI lc G a S yX4_sends cX4_sends 5 2 44 yX5_sends cX5_sends 5 3 65 [.int p0, .int p1] := by
  obtain ⟨R, ⟨A1, A2, A3, A4, A5, A6, A7, a1, a2, a3, a4⟩, ⟨B1, B2, B3, B4, B5, B6, B7, c1, c2, c3, c4⟩, kk, ⟨⟨u, hd, k, f, g, l⟩, sh, ⟨t, i, co, d⟩⟩, rG, n, T, tn, b, perm, hist, F, L, At, W, C, rd, st, z1, z2, gf, lw, bg, bw, lo⟩ := S
  obtain ⟨hR, hM, hK, hS, hH, hn, htn, hT⟩ := hI
  have hE := sE hS
  have hsh := sSh hS
  have hX := (sX hS).mono (show 999 ≤ 1000 by omega)
  have hO := hS.2.2.2.2
  have hhd := hS.2.1
  obtain ⟨R1, l1, i1, b1, perm1, hist1, F1, y1, y2, r, h4, h5, hS1, hH1, hF1, hR1⟩ := op_sends (z1 := z1) (z2 := z2) (p := p0) (q := p1) hS hH hR
  exact ⟨r, _, ⟨R1, (A1, A2, A3, A4, A5, A6, A7, a1, a2, a3, a4), (B1, B2, B3, B4, B5, B6, B7, c1, c2, c3, c4), kk, ((u, hd, k, f, g, l1), sh, (t, i1, co, d)), rG, n, T, tn, b1, perm1, hist1, F1, L, At, W, C, rd, st, y1, y2, gf, lw, bg, bw, lo⟩, Ct.post (c_X4_sends h4), ⟨_, rfl⟩, Ct.pre (c_X5_sends h5), hR1, hM, hK.kp hF1, hS1, hH1, hn, htn, hT⟩
set_option maxRecDepth 100000 in
set_option maxHeartbeats 4000000 in
theorem st_days {lc : Launch} {G : Gx} {a : Ax} {S : Lx} (hI : Inv S) (p0 : Int32) : CI lc G a S yX4_days cX4_days 3 5 111 yX5_days cX5_days 3 7 151 [.int p0] := by
  obtain ⟨R, ⟨A1, A2, A3, A4, A5, A6, A7, a1, a2, a3, a4⟩, ⟨B1, B2, B3, B4, B5, B6, B7, c1, c2, c3, c4⟩, kk, ⟨⟨u, hd, k, f, g, l⟩, sh, ⟨t, i, co, d⟩⟩, rG, n, T, tn, b, perm, hist, F, L, At, W, C, rd, st, z1, z2, gf, lw, bg, bw, lo⟩ := S
  obtain ⟨hR, hM, hK, hS, hH, hn, htn, hT⟩ := hI
  have hE := sE hS
  have hsh := sSh hS
  have hX := (sX hS).mono (show 999 ≤ 1000 by omega)
  have hO := hS.2.2.2.2
  have hhd := hS.2.1
  obtain ⟨R1, t1, i1, co1, d1, b1, perm1, hist1, F1, y1, y2, r, h4, h5, hS1, hH1, hF1, hR1⟩ := op_days (z1 := z1) (z2 := z2) (p := p0) hS hH hR
  exact ⟨r, _, ⟨R1, (A1, A2, A3, A4, A5, A6, A7, a1, a2, a3, a4), (B1, B2, B3, B4, B5, B6, B7, c1, c2, c3, c4), kk, ((u, hd, k, f, g, l), sh, (t1, i1, co1, d1)), rG, n, T, tn, b1, perm1, hist1, F1, L, At, W, C, rd, st, y1, y2, gf, lw, bg, bw, lo⟩, Ct.post (c_X4_days h4), ⟨_, rfl⟩, Ct.pre (c_X5_days h5), hR1, hM, hK.kp hF1, hS1, hH1, hn, htn, hT⟩
set_option maxRecDepth 100000 in
set_option maxHeartbeats 4000000 in
theorem st_back {lc : Launch} {G : Gx} {a : Ax} {S : Lx} (hI : Inv S) : CI lc G a S yX4_back cX4_back 1 2 44 yX5_back cX5_back 1 2 44 [] := by
  obtain ⟨R, ⟨A1, A2, A3, A4, A5, A6, A7, a1, a2, a3, a4⟩, ⟨B1, B2, B3, B4, B5, B6, B7, c1, c2, c3, c4⟩, kk, ⟨⟨u, hd, k, f, g, l⟩, sh, ⟨t, i, co, d⟩⟩, rG, n, T, tn, b, perm, hist, F, L, At, W, C, rd, st, z1, z2, gf, lw, bg, bw, lo⟩ := S
  obtain ⟨hR, hM, hK, hS, hH, hn, htn, hT⟩ := hI
  have hE := sE hS
  have hsh := sSh hS
  have hX := (sX hS).mono (show 999 ≤ 1000 by omega)
  have hO := hS.2.2.2.2
  have hhd := hS.2.1
  obtain ⟨R1, S1, b1, y1, y2, r, h4, h5, hS1, hH1, hR1⟩ := op_back (z1 := z1) (z2 := z2) hS hH hR
  exact ⟨r, _, ⟨R1, (A1, A2, A3, A4, A5, A6, A7, a1, a2, a3, a4), (B1, B2, B3, B4, B5, B6, B7, c1, c2, c3, c4), kk, S1, rG, n, T, tn, b1, perm, hist, F, L, At, W, C, rd, st, y1, y2, gf, lw, bg, bw, lo⟩, Ct.post (c_X4_back h4), ⟨_, rfl⟩, Ct.pre (c_X5_back h5), hR1, hM, hK, hS1, hH1, hn, htn, hT⟩
set_option maxRecDepth 100000 in
set_option maxHeartbeats 4000000 in
theorem st_thereIn {lc : Launch} {G : Gx} {a : Ax} {S : Lx} (hI : Inv S) (p0 p1 : Int32) : CI lc G a S yX4_thereIn cX4_thereIn 5 5 111 yX5_thereIn cX5_thereIn 5 7 151 [.int p0, .int p1] := by
  obtain ⟨R, ⟨A1, A2, A3, A4, A5, A6, A7, a1, a2, a3, a4⟩, ⟨B1, B2, B3, B4, B5, B6, B7, c1, c2, c3, c4⟩, kk, ⟨⟨u, hd, k, f, g, l⟩, sh, ⟨t, i, co, d⟩⟩, rG, n, T, tn, b, perm, hist, F, L, At, W, C, rd, st, z1, z2, gf, lw, bg, bw, lo⟩ := S
  obtain ⟨hR, hM, hK, hS, hH, hn, htn, hT⟩ := hI
  have hE := sE hS
  have hsh := sSh hS
  have hX := (sX hS).mono (show 999 ≤ 1000 by omega)
  have hO := hS.2.2.2.2
  have hhd := hS.2.1
  obtain ⟨R1, Mz, F1, y1, y2, r, h4, h5, hM1, hF1, hR1⟩ := op_thereIn (F := F) (z1 := z1) (z2 := z2)  (p := p0) (q := p1) hM hE hsh hX hR
  exact ⟨r, _, ⟨R1, Mz, (B1, B2, B3, B4, B5, B6, B7, c1, c2, c3, c4), kk, ((u, hd, k, f, g, l), sh, (t, i, co, d)), rG, n, T, tn, b, perm, hist, F1, L, At, W, C, rd, st, y1, y2, gf, lw, bg, bw, lo⟩, Ct.post (c_X4_thereIn h4), ⟨_, rfl⟩, Ct.pre (c_X5_thereIn h5), hR1, hM1, hK.kp2 hF1, hS, hH.kp hF1, hn, htn, hT⟩
set_option maxRecDepth 100000 in
set_option maxHeartbeats 4000000 in
theorem st_then {lc : Launch} {G : Gx} {a : Ax} {S : Lx} (hI : Inv S) (p0 p1 : Int32) : CI lc G a S yX4_then cX4_then 5 5 111 yX5_then cX5_then 5 7 151 [.int p0, .int p1] := by
  obtain ⟨R, ⟨A1, A2, A3, A4, A5, A6, A7, a1, a2, a3, a4⟩, ⟨B1, B2, B3, B4, B5, B6, B7, c1, c2, c3, c4⟩, kk, ⟨⟨u, hd, k, f, g, l⟩, sh, ⟨t, i, co, d⟩⟩, rG, n, T, tn, b, perm, hist, F, L, At, W, C, rd, st, z1, z2, gf, lw, bg, bw, lo⟩ := S
  obtain ⟨hR, hM, hK, hS, hH, hn, htn, hT⟩ := hI
  have hE := sE hS
  have hsh := sSh hS
  have hX := (sX hS).mono (show 999 ≤ 1000 by omega)
  have hO := hS.2.2.2.2
  have hhd := hS.2.1
  obtain ⟨R1, Mz, F1, y1, y2, r, h4, h5, hM1, hF1, hR1⟩ := op_then (F := F) (z1 := z1) (z2 := z2)  (p := p0) (q := p1) hM hE hsh hX hO hR
  exact ⟨r, _, ⟨R1, Mz, (B1, B2, B3, B4, B5, B6, B7, c1, c2, c3, c4), kk, ((u, hd, k, f, g, l), sh, (t, i, co, d)), rG, n, T, tn, b, perm, hist, F1, L, At, W, C, rd, st, y1, y2, gf, lw, bg, bw, lo⟩, Ct.post (c_X4_then h4), ⟨_, rfl⟩, Ct.pre (c_X5_then h5), hR1, hM1, hK.kp2 hF1, hS, hH.kp hF1, hn, htn, hT⟩
set_option maxRecDepth 100000 in
set_option maxHeartbeats 4000000 in
theorem st_comes {lc : Launch} {G : Gx} {a : Ax} {S : Lx} (hI : Inv S) (p0 : Int32) : CI lc G a S yX4_comes cX4_comes 2 5 112 yX5_comes cX5_comes 2 8 177 [.int p0] := by
  obtain ⟨R, ⟨A1, A2, A3, A4, A5, A6, A7, a1, a2, a3, a4⟩, ⟨B1, B2, B3, B4, B5, B6, B7, c1, c2, c3, c4⟩, kk, ⟨⟨u, hd, k, f, g, l⟩, sh, ⟨t, i, co, d⟩⟩, rG, n, T, tn, b, perm, hist, F, L, At, W, C, rd, st, z1, z2, gf, lw, bg, bw, lo⟩ := S
  obtain ⟨hR, hM, hK, hS, hH, hn, htn, hT⟩ := hI
  have hE := sE hS
  have hsh := sSh hS
  have hX := (sX hS).mono (show 999 ≤ 1000 by omega)
  have hO := hS.2.2.2.2
  have hhd := hS.2.1
  by_cases hp : p0 = -1
  · subst hp
    obtain ⟨R1, Mz, F1, y1, y2, r, h4, h5, hM1, hF1, hR1⟩ := op_comesF (F := F) (z1 := z1) (z2 := z2) hM hE hsh hX hR
    exact ⟨r, _, ⟨R1, Mz, (B1, B2, B3, B4, B5, B6, B7, c1, c2, c3, c4), kk, ((u, hd, k, f, g, l), sh, (t, i, co, d)), rG, n, T, tn, b, perm, hist, F1, L, At, W, C, rd, st, y1, y2, gf, lw, bg, bw, lo⟩, Ct.post (c_X4_comes h4), ⟨_, rfl⟩, Ct.pre (c_X5_comes h5), hR1, hM1, hK.kp2 hF1, hS, hH.kp hF1, hn, htn, hT⟩
  · obtain ⟨R1, Mz, F1, y1, y2, r, h4, h5, hM1, hF1, hR1⟩ := op_comes1 (F := F) (z1 := z1) (z2 := z2) hM hE hsh hX hR hp
    exact ⟨r, _, ⟨R1, Mz, (B1, B2, B3, B4, B5, B6, B7, c1, c2, c3, c4), kk, ((u, hd, k, f, g, l), sh, (t, i, co, d)), rG, n, T, tn, b, perm, hist, F1, L, At, W, C, rd, st, y1, y2, gf, lw, bg, bw, lo⟩, Ct.post (c_X4_comes h4), ⟨_, rfl⟩, Ct.pre (c_X5_comes h5), hR1, hM1, hK.kp2 hF1, hS, hH.kp hF1, hn, htn, hT⟩
set_option maxRecDepth 100000 in
set_option maxHeartbeats 4000000 in
theorem st_shut {lc : Launch} {G : Gx} {a : Ax} {S : Lx} (hI : Inv S) : CI lc G a S yX4_shut cX4_shut 3 6 133 yX5_shut cX5_shut 3 9 198 [] := by
  obtain ⟨R, ⟨A1, A2, A3, A4, A5, A6, A7, a1, a2, a3, a4⟩, ⟨B1, B2, B3, B4, B5, B6, B7, c1, c2, c3, c4⟩, kk, ⟨⟨u, hd, k, f, g, l⟩, sh, ⟨t, i, co, d⟩⟩, rG, n, T, tn, b, perm, hist, F, L, At, W, C, rd, st, z1, z2, gf, lw, bg, bw, lo⟩ := S
  obtain ⟨hR, hM, hK, hS, hH, hn, htn, hT⟩ := hI
  have hE := sE hS
  have hsh := sSh hS
  have hX := (sX hS).mono (show 999 ≤ 1000 by omega)
  have hO := hS.2.2.2.2
  have hhd := hS.2.1
  have hX5 := hX.mono (show 1000 ≤ 1500 by omega)
  obtain ⟨Mz, h4, hM1⟩ := s_X4_shut hM hE hsh hX5
  obtain ⟨F1, y1, y2, h5, hF1⟩ := s_X5_shut (F := F) (z1 := z1) (z2 := z2) hE hsh hX5
  exact ⟨_, _, ⟨R, Mz, (B1, B2, B3, B4, B5, B6, B7, c1, c2, c3, c4), kk, ((u, hd, k, f, g, l), sh, (t, i, co, d)), rG, n, T, tn, b, perm, hist, F1, L, At, W, C, rd, st, y1, y2, gf, lw, bg, bw, lo⟩, Ct.post (c_X4_shut h4), ⟨_, rfl⟩, Ct.pre (c_X5_shut h5), hR, hM1, hK.kp2 hF1, hS, hH.kp hF1, hn, htn, hT⟩
set_option maxRecDepth 100000 in
set_option maxHeartbeats 4000000 in
theorem st_byWhom {lc : Launch} {G : Gx} {a : Ax} {S : Lx} (hI : Inv S) (p0 : Int32) : CI lc G a S yX4_byWhom cX4_byWhom 3 6 133 yX5_byWhom cX5_byWhom 3 9 198 [.int p0] := by
  obtain ⟨R, ⟨A1, A2, A3, A4, A5, A6, A7, a1, a2, a3, a4⟩, ⟨B1, B2, B3, B4, B5, B6, B7, c1, c2, c3, c4⟩, kk, ⟨⟨u, hd, k, f, g, l⟩, sh, ⟨t, i, co, d⟩⟩, rG, n, T, tn, b, perm, hist, F, L, At, W, C, rd, st, z1, z2, gf, lw, bg, bw, lo⟩ := S
  obtain ⟨hR, hM, hK, hS, hH, hn, htn, hT⟩ := hI
  have hE := sE hS
  have hsh := sSh hS
  have hX := (sX hS).mono (show 999 ≤ 1000 by omega)
  have hO := hS.2.2.2.2
  have hhd := hS.2.1
  obtain ⟨R1, Mz, F1, y1, y2, r, h4, h5, hM1, hF1, hR1⟩ := op_byWhom (F := F) (z1 := z1) (z2 := z2)  (p := p0) hM hE hsh hX hR
  exact ⟨r, _, ⟨R1, Mz, (B1, B2, B3, B4, B5, B6, B7, c1, c2, c3, c4), kk, ((u, hd, k, f, g, l), sh, (t, i, co, d)), rG, n, T, tn, b, perm, hist, F1, L, At, W, C, rd, st, y1, y2, gf, lw, bg, bw, lo⟩, Ct.post (c_X4_byWhom h4), ⟨_, rfl⟩, Ct.pre (c_X5_byWhom h5), hR1, hM1, hK.kp2 hF1, hS, hH.kp hF1, hn, htn, hT⟩
set_option maxRecDepth 100000 in
set_option maxHeartbeats 4000000 in
theorem st_loaded {lc : Launch} {G : Gx} {a : Ax} {S : Lx} (hI : Inv S) (p0 p1 : Int32) : CI lc G a S yX4_loaded cX4_loaded 8 5 112 yX5_loaded cX5_loaded 4 8 177 [.int p0, .int p1] := by
  obtain ⟨R, ⟨A1, A2, A3, A4, A5, A6, A7, a1, a2, a3, a4⟩, ⟨B1, B2, B3, B4, B5, B6, B7, c1, c2, c3, c4⟩, kk, ⟨⟨u, hd, k, f, g, l⟩, sh, ⟨t, i, co, d⟩⟩, rG, n, T, tn, b, perm, hist, F, L, At, W, C, rd, st, z1, z2, gf, lw, bg, bw, lo⟩ := S
  obtain ⟨hR, hM, hK, hS, hH, hn, htn, hT⟩ := hI
  have hE := sE hS
  have hsh := sSh hS
  have hX := (sX hS).mono (show 999 ≤ 1000 by omega)
  have hO := hS.2.2.2.2
  have hhd := hS.2.1
  obtain ⟨R1, Mz, F1, y1, y2, y3, y4, r, h4, h5, hM1, hF1, hR1⟩ := op_loaded (F := F) (z1 := z1) (z2 := z2) (z3 := gf) (z4 := lw) (p := p0) (q := p1) hM hE hsh hX hR
  exact ⟨r, _, ⟨R1, Mz, (B1, B2, B3, B4, B5, B6, B7, c1, c2, c3, c4), kk, ((u, hd, k, f, g, l), sh, (t, i, co, d)), rG, n, T, tn, b, perm, hist, F1, L, At, W, C, rd, st, y1, y2, y3, y4, bg, bw, lo⟩, Ct.post (c_X4_loaded h4), ⟨_, rfl⟩, Ct.pre (c_X5_loaded h5), hR1, hM1, hK.kp2 hF1, hS, hH.kp hF1, hn, htn, hT⟩
set_option maxRecDepth 100000 in
set_option maxHeartbeats 4000000 in
theorem st_hide {lc : Launch} {G : Gx} {a : Ax} {S : Lx} (hI : Inv S) (p0 p1 p2 : Int32) : CI lc G a S yX4_hide cX4_hide 7 5 112 yX5_hide cX5_hide 6 8 178 [.int p0, .int p1, .int p2] := by
  obtain ⟨R, ⟨A1, A2, A3, A4, A5, A6, A7, a1, a2, a3, a4⟩, ⟨B1, B2, B3, B4, B5, B6, B7, c1, c2, c3, c4⟩, kk, ⟨⟨u, hd, k, f, g, l⟩, sh, ⟨t, i, co, d⟩⟩, rG, n, T, tn, b, perm, hist, F, L, At, W, C, rd, st, z1, z2, gf, lw, bg, bw, lo⟩ := S
  obtain ⟨hR, hM, hK, hS, hH, hn, htn, hT⟩ := hI
  have hE := sE hS
  have hsh := sSh hS
  have hX := (sX hS).mono (show 999 ≤ 1000 by omega)
  have hO := hS.2.2.2.2
  have hhd := hS.2.1
  obtain ⟨R1, Mz, F1, y1, y2, r, h4, h5, hM1, hF1, hR1⟩ := op_hide (F := F) (z1 := z1) (z2 := z2)  (p := p0) (q := p1) (v := p2) hM hE hhd hsh hX hR
  exact ⟨r, _, ⟨R1, Mz, (B1, B2, B3, B4, B5, B6, B7, c1, c2, c3, c4), kk, ((u, hd, k, f, g, l), sh, (t, i, co, d)), rG, n, T, tn, b, perm, hist, F1, L, At, W, C, rd, st, y1, y2, gf, lw, bg, bw, lo⟩, Ct.post (c_X4_hide h4), ⟨_, rfl⟩, Ct.pre (c_X5_hide h5), hR1, hM1, hK.kp2 hF1, hS, hH.kp hF1, hn, htn, hT⟩
set_option maxRecDepth 100000 in
set_option maxHeartbeats 4000000 in
theorem st_fewest {lc : Launch} {G : Gx} {a : Ax} {S : Lx} (hI : Inv S) (p0 p1 : Int32) : CI lc G a S yX4_fewest cX4_fewest 6 6 137 yX5_fewest cX5_fewest 6 8 177 [.int p0, .int p1] := by
  obtain ⟨R, ⟨A1, A2, A3, A4, A5, A6, A7, a1, a2, a3, a4⟩, ⟨B1, B2, B3, B4, B5, B6, B7, c1, c2, c3, c4⟩, kk, ⟨⟨u, hd, k, f, g, l⟩, sh, ⟨t, i, co, d⟩⟩, rG, n, T, tn, b, perm, hist, F, L, At, W, C, rd, st, z1, z2, gf, lw, bg, bw, lo⟩ := S
  obtain ⟨hR, hM, hK, hS, hH, hn, htn, hT⟩ := hI
  have hE := sE hS
  have hsh := sSh hS
  have hX := (sX hS).mono (show 999 ≤ 1000 by omega)
  have hO := hS.2.2.2.2
  have hhd := hS.2.1
  obtain ⟨R1, Mz, F1, y1, y2, r, h4, h5, hM1, hF1, hR1⟩ := op_fewest (F := F) (z1 := z1) (z2 := z2)  (p := p0) (q := p1) hM hE hhd hsh hX hR
  exact ⟨r, _, ⟨R1, Mz, (B1, B2, B3, B4, B5, B6, B7, c1, c2, c3, c4), kk, ((u, hd, k, f, g, l), sh, (t, i, co, d)), rG, n, T, tn, b, perm, hist, F1, L, At, W, C, rd, st, y1, y2, gf, lw, bg, bw, lo⟩, Ct.post (c_X4_fewest h4), ⟨_, rfl⟩, Ct.pre (c_X5_fewest h5), hR1, hM1, hK.kp2 hF1, hS, hH.kp hF1, hn, htn, hT⟩
set_option maxRecDepth 100000 in
set_option maxHeartbeats 4000000 in
theorem st_forWhat {lc : Launch} {G : Gx} {a : Ax} {S : Lx} (hI : Inv S) (p0 : Int32) : CI lc G a S yX4_forWhat cX4_forWhat 4 5 112 yX5_forWhat cX5_forWhat 5 9 200 [.int p0] := by
  obtain ⟨R, ⟨A1, A2, A3, A4, A5, A6, A7, a1, a2, a3, a4⟩, ⟨B1, B2, B3, B4, B5, B6, B7, c1, c2, c3, c4⟩, kk, ⟨⟨u, hd, k, f, g, l⟩, sh, ⟨t, i, co, d⟩⟩, rG, n, T, tn, b, perm, hist, F, L, At, W, C, rd, st, z1, z2, gf, lw, bg, bw, lo⟩ := S
  obtain ⟨hR, hM, hK, hS, hH, hn, htn, hT⟩ := hI
  have hE := sE hS
  have hsh := sSh hS
  have hX := (sX hS).mono (show 999 ≤ 1000 by omega)
  have hO := hS.2.2.2.2
  have hhd := hS.2.1
  obtain ⟨R1, Mz, F1, y1, y2, r, h4, h5, hM1, hF1, hR1⟩ := op_forWhat (F := F) (z1 := z1) (z2 := z2)  (p := p0) hM hE hsh hX hR
  exact ⟨r, _, ⟨R1, Mz, (B1, B2, B3, B4, B5, B6, B7, c1, c2, c3, c4), kk, ((u, hd, k, f, g, l), sh, (t, i, co, d)), rG, n, T, tn, b, perm, hist, F1, L, At, W, C, rd, st, y1, y2, gf, lw, bg, bw, lo⟩, Ct.post (c_X4_forWhat h4), ⟨_, rfl⟩, Ct.pre (c_X5_forWhat h5), hR1, hM1, hK.kp2 hF1, hS, hH.kp hF1, hn, htn, hT⟩
set_option maxRecDepth 100000 in
set_option maxHeartbeats 4000000 in
theorem st_want {lc : Launch} {G : Gx} {a : Ax} {S : Lx} (hI : Inv S) (p0 : Int32) : CI lc G a S yX4_want cX4_want 3 5 113 yX5_want cX5_want 3 7 152 [.int p0] := by
  obtain ⟨R, ⟨A1, A2, A3, A4, A5, A6, A7, a1, a2, a3, a4⟩, ⟨B1, B2, B3, B4, B5, B6, B7, c1, c2, c3, c4⟩, kk, ⟨⟨u, hd, k, f, g, l⟩, sh, ⟨t, i, co, d⟩⟩, rG, n, T, tn, b, perm, hist, F, L, At, W, C, rd, st, z1, z2, gf, lw, bg, bw, lo⟩ := S
  obtain ⟨hR, hM, hK, hS, hH, hn, htn, hT⟩ := hI
  have hE := sE hS
  have hsh := sSh hS
  have hX := (sX hS).mono (show 999 ≤ 1000 by omega)
  have hO := hS.2.2.2.2
  have hhd := hS.2.1
  obtain ⟨R1, Mz, F1, y1, y2, r, h4, h5, hM1, hF1, hR1⟩ := op_want (F := F) (z1 := z1) (z2 := z2)  (p := p0) hM hE hsh hX hR
  exact ⟨r, _, ⟨R1, Mz, (B1, B2, B3, B4, B5, B6, B7, c1, c2, c3, c4), kk, ((u, hd, k, f, g, l), sh, (t, i, co, d)), rG, n, T, tn, b, perm, hist, F1, L, At, W, C, rd, st, y1, y2, gf, lw, bg, bw, lo⟩, Ct.post (c_X4_want h4), ⟨_, rfl⟩, Ct.pre (c_X5_want h5), hR1, hM1, hK.kp2 hF1, hS, hH.kp hF1, hn, htn, hT⟩
set_option maxRecDepth 100000 in
set_option maxHeartbeats 4000000 in
theorem st_bare {lc : Launch} {G : Gx} {a : Ax} {S : Lx} (hI : Inv S) (p0 : Int32) : CI lc G a S yX4_bare cX4_bare 5 4 89 yX5_bare cX5_bare 2 7 151 [.int p0] := by
  obtain ⟨R, ⟨A1, A2, A3, A4, A5, A6, A7, a1, a2, a3, a4⟩, ⟨B1, B2, B3, B4, B5, B6, B7, c1, c2, c3, c4⟩, kk, ⟨⟨u, hd, k, f, g, l⟩, sh, ⟨t, i, co, d⟩⟩, rG, n, T, tn, b, perm, hist, F, L, At, W, C, rd, st, z1, z2, gf, lw, bg, bw, lo⟩ := S
  obtain ⟨hR, hM, hK, hS, hH, hn, htn, hT⟩ := hI
  have hE := sE hS
  have hsh := sSh hS
  have hX := (sX hS).mono (show 999 ≤ 1000 by omega)
  have hO := hS.2.2.2.2
  have hhd := hS.2.1
  obtain ⟨R1, Mz, F1, y1, y2, y3, y4, r, h4, h5, hM1, hF1, hR1⟩ := op_bare (F := F) (z1 := z1) (z2 := z2) (z3 := bg) (z4 := bw) (p := p0) hM hE hsh hX hR
  exact ⟨r, _, ⟨R1, Mz, (B1, B2, B3, B4, B5, B6, B7, c1, c2, c3, c4), kk, ((u, hd, k, f, g, l), sh, (t, i, co, d)), rG, n, T, tn, b, perm, hist, F1, L, At, W, C, rd, st, y1, y2, gf, lw, y3, y4, lo⟩, Ct.post (c_X4_bare h4), ⟨_, rfl⟩, Ct.pre (c_X5_bare h5), hR1, hM1, hK.kp2 hF1, hS, hH.kp hF1, hn, htn, hT⟩
set_option maxRecDepth 100000 in
set_option maxHeartbeats 4000000 in
theorem st_lasts {lc : Launch} {G : Gx} {a : Ax} {S : Lx} (hI : Inv S) (p0 : Int32) : CI lc G a S yX4_lasts cX4_lasts 3 1 24 yX5_lasts cX5_lasts 2 1 22 [.int p0] := by
  obtain ⟨R, ⟨A1, A2, A3, A4, A5, A6, A7, a1, a2, a3, a4⟩, ⟨B1, B2, B3, B4, B5, B6, B7, c1, c2, c3, c4⟩, kk, ⟨⟨u, hd, k, f, g, l⟩, sh, ⟨t, i, co, d⟩⟩, rG, n, T, tn, b, perm, hist, F, L, At, W, C, rd, st, z1, z2, gf, lw, bg, bw, lo⟩ := S
  obtain ⟨hR, hM, hK, hS, hH, hn, htn, hT⟩ := hI
  have hE := sE hS
  have hsh := sSh hS
  have hX := (sX hS).mono (show 999 ≤ 1000 by omega)
  have hO := hS.2.2.2.2
  have hhd := hS.2.1
  obtain ⟨R1, r, h4, h5, hR1⟩ := op_lasts  (p := p0) (xT hX) (oU hE) hR
  exact ⟨r, _, ⟨R1, (A1, A2, A3, A4, A5, A6, A7, a1, a2, a3, a4), (B1, B2, B3, B4, B5, B6, B7, c1, c2, c3, c4), kk, ((u, hd, k, f, g, l), sh, (t, i, co, d)), rG, n, T, tn, b, perm, hist, F, L, At, W, C, rd, st, z1, z2, gf, lw, bg, bw, lo⟩, Ct.post (c_X4_lasts h4), ⟨_, rfl⟩, Ct.pre (c_X5_lasts h5), hR1, hM, hK, hS, hH, hn, htn, hT⟩
set_option maxRecDepth 100000 in
set_option maxHeartbeats 4000000 in
theorem st_best {lc : Launch} {G : Gx} {a : Ax} {S : Lx} (hI : Inv S) (p0 : Int32) : CI lc G a S yX4_best cX4_best 7 5 113 yX5_best cX5_best 7 7 152 [.int p0] := by
  obtain ⟨R, ⟨A1, A2, A3, A4, A5, A6, A7, a1, a2, a3, a4⟩, ⟨B1, B2, B3, B4, B5, B6, B7, c1, c2, c3, c4⟩, kk, ⟨⟨u, hd, k, f, g, l⟩, sh, ⟨t, i, co, d⟩⟩, rG, n, T, tn, b, perm, hist, F, L, At, W, C, rd, st, z1, z2, gf, lw, bg, bw, lo⟩ := S
  obtain ⟨hR, hM, hK, hS, hH, hn, htn, hT⟩ := hI
  have hE := sE hS
  have hsh := sSh hS
  have hX := (sX hS).mono (show 999 ≤ 1000 by omega)
  have hO := hS.2.2.2.2
  have hhd := hS.2.1
  obtain ⟨R1, Mz, F1, y1, y2, r, h4, h5, hM1, hF1, hR1⟩ := op_best (F := F) (z1 := z1) (z2 := z2)  (p := p0) hM hE hsh hX hR
  exact ⟨r, _, ⟨R1, Mz, (B1, B2, B3, B4, B5, B6, B7, c1, c2, c3, c4), kk, ((u, hd, k, f, g, l), sh, (t, i, co, d)), rG, n, T, tn, b, perm, hist, F1, L, At, W, C, rd, st, y1, y2, gf, lw, bg, bw, lo⟩, Ct.post (c_X4_best h4), ⟨_, rfl⟩, Ct.pre (c_X5_best h5), hR1, hM1, hK.kp2 hF1, hS, hH.kp hF1, hn, htn, hT⟩
set_option maxRecDepth 100000 in
set_option maxHeartbeats 4000000 in
theorem st_whichTown {lc : Launch} {G : Gx} {a : Ax} {S : Lx} (hI : Inv S) (p0 p1 : Int32) : CI lc G a S yX4_whichTown cX4_whichTown 8 5 111 yX5_whichTown cX5_whichTown 9 7 151 [.int p0, .int p1] := by
  obtain ⟨R, ⟨A1, A2, A3, A4, A5, A6, A7, a1, a2, a3, a4⟩, ⟨B1, B2, B3, B4, B5, B6, B7, c1, c2, c3, c4⟩, kk, ⟨⟨u, hd, k, f, g, l⟩, sh, ⟨t, i, co, d⟩⟩, rG, n, T, tn, b, perm, hist, F, L, At, W, C, rd, st, z1, z2, gf, lw, bg, bw, lo⟩ := S
  obtain ⟨hR, hM, hK, hS, hH, hn, htn, hT⟩ := hI
  have hE := sE hS
  have hsh := sSh hS
  have hX := (sX hS).mono (show 999 ≤ 1000 by omega)
  have hO := hS.2.2.2.2
  have hhd := hS.2.1
  obtain ⟨R1, Mz, F1, y1, y2, r, h4, h5, hM1, hF1, hR1⟩ := op_whichTown (F := F) (z1 := z1) (z2 := z2) (G := rG) (p := p0) (q := p1) hM hE hsh hX hO hn hR
  exact ⟨r, _, ⟨R1, Mz, (B1, B2, B3, B4, B5, B6, B7, c1, c2, c3, c4), kk, ((u, hd, k, f, g, l), sh, (t, i, co, d)), rG, n, T, tn, b, perm, hist, F1, L, At, W, C, rd, st, y1, y2, gf, lw, bg, bw, lo⟩, Ct.post (c_X4_whichTown h4), ⟨_, rfl⟩, Ct.pre (c_X5_whichTown h5), hR1, hM1, hK.kp2 hF1, hS, hH.kp hF1, hn, htn, hT⟩
set_option maxRecDepth 100000 in
set_option maxHeartbeats 4000000 in
theorem st_whatKind {lc : Launch} {G : Gx} {a : Ax} {S : Lx} (hI : Inv S) (p0 p1 : Int32) : CI lc G a S yX4_whatKind cX4_whatKind 7 5 112 yX5_whatKind cX5_whatKind 4 8 178 [.int p0, .int p1] := by
  obtain ⟨R, ⟨A1, A2, A3, A4, A5, A6, A7, a1, a2, a3, a4⟩, ⟨B1, B2, B3, B4, B5, B6, B7, c1, c2, c3, c4⟩, kk, ⟨⟨u, hd, k, f, g, l⟩, sh, ⟨t, i, co, d⟩⟩, rG, n, T, tn, b, perm, hist, F, L, At, W, C, rd, st, z1, z2, gf, lw, bg, bw, lo⟩ := S
  obtain ⟨hR, hM, hK, hS, hH, hn, htn, hT⟩ := hI
  have hE := sE hS
  have hsh := sSh hS
  have hX := (sX hS).mono (show 999 ≤ 1000 by omega)
  have hO := hS.2.2.2.2
  have hhd := hS.2.1
  obtain ⟨R1, Mz, F1, y1, y2, r, h4, h5, hM1, hF1, hR1⟩ := op_whatKind (F := F) (z1 := z1) (z2 := z2) (G := rG) (p := p0) (q := p1) hM hE hsh hX hn hR
  exact ⟨r, _, ⟨R1, Mz, (B1, B2, B3, B4, B5, B6, B7, c1, c2, c3, c4), kk, ((u, hd, k, f, g, l), sh, (t, i, co, d)), rG, n, T, tn, b, perm, hist, F1, L, At, W, C, rd, st, y1, y2, gf, lw, bg, bw, lo⟩, Ct.post (c_X4_whatKind h4), ⟨_, rfl⟩, Ct.pre (c_X5_whatKind h5), hR1, hM1, hK.kp2 hF1, hS, hH.kp hF1, hn, htn, hT⟩
set_option maxRecDepth 100000 in
set_option maxHeartbeats 4000000 in
theorem st_two {lc : Launch} {G : Gx} {a : Ax} {S : Lx} (hI : Inv S) (p0 p1 p2 : Int32) : CI lc G a S yX4_two cX4_two 6 6 138 yX5_two cX5_two 6 8 175 [.int p0, .int p1, .int p2] := by
  obtain ⟨R, ⟨A1, A2, A3, A4, A5, A6, A7, a1, a2, a3, a4⟩, ⟨B1, B2, B3, B4, B5, B6, B7, c1, c2, c3, c4⟩, kk, ⟨⟨u, hd, k, f, g, l⟩, sh, ⟨t, i, co, d⟩⟩, rG, n, T, tn, b, perm, hist, F, L, At, W, C, rd, st, z1, z2, gf, lw, bg, bw, lo⟩ := S
  obtain ⟨hR, hM, hK, hS, hH, hn, htn, hT⟩ := hI
  have hE := sE hS
  have hsh := sSh hS
  have hX := (sX hS).mono (show 999 ≤ 1000 by omega)
  have hO := hS.2.2.2.2
  have hhd := hS.2.1
  obtain ⟨R1, Mz, F1, C1, y1, y2, r, h4, h5, hM1, hF1, hR1⟩ := op_two (F := F) (z1 := z1) (z2 := z2) (C := C) (p := p0) (q := p1) (v := p2) hM hE hhd hsh hX hR
  exact ⟨r, _, ⟨R1, Mz, (B1, B2, B3, B4, B5, B6, B7, c1, c2, c3, c4), kk, ((u, hd, k, f, g, l), sh, (t, i, co, d)), rG, n, T, tn, b, perm, hist, F1, L, At, W, C1, rd, st, y1, y2, gf, lw, bg, bw, lo⟩, Ct.post (c_X4_two h4), ⟨_, rfl⟩, Ct.pre (c_X5_two h5), hR1, hM1, hK.kp2 hF1, hS, hH.kp hF1, hn, htn, hT⟩
set_option maxRecDepth 100000 in
set_option maxHeartbeats 4000000 in
theorem st_storms {lc : Launch} {G : Gx} {a : Ax} {S : Lx} (hI : Inv S) (p0 p1 p2 p3 : Int32) : CJ lc G a S yX4_storms cX4_storms 8 5 114 yX5_storms cX5_storms 14 6 129 [.int p0, .int p1, .int p2, .int p3] := by
  obtain ⟨R, ⟨A1, A2, A3, A4, A5, A6, A7, a1, a2, a3, a4⟩, ⟨B1, B2, B3, B4, B5, B6, B7, c1, c2, c3, c4⟩, kk, ⟨⟨u, hd, k, f, g, l⟩, sh, ⟨t, i, co, d⟩⟩, rG, n, T, tn, b, perm, hist, F, L, At, W, C, rd, st, z1, z2, gf, lw, bg, bw, lo⟩ := S
  obtain ⟨hR, hM, hK, hS, hH, hn, htn, hT⟩ := hI
  have hE := sE hS
  have hsh := sSh hS
  have hX := (sX hS).mono (show 999 ≤ 1000 by omega)
  have hO := hS.2.2.2.2
  have hhd := hS.2.1
  obtain ⟨R1, Mz, F1, y1, y2, r, h4, h5, hM1, hF1, hR1⟩ := op_storms (F := F) (z1 := z1) (z2 := z2)  (p := p0) (q := p1) (v := p2) (w := p3) hM hE hsh hX hR
  exact ⟨r, _, ⟨R1, Mz, (B1, B2, B3, B4, B5, B6, B7, c1, c2, c3, c4), kk, ((u, hd, k, f, g, l), sh, (t, i, co, d)), rG, n, T, tn, b, perm, hist, F1, L, At, W, C, rd, st, y1, y2, gf, lw, bg, bw, lo⟩, Ct.post (c_X4_storms h4), ⟨_, rfl⟩, Ct.pre (c_X5_storms h5), hR1, hM1, hK.kp2 hF1, hS, hH.kp hF1, hn, htn, hT⟩
set_option maxRecDepth 100000 in
set_option maxHeartbeats 4000000 in
theorem st_deepest {lc : Launch} {G : Gx} {a : Ax} {S : Lx} (hI : Inv S) (p0 : Int32) : CI lc G a S yX4_deepest cX4_deepest 2 2 44 yX5_deepest cX5_deepest 2 2 43 [.int p0] := by
  obtain ⟨R, ⟨A1, A2, A3, A4, A5, A6, A7, a1, a2, a3, a4⟩, ⟨B1, B2, B3, B4, B5, B6, B7, c1, c2, c3, c4⟩, kk, ⟨⟨u, hd, k, f, g, l⟩, sh, ⟨t, i, co, d⟩⟩, rG, n, T, tn, b, perm, hist, F, L, At, W, C, rd, st, z1, z2, gf, lw, bg, bw, lo⟩ := S
  obtain ⟨hR, hM, hK, hS, hH, hn, htn, hT⟩ := hI
  have hE := sE hS
  have hsh := sSh hS
  have hX := (sX hS).mono (show 999 ≤ 1000 by omega)
  have hO := hS.2.2.2.2
  have hhd := hS.2.1
  obtain ⟨R1, r, h4, h5, hR1⟩ := op_deepest  (p := p0) (xT hX) (oU hE) (oK hE) (oF hE) (oG hE) hsh hR
  exact ⟨r, _, ⟨R1, (A1, A2, A3, A4, A5, A6, A7, a1, a2, a3, a4), (B1, B2, B3, B4, B5, B6, B7, c1, c2, c3, c4), kk, ((u, hd, k, f, g, l), sh, (t, i, co, d)), rG, n, T, tn, b, perm, hist, F, L, At, W, C, rd, st, z1, z2, gf, lw, bg, bw, lo⟩, Ct.post (c_X4_deepest h4), ⟨_, rfl⟩, Ct.pre (c_X5_deepest h5), hR1, hM, hK, hS, hH, hn, htn, hT⟩
set_option maxRecDepth 100000 in
set_option maxHeartbeats 4000000 in
theorem st_mean {lc : Launch} {G : Gx} {a : Ax} {S : Lx} (hI : Inv S) (p0 : Int32) : CJ lc G a S yX4_mean cX4_mean 4 2 43 yX5_mean cX5_mean 5 2 53 [.int p0] := by
  obtain ⟨R, ⟨A1, A2, A3, A4, A5, A6, A7, a1, a2, a3, a4⟩, ⟨B1, B2, B3, B4, B5, B6, B7, c1, c2, c3, c4⟩, kk, ⟨⟨u, hd, k, f, g, l⟩, sh, ⟨t, i, co, d⟩⟩, rG, n, T, tn, b, perm, hist, F, L, At, W, C, rd, st, z1, z2, gf, lw, bg, bw, lo⟩ := S
  obtain ⟨hR, hM, hK, hS, hH, hn, htn, hT⟩ := hI
  have hE := sE hS
  have hsh := sSh hS
  have hX := (sX hS).mono (show 999 ≤ 1000 by omega)
  have hO := hS.2.2.2.2
  have hhd := hS.2.1
  obtain ⟨R1, r, h4, h5, hR1⟩ := op_mean  (p := p0) (oL hE) hsh hR
  exact ⟨r, _, ⟨R1, (A1, A2, A3, A4, A5, A6, A7, a1, a2, a3, a4), (B1, B2, B3, B4, B5, B6, B7, c1, c2, c3, c4), kk, ((u, hd, k, f, g, l), sh, (t, i, co, d)), rG, n, T, tn, b, perm, hist, F, L, At, W, C, rd, st, z1, z2, gf, lw, bg, bw, lo⟩, Ct.post (c_X4_mean h4), ⟨_, rfl⟩, Ct.pre (c_X5_mean h5), hR1, hM, hK, hS, hH, hn, htn, hT⟩
set_option maxRecDepth 100000 in
set_option maxHeartbeats 4000000 in
theorem st_hidden {lc : Launch} {G : Gx} {a : Ax} {S : Lx} (hI : Inv S) : CI lc G a S yX4_hidden cX4_hidden 3 0 0 yX5_hidden cX5_hidden 3 0 0 [] := by
  obtain ⟨R, ⟨A1, A2, A3, A4, A5, A6, A7, a1, a2, a3, a4⟩, ⟨B1, B2, B3, B4, B5, B6, B7, c1, c2, c3, c4⟩, kk, ⟨⟨u, hd, k, f, g, l⟩, sh, ⟨t, i, co, d⟩⟩, rG, n, T, tn, b, perm, hist, F, L, At, W, C, rd, st, z1, z2, gf, lw, bg, bw, lo⟩ := S
  obtain ⟨hR, hM, hK, hS, hH, hn, htn, hT⟩ := hI
  have hE := sE hS
  have hsh := sSh hS
  have hX := (sX hS).mono (show 999 ≤ 1000 by omega)
  have hO := hS.2.2.2.2
  have hhd := hS.2.1
  obtain ⟨r, h4, h5⟩ := op_hidden (hd := hd)
  exact ⟨r, _, ⟨R, (A1, A2, A3, A4, A5, A6, A7, a1, a2, a3, a4), (B1, B2, B3, B4, B5, B6, B7, c1, c2, c3, c4), kk, ((u, hd, k, f, g, l), sh, (t, i, co, d)), rG, n, T, tn, b, perm, hist, F, L, At, W, C, rd, st, z1, z2, gf, lw, bg, bw, lo⟩, Ct.post (c_X4_hidden h4), ⟨_, rfl⟩, Ct.pre (c_X5_hidden h5), hR, hM, hK, hS, hH, hn, htn, hT⟩
set_option maxRecDepth 100000 in
set_option maxHeartbeats 4000000 in
theorem st_nextTide {lc : Launch} {G : Gx} {a : Ax} {S : Lx} (hI : Inv S) (p0 : Int32) : CI lc G a S yX4_nextTide cX4_nextTide 4 2 44 yX5_nextTide cX5_nextTide 4 1 22 [.int p0] := by
  obtain ⟨R, ⟨A1, A2, A3, A4, A5, A6, A7, a1, a2, a3, a4⟩, ⟨B1, B2, B3, B4, B5, B6, B7, c1, c2, c3, c4⟩, kk, ⟨⟨u, hd, k, f, g, l⟩, sh, ⟨t, i, co, d⟩⟩, rG, n, T, tn, b, perm, hist, F, L, At, W, C, rd, st, z1, z2, gf, lw, bg, bw, lo⟩ := S
  obtain ⟨hR, hM, hK, hS, hH, hn, htn, hT⟩ := hI
  have hE := sE hS
  have hsh := sSh hS
  have hX := (sX hS).mono (show 999 ≤ 1000 by omega)
  have hO := hS.2.2.2.2
  have hhd := hS.2.1
  obtain ⟨R1, r, h4, h5, hR1⟩ := op_nextTide  (p := p0) (xD hX) hR
  exact ⟨r, _, ⟨R1, (A1, A2, A3, A4, A5, A6, A7, a1, a2, a3, a4), (B1, B2, B3, B4, B5, B6, B7, c1, c2, c3, c4), kk, ((u, hd, k, f, g, l), sh, (t, i, co, d)), rG, n, T, tn, b, perm, hist, F, L, At, W, C, rd, st, z1, z2, gf, lw, bg, bw, lo⟩, Ct.post (c_X4_nextTide h4), ⟨_, rfl⟩, Ct.pre (c_X5_nextTide h5), hR1, hM, hK, hS, hH, hn, htn, hT⟩
set_option maxRecDepth 100000 in
set_option maxHeartbeats 4000000 in
theorem st_empty {lc : Launch} {G : Gx} {a : Ax} {S : Lx} (hI : Inv S) : CI lc G a S yX4_empty cX4_empty 3 3 66 yX5_empty cX5_empty 3 3 65 [] := by
  obtain ⟨R, ⟨A1, A2, A3, A4, A5, A6, A7, a1, a2, a3, a4⟩, ⟨B1, B2, B3, B4, B5, B6, B7, c1, c2, c3, c4⟩, kk, ⟨⟨u, hd, k, f, g, l⟩, sh, ⟨t, i, co, d⟩⟩, rG, n, T, tn, b, perm, hist, F, L, At, W, C, rd, st, z1, z2, gf, lw, bg, bw, lo⟩ := S
  obtain ⟨hR, hM, hK, hS, hH, hn, htn, hT⟩ := hI
  have hE := sE hS
  have hsh := sSh hS
  have hX := (sX hS).mono (show 999 ≤ 1000 by omega)
  have hO := hS.2.2.2.2
  have hhd := hS.2.1
  obtain ⟨r, h4, h5⟩ := op_empty hE hsh hX
  exact ⟨r, _, ⟨R, (A1, A2, A3, A4, A5, A6, A7, a1, a2, a3, a4), (B1, B2, B3, B4, B5, B6, B7, c1, c2, c3, c4), kk, ((u, hd, k, f, g, l), sh, (t, i, co, d)), rG, n, T, tn, b, perm, hist, F, L, At, W, C, rd, st, z1, z2, gf, lw, bg, bw, lo⟩, Ct.post (c_X4_empty h4), ⟨_, rfl⟩, Ct.pre (c_X5_empty h5), hR, hM, hK, hS, hH, hn, htn, hT⟩
set_option maxRecDepth 100000 in
set_option maxHeartbeats 4000000 in
theorem st_carried {lc : Launch} {G : Gx} {a : Ax} {S : Lx} (hI : Inv S) (p0 : Int32) : CI lc G a S yX4_carried cX4_carried 4 2 44 yX5_carried cX5_carried 4 2 44 [.int p0] := by
  obtain ⟨R, ⟨A1, A2, A3, A4, A5, A6, A7, a1, a2, a3, a4⟩, ⟨B1, B2, B3, B4, B5, B6, B7, c1, c2, c3, c4⟩, kk, ⟨⟨u, hd, k, f, g, l⟩, sh, ⟨t, i, co, d⟩⟩, rG, n, T, tn, b, perm, hist, F, L, At, W, C, rd, st, z1, z2, gf, lw, bg, bw, lo⟩ := S
  obtain ⟨hR, hM, hK, hS, hH, hn, htn, hT⟩ := hI
  have hE := sE hS
  have hsh := sSh hS
  have hX := (sX hS).mono (show 999 ≤ 1000 by omega)
  have hO := hS.2.2.2.2
  have hhd := hS.2.1
  obtain ⟨R1, r, h4, h5, hR1⟩ := op_carried  (p := p0) (oK hE) (oG hE) (oL hE) (xI hX) hsh hR
  exact ⟨r, _, ⟨R1, (A1, A2, A3, A4, A5, A6, A7, a1, a2, a3, a4), (B1, B2, B3, B4, B5, B6, B7, c1, c2, c3, c4), kk, ((u, hd, k, f, g, l), sh, (t, i, co, d)), rG, n, T, tn, b, perm, hist, F, L, At, W, C, rd, st, z1, z2, gf, lw, bg, bw, lo⟩, Ct.post (c_X4_carried h4), ⟨_, rfl⟩, Ct.pre (c_X5_carried h5), hR1, hM, hK, hS, hH, hn, htn, hT⟩
set_option maxRecDepth 100000 in
set_option maxHeartbeats 4000000 in
theorem st_filled {lc : Launch} {G : Gx} {a : Ax} {S : Lx} (hI : Inv S) : CI lc G a S yX4_filled cX4_filled 4 3 66 yX5_filled cX5_filled 4 3 66 [] := by
  obtain ⟨R, ⟨A1, A2, A3, A4, A5, A6, A7, a1, a2, a3, a4⟩, ⟨B1, B2, B3, B4, B5, B6, B7, c1, c2, c3, c4⟩, kk, ⟨⟨u, hd, k, f, g, l⟩, sh, ⟨t, i, co, d⟩⟩, rG, n, T, tn, b, perm, hist, F, L, At, W, C, rd, st, z1, z2, gf, lw, bg, bw, lo⟩ := S
  obtain ⟨hR, hM, hK, hS, hH, hn, htn, hT⟩ := hI
  have hE := sE hS
  have hsh := sSh hS
  have hX := (sX hS).mono (show 999 ≤ 1000 by omega)
  have hO := hS.2.2.2.2
  have hhd := hS.2.1
  obtain ⟨Mz, F1, y1, y2, r, h4, h5, hM1, hF1⟩ := op_filled (F := F) (z1 := z1) (z2 := z2) hM hE hsh hX
  exact ⟨r, _, ⟨R, Mz, (B1, B2, B3, B4, B5, B6, B7, c1, c2, c3, c4), kk, ((u, hd, k, f, g, l), sh, (t, i, co, d)), rG, n, T, tn, b, perm, hist, F1, L, At, W, C, rd, st, y1, y2, gf, lw, bg, bw, lo⟩, Ct.post (c_X4_filled h4), ⟨_, rfl⟩, Ct.pre (c_X5_filled h5), hR, hM1, hK.kp2 hF1, hS, hH.kp hF1, hn, htn, hT⟩
set_option maxRecDepth 100000 in
set_option maxHeartbeats 4000000 in
theorem st_spared {lc : Launch} {G : Gx} {a : Ax} {S : Lx} (hI : Inv S) (p0 p1 : Int32) : CI lc G a S yX4_spared cX4_spared 6 5 113 yX5_spared cX5_spared 8 7 152 [.int p0, .int p1] := by
  obtain ⟨R, ⟨A1, A2, A3, A4, A5, A6, A7, a1, a2, a3, a4⟩, ⟨B1, B2, B3, B4, B5, B6, B7, c1, c2, c3, c4⟩, kk, ⟨⟨u, hd, k, f, g, l⟩, sh, ⟨t, i, co, d⟩⟩, rG, n, T, tn, b, perm, hist, F, L, At, W, C, rd, st, z1, z2, gf, lw, bg, bw, lo⟩ := S
  obtain ⟨hR, hM, hK, hS, hH, hn, htn, hT⟩ := hI
  have hE := sE hS
  have hsh := sSh hS
  have hX := (sX hS).mono (show 999 ≤ 1000 by omega)
  have hO := hS.2.2.2.2
  have hhd := hS.2.1
  obtain ⟨R1, Mz, F1, y1, y2, r, h4, h5, hM1, hF1, hR1⟩ := op_spared (F := F) (z1 := z1) (z2 := z2)  (p := p0) (q := p1) hM hE hsh hX hR
  exact ⟨r, _, ⟨R1, Mz, (B1, B2, B3, B4, B5, B6, B7, c1, c2, c3, c4), kk, ((u, hd, k, f, g, l), sh, (t, i, co, d)), rG, n, T, tn, b, perm, hist, F1, L, At, W, C, rd, st, y1, y2, gf, lw, bg, bw, lo⟩, Ct.post (c_X4_spared h4), ⟨_, rfl⟩, Ct.pre (c_X5_spared h5), hR1, hM1, hK.kp2 hF1, hS, hH.kp hF1, hn, htn, hT⟩
set_option maxRecDepth 100000 in
set_option maxHeartbeats 4000000 in
theorem st_race {lc : Launch} {G : Gx} {a : Ax} {S : Lx} (hI : Inv S) (p0 p1 : Int32) : CI lc G a S yX4_race cX4_race 7 5 112 yX5_race cX5_race 7 7 153 [.int p0, .int p1] := by
  obtain ⟨R, ⟨A1, A2, A3, A4, A5, A6, A7, a1, a2, a3, a4⟩, ⟨B1, B2, B3, B4, B5, B6, B7, c1, c2, c3, c4⟩, kk, ⟨⟨u, hd, k, f, g, l⟩, sh, ⟨t, i, co, d⟩⟩, rG, n, T, tn, b, perm, hist, F, L, At, W, C, rd, st, z1, z2, gf, lw, bg, bw, lo⟩ := S
  obtain ⟨hR, hM, hK, hS, hH, hn, htn, hT⟩ := hI
  have hE := sE hS
  have hsh := sSh hS
  have hX := (sX hS).mono (show 999 ≤ 1000 by omega)
  have hO := hS.2.2.2.2
  have hhd := hS.2.1
  obtain ⟨R1, Mz, F1, y1, y2, r, h4, h5, hM1, hF1, hR1⟩ := op_race (F := F) (z1 := z1) (z2 := z2)  (p := p0) (q := p1) hM hE hsh hX hR
  exact ⟨r, _, ⟨R1, Mz, (B1, B2, B3, B4, B5, B6, B7, c1, c2, c3, c4), kk, ((u, hd, k, f, g, l), sh, (t, i, co, d)), rG, n, T, tn, b, perm, hist, F1, L, At, W, C, rd, st, y1, y2, gf, lw, bg, bw, lo⟩, Ct.post (c_X4_race h4), ⟨_, rfl⟩, Ct.pre (c_X5_race h5), hR1, hM1, hK.kp2 hF1, hS, hH.kp hF1, hn, htn, hT⟩
set_option maxRecDepth 100000 in
set_option maxHeartbeats 4000000 in
theorem st_row {lc : Launch} {G : Gx} {a : Ax} {S : Lx} (hI : Inv S) (p0 : Int32) : CI lc G a S yX4_row cX4_row 3 1 22 yX5_row cX5_row 3 1 22 [.int p0] := by
  obtain ⟨R, ⟨A1, A2, A3, A4, A5, A6, A7, a1, a2, a3, a4⟩, ⟨B1, B2, B3, B4, B5, B6, B7, c1, c2, c3, c4⟩, kk, ⟨⟨u, hd, k, f, g, l⟩, sh, ⟨t, i, co, d⟩⟩, rG, n, T, tn, b, perm, hist, F, L, At, W, C, rd, st, z1, z2, gf, lw, bg, bw, lo⟩ := S
  obtain ⟨hR, hM, hK, hS, hH, hn, htn, hT⟩ := hI
  have hE := sE hS
  have hsh := sSh hS
  have hX := (sX hS).mono (show 999 ≤ 1000 by omega)
  have hO := hS.2.2.2.2
  have hhd := hS.2.1
  obtain ⟨R1, G1, n1, r, h4, h5, hn1, hR1⟩ := op_row (G := rG) (p := p0) hn hR
  exact ⟨r, _, ⟨R1, (A1, A2, A3, A4, A5, A6, A7, a1, a2, a3, a4), (B1, B2, B3, B4, B5, B6, B7, c1, c2, c3, c4), kk, ((u, hd, k, f, g, l), sh, (t, i, co, d)), G1, n1, T, tn, b, perm, hist, F, L, At, W, C, rd, st, z1, z2, gf, lw, bg, bw, lo⟩, Ct.post (c_X4_row h4), ⟨_, rfl⟩, Ct.pre (c_X5_row h5), hR1, hM, hK, hS, hH, hn1, htn, hT⟩
set_option maxRecDepth 100000 in
set_option maxHeartbeats 4000000 in
theorem st_judge {lc : Launch} {G : Gx} {a : Ax} {S : Lx} (hI : Inv S) : CI lc G a S yX4_judge cX4_judge 3 4 87 yX5_judge cX5_judge 3 4 86 [] := by
  obtain ⟨R, ⟨A1, A2, A3, A4, A5, A6, A7, a1, a2, a3, a4⟩, ⟨B1, B2, B3, B4, B5, B6, B7, c1, c2, c3, c4⟩, kk, ⟨⟨u, hd, k, f, g, l⟩, sh, ⟨t, i, co, d⟩⟩, rG, n, T, tn, b, perm, hist, F, L, At, W, C, rd, st, z1, z2, gf, lw, bg, bw, lo⟩ := S
  obtain ⟨hR, hM, hK, hS, hH, hn, htn, hT⟩ := hI
  have hE := sE hS
  have hsh := sSh hS
  have hX := (sX hS).mono (show 999 ≤ 1000 by omega)
  have hO := hS.2.2.2.2
  have hhd := hS.2.1
  obtain ⟨r, h4, h5⟩ := op_judge (G := rG) hE hsh hX hn
  exact ⟨r, _, ⟨R, (A1, A2, A3, A4, A5, A6, A7, a1, a2, a3, a4), (B1, B2, B3, B4, B5, B6, B7, c1, c2, c3, c4), kk, ((u, hd, k, f, g, l), sh, (t, i, co, d)), rG, 0, T, tn, b, perm, hist, F, L, At, W, C, rd, st, z1, z2, gf, lw, bg, bw, lo⟩, Ct.post (c_X4_judge h4), ⟨_, rfl⟩, Ct.pre (c_X5_judge h5), hR, hM, hK, hS, hH, Nat.zero_le _, htn, hT⟩
set_option maxRecDepth 100000 in
set_option maxHeartbeats 4000000 in
theorem st_clear {lc : Launch} {G : Gx} {a : Ax} {S : Lx} (hI : Inv S) : CI lc G a S yX4_clear cX4_clear 2 1 20 yX5_clear cX5_clear 2 0 0 [] := by
  obtain ⟨R, ⟨A1, A2, A3, A4, A5, A6, A7, a1, a2, a3, a4⟩, ⟨B1, B2, B3, B4, B5, B6, B7, c1, c2, c3, c4⟩, kk, ⟨⟨u, hd, k, f, g, l⟩, sh, ⟨t, i, co, d⟩⟩, rG, n, T, tn, b, perm, hist, F, L, At, W, C, rd, st, z1, z2, gf, lw, bg, bw, lo⟩ := S
  obtain ⟨hR, hM, hK, hS, hH, hn, htn, hT⟩ := hI
  have hE := sE hS
  have hsh := sSh hS
  have hX := (sX hS).mono (show 999 ≤ 1000 by omega)
  have hO := hS.2.2.2.2
  have hhd := hS.2.1
  have h4 : X4_clear (iI n) = some (0, iI n) := rfl
  have h5 : X5_clear (iI n) = some (0, iI n) := rfl
  exact ⟨_, _, ⟨R, (A1, A2, A3, A4, A5, A6, A7, a1, a2, a3, a4), (B1, B2, B3, B4, B5, B6, B7, c1, c2, c3, c4), kk, ((u, hd, k, f, g, l), sh, (t, i, co, d)), rG, 0, T, tn, b, perm, hist, F, L, At, W, C, rd, st, z1, z2, gf, lw, bg, bw, lo⟩, Ct.post (c_X4_clear h4), ⟨_, rfl⟩, Ct.pre (c_X5_clear h5), hR, hM, hK, hS, hH, Nat.zero_le _, htn, hT⟩
set_option maxRecDepth 100000 in
set_option maxHeartbeats 4000000 in
theorem st_lots {lc : Launch} {G : Gx} {a : Ax} {S : Lx} (hI : Inv S) (p0 p1 p2 : Int32) : CI lc G a S yX4_lots cX4_lots 10 5 111 yX5_lots cX5_lots 8 7 151 [.int p0, .int p1, .int p2] := by
  obtain ⟨R, ⟨A1, A2, A3, A4, A5, A6, A7, a1, a2, a3, a4⟩, ⟨B1, B2, B3, B4, B5, B6, B7, c1, c2, c3, c4⟩, kk, ⟨⟨u, hd, k, f, g, l⟩, sh, ⟨t, i, co, d⟩⟩, rG, n, T, tn, b, perm, hist, F, L, At, W, C, rd, st, z1, z2, gf, lw, bg, bw, lo⟩ := S
  obtain ⟨hR, hM, hK, hS, hH, hn, htn, hT⟩ := hI
  have hE := sE hS
  have hsh := sSh hS
  have hX := (sX hS).mono (show 999 ≤ 1000 by omega)
  have hO := hS.2.2.2.2
  have hhd := hS.2.1
  obtain ⟨R1, Mz, F1, y1, y2, y3, r, h4, h5, hM1, hF1, hR1⟩ := op_lots (F := F) (z1 := z1) (z2 := z2) (z3 := lo) (p := p0) (q := p1) (v := p2) hM hE hsh hX hO hR
  exact ⟨r, _, ⟨R1, Mz, (B1, B2, B3, B4, B5, B6, B7, c1, c2, c3, c4), kk, ((u, hd, k, f, g, l), sh, (t, i, co, d)), rG, n, T, tn, b, perm, hist, F1, L, At, W, C, rd, st, y1, y2, gf, lw, bg, bw, y3⟩, Ct.post (c_X4_lots h4), ⟨_, rfl⟩, Ct.pre (c_X5_lots h5), hR1, hM1, hK.kp2 hF1, hS, hH.kp hF1, hn, htn, hT⟩
set_option maxRecDepth 100000 in
set_option maxHeartbeats 4000000 in
theorem st_image {lc : Launch} {G : Gx} {a : Ax} {S : Lx} (hI : Inv S) : CI lc G a S yX4_image cX4_image 1 1 22 yX5_image cX5_image 1 2 44 [] := by
  obtain ⟨R, ⟨A1, A2, A3, A4, A5, A6, A7, a1, a2, a3, a4⟩, ⟨B1, B2, B3, B4, B5, B6, B7, c1, c2, c3, c4⟩, kk, ⟨⟨u, hd, k, f, g, l⟩, sh, ⟨t, i, co, d⟩⟩, rG, n, T, tn, b, perm, hist, F, L, At, W, C, rd, st, z1, z2, gf, lw, bg, bw, lo⟩ := S
  obtain ⟨hR, hM, hK, hS, hH, hn, htn, hT⟩ := hI
  have hE := sE hS
  have hsh := sSh hS
  have hX := (sX hS).mono (show 999 ≤ 1000 by omega)
  have hO := hS.2.2.2.2
  have hhd := hS.2.1
  obtain ⟨M1, F1, y1, y2, r, h4, h5, hK1, hH1⟩ := op_image (kk := kk) (z1 := z1) (z2 := z2) hS hK.1 hH
  exact ⟨r, _, ⟨R, (A1, A2, A3, A4, A5, A6, A7, a1, a2, a3, a4), M1, 1, ((u, hd, k, f, g, l), sh, (t, i, co, d)), rG, n, T, tn, b, perm, hist, F1, L, At, W, C, rd, st, y1, y2, gf, lw, bg, bw, lo⟩, Ct.post (c_X4_image h4), ⟨_, rfl⟩, Ct.pre (c_X5_image h5), hR, hM, hK1, hS, hH1, hn, htn, hT⟩
set_option maxRecDepth 100000 in
set_option maxHeartbeats 4000000 in
theorem st_restore {lc : Launch} {G : Gx} {a : Ax} {S : Lx} (hI : Inv S) : CI lc G a S yX4_restore cX4_restore 1 1 22 yX5_restore cX5_restore 1 2 44 [] := by
  obtain ⟨R, ⟨A1, A2, A3, A4, A5, A6, A7, a1, a2, a3, a4⟩, ⟨B1, B2, B3, B4, B5, B6, B7, c1, c2, c3, c4⟩, kk, ⟨⟨u, hd, k, f, g, l⟩, sh, ⟨t, i, co, d⟩⟩, rG, n, T, tn, b, perm, hist, F, L, At, W, C, rd, st, z1, z2, gf, lw, bg, bw, lo⟩ := S
  obtain ⟨hR, hM, hK, hS, hH, hn, htn, hT⟩ := hI
  have hE := sE hS
  have hsh := sSh hS
  have hX := (sX hS).mono (show 999 ≤ 1000 by omega)
  have hO := hS.2.2.2.2
  have hhd := hS.2.1
  obtain ⟨R1, S1, b1, y1, y2, r, h4, h5, hS1, hH1, hR1⟩ := op_restore (z1 := z1) (z2 := z2) hS hK hH hR
  exact ⟨r, _, ⟨R1, (A1, A2, A3, A4, A5, A6, A7, a1, a2, a3, a4), (B1, B2, B3, B4, B5, B6, B7, c1, c2, c3, c4), kk, S1, rG, n, T, tn, b1, perm, hist, F, L, At, W, C, rd, st, y1, y2, gf, lw, bg, bw, lo⟩, Ct.post (c_X4_restore h4), ⟨_, rfl⟩, Ct.pre (c_X5_restore h5), hR1, hM, hK, hS1, hH1, hn, htn, hT⟩
set_option maxRecDepth 100000 in
set_option maxHeartbeats 4000000 in
theorem st_count {lc : Launch} {G : Gx} {a : Ax} {S : Lx} (hI : Inv S) (p0 : Int32) : CI lc G a S yX4_count cX4_count 3 2 44 yX5_count cX5_count 2 2 43 [.int p0] := by
  obtain ⟨R, ⟨A1, A2, A3, A4, A5, A6, A7, a1, a2, a3, a4⟩, ⟨B1, B2, B3, B4, B5, B6, B7, c1, c2, c3, c4⟩, kk, ⟨⟨u, hd, k, f, g, l⟩, sh, ⟨t, i, co, d⟩⟩, rG, n, T, tn, b, perm, hist, F, L, At, W, C, rd, st, z1, z2, gf, lw, bg, bw, lo⟩ := S
  obtain ⟨hR, hM, hK, hS, hH, hn, htn, hT⟩ := hI
  have hE := sE hS
  have hsh := sSh hS
  have hX := (sX hS).mono (show 999 ≤ 1000 by omega)
  have hO := hS.2.2.2.2
  have hhd := hS.2.1
  obtain ⟨r, h4, h5⟩ := op_count (co := iI co) (d := iI d) (tl := iI n) (ll := iI tn) (bk := iI b) (p := p0) (xT hX) (oU hE) (xI hX) hsh hO hR
  exact ⟨r, _, ⟨R, (A1, A2, A3, A4, A5, A6, A7, a1, a2, a3, a4), (B1, B2, B3, B4, B5, B6, B7, c1, c2, c3, c4), kk, ((u, hd, k, f, g, l), sh, (t, i, co, d)), rG, n, T, tn, b, perm, hist, F, L, At, W, C, rd, st, z1, z2, gf, lw, bg, bw, lo⟩, Ct.post (c_X4_count h4), ⟨_, rfl⟩, Ct.pre (c_X5_count h5), hR, hM, hK, hS, hH, hn, htn, hT⟩
