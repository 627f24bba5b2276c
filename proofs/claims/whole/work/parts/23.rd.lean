/-! reads and writes of the memory, a row a cell and place -/
section RDW
variable {L : Nat} {xs : Nat → Int32} {M : ip_Mm} {i v : Int32} {w : Int64} {x : Nat}
theorem c2_o : ip_isO (ip_hm L xs M) 2 8 = true := m_isO rfl
theorem c2_g0 : ip_gf (ip_hm L xs M) 8 0 2 = some (.ref (41)) := m_gf (κ := 41 + 3) rfl rfl
theorem c2_g1 : ip_gf (ip_hm L xs M) 8 1 2 = some (.ref (3)) := m_gf (κ := 3 + 3) rfl rfl
theorem c2_g2 : ip_gf (ip_hm L xs M) 8 2 2 = some (.ref (39)) := m_gf (κ := 39 + 3) rfl rfl
theorem c2_g3 : ip_gf (ip_hm L xs M) 8 3 2 = some (.ref (40)) := m_gf (κ := 40 + 3) rfl rfl
theorem c2_g4 : ip_gf (ip_hm L xs M) 8 4 2 = some (.ref (85)) := m_gf (κ := 85 + 3) rfl rfl
theorem c2_g5 : ip_gf (ip_hm L xs M) 8 5 2 = some (.int (M.1 2 5)) := m_gf (κ := 0) rfl rfl
theorem c2_p5 : ip_pf (ip_hm L xs M) 8 5 2 (.int v) = some (ip_hm L xs (uI M 2 5 v)) := m_pfI rfl rfl
theorem c2_g6 : ip_gf (ip_hm L xs M) 8 6 2 = some (.int (M.1 2 6)) := m_gf (κ := 0) rfl rfl
theorem c2_p6 : ip_pf (ip_hm L xs M) 8 6 2 (.int v) = some (ip_hm L xs (uI M 2 6 v)) := m_pfI rfl rfl
theorem c3_o : ip_isO (ip_hm L xs M) 3 0 = true := m_isO rfl
theorem c3_g0 : ip_gf (ip_hm L xs M) 0 0 3 = some (.ref (4)) := m_gf (κ := 4 + 3) rfl rfl
theorem c3_g1 : ip_gf (ip_hm L xs M) 0 1 3 = some (.ref (5)) := m_gf (κ := 5 + 3) rfl rfl
theorem c3_g2 : ip_gf (ip_hm L xs M) 0 2 3 = some (.ref (6)) := m_gf (κ := 6 + 3) rfl rfl
theorem c3_g3 : ip_gf (ip_hm L xs M) 0 3 3 = some (.int (M.1 3 3)) := m_gf (κ := 0) rfl rfl
theorem c3_p3 : ip_pf (ip_hm L xs M) 0 3 3 (.int v) = some (ip_hm L xs (uI M 3 3 v)) := m_pfI rfl rfl
theorem c3_g4 : ip_gf (ip_hm L xs M) 0 4 3 = some (.int (M.1 3 4)) := m_gf (κ := 0) rfl rfl
theorem c3_p4 : ip_pf (ip_hm L xs M) 0 4 3 (.int v) = some (ip_hm L xs (uI M 3 4 v)) := m_pfI rfl rfl
theorem c4_r : ip_aa (ip_hm L xs M) 4 i = if ip_in i 8 = true then ([7, 11, 15, 19, 23, 27, 31, 35] : List Nat)[i.toNatClampNeg]? else none := m_aa (t := 5) (rs := [7, 11, 15, 19, 23, 27, 31, 35]) (by decide) rfl
theorem c5_r : ip_ia (ip_hm L xs M) 5 i = if ip_in i 24 = true then some (M.1 5 i.toNatClampNeg) else none := m_ia rfl
theorem c5_w : ip_is (ip_hm L xs M) 5 i v = if ip_in i 24 = true then some (ip_hm L xs (uI M 5 i.toNatClampNeg v)) else none := m_is rfl
theorem c5_l : ip_len (ip_hm L xs M) 5 = some 24 := m_len1 rfl
theorem c6_r : ip_ia (ip_hm L xs M) 6 i = if ip_in i 16 = true then some (M.1 6 i.toNatClampNeg) else none := m_ia rfl
theorem c6_w : ip_is (ip_hm L xs M) 6 i v = if ip_in i 16 = true then some (ip_hm L xs (uI M 6 i.toNatClampNeg v)) else none := m_is rfl
theorem c6_l : ip_len (ip_hm L xs M) 6 = some 16 := m_len1 rfl
theorem c39_r : ip_ja (ip_hm L xs M) 39 i = if ip_in i 54 = true then some (M.2.1 39 i.toNatClampNeg) else none := m_ja rfl
theorem c39_w : ip_js (ip_hm L xs M) 39 i w = if ip_in i 54 = true then some (ip_hm L xs (uJ M 39 i.toNatClampNeg w)) else none := m_js rfl
theorem c39_l : ip_len (ip_hm L xs M) 39 = some 54 := m_len1 rfl
theorem c40_r : ip_aa (ip_hm L xs M) 40 i = if ip_in i 8 = true then ([88, 109, 130, 151, 172, 193, 214, 235] : List Nat)[i.toNatClampNeg]? else none := m_aa (t := 6) (rs := [88, 109, 130, 151, 172, 193, 214, 235]) (by decide) rfl
theorem c41_o : ip_isO (ip_hm L xs M) 41 7 = true := m_isO rfl
theorem c41_g0 : ip_gf (ip_hm L xs M) 7 0 41 = some (.ref (3)) := m_gf (κ := 3 + 3) rfl rfl
theorem c41_g1 : ip_gf (ip_hm L xs M) 7 1 41 = some (.ref (42)) := m_gf (κ := 42 + 3) rfl rfl
theorem c41_g2 : ip_gf (ip_hm L xs M) 7 2 41 = some (.ref (43)) := m_gf (κ := 43 + 3) rfl rfl
theorem c41_g3 : ip_gf (ip_hm L xs M) 7 3 41 = some (.ref (50)) := m_gf (κ := 50 + 3) rfl rfl
theorem c41_g4 : ip_gf (ip_hm L xs M) 7 4 41 = some (.ref (51)) := m_gf (κ := 51 + 3) rfl rfl
theorem c41_g5 : ip_gf (ip_hm L xs M) 7 5 41 = some (.ref (52)) := m_gf (κ := 52 + 3) rfl rfl
theorem c41_g6 : ip_gf (ip_hm L xs M) 7 6 41 = some (.ref M.2.2) := m_gf (κ := 2) rfl rfl
theorem c41_g7 : ip_gf (ip_hm L xs M) 7 7 41 = some (.int (M.1 41 7)) := m_gf (κ := 0) rfl rfl
theorem c41_p7 : ip_pf (ip_hm L xs M) 7 7 41 (.int v) = some (ip_hm L xs (uI M 41 7 v)) := m_pfI rfl rfl
theorem c41_g8 : ip_gf (ip_hm L xs M) 7 8 41 = some (.long (M.2.1 41 8)) := m_gf (κ := 1) rfl rfl
theorem c41_p8 : ip_pf (ip_hm L xs M) 7 8 41 (.long w) = some (ip_hm L xs (uJ M 41 8 w)) := m_pfJ rfl rfl
theorem c42_r : ip_ja (ip_hm L xs M) 42 i = if ip_in i 66 = true then some (M.2.1 42 i.toNatClampNeg) else none := m_ja rfl
theorem c42_w : ip_js (ip_hm L xs M) 42 i w = if ip_in i 66 = true then some (ip_hm L xs (uJ M 42 i.toNatClampNeg w)) else none := m_js rfl
theorem c42_l : ip_len (ip_hm L xs M) 42 = some 66 := m_len1 rfl
theorem c43_r : ip_aa (ip_hm L xs M) 43 i = if ip_in i 6 = true then ([44, 45, 46, 47, 48, 49] : List Nat)[i.toNatClampNeg]? else none := m_aa (t := 8) (rs := [44, 45, 46, 47, 48, 49]) (by decide) rfl
theorem c50_r : ip_ia (ip_hm L xs M) 50 i = if ip_in i 6 = true then some (M.1 50 i.toNatClampNeg) else none := m_ia rfl
theorem c50_w : ip_is (ip_hm L xs M) 50 i v = if ip_in i 6 = true then some (ip_hm L xs (uI M 50 i.toNatClampNeg v)) else none := m_is rfl
theorem c50_l : ip_len (ip_hm L xs M) 50 = some 6 := m_len1 rfl
theorem c51_r : ip_aa (ip_hm L xs M) 51 i = if ip_in i 6 = true then ([73, 75, 77, 79, 81, 83] : List Nat)[i.toNatClampNeg]? else none := m_aa (t := 4) (rs := [73, 75, 77, 79, 81, 83]) (by decide) rfl
theorem c85_o : ip_isO (ip_hm L xs M) 85 2 = true := m_isO rfl
theorem c85_g0 : ip_gf (ip_hm L xs M) 2 0 85 = some (.ref (86)) := m_gf (κ := 86 + 3) rfl rfl
theorem c85_g1 : ip_gf (ip_hm L xs M) 2 1 85 = some (.ref (87)) := m_gf (κ := 87 + 3) rfl rfl
theorem c85_g2 : ip_gf (ip_hm L xs M) 2 2 85 = some (.int (M.1 85 2)) := m_gf (κ := 0) rfl rfl
theorem c85_p2 : ip_pf (ip_hm L xs M) 2 2 85 (.int v) = some (ip_hm L xs (uI M 85 2 v)) := m_pfI rfl rfl
theorem c86_r : ip_ba (ip_hm L xs M) 86 i = if ip_in i 64 = true then some (M.1 86 i.toNatClampNeg) else none := m_ba (Or.inl rfl) rfl
theorem c86_w : ip_bs (ip_hm L xs M) 86 i v = if ip_in i 64 = true then some (ip_hm L xs (uI M 86 i.toNatClampNeg (vp_nar .byte v))) else none := m_bs (Or.inl rfl) rfl
theorem c86_l : ip_len (ip_hm L xs M) 86 = some 64 := m_len1 rfl
theorem c87_r : ip_ia (ip_hm L xs M) 87 i = if ip_in i 19 = true then some (M.1 87 i.toNatClampNeg) else none := m_ia rfl
theorem c87_w : ip_is (ip_hm L xs M) 87 i v = if ip_in i 19 = true then some (ip_hm L xs (uI M 87 i.toNatClampNeg v)) else none := m_is rfl
theorem c87_l : ip_len (ip_hm L xs M) 87 = some 19 := m_len1 rfl
theorem c256_o : ip_isO (ip_hm L xs M) 256 9 = true := m_isO rfl
theorem c256_g0 : ip_gf (ip_hm L xs M) 9 0 256 = some (.int (M.1 256 0)) := m_gf (κ := 0) rfl rfl
theorem c256_p0 : ip_pf (ip_hm L xs M) 9 0 256 (.int v) = some (ip_hm L xs (uI M 256 0 v)) := m_pfI rfl rfl
theorem c256_g1 : ip_gf (ip_hm L xs M) 9 1 256 = some (.ref (257)) := m_gf (κ := 257 + 3) rfl rfl
theorem c256_g2 : ip_gf (ip_hm L xs M) 9 2 256 = some (.ref (258)) := m_gf (κ := 258 + 3) rfl rfl
theorem c256_g3 : ip_gf (ip_hm L xs M) 9 3 256 = some (.ref (259)) := m_gf (κ := 259 + 3) rfl rfl
theorem c256_g4 : ip_gf (ip_hm L xs M) 9 4 256 = some (.ref (260)) := m_gf (κ := 260 + 3) rfl rfl
theorem c256_g5 : ip_gf (ip_hm L xs M) 9 5 256 = some (.int (M.1 256 5)) := m_gf (κ := 0) rfl rfl
theorem c256_p5 : ip_pf (ip_hm L xs M) 9 5 256 (.int v) = some (ip_hm L xs (uI M 256 5 v)) := m_pfI rfl rfl
theorem c256_g6 : ip_gf (ip_hm L xs M) 9 6 256 = some (.ref (261)) := m_gf (κ := 261 + 3) rfl rfl
theorem c256_g7 : ip_gf (ip_hm L xs M) 9 7 256 = some (.ref (262)) := m_gf (κ := 262 + 3) rfl rfl
theorem c256_g8 : ip_gf (ip_hm L xs M) 9 8 256 = some (.ref (263)) := m_gf (κ := 263 + 3) rfl rfl
theorem c256_g9 : ip_gf (ip_hm L xs M) 9 9 256 = some (.ref (264)) := m_gf (κ := 264 + 3) rfl rfl
theorem c256_g10 : ip_gf (ip_hm L xs M) 9 10 256 = some (.int (M.1 256 10)) := m_gf (κ := 0) rfl rfl
theorem c256_p10 : ip_pf (ip_hm L xs M) 9 10 256 (.int v) = some (ip_hm L xs (uI M 256 10 v)) := m_pfI rfl rfl
theorem c256_g11 : ip_gf (ip_hm L xs M) 9 11 256 = some (.int (M.1 256 11)) := m_gf (κ := 0) rfl rfl
theorem c256_p11 : ip_pf (ip_hm L xs M) 9 11 256 (.int v) = some (ip_hm L xs (uI M 256 11 v)) := m_pfI rfl rfl
theorem c256_g12 : ip_gf (ip_hm L xs M) 9 12 256 = some (.ref (265)) := m_gf (κ := 265 + 3) rfl rfl
theorem c256_g13 : ip_gf (ip_hm L xs M) 9 13 256 = some (.ref (266)) := m_gf (κ := 266 + 3) rfl rfl
theorem c256_g14 : ip_gf (ip_hm L xs M) 9 14 256 = some (.ref (267)) := m_gf (κ := 267 + 3) rfl rfl
theorem c256_g15 : ip_gf (ip_hm L xs M) 9 15 256 = some (.ref (268)) := m_gf (κ := 268 + 3) rfl rfl
theorem c256_g16 : ip_gf (ip_hm L xs M) 9 16 256 = some (.ref (269)) := m_gf (κ := 269 + 3) rfl rfl
theorem c256_g17 : ip_gf (ip_hm L xs M) 9 17 256 = some (.ref (270)) := m_gf (κ := 270 + 3) rfl rfl
theorem c256_g18 : ip_gf (ip_hm L xs M) 9 18 256 = some (.ref (271)) := m_gf (κ := 271 + 3) rfl rfl
theorem c256_g19 : ip_gf (ip_hm L xs M) 9 19 256 = some (.ref (272)) := m_gf (κ := 272 + 3) rfl rfl
theorem c256_g20 : ip_gf (ip_hm L xs M) 9 20 256 = some (.ref (273)) := m_gf (κ := 273 + 3) rfl rfl
theorem c256_g21 : ip_gf (ip_hm L xs M) 9 21 256 = some (.ref (274)) := m_gf (κ := 274 + 3) rfl rfl
theorem c256_g22 : ip_gf (ip_hm L xs M) 9 22 256 = some (.ref (275)) := m_gf (κ := 275 + 3) rfl rfl
theorem c256_g23 : ip_gf (ip_hm L xs M) 9 23 256 = some (.ref (276)) := m_gf (κ := 276 + 3) rfl rfl
theorem c256_g24 : ip_gf (ip_hm L xs M) 9 24 256 = some (.ref (277)) := m_gf (κ := 277 + 3) rfl rfl
theorem c256_g25 : ip_gf (ip_hm L xs M) 9 25 256 = some (.ref (278)) := m_gf (κ := 278 + 3) rfl rfl
theorem c256_g26 : ip_gf (ip_hm L xs M) 9 26 256 = some (.ref (279)) := m_gf (κ := 279 + 3) rfl rfl
theorem c256_g27 : ip_gf (ip_hm L xs M) 9 27 256 = some (.ref (280)) := m_gf (κ := 280 + 3) rfl rfl
theorem c256_g28 : ip_gf (ip_hm L xs M) 9 28 256 = some (.ref (281)) := m_gf (κ := 281 + 3) rfl rfl
theorem c256_g29 : ip_gf (ip_hm L xs M) 9 29 256 = some (.ref (282)) := m_gf (κ := 282 + 3) rfl rfl
theorem c256_g30 : ip_gf (ip_hm L xs M) 9 30 256 = some (.ref (283)) := m_gf (κ := 283 + 3) rfl rfl
theorem c256_g31 : ip_gf (ip_hm L xs M) 9 31 256 = some (.ref (284)) := m_gf (κ := 284 + 3) rfl rfl
theorem c256_g32 : ip_gf (ip_hm L xs M) 9 32 256 = some (.ref (285)) := m_gf (κ := 285 + 3) rfl rfl
theorem c256_g33 : ip_gf (ip_hm L xs M) 9 33 256 = some (.ref (286)) := m_gf (κ := 286 + 3) rfl rfl
theorem c256_g34 : ip_gf (ip_hm L xs M) 9 34 256 = some (.ref (287)) := m_gf (κ := 287 + 3) rfl rfl
theorem c256_g35 : ip_gf (ip_hm L xs M) 9 35 256 = some (.ref (288)) := m_gf (κ := 288 + 3) rfl rfl
theorem c256_g36 : ip_gf (ip_hm L xs M) 9 36 256 = some (.ref (289)) := m_gf (κ := 289 + 3) rfl rfl
theorem c256_g37 : ip_gf (ip_hm L xs M) 9 37 256 = some (.ref (290)) := m_gf (κ := 290 + 3) rfl rfl
theorem c256_g38 : ip_gf (ip_hm L xs M) 9 38 256 = some (.int (M.1 256 38)) := m_gf (κ := 0) rfl rfl
theorem c256_p38 : ip_pf (ip_hm L xs M) 9 38 256 (.int v) = some (ip_hm L xs (uI M 256 38 v)) := m_pfI rfl rfl
theorem c256_g39 : ip_gf (ip_hm L xs M) 9 39 256 = some (.int (M.1 256 39)) := m_gf (κ := 0) rfl rfl
theorem c256_p39 : ip_pf (ip_hm L xs M) 9 39 256 (.int v) = some (ip_hm L xs (uI M 256 39 v)) := m_pfI rfl rfl
theorem c256_g40 : ip_gf (ip_hm L xs M) 9 40 256 = some (.int (M.1 256 40)) := m_gf (κ := 0) rfl rfl
theorem c256_p40 : ip_pf (ip_hm L xs M) 9 40 256 (.int v) = some (ip_hm L xs (uI M 256 40 v)) := m_pfI rfl rfl
theorem c256_g41 : ip_gf (ip_hm L xs M) 9 41 256 = some (.int (M.1 256 41)) := m_gf (κ := 0) rfl rfl
theorem c256_p41 : ip_pf (ip_hm L xs M) 9 41 256 (.int v) = some (ip_hm L xs (uI M 256 41 v)) := m_pfI rfl rfl
theorem c256_g42 : ip_gf (ip_hm L xs M) 9 42 256 = some (.int (M.1 256 42)) := m_gf (κ := 0) rfl rfl
theorem c256_p42 : ip_pf (ip_hm L xs M) 9 42 256 (.int v) = some (ip_hm L xs (uI M 256 42 v)) := m_pfI rfl rfl
theorem c256_g43 : ip_gf (ip_hm L xs M) 9 43 256 = some (.int (M.1 256 43)) := m_gf (κ := 0) rfl rfl
theorem c256_p43 : ip_pf (ip_hm L xs M) 9 43 256 (.int v) = some (ip_hm L xs (uI M 256 43 v)) := m_pfI rfl rfl
theorem c256_g44 : ip_gf (ip_hm L xs M) 9 44 256 = some (.int (M.1 256 44)) := m_gf (κ := 0) rfl rfl
theorem c256_p44 : ip_pf (ip_hm L xs M) 9 44 256 (.int v) = some (ip_hm L xs (uI M 256 44 v)) := m_pfI rfl rfl
theorem c256_g45 : ip_gf (ip_hm L xs M) 9 45 256 = some (.int (M.1 256 45)) := m_gf (κ := 0) rfl rfl
theorem c256_p45 : ip_pf (ip_hm L xs M) 9 45 256 (.int v) = some (ip_hm L xs (uI M 256 45 v)) := m_pfI rfl rfl
theorem c256_g46 : ip_gf (ip_hm L xs M) 9 46 256 = some (.long (M.2.1 256 46)) := m_gf (κ := 1) rfl rfl
theorem c256_p46 : ip_pf (ip_hm L xs M) 9 46 256 (.long w) = some (ip_hm L xs (uJ M 256 46 w)) := m_pfJ rfl rfl
theorem c256_g47 : ip_gf (ip_hm L xs M) 9 47 256 = some (.long (M.2.1 256 47)) := m_gf (κ := 1) rfl rfl
theorem c256_p47 : ip_pf (ip_hm L xs M) 9 47 256 (.long w) = some (ip_hm L xs (uJ M 256 47 w)) := m_pfJ rfl rfl
theorem c256_g48 : ip_gf (ip_hm L xs M) 9 48 256 = some (.int (M.1 256 48)) := m_gf (κ := 0) rfl rfl
theorem c256_p48 : ip_pf (ip_hm L xs M) 9 48 256 (.int v) = some (ip_hm L xs (uI M 256 48 v)) := m_pfI rfl rfl
theorem c256_g49 : ip_gf (ip_hm L xs M) 9 49 256 = some (.int (M.1 256 49)) := m_gf (κ := 0) rfl rfl
theorem c256_p49 : ip_pf (ip_hm L xs M) 9 49 256 (.int v) = some (ip_hm L xs (uI M 256 49 v)) := m_pfI rfl rfl
theorem c256_g50 : ip_gf (ip_hm L xs M) 9 50 256 = some (.int (M.1 256 50)) := m_gf (κ := 0) rfl rfl
theorem c256_p50 : ip_pf (ip_hm L xs M) 9 50 256 (.int v) = some (ip_hm L xs (uI M 256 50 v)) := m_pfI rfl rfl
theorem c256_g51 : ip_gf (ip_hm L xs M) 9 51 256 = some (.ref (291)) := m_gf (κ := 291 + 3) rfl rfl
theorem c256_g52 : ip_gf (ip_hm L xs M) 9 52 256 = some (.ref (292)) := m_gf (κ := 292 + 3) rfl rfl
theorem c256_g53 : ip_gf (ip_hm L xs M) 9 53 256 = some (.ref (293)) := m_gf (κ := 293 + 3) rfl rfl
theorem c256_g54 : ip_gf (ip_hm L xs M) 9 54 256 = some (.ref (294)) := m_gf (κ := 294 + 3) rfl rfl
theorem c256_g55 : ip_gf (ip_hm L xs M) 9 55 256 = some (.ref (295)) := m_gf (κ := 295 + 3) rfl rfl
theorem c256_g56 : ip_gf (ip_hm L xs M) 9 56 256 = some (.ref (296)) := m_gf (κ := 296 + 3) rfl rfl
theorem c256_g57 : ip_gf (ip_hm L xs M) 9 57 256 = some (.ref (297)) := m_gf (κ := 297 + 3) rfl rfl
theorem c256_g58 : ip_gf (ip_hm L xs M) 9 58 256 = some (.ref (298)) := m_gf (κ := 298 + 3) rfl rfl
theorem c256_g59 : ip_gf (ip_hm L xs M) 9 59 256 = some (.ref (299)) := m_gf (κ := 299 + 3) rfl rfl
theorem c256_g60 : ip_gf (ip_hm L xs M) 9 60 256 = some (.ref (300)) := m_gf (κ := 300 + 3) rfl rfl
theorem c256_g61 : ip_gf (ip_hm L xs M) 9 61 256 = some (.ref (301)) := m_gf (κ := 301 + 3) rfl rfl
theorem c256_g62 : ip_gf (ip_hm L xs M) 9 62 256 = some (.ref (302)) := m_gf (κ := 302 + 3) rfl rfl
theorem c256_g63 : ip_gf (ip_hm L xs M) 9 63 256 = some (.ref (303)) := m_gf (κ := 303 + 3) rfl rfl
theorem c256_g64 : ip_gf (ip_hm L xs M) 9 64 256 = some (.ref (304)) := m_gf (κ := 304 + 3) rfl rfl
theorem c256_g65 : ip_gf (ip_hm L xs M) 9 65 256 = some (.ref (305)) := m_gf (κ := 305 + 3) rfl rfl
theorem c256_g66 : ip_gf (ip_hm L xs M) 9 66 256 = some (.ref (306)) := m_gf (κ := 306 + 3) rfl rfl
theorem c256_g67 : ip_gf (ip_hm L xs M) 9 67 256 = some (.int (M.1 256 67)) := m_gf (κ := 0) rfl rfl
theorem c256_p67 : ip_pf (ip_hm L xs M) 9 67 256 (.int v) = some (ip_hm L xs (uI M 256 67 v)) := m_pfI rfl rfl
theorem c256_g68 : ip_gf (ip_hm L xs M) 9 68 256 = some (.ref (307)) := m_gf (κ := 307 + 3) rfl rfl
theorem c256_g69 : ip_gf (ip_hm L xs M) 9 69 256 = some (.ref (308)) := m_gf (κ := 308 + 3) rfl rfl
theorem c257_r : ip_ia (ip_hm L xs M) 257 i = if ip_in i 8 = true then some (M.1 257 i.toNatClampNeg) else none := m_ia rfl
theorem c257_w : ip_is (ip_hm L xs M) 257 i v = if ip_in i 8 = true then some (ip_hm L xs (uI M 257 i.toNatClampNeg v)) else none := m_is rfl
theorem c257_l : ip_len (ip_hm L xs M) 257 = some 8 := m_len1 rfl
theorem c258_r : ip_ia (ip_hm L xs M) 258 i = if ip_in i 160 = true then some (M.1 258 i.toNatClampNeg) else none := m_ia rfl
theorem c258_w : ip_is (ip_hm L xs M) 258 i v = if ip_in i 160 = true then some (ip_hm L xs (uI M 258 i.toNatClampNeg v)) else none := m_is rfl
theorem c258_l : ip_len (ip_hm L xs M) 258 = some 160 := m_len1 rfl
theorem c259_r : ip_ja (ip_hm L xs M) 259 i = if ip_in i 160 = true then some (M.2.1 259 i.toNatClampNeg) else none := m_ja rfl
theorem c259_w : ip_js (ip_hm L xs M) 259 i w = if ip_in i 160 = true then some (ip_hm L xs (uJ M 259 i.toNatClampNeg w)) else none := m_js rfl
theorem c259_l : ip_len (ip_hm L xs M) 259 = some 160 := m_len1 rfl
theorem c260_r : ip_ia (ip_hm L xs M) 260 i = if ip_in i 160 = true then some (M.1 260 i.toNatClampNeg) else none := m_ia rfl
theorem c260_w : ip_is (ip_hm L xs M) 260 i v = if ip_in i 160 = true then some (ip_hm L xs (uI M 260 i.toNatClampNeg v)) else none := m_is rfl
theorem c260_l : ip_len (ip_hm L xs M) 260 = some 160 := m_len1 rfl
theorem c261_r : ip_ia (ip_hm L xs M) 261 i = if ip_in i 24 = true then some (M.1 261 i.toNatClampNeg) else none := m_ia rfl
theorem c261_w : ip_is (ip_hm L xs M) 261 i v = if ip_in i 24 = true then some (ip_hm L xs (uI M 261 i.toNatClampNeg v)) else none := m_is rfl
theorem c261_l : ip_len (ip_hm L xs M) 261 = some 24 := m_len1 rfl
theorem c262_r : ip_ia (ip_hm L xs M) 262 i = if ip_in i 16 = true then some (M.1 262 i.toNatClampNeg) else none := m_ia rfl
theorem c262_w : ip_is (ip_hm L xs M) 262 i v = if ip_in i 16 = true then some (ip_hm L xs (uI M 262 i.toNatClampNeg v)) else none := m_is rfl
theorem c262_l : ip_len (ip_hm L xs M) 262 = some 16 := m_len1 rfl
theorem c263_r : ip_ja (ip_hm L xs M) 263 i = if ip_in i 48 = true then some (M.2.1 263 i.toNatClampNeg) else none := m_ja rfl
theorem c263_w : ip_js (ip_hm L xs M) 263 i w = if ip_in i 48 = true then some (ip_hm L xs (uJ M 263 i.toNatClampNeg w)) else none := m_js rfl
theorem c263_l : ip_len (ip_hm L xs M) 263 = some 48 := m_len1 rfl
theorem c264_r : ip_ja (ip_hm L xs M) 264 i = if ip_in i 6 = true then some (M.2.1 264 i.toNatClampNeg) else none := m_ja rfl
theorem c264_w : ip_js (ip_hm L xs M) 264 i w = if ip_in i 6 = true then some (ip_hm L xs (uJ M 264 i.toNatClampNeg w)) else none := m_js rfl
theorem c264_l : ip_len (ip_hm L xs M) 264 = some 6 := m_len1 rfl
theorem c265_r : ip_ia (ip_hm L xs M) 265 i = if ip_in i 8 = true then some (M.1 265 i.toNatClampNeg) else none := m_ia rfl
theorem c265_w : ip_is (ip_hm L xs M) 265 i v = if ip_in i 8 = true then some (ip_hm L xs (uI M 265 i.toNatClampNeg v)) else none := m_is rfl
theorem c265_l : ip_len (ip_hm L xs M) 265 = some 8 := m_len1 rfl
theorem c266_r : ip_ia (ip_hm L xs M) 266 i = if ip_in i 8 = true then some (M.1 266 i.toNatClampNeg) else none := m_ia rfl
theorem c266_w : ip_is (ip_hm L xs M) 266 i v = if ip_in i 8 = true then some (ip_hm L xs (uI M 266 i.toNatClampNeg v)) else none := m_is rfl
theorem c266_l : ip_len (ip_hm L xs M) 266 = some 8 := m_len1 rfl
theorem c267_r : ip_ja (ip_hm L xs M) 267 i = if ip_in i 8 = true then some (M.2.1 267 i.toNatClampNeg) else none := m_ja rfl
theorem c267_w : ip_js (ip_hm L xs M) 267 i w = if ip_in i 8 = true then some (ip_hm L xs (uJ M 267 i.toNatClampNeg w)) else none := m_js rfl
theorem c267_l : ip_len (ip_hm L xs M) 267 = some 8 := m_len1 rfl
theorem c268_r : ip_ia (ip_hm L xs M) 268 i = if ip_in i 8 = true then some (M.1 268 i.toNatClampNeg) else none := m_ia rfl
theorem c268_w : ip_is (ip_hm L xs M) 268 i v = if ip_in i 8 = true then some (ip_hm L xs (uI M 268 i.toNatClampNeg v)) else none := m_is rfl
theorem c268_l : ip_len (ip_hm L xs M) 268 = some 8 := m_len1 rfl
theorem c269_r : ip_ja (ip_hm L xs M) 269 i = if ip_in i 384 = true then some (M.2.1 269 i.toNatClampNeg) else none := m_ja rfl
theorem c269_w : ip_js (ip_hm L xs M) 269 i w = if ip_in i 384 = true then some (ip_hm L xs (uJ M 269 i.toNatClampNeg w)) else none := m_js rfl
theorem c269_l : ip_len (ip_hm L xs M) 269 = some 384 := m_len1 rfl
theorem c270_r : ip_ja (ip_hm L xs M) 270 i = if ip_in i 48 = true then some (M.2.1 270 i.toNatClampNeg) else none := m_ja rfl
theorem c270_w : ip_js (ip_hm L xs M) 270 i w = if ip_in i 48 = true then some (ip_hm L xs (uJ M 270 i.toNatClampNeg w)) else none := m_js rfl
theorem c270_l : ip_len (ip_hm L xs M) 270 = some 48 := m_len1 rfl
theorem c271_r : ip_ia (ip_hm L xs M) 271 i = if ip_in i 8 = true then some (M.1 271 i.toNatClampNeg) else none := m_ia rfl
theorem c271_w : ip_is (ip_hm L xs M) 271 i v = if ip_in i 8 = true then some (ip_hm L xs (uI M 271 i.toNatClampNeg v)) else none := m_is rfl
theorem c271_l : ip_len (ip_hm L xs M) 271 = some 8 := m_len1 rfl
theorem c272_r : ip_ia (ip_hm L xs M) 272 i = if ip_in i 8 = true then some (M.1 272 i.toNatClampNeg) else none := m_ia rfl
theorem c272_w : ip_is (ip_hm L xs M) 272 i v = if ip_in i 8 = true then some (ip_hm L xs (uI M 272 i.toNatClampNeg v)) else none := m_is rfl
theorem c272_l : ip_len (ip_hm L xs M) 272 = some 8 := m_len1 rfl
theorem c273_r : ip_ia (ip_hm L xs M) 273 i = if ip_in i 8 = true then some (M.1 273 i.toNatClampNeg) else none := m_ia rfl
theorem c273_w : ip_is (ip_hm L xs M) 273 i v = if ip_in i 8 = true then some (ip_hm L xs (uI M 273 i.toNatClampNeg v)) else none := m_is rfl
theorem c273_l : ip_len (ip_hm L xs M) 273 = some 8 := m_len1 rfl
theorem c274_r : ip_ja (ip_hm L xs M) 274 i = if ip_in i 8 = true then some (M.2.1 274 i.toNatClampNeg) else none := m_ja rfl
theorem c274_w : ip_js (ip_hm L xs M) 274 i w = if ip_in i 8 = true then some (ip_hm L xs (uJ M 274 i.toNatClampNeg w)) else none := m_js rfl
theorem c274_l : ip_len (ip_hm L xs M) 274 = some 8 := m_len1 rfl
theorem c275_r : ip_ia (ip_hm L xs M) 275 i = if ip_in i 8 = true then some (M.1 275 i.toNatClampNeg) else none := m_ia rfl
theorem c275_w : ip_is (ip_hm L xs M) 275 i v = if ip_in i 8 = true then some (ip_hm L xs (uI M 275 i.toNatClampNeg v)) else none := m_is rfl
theorem c275_l : ip_len (ip_hm L xs M) 275 = some 8 := m_len1 rfl
theorem c276_r : ip_ia (ip_hm L xs M) 276 i = if ip_in i 8 = true then some (M.1 276 i.toNatClampNeg) else none := m_ia rfl
theorem c276_w : ip_is (ip_hm L xs M) 276 i v = if ip_in i 8 = true then some (ip_hm L xs (uI M 276 i.toNatClampNeg v)) else none := m_is rfl
theorem c276_l : ip_len (ip_hm L xs M) 276 = some 8 := m_len1 rfl
theorem c277_r : ip_ia (ip_hm L xs M) 277 i = if ip_in i 5600 = true then some (M.1 277 i.toNatClampNeg) else none := m_ia rfl
theorem c277_w : ip_is (ip_hm L xs M) 277 i v = if ip_in i 5600 = true then some (ip_hm L xs (uI M 277 i.toNatClampNeg v)) else none := m_is rfl
theorem c277_l : ip_len (ip_hm L xs M) 277 = some 5600 := m_len1 rfl
theorem c278_r : ip_ja (ip_hm L xs M) 278 i = if ip_in i 800 = true then some (M.2.1 278 i.toNatClampNeg) else none := m_ja rfl
theorem c278_w : ip_js (ip_hm L xs M) 278 i w = if ip_in i 800 = true then some (ip_hm L xs (uJ M 278 i.toNatClampNeg w)) else none := m_js rfl
theorem c278_l : ip_len (ip_hm L xs M) 278 = some 800 := m_len1 rfl
theorem c279_r : ip_ia (ip_hm L xs M) 279 i = if ip_in i 800 = true then some (M.1 279 i.toNatClampNeg) else none := m_ia rfl
theorem c279_w : ip_is (ip_hm L xs M) 279 i v = if ip_in i 800 = true then some (ip_hm L xs (uI M 279 i.toNatClampNeg v)) else none := m_is rfl
theorem c279_l : ip_len (ip_hm L xs M) 279 = some 800 := m_len1 rfl
theorem c280_r : ip_ia (ip_hm L xs M) 280 i = if ip_in i 808 = true then some (M.1 280 i.toNatClampNeg) else none := m_ia rfl
theorem c280_w : ip_is (ip_hm L xs M) 280 i v = if ip_in i 808 = true then some (ip_hm L xs (uI M 280 i.toNatClampNeg v)) else none := m_is rfl
theorem c280_l : ip_len (ip_hm L xs M) 280 = some 808 := m_len1 rfl
theorem c281_r : ip_ia (ip_hm L xs M) 281 i = if ip_in i 808 = true then some (M.1 281 i.toNatClampNeg) else none := m_ia rfl
theorem c281_w : ip_is (ip_hm L xs M) 281 i v = if ip_in i 808 = true then some (ip_hm L xs (uI M 281 i.toNatClampNeg v)) else none := m_is rfl
theorem c281_l : ip_len (ip_hm L xs M) 281 = some 808 := m_len1 rfl
theorem c282_r : ip_ia (ip_hm L xs M) 282 i = if ip_in i 808 = true then some (M.1 282 i.toNatClampNeg) else none := m_ia rfl
theorem c282_w : ip_is (ip_hm L xs M) 282 i v = if ip_in i 808 = true then some (ip_hm L xs (uI M 282 i.toNatClampNeg v)) else none := m_is rfl
theorem c282_l : ip_len (ip_hm L xs M) 282 = some 808 := m_len1 rfl
theorem c283_r : ip_ia (ip_hm L xs M) 283 i = if ip_in i 8 = true then some (M.1 283 i.toNatClampNeg) else none := m_ia rfl
theorem c283_w : ip_is (ip_hm L xs M) 283 i v = if ip_in i 8 = true then some (ip_hm L xs (uI M 283 i.toNatClampNeg v)) else none := m_is rfl
theorem c283_l : ip_len (ip_hm L xs M) 283 = some 8 := m_len1 rfl
theorem c284_r : ip_ia (ip_hm L xs M) 284 i = if ip_in i 1536 = true then some (M.1 284 i.toNatClampNeg) else none := m_ia rfl
theorem c284_w : ip_is (ip_hm L xs M) 284 i v = if ip_in i 1536 = true then some (ip_hm L xs (uI M 284 i.toNatClampNeg v)) else none := m_is rfl
theorem c284_l : ip_len (ip_hm L xs M) 284 = some 1536 := m_len1 rfl
theorem c285_r : ip_ia (ip_hm L xs M) 285 i = if ip_in i 8 = true then some (M.1 285 i.toNatClampNeg) else none := m_ia rfl
theorem c285_w : ip_is (ip_hm L xs M) 285 i v = if ip_in i 8 = true then some (ip_hm L xs (uI M 285 i.toNatClampNeg v)) else none := m_is rfl
theorem c285_l : ip_len (ip_hm L xs M) 285 = some 8 := m_len1 rfl
theorem c286_r : ip_ia (ip_hm L xs M) 286 i = if ip_in i 320 = true then some (M.1 286 i.toNatClampNeg) else none := m_ia rfl
theorem c286_w : ip_is (ip_hm L xs M) 286 i v = if ip_in i 320 = true then some (ip_hm L xs (uI M 286 i.toNatClampNeg v)) else none := m_is rfl
theorem c286_l : ip_len (ip_hm L xs M) 286 = some 320 := m_len1 rfl
theorem c287_r : ip_ja (ip_hm L xs M) 287 i = if ip_in i 320 = true then some (M.2.1 287 i.toNatClampNeg) else none := m_ja rfl
theorem c287_w : ip_js (ip_hm L xs M) 287 i w = if ip_in i 320 = true then some (ip_hm L xs (uJ M 287 i.toNatClampNeg w)) else none := m_js rfl
theorem c287_l : ip_len (ip_hm L xs M) 287 = some 320 := m_len1 rfl
theorem c288_r : ip_ja (ip_hm L xs M) 288 i = if ip_in i 320 = true then some (M.2.1 288 i.toNatClampNeg) else none := m_ja rfl
theorem c288_w : ip_js (ip_hm L xs M) 288 i w = if ip_in i 320 = true then some (ip_hm L xs (uJ M 288 i.toNatClampNeg w)) else none := m_js rfl
theorem c288_l : ip_len (ip_hm L xs M) 288 = some 320 := m_len1 rfl
theorem c289_r : ip_ja (ip_hm L xs M) 289 i = if ip_in i 48 = true then some (M.2.1 289 i.toNatClampNeg) else none := m_ja rfl
theorem c289_w : ip_js (ip_hm L xs M) 289 i w = if ip_in i 48 = true then some (ip_hm L xs (uJ M 289 i.toNatClampNeg w)) else none := m_js rfl
theorem c289_l : ip_len (ip_hm L xs M) 289 = some 48 := m_len1 rfl
theorem c290_r : ip_ja (ip_hm L xs M) 290 i = if ip_in i 48 = true then some (M.2.1 290 i.toNatClampNeg) else none := m_ja rfl
theorem c290_w : ip_js (ip_hm L xs M) 290 i w = if ip_in i 48 = true then some (ip_hm L xs (uJ M 290 i.toNatClampNeg w)) else none := m_js rfl
theorem c290_l : ip_len (ip_hm L xs M) 290 = some 48 := m_len1 rfl
theorem c291_r : ip_ia (ip_hm L xs M) 291 i = if ip_in i 7 = true then some (M.1 291 i.toNatClampNeg) else none := m_ia rfl
theorem c291_w : ip_is (ip_hm L xs M) 291 i v = if ip_in i 7 = true then some (ip_hm L xs (uI M 291 i.toNatClampNeg v)) else none := m_is rfl
theorem c291_l : ip_len (ip_hm L xs M) 291 = some 7 := m_len1 rfl
theorem c292_r : ip_ia (ip_hm L xs M) 292 i = if ip_in i 7 = true then some (M.1 292 i.toNatClampNeg) else none := m_ia rfl
theorem c292_w : ip_is (ip_hm L xs M) 292 i v = if ip_in i 7 = true then some (ip_hm L xs (uI M 292 i.toNatClampNeg v)) else none := m_is rfl
theorem c292_l : ip_len (ip_hm L xs M) 292 = some 7 := m_len1 rfl
theorem c293_r : ip_ia (ip_hm L xs M) 293 i = if ip_in i 7 = true then some (M.1 293 i.toNatClampNeg) else none := m_ia rfl
theorem c293_w : ip_is (ip_hm L xs M) 293 i v = if ip_in i 7 = true then some (ip_hm L xs (uI M 293 i.toNatClampNeg v)) else none := m_is rfl
theorem c293_l : ip_len (ip_hm L xs M) 293 = some 7 := m_len1 rfl
theorem c294_r : ip_ia (ip_hm L xs M) 294 i = if ip_in i 7 = true then some (M.1 294 i.toNatClampNeg) else none := m_ia rfl
theorem c294_w : ip_is (ip_hm L xs M) 294 i v = if ip_in i 7 = true then some (ip_hm L xs (uI M 294 i.toNatClampNeg v)) else none := m_is rfl
theorem c294_l : ip_len (ip_hm L xs M) 294 = some 7 := m_len1 rfl
theorem c295_r : ip_ja (ip_hm L xs M) 295 i = if ip_in i 7 = true then some (M.2.1 295 i.toNatClampNeg) else none := m_ja rfl
theorem c295_w : ip_js (ip_hm L xs M) 295 i w = if ip_in i 7 = true then some (ip_hm L xs (uJ M 295 i.toNatClampNeg w)) else none := m_js rfl
theorem c295_l : ip_len (ip_hm L xs M) 295 = some 7 := m_len1 rfl
theorem c296_r : ip_ia (ip_hm L xs M) 296 i = if ip_in i 7 = true then some (M.1 296 i.toNatClampNeg) else none := m_ia rfl
theorem c296_w : ip_is (ip_hm L xs M) 296 i v = if ip_in i 7 = true then some (ip_hm L xs (uI M 296 i.toNatClampNeg v)) else none := m_is rfl
theorem c296_l : ip_len (ip_hm L xs M) 296 = some 7 := m_len1 rfl
theorem c297_r : ip_ba (ip_hm L xs M) 297 i = if ip_in i 7 = true then some (M.1 297 i.toNatClampNeg) else none := m_ba (Or.inr rfl) rfl
theorem c297_w : ip_bs (ip_hm L xs M) 297 i v = if ip_in i 7 = true then some (ip_hm L xs (uI M 297 i.toNatClampNeg (vp_nar .boolean v))) else none := m_bs (Or.inr rfl) rfl
theorem c297_l : ip_len (ip_hm L xs M) 297 = some 7 := m_len1 rfl
theorem c298_r : ip_ia (ip_hm L xs M) 298 i = if ip_in i 7 = true then some (M.1 298 i.toNatClampNeg) else none := m_ia rfl
theorem c298_w : ip_is (ip_hm L xs M) 298 i v = if ip_in i 7 = true then some (ip_hm L xs (uI M 298 i.toNatClampNeg v)) else none := m_is rfl
theorem c298_l : ip_len (ip_hm L xs M) 298 = some 7 := m_len1 rfl
theorem c299_r : ip_ja (ip_hm L xs M) 299 i = if ip_in i 84 = true then some (M.2.1 299 i.toNatClampNeg) else none := m_ja rfl
theorem c299_w : ip_js (ip_hm L xs M) 299 i w = if ip_in i 84 = true then some (ip_hm L xs (uJ M 299 i.toNatClampNeg w)) else none := m_js rfl
theorem c299_l : ip_len (ip_hm L xs M) 299 = some 84 := m_len1 rfl
theorem c300_r : ip_ja (ip_hm L xs M) 300 i = if ip_in i 336 = true then some (M.2.1 300 i.toNatClampNeg) else none := m_ja rfl
theorem c300_w : ip_js (ip_hm L xs M) 300 i w = if ip_in i 336 = true then some (ip_hm L xs (uJ M 300 i.toNatClampNeg w)) else none := m_js rfl
theorem c300_l : ip_len (ip_hm L xs M) 300 = some 336 := m_len1 rfl
theorem c301_r : ip_ja (ip_hm L xs M) 301 i = if ip_in i 42 = true then some (M.2.1 301 i.toNatClampNeg) else none := m_ja rfl
theorem c301_w : ip_js (ip_hm L xs M) 301 i w = if ip_in i 42 = true then some (ip_hm L xs (uJ M 301 i.toNatClampNeg w)) else none := m_js rfl
theorem c301_l : ip_len (ip_hm L xs M) 301 = some 42 := m_len1 rfl
theorem c302_r : ip_ja (ip_hm L xs M) 302 i = if ip_in i 42 = true then some (M.2.1 302 i.toNatClampNeg) else none := m_ja rfl
theorem c302_w : ip_js (ip_hm L xs M) 302 i w = if ip_in i 42 = true then some (ip_hm L xs (uJ M 302 i.toNatClampNeg w)) else none := m_js rfl
theorem c302_l : ip_len (ip_hm L xs M) 302 = some 42 := m_len1 rfl
theorem c303_r : ip_ja (ip_hm L xs M) 303 i = if ip_in i 42 = true then some (M.2.1 303 i.toNatClampNeg) else none := m_ja rfl
theorem c303_w : ip_js (ip_hm L xs M) 303 i w = if ip_in i 42 = true then some (ip_hm L xs (uJ M 303 i.toNatClampNeg w)) else none := m_js rfl
theorem c303_l : ip_len (ip_hm L xs M) 303 = some 42 := m_len1 rfl
theorem c304_r : ip_ia (ip_hm L xs M) 304 i = if ip_in i 7 = true then some (M.1 304 i.toNatClampNeg) else none := m_ia rfl
theorem c304_w : ip_is (ip_hm L xs M) 304 i v = if ip_in i 7 = true then some (ip_hm L xs (uI M 304 i.toNatClampNeg v)) else none := m_is rfl
theorem c304_l : ip_len (ip_hm L xs M) 304 = some 7 := m_len1 rfl
theorem c305_r : ip_ja (ip_hm L xs M) 305 i = if ip_in i 48 = true then some (M.2.1 305 i.toNatClampNeg) else none := m_ja rfl
theorem c305_w : ip_js (ip_hm L xs M) 305 i w = if ip_in i 48 = true then some (ip_hm L xs (uJ M 305 i.toNatClampNeg w)) else none := m_js rfl
theorem c305_l : ip_len (ip_hm L xs M) 305 = some 48 := m_len1 rfl
theorem c306_r : ip_ja (ip_hm L xs M) 306 i = if ip_in i 6 = true then some (M.2.1 306 i.toNatClampNeg) else none := m_ja rfl
theorem c306_w : ip_js (ip_hm L xs M) 306 i w = if ip_in i 6 = true then some (ip_hm L xs (uJ M 306 i.toNatClampNeg w)) else none := m_js rfl
theorem c306_l : ip_len (ip_hm L xs M) 306 = some 6 := m_len1 rfl
theorem c307_r : ip_ia (ip_hm L xs M) 307 i = if ip_in i 100 = true then some (M.1 307 i.toNatClampNeg) else none := m_ia rfl
theorem c307_w : ip_is (ip_hm L xs M) 307 i v = if ip_in i 100 = true then some (ip_hm L xs (uI M 307 i.toNatClampNeg v)) else none := m_is rfl
theorem c307_l : ip_len (ip_hm L xs M) 307 = some 100 := m_len1 rfl
theorem c308_r : ip_ia (ip_hm L xs M) 308 i = if ip_in i 20 = true then some (M.1 308 i.toNatClampNeg) else none := m_ia rfl
theorem c308_w : ip_is (ip_hm L xs M) 308 i v = if ip_in i 20 = true then some (ip_hm L xs (uI M 308 i.toNatClampNeg v)) else none := m_is rfl
theorem c308_l : ip_len (ip_hm L xs M) 308 = some 20 := m_len1 rfl
def isPr (a : Nat) : Prop := a = 7 ∨ a = 11 ∨ a = 15 ∨ a = 19 ∨ a = 23 ∨ a = 27 ∨ a = 31 ∨ a = 35
theorem pr_s0 (h : isPr x) : ip_sp x = some (.inr (.inr (3, [x + 1 + 3, x + 2 + 3, x + 3 + 3, 0]))) := by
  rcases h with rfl | rfl | rfl | rfl | rfl | rfl | rfl | rfl <;> rfl
theorem pr_0_o (h : isPr x) : ip_isO (ip_hm L xs M) x 3 = true := m_isO (pr_s0 h)
theorem pr_0_g0 (h : isPr x) : ip_gf (ip_hm L xs M) 3 0 x = some (.ref (x + 1)) := m_gf (κ := x + 1 + 3) (pr_s0 h) rfl
theorem pr_0_g1 (h : isPr x) : ip_gf (ip_hm L xs M) 3 1 x = some (.ref (x + 2)) := m_gf (κ := x + 2 + 3) (pr_s0 h) rfl
theorem pr_0_g2 (h : isPr x) : ip_gf (ip_hm L xs M) 3 2 x = some (.ref (x + 3)) := m_gf (κ := x + 3 + 3) (pr_s0 h) rfl
theorem pr_0_g3 (h : isPr x) : ip_gf (ip_hm L xs M) 3 3 x = some (.int (M.1 x 3)) := m_gf (κ := 0) (pr_s0 h) rfl
theorem pr_0_p3 (h : isPr x) : ip_pf (ip_hm L xs M) 3 3 x (.int v) = some (ip_hm L xs (uI M x 3 v)) := m_pfI (pr_s0 h) rfl
theorem pr_s1 (h : isPr x) : ip_sp (x + 1) = some (.inl (1, 20)) := by
  rcases h with rfl | rfl | rfl | rfl | rfl | rfl | rfl | rfl <;> rfl
theorem pr_1_r (h : isPr x) : ip_ia (ip_hm L xs M) (x + 1) i = if ip_in i 20 = true then some (M.1 (x + 1) i.toNatClampNeg) else none := m_ia (pr_s1 h)
theorem pr_1_w (h : isPr x) : ip_is (ip_hm L xs M) (x + 1) i v = if ip_in i 20 = true then some (ip_hm L xs (uI M (x + 1) i.toNatClampNeg v)) else none := m_is (pr_s1 h)
theorem pr_1_l (h : isPr x) : ip_len (ip_hm L xs M) (x + 1) = some 20 := m_len1 (pr_s1 h)
theorem pr_s2 (h : isPr x) : ip_sp (x + 2) = some (.inl (2, 20)) := by
  rcases h with rfl | rfl | rfl | rfl | rfl | rfl | rfl | rfl <;> rfl
theorem pr_2_r (h : isPr x) : ip_ja (ip_hm L xs M) (x + 2) i = if ip_in i 20 = true then some (M.2.1 (x + 2) i.toNatClampNeg) else none := m_ja (pr_s2 h)
theorem pr_2_w (h : isPr x) : ip_js (ip_hm L xs M) (x + 2) i w = if ip_in i 20 = true then some (ip_hm L xs (uJ M (x + 2) i.toNatClampNeg w)) else none := m_js (pr_s2 h)
theorem pr_2_l (h : isPr x) : ip_len (ip_hm L xs M) (x + 2) = some 20 := m_len1 (pr_s2 h)
theorem pr_s3 (h : isPr x) : ip_sp (x + 3) = some (.inl (1, 20)) := by
  rcases h with rfl | rfl | rfl | rfl | rfl | rfl | rfl | rfl <;> rfl
theorem pr_3_r (h : isPr x) : ip_ia (ip_hm L xs M) (x + 3) i = if ip_in i 20 = true then some (M.1 (x + 3) i.toNatClampNeg) else none := m_ia (pr_s3 h)
theorem pr_3_w (h : isPr x) : ip_is (ip_hm L xs M) (x + 3) i v = if ip_in i 20 = true then some (ip_hm L xs (uI M (x + 3) i.toNatClampNeg v)) else none := m_is (pr_s3 h)
theorem pr_3_l (h : isPr x) : ip_len (ip_hm L xs M) (x + 3) = some 20 := m_len1 (pr_s3 h)
def isTr (a : Nat) : Prop := a = 52 ∨ a = 88 ∨ a = 109 ∨ a = 130 ∨ a = 151 ∨ a = 172 ∨ a = 193 ∨ a = 214 ∨ a = 235
theorem tr_s0 (h : isTr x) : ip_sp x = some (.inr (.inr (6, [0, 0, 1, 0, x + 1 + 3, x + 2 + 3, x + 10 + 3, 0, 0, 0, 0, 0, 1, x + 11 + 3, x + 15 + 3, x + 19 + 3, x + 20 + 3]))) := by
  rcases h with rfl | rfl | rfl | rfl | rfl | rfl | rfl | rfl | rfl <;> rfl
theorem tr_0_o (h : isTr x) : ip_isO (ip_hm L xs M) x 6 = true := m_isO (tr_s0 h)
theorem tr_0_g0 (h : isTr x) : ip_gf (ip_hm L xs M) 6 0 x = some (.int (M.1 x 0)) := m_gf (κ := 0) (tr_s0 h) rfl
theorem tr_0_p0 (h : isTr x) : ip_pf (ip_hm L xs M) 6 0 x (.int v) = some (ip_hm L xs (uI M x 0 v)) := m_pfI (tr_s0 h) rfl
theorem tr_0_g1 (h : isTr x) : ip_gf (ip_hm L xs M) 6 1 x = some (.int (M.1 x 1)) := m_gf (κ := 0) (tr_s0 h) rfl
theorem tr_0_p1 (h : isTr x) : ip_pf (ip_hm L xs M) 6 1 x (.int v) = some (ip_hm L xs (uI M x 1 v)) := m_pfI (tr_s0 h) rfl
theorem tr_0_g2 (h : isTr x) : ip_gf (ip_hm L xs M) 6 2 x = some (.long (M.2.1 x 2)) := m_gf (κ := 1) (tr_s0 h) rfl
theorem tr_0_p2 (h : isTr x) : ip_pf (ip_hm L xs M) 6 2 x (.long w) = some (ip_hm L xs (uJ M x 2 w)) := m_pfJ (tr_s0 h) rfl
theorem tr_0_g3 (h : isTr x) : ip_gf (ip_hm L xs M) 6 3 x = some (.int (M.1 x 3)) := m_gf (κ := 0) (tr_s0 h) rfl
theorem tr_0_p3 (h : isTr x) : ip_pf (ip_hm L xs M) 6 3 x (.int v) = some (ip_hm L xs (uI M x 3 v)) := m_pfI (tr_s0 h) rfl
theorem tr_0_g4 (h : isTr x) : ip_gf (ip_hm L xs M) 6 4 x = some (.ref (x + 1)) := m_gf (κ := x + 1 + 3) (tr_s0 h) rfl
theorem tr_0_g5 (h : isTr x) : ip_gf (ip_hm L xs M) 6 5 x = some (.ref (x + 2)) := m_gf (κ := x + 2 + 3) (tr_s0 h) rfl
theorem tr_0_g6 (h : isTr x) : ip_gf (ip_hm L xs M) 6 6 x = some (.ref (x + 10)) := m_gf (κ := x + 10 + 3) (tr_s0 h) rfl
theorem tr_0_g7 (h : isTr x) : ip_gf (ip_hm L xs M) 6 7 x = some (.int (M.1 x 7)) := m_gf (κ := 0) (tr_s0 h) rfl
theorem tr_0_p7 (h : isTr x) : ip_pf (ip_hm L xs M) 6 7 x (.int v) = some (ip_hm L xs (uI M x 7 v)) := m_pfI (tr_s0 h) rfl
theorem tr_0_g8 (h : isTr x) : ip_gf (ip_hm L xs M) 6 8 x = some (.int (M.1 x 8)) := m_gf (κ := 0) (tr_s0 h) rfl
theorem tr_0_p8 (h : isTr x) : ip_pf (ip_hm L xs M) 6 8 x (.int v) = some (ip_hm L xs (uI M x 8 v)) := m_pfI (tr_s0 h) rfl
theorem tr_0_g9 (h : isTr x) : ip_gf (ip_hm L xs M) 6 9 x = some (.int (M.1 x 9)) := m_gf (κ := 0) (tr_s0 h) rfl
theorem tr_0_p9 (h : isTr x) : ip_pf (ip_hm L xs M) 6 9 x (.int v) = some (ip_hm L xs (uI M x 9 v)) := m_pfI (tr_s0 h) rfl
theorem tr_0_g10 (h : isTr x) : ip_gf (ip_hm L xs M) 6 10 x = some (.int (M.1 x 10)) := m_gf (κ := 0) (tr_s0 h) rfl
theorem tr_0_p10 (h : isTr x) : ip_pf (ip_hm L xs M) 6 10 x (.int v) = some (ip_hm L xs (uI M x 10 v)) := m_pfI (tr_s0 h) rfl
theorem tr_0_g11 (h : isTr x) : ip_gf (ip_hm L xs M) 6 11 x = some (.int (M.1 x 11)) := m_gf (κ := 0) (tr_s0 h) rfl
theorem tr_0_p11 (h : isTr x) : ip_pf (ip_hm L xs M) 6 11 x (.int v) = some (ip_hm L xs (uI M x 11 v)) := m_pfI (tr_s0 h) rfl
theorem tr_0_g12 (h : isTr x) : ip_gf (ip_hm L xs M) 6 12 x = some (.long (M.2.1 x 12)) := m_gf (κ := 1) (tr_s0 h) rfl
theorem tr_0_p12 (h : isTr x) : ip_pf (ip_hm L xs M) 6 12 x (.long w) = some (ip_hm L xs (uJ M x 12 w)) := m_pfJ (tr_s0 h) rfl
theorem tr_0_g13 (h : isTr x) : ip_gf (ip_hm L xs M) 6 13 x = some (.ref (x + 11)) := m_gf (κ := x + 11 + 3) (tr_s0 h) rfl
theorem tr_0_g14 (h : isTr x) : ip_gf (ip_hm L xs M) 6 14 x = some (.ref (x + 15)) := m_gf (κ := x + 15 + 3) (tr_s0 h) rfl
theorem tr_0_g15 (h : isTr x) : ip_gf (ip_hm L xs M) 6 15 x = some (.ref (x + 19)) := m_gf (κ := x + 19 + 3) (tr_s0 h) rfl
theorem tr_0_g16 (h : isTr x) : ip_gf (ip_hm L xs M) 6 16 x = some (.ref (x + 20)) := m_gf (κ := x + 20 + 3) (tr_s0 h) rfl
theorem tr_s1 (h : isTr x) : ip_sp (x + 1) = some (.inl (2, 54)) := by
  rcases h with rfl | rfl | rfl | rfl | rfl | rfl | rfl | rfl | rfl <;> rfl
theorem tr_1_r (h : isTr x) : ip_ja (ip_hm L xs M) (x + 1) i = if ip_in i 54 = true then some (M.2.1 (x + 1) i.toNatClampNeg) else none := m_ja (tr_s1 h)
theorem tr_1_w (h : isTr x) : ip_js (ip_hm L xs M) (x + 1) i w = if ip_in i 54 = true then some (ip_hm L xs (uJ M (x + 1) i.toNatClampNeg w)) else none := m_js (tr_s1 h)
theorem tr_1_l (h : isTr x) : ip_len (ip_hm L xs M) (x + 1) = some 54 := m_len1 (tr_s1 h)
theorem tr_s2 (h : isTr x) : ip_sp (x + 2) = some (.inr (.inl (7, [x + 3, x + 4, x + 5, x + 6, x + 7, x + 8, x + 9]))) := by
  rcases h with rfl | rfl | rfl | rfl | rfl | rfl | rfl | rfl | rfl <;> rfl
theorem tr_2_r (h : isTr x) : ip_aa (ip_hm L xs M) (x + 2) i = if ip_in i 7 = true then ([x + 3, x + 4, x + 5, x + 6, x + 7, x + 8, x + 9] : List Nat)[i.toNatClampNeg]? else none := m_aa (t := 7) (rs := [x + 3, x + 4, x + 5, x + 6, x + 7, x + 8, x + 9]) (by decide) (tr_s2 h)
theorem tr_s3 (h : isTr x) : ip_sp (x + 3) = some (.inl (1, 100)) := by
  rcases h with rfl | rfl | rfl | rfl | rfl | rfl | rfl | rfl | rfl <;> rfl
theorem tr_3_r (h : isTr x) : ip_ia (ip_hm L xs M) (x + 3) i = if ip_in i 100 = true then some (M.1 (x + 3) i.toNatClampNeg) else none := m_ia (tr_s3 h)
theorem tr_3_w (h : isTr x) : ip_is (ip_hm L xs M) (x + 3) i v = if ip_in i 100 = true then some (ip_hm L xs (uI M (x + 3) i.toNatClampNeg v)) else none := m_is (tr_s3 h)
theorem tr_3_l (h : isTr x) : ip_len (ip_hm L xs M) (x + 3) = some 100 := m_len1 (tr_s3 h)
theorem tr_s4 (h : isTr x) : ip_sp (x + 4) = some (.inl (1, 100)) := by
  rcases h with rfl | rfl | rfl | rfl | rfl | rfl | rfl | rfl | rfl <;> rfl
theorem tr_4_r (h : isTr x) : ip_ia (ip_hm L xs M) (x + 4) i = if ip_in i 100 = true then some (M.1 (x + 4) i.toNatClampNeg) else none := m_ia (tr_s4 h)
theorem tr_4_w (h : isTr x) : ip_is (ip_hm L xs M) (x + 4) i v = if ip_in i 100 = true then some (ip_hm L xs (uI M (x + 4) i.toNatClampNeg v)) else none := m_is (tr_s4 h)
theorem tr_4_l (h : isTr x) : ip_len (ip_hm L xs M) (x + 4) = some 100 := m_len1 (tr_s4 h)
theorem tr_s5 (h : isTr x) : ip_sp (x + 5) = some (.inl (1, 100)) := by
  rcases h with rfl | rfl | rfl | rfl | rfl | rfl | rfl | rfl | rfl <;> rfl
theorem tr_5_r (h : isTr x) : ip_ia (ip_hm L xs M) (x + 5) i = if ip_in i 100 = true then some (M.1 (x + 5) i.toNatClampNeg) else none := m_ia (tr_s5 h)
theorem tr_5_w (h : isTr x) : ip_is (ip_hm L xs M) (x + 5) i v = if ip_in i 100 = true then some (ip_hm L xs (uI M (x + 5) i.toNatClampNeg v)) else none := m_is (tr_s5 h)
theorem tr_5_l (h : isTr x) : ip_len (ip_hm L xs M) (x + 5) = some 100 := m_len1 (tr_s5 h)
theorem tr_s6 (h : isTr x) : ip_sp (x + 6) = some (.inl (1, 100)) := by
  rcases h with rfl | rfl | rfl | rfl | rfl | rfl | rfl | rfl | rfl <;> rfl
theorem tr_6_r (h : isTr x) : ip_ia (ip_hm L xs M) (x + 6) i = if ip_in i 100 = true then some (M.1 (x + 6) i.toNatClampNeg) else none := m_ia (tr_s6 h)
theorem tr_6_w (h : isTr x) : ip_is (ip_hm L xs M) (x + 6) i v = if ip_in i 100 = true then some (ip_hm L xs (uI M (x + 6) i.toNatClampNeg v)) else none := m_is (tr_s6 h)
theorem tr_6_l (h : isTr x) : ip_len (ip_hm L xs M) (x + 6) = some 100 := m_len1 (tr_s6 h)
theorem tr_s7 (h : isTr x) : ip_sp (x + 7) = some (.inl (1, 100)) := by
  rcases h with rfl | rfl | rfl | rfl | rfl | rfl | rfl | rfl | rfl <;> rfl
theorem tr_7_r (h : isTr x) : ip_ia (ip_hm L xs M) (x + 7) i = if ip_in i 100 = true then some (M.1 (x + 7) i.toNatClampNeg) else none := m_ia (tr_s7 h)
theorem tr_7_w (h : isTr x) : ip_is (ip_hm L xs M) (x + 7) i v = if ip_in i 100 = true then some (ip_hm L xs (uI M (x + 7) i.toNatClampNeg v)) else none := m_is (tr_s7 h)
theorem tr_7_l (h : isTr x) : ip_len (ip_hm L xs M) (x + 7) = some 100 := m_len1 (tr_s7 h)
theorem tr_s8 (h : isTr x) : ip_sp (x + 8) = some (.inl (1, 100)) := by
  rcases h with rfl | rfl | rfl | rfl | rfl | rfl | rfl | rfl | rfl <;> rfl
theorem tr_8_r (h : isTr x) : ip_ia (ip_hm L xs M) (x + 8) i = if ip_in i 100 = true then some (M.1 (x + 8) i.toNatClampNeg) else none := m_ia (tr_s8 h)
theorem tr_8_w (h : isTr x) : ip_is (ip_hm L xs M) (x + 8) i v = if ip_in i 100 = true then some (ip_hm L xs (uI M (x + 8) i.toNatClampNeg v)) else none := m_is (tr_s8 h)
theorem tr_8_l (h : isTr x) : ip_len (ip_hm L xs M) (x + 8) = some 100 := m_len1 (tr_s8 h)
theorem tr_s9 (h : isTr x) : ip_sp (x + 9) = some (.inl (1, 100)) := by
  rcases h with rfl | rfl | rfl | rfl | rfl | rfl | rfl | rfl | rfl <;> rfl
theorem tr_9_r (h : isTr x) : ip_ia (ip_hm L xs M) (x + 9) i = if ip_in i 100 = true then some (M.1 (x + 9) i.toNatClampNeg) else none := m_ia (tr_s9 h)
theorem tr_9_w (h : isTr x) : ip_is (ip_hm L xs M) (x + 9) i v = if ip_in i 100 = true then some (ip_hm L xs (uI M (x + 9) i.toNatClampNeg v)) else none := m_is (tr_s9 h)
theorem tr_9_l (h : isTr x) : ip_len (ip_hm L xs M) (x + 9) = some 100 := m_len1 (tr_s9 h)
theorem tr_s10 (h : isTr x) : ip_sp (x + 10) = some (.inl (2, 100)) := by
  rcases h with rfl | rfl | rfl | rfl | rfl | rfl | rfl | rfl | rfl <;> rfl
theorem tr_10_r (h : isTr x) : ip_ja (ip_hm L xs M) (x + 10) i = if ip_in i 100 = true then some (M.2.1 (x + 10) i.toNatClampNeg) else none := m_ja (tr_s10 h)
theorem tr_10_w (h : isTr x) : ip_js (ip_hm L xs M) (x + 10) i w = if ip_in i 100 = true then some (ip_hm L xs (uJ M (x + 10) i.toNatClampNeg w)) else none := m_js (tr_s10 h)
theorem tr_10_l (h : isTr x) : ip_len (ip_hm L xs M) (x + 10) = some 100 := m_len1 (tr_s10 h)
theorem tr_s11 (h : isTr x) : ip_sp (x + 11) = some (.inr (.inr (5, [x + 12 + 3, x + 13 + 3, x + 14 + 3, 0]))) := by
  rcases h with rfl | rfl | rfl | rfl | rfl | rfl | rfl | rfl | rfl <;> rfl
theorem tr_11_o (h : isTr x) : ip_isO (ip_hm L xs M) (x + 11) 5 = true := m_isO (tr_s11 h)
theorem tr_11_g0 (h : isTr x) : ip_gf (ip_hm L xs M) 5 0 (x + 11) = some (.ref (x + 12)) := m_gf (κ := x + 12 + 3) (tr_s11 h) rfl
theorem tr_11_g1 (h : isTr x) : ip_gf (ip_hm L xs M) 5 1 (x + 11) = some (.ref (x + 13)) := m_gf (κ := x + 13 + 3) (tr_s11 h) rfl
theorem tr_11_g2 (h : isTr x) : ip_gf (ip_hm L xs M) 5 2 (x + 11) = some (.ref (x + 14)) := m_gf (κ := x + 14 + 3) (tr_s11 h) rfl
theorem tr_11_g3 (h : isTr x) : ip_gf (ip_hm L xs M) 5 3 (x + 11) = some (.int (M.1 (x + 11) 3)) := m_gf (κ := 0) (tr_s11 h) rfl
theorem tr_11_p3 (h : isTr x) : ip_pf (ip_hm L xs M) 5 3 (x + 11) (.int v) = some (ip_hm L xs (uI M (x + 11) 3 v)) := m_pfI (tr_s11 h) rfl
theorem tr_s12 (h : isTr x) : ip_sp (x + 12) = some (.inl (1, 48)) := by
  rcases h with rfl | rfl | rfl | rfl | rfl | rfl | rfl | rfl | rfl <;> rfl
theorem tr_12_r (h : isTr x) : ip_ia (ip_hm L xs M) (x + 12) i = if ip_in i 48 = true then some (M.1 (x + 12) i.toNatClampNeg) else none := m_ia (tr_s12 h)
theorem tr_12_w (h : isTr x) : ip_is (ip_hm L xs M) (x + 12) i v = if ip_in i 48 = true then some (ip_hm L xs (uI M (x + 12) i.toNatClampNeg v)) else none := m_is (tr_s12 h)
theorem tr_12_l (h : isTr x) : ip_len (ip_hm L xs M) (x + 12) = some 48 := m_len1 (tr_s12 h)
theorem tr_s13 (h : isTr x) : ip_sp (x + 13) = some (.inl (1, 48)) := by
  rcases h with rfl | rfl | rfl | rfl | rfl | rfl | rfl | rfl | rfl <;> rfl
theorem tr_13_r (h : isTr x) : ip_ia (ip_hm L xs M) (x + 13) i = if ip_in i 48 = true then some (M.1 (x + 13) i.toNatClampNeg) else none := m_ia (tr_s13 h)
theorem tr_13_w (h : isTr x) : ip_is (ip_hm L xs M) (x + 13) i v = if ip_in i 48 = true then some (ip_hm L xs (uI M (x + 13) i.toNatClampNeg v)) else none := m_is (tr_s13 h)
theorem tr_13_l (h : isTr x) : ip_len (ip_hm L xs M) (x + 13) = some 48 := m_len1 (tr_s13 h)
theorem tr_s14 (h : isTr x) : ip_sp (x + 14) = some (.inl (1, 48)) := by
  rcases h with rfl | rfl | rfl | rfl | rfl | rfl | rfl | rfl | rfl <;> rfl
theorem tr_14_r (h : isTr x) : ip_ia (ip_hm L xs M) (x + 14) i = if ip_in i 48 = true then some (M.1 (x + 14) i.toNatClampNeg) else none := m_ia (tr_s14 h)
theorem tr_14_w (h : isTr x) : ip_is (ip_hm L xs M) (x + 14) i v = if ip_in i 48 = true then some (ip_hm L xs (uI M (x + 14) i.toNatClampNeg v)) else none := m_is (tr_s14 h)
theorem tr_14_l (h : isTr x) : ip_len (ip_hm L xs M) (x + 14) = some 48 := m_len1 (tr_s14 h)
theorem tr_s15 (h : isTr x) : ip_sp (x + 15) = some (.inr (.inr (4, [x + 16 + 3, x + 17 + 3, x + 18 + 3, 0]))) := by
  rcases h with rfl | rfl | rfl | rfl | rfl | rfl | rfl | rfl | rfl <;> rfl
theorem tr_15_o (h : isTr x) : ip_isO (ip_hm L xs M) (x + 15) 4 = true := m_isO (tr_s15 h)
theorem tr_15_g0 (h : isTr x) : ip_gf (ip_hm L xs M) 4 0 (x + 15) = some (.ref (x + 16)) := m_gf (κ := x + 16 + 3) (tr_s15 h) rfl
theorem tr_15_g1 (h : isTr x) : ip_gf (ip_hm L xs M) 4 1 (x + 15) = some (.ref (x + 17)) := m_gf (κ := x + 17 + 3) (tr_s15 h) rfl
theorem tr_15_g2 (h : isTr x) : ip_gf (ip_hm L xs M) 4 2 (x + 15) = some (.ref (x + 18)) := m_gf (κ := x + 18 + 3) (tr_s15 h) rfl
theorem tr_15_g3 (h : isTr x) : ip_gf (ip_hm L xs M) 4 3 (x + 15) = some (.int (M.1 (x + 15) 3)) := m_gf (κ := 0) (tr_s15 h) rfl
theorem tr_15_p3 (h : isTr x) : ip_pf (ip_hm L xs M) 4 3 (x + 15) (.int v) = some (ip_hm L xs (uI M (x + 15) 3 v)) := m_pfI (tr_s15 h) rfl
theorem tr_s16 (h : isTr x) : ip_sp (x + 16) = some (.inl (1, 40)) := by
  rcases h with rfl | rfl | rfl | rfl | rfl | rfl | rfl | rfl | rfl <;> rfl
theorem tr_16_r (h : isTr x) : ip_ia (ip_hm L xs M) (x + 16) i = if ip_in i 40 = true then some (M.1 (x + 16) i.toNatClampNeg) else none := m_ia (tr_s16 h)
theorem tr_16_w (h : isTr x) : ip_is (ip_hm L xs M) (x + 16) i v = if ip_in i 40 = true then some (ip_hm L xs (uI M (x + 16) i.toNatClampNeg v)) else none := m_is (tr_s16 h)
theorem tr_16_l (h : isTr x) : ip_len (ip_hm L xs M) (x + 16) = some 40 := m_len1 (tr_s16 h)
theorem tr_s17 (h : isTr x) : ip_sp (x + 17) = some (.inl (2, 40)) := by
  rcases h with rfl | rfl | rfl | rfl | rfl | rfl | rfl | rfl | rfl <;> rfl
theorem tr_17_r (h : isTr x) : ip_ja (ip_hm L xs M) (x + 17) i = if ip_in i 40 = true then some (M.2.1 (x + 17) i.toNatClampNeg) else none := m_ja (tr_s17 h)
theorem tr_17_w (h : isTr x) : ip_js (ip_hm L xs M) (x + 17) i w = if ip_in i 40 = true then some (ip_hm L xs (uJ M (x + 17) i.toNatClampNeg w)) else none := m_js (tr_s17 h)
theorem tr_17_l (h : isTr x) : ip_len (ip_hm L xs M) (x + 17) = some 40 := m_len1 (tr_s17 h)
theorem tr_s18 (h : isTr x) : ip_sp (x + 18) = some (.inl (2, 40)) := by
  rcases h with rfl | rfl | rfl | rfl | rfl | rfl | rfl | rfl | rfl <;> rfl
theorem tr_18_r (h : isTr x) : ip_ja (ip_hm L xs M) (x + 18) i = if ip_in i 40 = true then some (M.2.1 (x + 18) i.toNatClampNeg) else none := m_ja (tr_s18 h)
theorem tr_18_w (h : isTr x) : ip_js (ip_hm L xs M) (x + 18) i w = if ip_in i 40 = true then some (ip_hm L xs (uJ M (x + 18) i.toNatClampNeg w)) else none := m_js (tr_s18 h)
theorem tr_18_l (h : isTr x) : ip_len (ip_hm L xs M) (x + 18) = some 40 := m_len1 (tr_s18 h)
theorem tr_s19 (h : isTr x) : ip_sp (x + 19) = some (.inl (2, 6)) := by
  rcases h with rfl | rfl | rfl | rfl | rfl | rfl | rfl | rfl | rfl <;> rfl
theorem tr_19_r (h : isTr x) : ip_ja (ip_hm L xs M) (x + 19) i = if ip_in i 6 = true then some (M.2.1 (x + 19) i.toNatClampNeg) else none := m_ja (tr_s19 h)
theorem tr_19_w (h : isTr x) : ip_js (ip_hm L xs M) (x + 19) i w = if ip_in i 6 = true then some (ip_hm L xs (uJ M (x + 19) i.toNatClampNeg w)) else none := m_js (tr_s19 h)
theorem tr_19_l (h : isTr x) : ip_len (ip_hm L xs M) (x + 19) = some 6 := m_len1 (tr_s19 h)
theorem tr_s20 (h : isTr x) : ip_sp (x + 20) = some (.inl (2, 6)) := by
  rcases h with rfl | rfl | rfl | rfl | rfl | rfl | rfl | rfl | rfl <;> rfl
theorem tr_20_r (h : isTr x) : ip_ja (ip_hm L xs M) (x + 20) i = if ip_in i 6 = true then some (M.2.1 (x + 20) i.toNatClampNeg) else none := m_ja (tr_s20 h)
theorem tr_20_w (h : isTr x) : ip_js (ip_hm L xs M) (x + 20) i w = if ip_in i 6 = true then some (ip_hm L xs (uJ M (x + 20) i.toNatClampNeg w)) else none := m_js (tr_s20 h)
theorem tr_20_l (h : isTr x) : ip_len (ip_hm L xs M) (x + 20) = some 6 := m_len1 (tr_s20 h)
def isFr (a : Nat) : Prop := a = 73 ∨ a = 75 ∨ a = 77 ∨ a = 79 ∨ a = 81 ∨ a = 83
theorem fr_s0 (h : isFr x) : ip_sp x = some (.inr (.inr (1, [x + 1 + 3, 0, 0, 0, 0, 1, 0, 1]))) := by
  rcases h with rfl | rfl | rfl | rfl | rfl | rfl <;> rfl
theorem fr_0_o (h : isFr x) : ip_isO (ip_hm L xs M) x 1 = true := m_isO (fr_s0 h)
theorem fr_0_g0 (h : isFr x) : ip_gf (ip_hm L xs M) 1 0 x = some (.ref (x + 1)) := m_gf (κ := x + 1 + 3) (fr_s0 h) rfl
theorem fr_0_g1 (h : isFr x) : ip_gf (ip_hm L xs M) 1 1 x = some (.int (M.1 x 1)) := m_gf (κ := 0) (fr_s0 h) rfl
theorem fr_0_p1 (h : isFr x) : ip_pf (ip_hm L xs M) 1 1 x (.int v) = some (ip_hm L xs (uI M x 1 v)) := m_pfI (fr_s0 h) rfl
theorem fr_0_g2 (h : isFr x) : ip_gf (ip_hm L xs M) 1 2 x = some (.int (M.1 x 2)) := m_gf (κ := 0) (fr_s0 h) rfl
theorem fr_0_p2 (h : isFr x) : ip_pf (ip_hm L xs M) 1 2 x (.int v) = some (ip_hm L xs (uI M x 2 v)) := m_pfI (fr_s0 h) rfl
theorem fr_0_g3 (h : isFr x) : ip_gf (ip_hm L xs M) 1 3 x = some (.int (M.1 x 3)) := m_gf (κ := 0) (fr_s0 h) rfl
theorem fr_0_p3 (h : isFr x) : ip_pf (ip_hm L xs M) 1 3 x (.int v) = some (ip_hm L xs (uI M x 3 v)) := m_pfI (fr_s0 h) rfl
theorem fr_0_g4 (h : isFr x) : ip_gf (ip_hm L xs M) 1 4 x = some (.int (M.1 x 4)) := m_gf (κ := 0) (fr_s0 h) rfl
theorem fr_0_p4 (h : isFr x) : ip_pf (ip_hm L xs M) 1 4 x (.int v) = some (ip_hm L xs (uI M x 4 v)) := m_pfI (fr_s0 h) rfl
theorem fr_0_g5 (h : isFr x) : ip_gf (ip_hm L xs M) 1 5 x = some (.long (M.2.1 x 5)) := m_gf (κ := 1) (fr_s0 h) rfl
theorem fr_0_p5 (h : isFr x) : ip_pf (ip_hm L xs M) 1 5 x (.long w) = some (ip_hm L xs (uJ M x 5 w)) := m_pfJ (fr_s0 h) rfl
theorem fr_0_g6 (h : isFr x) : ip_gf (ip_hm L xs M) 1 6 x = some (.int (M.1 x 6)) := m_gf (κ := 0) (fr_s0 h) rfl
theorem fr_0_p6 (h : isFr x) : ip_pf (ip_hm L xs M) 1 6 x (.int v) = some (ip_hm L xs (uI M x 6 v)) := m_pfI (fr_s0 h) rfl
theorem fr_0_g7 (h : isFr x) : ip_gf (ip_hm L xs M) 1 7 x = some (.long (M.2.1 x 7)) := m_gf (κ := 1) (fr_s0 h) rfl
theorem fr_0_p7 (h : isFr x) : ip_pf (ip_hm L xs M) 1 7 x (.long w) = some (ip_hm L xs (uJ M x 7 w)) := m_pfJ (fr_s0 h) rfl
theorem fr_s1 (h : isFr x) : ip_sp (x + 1) = some (.inl (2, 12)) := by
  rcases h with rfl | rfl | rfl | rfl | rfl | rfl <;> rfl
theorem fr_1_r (h : isFr x) : ip_ja (ip_hm L xs M) (x + 1) i = if ip_in i 12 = true then some (M.2.1 (x + 1) i.toNatClampNeg) else none := m_ja (fr_s1 h)
theorem fr_1_w (h : isFr x) : ip_js (ip_hm L xs M) (x + 1) i w = if ip_in i 12 = true then some (ip_hm L xs (uJ M (x + 1) i.toNatClampNeg w)) else none := m_js (fr_s1 h)
theorem fr_1_l (h : isFr x) : ip_len (ip_hm L xs M) (x + 1) = some 12 := m_len1 (fr_s1 h)
def isSv (a : Nat) : Prop := a = 44 ∨ a = 45 ∨ a = 46 ∨ a = 47 ∨ a = 48 ∨ a = 49
theorem sv_s0 (h : isSv x) : ip_sp x = some (.inl (2, 66)) := by
  rcases h with rfl | rfl | rfl | rfl | rfl | rfl <;> rfl
theorem sv_0_r (h : isSv x) : ip_ja (ip_hm L xs M) x i = if ip_in i 66 = true then some (M.2.1 x i.toNatClampNeg) else none := m_ja (sv_s0 h)
theorem sv_0_w (h : isSv x) : ip_js (ip_hm L xs M) x i w = if ip_in i 66 = true then some (ip_hm L xs (uJ M x i.toNatClampNeg w)) else none := m_js (sv_s0 h)
theorem sv_0_l (h : isSv x) : ip_len (ip_hm L xs M) x = some 66 := m_len1 (sv_s0 h)
end RDW
