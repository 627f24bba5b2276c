/-! the memory behind the constructors -/
theorem rf_7 {b : Nat} : rf 7 b = fun i => ([b, b + 1, b + 2, b + 3, b + 4, b + 5, b + 6] : List Nat)[i]? := by
  funext i
  match i with
  | 0 => rfl
  | 1 => rfl
  | 2 => rfl
  | 3 => rfl
  | 4 => rfl
  | 5 => rfl
  | 6 => rfl
  | i + 7 => exact if_neg (by omega)
theorem rf_6 : rf 6 42 = fun i => ([42, 43, 44, 45, 46, 47] : List Nat)[i]? := by
  funext i
  match i with
  | 0 => rfl
  | 1 => rfl
  | 2 => rfl
  | 3 => rfl
  | 4 => rfl
  | 5 => rfl
  | i + 6 => exact if_neg (by omega)
theorem rg_p : rg 8 4 8 = fun i => ([8, 12, 16, 20, 24, 28, 32, 36] : List Nat)[i]? := by
  funext i
  match i with
  | 0 => rfl
  | 1 => rfl
  | 2 => rfl
  | 3 => rfl
  | 4 => rfl
  | 5 => rfl
  | 6 => rfl
  | 7 => rfl
  | i + 8 => exact if_neg (by omega)
theorem rg_f : rg 71 2 6 = fun i => ([71, 73, 75, 77, 79, 81] : List Nat)[i]? := by
  funext i
  match i with
  | 0 => rfl
  | 1 => rfl
  | 2 => rfl
  | 3 => rfl
  | 4 => rfl
  | 5 => rfl
  | i + 6 => exact if_neg (by omega)
theorem rg_t : rg 88 21 8 = fun i => ([88, 109, 130, 151, 172, 193, 214, 235] : List Nat)[i]? := by
  funext i
  match i with
  | 0 => rfl
  | 1 => rfl
  | 2 => rfl
  | 3 => rfl
  | 4 => rfl
  | 5 => rfl
  | 6 => rfl
  | 7 => rfl
  | i + 8 => exact if_neg (by omega)
def trD (a : Nat) : List ip_C := [.inr (6, [.int 0, .int 0, .long 0, .int 0, .ref (a + 1), .ref (a + 2), .ref (a + 10), .int 0, .int 0, .int 0, .int 0, .int 0, .long 0, .ref (a + 11), .ref (a + 15), .ref (a + 19), .ref (a + 20)]), zJ 54, zF 7 7 (fun i => ([a + 3, a + 4, a + 5, a + 6, a + 7, a + 8, a + 9] : List Nat)[i]?), zI 100, zI 100, zI 100, zI 100, zI 100, zI 100, zI 100, zJ 100, .inr (5, [.ref (a + 12), .ref (a + 13), .ref (a + 14), .int 0]), zI 48, zI 48, zI 48, .inr (4, [.ref (a + 16), .ref (a + 17), .ref (a + 18), .int 0]), zI 40, zJ 40, zJ 40, zJ 6, zJ 6]
theorem trD_e {a : Nat} : trC a = trD a := by
  unfold trC trD
  rw [rf_7]
def tsD : Nat → List ip_C
  | 0 => []
  | i + 1 => tsD i ++ trD (88 + 21 * i)
theorem tsD_e : ∀ i, trs i = tsD i := by
  intro i
  induction i with
  | zero => rfl
  | succ i ih =>
    show trs i ++ trC (88 + 21 * i) = tsD i ++ trD (88 + 21 * i)
    rw [ih, trD_e]
def waD : List ip_C := [zJ 66, zF 8 6 (fun i => ([42, 43, 44, 45, 46, 47] : List Nat)[i]?), zJ 66, zJ 66, zJ 66, zJ 66, zJ 66, zJ 66, zI 6]
def coD : List ip_C := coO :: zF 5 8 (fun i => ([8, 12, 16, 20, 24, 28, 32, 36] : List Nat)[i]?) :: m5 :: q6 :: prs 8
def wlD : List ip_C := (waO :: coD ++ waD) ++ zF 4 6 (fun i => ([71, 73, 75, 77, 79, 81] : List Nat)[i]?) :: (trD 50 ++ frs 6)
def clD : List ip_C := ((oC (.ref 3) (.ref 4) (.ref 83) (.ref 84) (.ref 85) :: wlD) ++ [zJ 54]) ++ zF 6 8 (fun i => ([88, 109, 130, 151, 172, 193, 214, 235] : List Nat)[i]?) :: (liC ++ tsD 8)
theorem clD_e : clL 8 = clD := by
  have e1 : waT = waD := by unfold waT waD; rw [rf_6]
  have e3 : coQ = coD := by unfold coQ coD; rw [rg_p]
  have e2 : clW = wlD := by unfold clW wlD; rw [e1, e3, rg_f, trD_e]
  unfold clL clA clD
  rw [e2, rg_t, tsD_e]
def M0f (c j : Nat) : Int32 := if c = 5 then (if 0 ≤ j ∧ j < 24 then -1 else 0) else if c = 6 then (if 0 ≤ j ∧ j < 16 then 1 else 0) else if c = 41 then (if j = 7 then -1 else 0) else if c = 73 ∨ c = 75 ∨ c = 77 ∨ c = 79 ∨ c = 81 ∨ c = 83 then (if j = 4 then -1 else 0) else if c = 262 then (upd (upd (upd (upd (upd (upd (upd (upd (upd (upd (upd (upd (upd (upd (upd (upd (fun _ => 0) 0 1) 1 1) 2 1) 3 1) 4 1) 5 1) 6 1) 7 1) 8 1) 9 1) 10 1) 11 1) 12 1) 13 1) 14 1) 15 1) j else 0
def M0 : ip_Mm := (M0f, fun _ _ => 0, 52)
/-- the numbers of the proof, and those that the class's own order of making gives; back again -/
def rnT (a : Nat) : Nat := if a = 41 then 3 else if a = 39 then 83 else if a = 40 then 84 else if 3 ≤ a ∧ a < 39 then a + 1 else if 42 ≤ a ∧ a < 85 then a - 2 else a
def rnE (a : Nat) : Nat := if a = 3 then 41 else if a = 83 then 39 else if a = 84 then 40 else if 4 ≤ a ∧ a < 40 then a - 1 else if 40 ≤ a ∧ a < 83 then a + 2 else a
theorem rt_4 {a : Nat} (h : 3 ≤ a ∧ a < 39) : rnT a = a + 1 := by
  unfold rnT
  rw [if_neg (by omega), if_neg (by omega), if_neg (by omega), if_pos h]
theorem rt_5 {a : Nat} (h : 42 ≤ a ∧ a < 85) : rnT a = a - 2 := by
  unfold rnT
  rw [if_neg (by omega), if_neg (by omega), if_neg (by omega), if_neg (by omega), if_pos h]
theorem rt_6 {a : Nat} (h : a < 3 ∨ 85 ≤ a) : rnT a = a := by
  unfold rnT
  rw [if_neg (by omega), if_neg (by omega), if_neg (by omega), if_neg (by omega), if_neg (by omega)]
theorem re_4 {a : Nat} (h : 4 ≤ a ∧ a < 40) : rnE a = a - 1 := by
  unfold rnE
  rw [if_neg (by omega), if_neg (by omega), if_neg (by omega), if_pos h]
theorem re_5 {a : Nat} (h : 40 ≤ a ∧ a < 83) : rnE a = a + 2 := by
  unfold rnE
  rw [if_neg (by omega), if_neg (by omega), if_neg (by omega), if_neg (by omega), if_pos h]
theorem re_6 {a : Nat} (h : a < 3 ∨ 85 ≤ a) : rnE a = a := by
  unfold rnE
  rw [if_neg (by omega), if_neg (by omega), if_neg (by omega), if_neg (by omega), if_neg (by omega)]
theorem rn_K : rnK rnT rnE 85 := by
  refine ⟨fun a => ?_, fun a => ?_, rfl, fun a ha => rt_6 (Or.inr ha)⟩
  · rcases (show a = 41 ∨ a = 39 ∨ a = 40 ∨ (3 ≤ a ∧ a < 39) ∨ (42 ≤ a ∧ a < 85) ∨ (a < 3 ∨ 85 ≤ a) by omega) with rfl | rfl | rfl | h | h | h
    · rfl
    · rfl
    · rfl
    · rw [rt_4 h, re_4 (by omega)]
      omega
    · rw [rt_5 h, re_5 (by omega)]
      omega
    · rw [rt_6 h, re_6 h]
  · rcases (show a = 3 ∨ a = 83 ∨ a = 84 ∨ (4 ≤ a ∧ a < 40) ∨ (40 ≤ a ∧ a < 83) ∨ (a < 3 ∨ 85 ≤ a) by omega) with rfl | rfl | rfl | h | h | h
    · rfl
    · rfl
    · rfl
    · rw [re_4 h, rt_4 (by omega)]
      omega
    · rw [re_5 h, rt_5 (by omega)]
      omega
    · rw [re_6 h, rt_6 h]
theorem re_2 {a : Nat} : 2 ≤ rnE (a + 2) := by
  rcases (show a + 2 = 3 ∨ a + 2 = 83 ∨ a + 2 = 84 ∨ (4 ≤ a + 2 ∧ a + 2 < 40) ∨ (40 ≤ a + 2 ∧ a + 2 < 83) ∨ (a + 2 < 3 ∨ 85 ≤ a + 2) by omega) with h | h | h | h | h | h
  · rw [h]
    decide
  · rw [h]
    decide
  · rw [h]
    decide
  · rw [re_4 h]
    omega
  · rw [re_5 h]
    omega
  · rw [re_6 h]
    omega
/-- a cell as the class made it -/
def ceR (M : ip_Mm) (a : Nat) : ip_Sh → ip_C
  | .inl (t, n) => ip_ce M a (.inl (t, n))
  | .inr (.inl (t, rs)) => .inl (t, rs.length, .inr (.inr (.inr (.inr (fun i => (rs.map rnT)[i]?)))))
  | .inr (.inr (ci, ks)) => .inr (ci, (ip_fs M a 0 ks).map (ip_v rnT))
theorem ceR_e {M : ip_Mm} {a : Nat} {s : ip_Sh} : rnC rnT (ip_ce M a s) = ceR M a s := by
  match s with
  | .inl (t, n) =>
    show rnC rnT (if t = 2 then .inl (2, n, .inr (.inl (M.2.1 a))) else .inl (t, n, .inl (M.1 a))) = if t = 2 then .inl (2, n, .inr (.inl (M.2.1 a))) else .inl (t, n, .inl (M.1 a))
    by_cases ht : t = 2
    · rw [if_pos ht]
      rfl
    · rw [if_neg ht]
      rfl
  | .inr (.inl (t, rs)) =>
    have e : (fun i => (rs[i]?).map rnT) = fun i => (rs.map rnT)[i]? := funext fun i => by rw [List.getElem?_map]
    show (Sum.inl (t, rs.length, .inr (.inr (.inr (.inr (fun i => (rs[i]?).map rnT))))) : ip_C) = _
    rw [e]
    rfl
  | .inr (.inr (ci, ks)) => rfl
/-- the cells in the order in which the class makes them: their numbers in the proof, their shapes -/
def ly_r0 : List (Nat × ip_Sh) := [(2, .inr (.inr (8, [44, 6, 42, 43, 88, 0, 0]))), (41, .inr (.inr (7, [6, 45, 46, 53, 54, 55, 2, 0, 1]))), (3, .inr (.inr (0, [7, 8, 9, 0, 0]))), (4, .inr (.inl (5, [7, 11, 15, 19, 23, 27, 31, 35]))), (5, .inl (1, 24)), (6, .inl (1, 16)), (7, .inr (.inr (3, [11, 12, 13, 0]))), (8, .inl (1, 20)), (9, .inl (2, 20)), (10, .inl (1, 20)), (11, .inr (.inr (3, [15, 16, 17, 0]))), (12, .inl (1, 20)), (13, .inl (2, 20)), (14, .inl (1, 20)), (15, .inr (.inr (3, [19, 20, 21, 0]))), (16, .inl (1, 20)), (17, .inl (2, 20)), (18, .inl (1, 20)), (19, .inr (.inr (3, [23, 24, 25, 0]))), (20, .inl (1, 20)), (21, .inl (2, 20)), (22, .inl (1, 20)), (23, .inr (.inr (3, [27, 28, 29, 0]))), (24, .inl (1, 20)), (25, .inl (2, 20)), (26, .inl (1, 20)), (27, .inr (.inr (3, [31, 32, 33, 0]))), (28, .inl (1, 20)), (29, .inl (2, 20)), (30, .inl (1, 20)), (31, .inr (.inr (3, [35, 36, 37, 0]))), (32, .inl (1, 20)), (33, .inl (2, 20)), (34, .inl (1, 20)), (35, .inr (.inr (3, [39, 40, 41, 0]))), (36, .inl (1, 20)), (37, .inl (2, 20)), (38, .inl (1, 20)), (42, .inl (2, 66)), (43, .inr (.inl (8, [44, 45, 46, 47, 48, 49])))]
def ly_r1 : List (Nat × ip_Sh) := [(44, .inl (2, 66)), (45, .inl (2, 66)), (46, .inl (2, 66)), (47, .inl (2, 66)), (48, .inl (2, 66)), (49, .inl (2, 66)), (50, .inl (1, 6)), (51, .inr (.inl (4, [73, 75, 77, 79, 81, 83]))), (52, .inr (.inr (6, [0, 0, 1, 0, 56, 57, 65, 0, 0, 0, 0, 0, 1, 66, 70, 74, 75]))), (53, .inl (2, 54)), (54, .inr (.inl (7, [55, 56, 57, 58, 59, 60, 61]))), (55, .inl (1, 100)), (56, .inl (1, 100)), (57, .inl (1, 100)), (58, .inl (1, 100)), (59, .inl (1, 100)), (60, .inl (1, 100)), (61, .inl (1, 100)), (62, .inl (2, 100)), (63, .inr (.inr (5, [67, 68, 69, 0]))), (64, .inl (1, 48)), (65, .inl (1, 48)), (66, .inl (1, 48)), (67, .inr (.inr (4, [71, 72, 73, 0]))), (68, .inl (1, 40)), (69, .inl (2, 40)), (70, .inl (2, 40)), (71, .inl (2, 6)), (72, .inl (2, 6)), (73, .inr (.inr (1, [77, 0, 0, 0, 0, 1, 0, 1]))), (74, .inl (2, 12)), (75, .inr (.inr (1, [79, 0, 0, 0, 0, 1, 0, 1]))), (76, .inl (2, 12)), (77, .inr (.inr (1, [81, 0, 0, 0, 0, 1, 0, 1]))), (78, .inl (2, 12)), (79, .inr (.inr (1, [83, 0, 0, 0, 0, 1, 0, 1]))), (80, .inl (2, 12)), (81, .inr (.inr (1, [85, 0, 0, 0, 0, 1, 0, 1]))), (82, .inl (2, 12)), (83, .inr (.inr (1, [87, 0, 0, 0, 0, 1, 0, 1])))]
def ly_r2 : List (Nat × ip_Sh) := [(84, .inl (2, 12)), (39, .inl (2, 54)), (40, .inr (.inl (6, [88, 109, 130, 151, 172, 193, 214, 235]))), (85, .inr (.inr (2, [89, 90, 0]))), (86, .inl (0, 64)), (87, .inl (1, 19)), (88, .inr (.inr (6, [0, 0, 1, 0, 92, 93, 101, 0, 0, 0, 0, 0, 1, 102, 106, 110, 111]))), (89, .inl (2, 54)), (90, .inr (.inl (7, [91, 92, 93, 94, 95, 96, 97]))), (91, .inl (1, 100)), (92, .inl (1, 100)), (93, .inl (1, 100)), (94, .inl (1, 100)), (95, .inl (1, 100)), (96, .inl (1, 100)), (97, .inl (1, 100)), (98, .inl (2, 100)), (99, .inr (.inr (5, [103, 104, 105, 0]))), (100, .inl (1, 48)), (101, .inl (1, 48)), (102, .inl (1, 48)), (103, .inr (.inr (4, [107, 108, 109, 0]))), (104, .inl (1, 40)), (105, .inl (2, 40)), (106, .inl (2, 40)), (107, .inl (2, 6)), (108, .inl (2, 6)), (109, .inr (.inr (6, [0, 0, 1, 0, 113, 114, 122, 0, 0, 0, 0, 0, 1, 123, 127, 131, 132]))), (110, .inl (2, 54)), (111, .inr (.inl (7, [112, 113, 114, 115, 116, 117, 118]))), (112, .inl (1, 100)), (113, .inl (1, 100)), (114, .inl (1, 100)), (115, .inl (1, 100)), (116, .inl (1, 100)), (117, .inl (1, 100)), (118, .inl (1, 100)), (119, .inl (2, 100)), (120, .inr (.inr (5, [124, 125, 126, 0]))), (121, .inl (1, 48))]
def ly_r3 : List (Nat × ip_Sh) := [(122, .inl (1, 48)), (123, .inl (1, 48)), (124, .inr (.inr (4, [128, 129, 130, 0]))), (125, .inl (1, 40)), (126, .inl (2, 40)), (127, .inl (2, 40)), (128, .inl (2, 6)), (129, .inl (2, 6)), (130, .inr (.inr (6, [0, 0, 1, 0, 134, 135, 143, 0, 0, 0, 0, 0, 1, 144, 148, 152, 153]))), (131, .inl (2, 54)), (132, .inr (.inl (7, [133, 134, 135, 136, 137, 138, 139]))), (133, .inl (1, 100)), (134, .inl (1, 100)), (135, .inl (1, 100)), (136, .inl (1, 100)), (137, .inl (1, 100)), (138, .inl (1, 100)), (139, .inl (1, 100)), (140, .inl (2, 100)), (141, .inr (.inr (5, [145, 146, 147, 0]))), (142, .inl (1, 48)), (143, .inl (1, 48)), (144, .inl (1, 48)), (145, .inr (.inr (4, [149, 150, 151, 0]))), (146, .inl (1, 40)), (147, .inl (2, 40)), (148, .inl (2, 40)), (149, .inl (2, 6)), (150, .inl (2, 6)), (151, .inr (.inr (6, [0, 0, 1, 0, 155, 156, 164, 0, 0, 0, 0, 0, 1, 165, 169, 173, 174]))), (152, .inl (2, 54)), (153, .inr (.inl (7, [154, 155, 156, 157, 158, 159, 160]))), (154, .inl (1, 100)), (155, .inl (1, 100)), (156, .inl (1, 100)), (157, .inl (1, 100)), (158, .inl (1, 100)), (159, .inl (1, 100)), (160, .inl (1, 100)), (161, .inl (2, 100))]
def ly_r4 : List (Nat × ip_Sh) := [(162, .inr (.inr (5, [166, 167, 168, 0]))), (163, .inl (1, 48)), (164, .inl (1, 48)), (165, .inl (1, 48)), (166, .inr (.inr (4, [170, 171, 172, 0]))), (167, .inl (1, 40)), (168, .inl (2, 40)), (169, .inl (2, 40)), (170, .inl (2, 6)), (171, .inl (2, 6)), (172, .inr (.inr (6, [0, 0, 1, 0, 176, 177, 185, 0, 0, 0, 0, 0, 1, 186, 190, 194, 195]))), (173, .inl (2, 54)), (174, .inr (.inl (7, [175, 176, 177, 178, 179, 180, 181]))), (175, .inl (1, 100)), (176, .inl (1, 100)), (177, .inl (1, 100)), (178, .inl (1, 100)), (179, .inl (1, 100)), (180, .inl (1, 100)), (181, .inl (1, 100)), (182, .inl (2, 100)), (183, .inr (.inr (5, [187, 188, 189, 0]))), (184, .inl (1, 48)), (185, .inl (1, 48)), (186, .inl (1, 48)), (187, .inr (.inr (4, [191, 192, 193, 0]))), (188, .inl (1, 40)), (189, .inl (2, 40)), (190, .inl (2, 40)), (191, .inl (2, 6)), (192, .inl (2, 6)), (193, .inr (.inr (6, [0, 0, 1, 0, 197, 198, 206, 0, 0, 0, 0, 0, 1, 207, 211, 215, 216]))), (194, .inl (2, 54)), (195, .inr (.inl (7, [196, 197, 198, 199, 200, 201, 202]))), (196, .inl (1, 100)), (197, .inl (1, 100)), (198, .inl (1, 100)), (199, .inl (1, 100)), (200, .inl (1, 100)), (201, .inl (1, 100))]
def ly_r5 : List (Nat × ip_Sh) := [(202, .inl (1, 100)), (203, .inl (2, 100)), (204, .inr (.inr (5, [208, 209, 210, 0]))), (205, .inl (1, 48)), (206, .inl (1, 48)), (207, .inl (1, 48)), (208, .inr (.inr (4, [212, 213, 214, 0]))), (209, .inl (1, 40)), (210, .inl (2, 40)), (211, .inl (2, 40)), (212, .inl (2, 6)), (213, .inl (2, 6)), (214, .inr (.inr (6, [0, 0, 1, 0, 218, 219, 227, 0, 0, 0, 0, 0, 1, 228, 232, 236, 237]))), (215, .inl (2, 54)), (216, .inr (.inl (7, [217, 218, 219, 220, 221, 222, 223]))), (217, .inl (1, 100)), (218, .inl (1, 100)), (219, .inl (1, 100)), (220, .inl (1, 100)), (221, .inl (1, 100)), (222, .inl (1, 100)), (223, .inl (1, 100)), (224, .inl (2, 100)), (225, .inr (.inr (5, [229, 230, 231, 0]))), (226, .inl (1, 48)), (227, .inl (1, 48)), (228, .inl (1, 48)), (229, .inr (.inr (4, [233, 234, 235, 0]))), (230, .inl (1, 40)), (231, .inl (2, 40)), (232, .inl (2, 40)), (233, .inl (2, 6)), (234, .inl (2, 6)), (235, .inr (.inr (6, [0, 0, 1, 0, 239, 240, 248, 0, 0, 0, 0, 0, 1, 249, 253, 257, 258]))), (236, .inl (2, 54)), (237, .inr (.inl (7, [238, 239, 240, 241, 242, 243, 244]))), (238, .inl (1, 100)), (239, .inl (1, 100)), (240, .inl (1, 100)), (241, .inl (1, 100))]
def ly_r6 : List (Nat × ip_Sh) := [(242, .inl (1, 100)), (243, .inl (1, 100)), (244, .inl (1, 100)), (245, .inl (2, 100)), (246, .inr (.inr (5, [250, 251, 252, 0]))), (247, .inl (1, 48)), (248, .inl (1, 48)), (249, .inl (1, 48)), (250, .inr (.inr (4, [254, 255, 256, 0]))), (251, .inl (1, 40)), (252, .inl (2, 40)), (253, .inl (2, 40)), (254, .inl (2, 6)), (255, .inl (2, 6)), (256, .inr (.inr (9, [0, 260, 261, 262, 263, 0, 264, 265, 266, 267, 0, 0, 268, 269, 270, 271, 272, 273, 274, 275, 276, 277, 278, 279, 280, 281, 282, 283, 284, 285, 286, 287, 288, 289, 290, 291, 292, 293, 0, 0, 0, 0, 0, 0, 0, 0, 1, 1, 0, 0, 0, 294, 295, 296, 297, 298, 299, 300, 301, 302, 303, 304, 305, 306, 307, 308, 309, 0, 310, 311]))), (257, .inl (1, 8)), (258, .inl (1, 160)), (259, .inl (2, 160)), (260, .inl (1, 160)), (261, .inl (1, 24)), (262, .inl (1, 16)), (263, .inl (2, 48)), (264, .inl (2, 6)), (265, .inl (1, 8)), (266, .inl (1, 8)), (267, .inl (2, 8)), (268, .inl (1, 8)), (269, .inl (2, 384)), (270, .inl (2, 48)), (271, .inl (1, 8)), (272, .inl (1, 8)), (273, .inl (1, 8)), (274, .inl (2, 8)), (275, .inl (1, 8)), (276, .inl (1, 8)), (277, .inl (1, 5600)), (278, .inl (2, 800)), (279, .inl (1, 800)), (280, .inl (1, 808)), (281, .inl (1, 808))]
def ly_r7 : List (Nat × ip_Sh) := [(282, .inl (1, 808)), (283, .inl (1, 8)), (284, .inl (1, 1536)), (285, .inl (1, 8)), (286, .inl (1, 320)), (287, .inl (2, 320)), (288, .inl (2, 320)), (289, .inl (2, 48)), (290, .inl (2, 48)), (291, .inl (1, 7)), (292, .inl (1, 7)), (293, .inl (1, 7)), (294, .inl (1, 7)), (295, .inl (2, 7)), (296, .inl (1, 7)), (297, .inl (3, 7)), (298, .inl (1, 7)), (299, .inl (2, 84)), (300, .inl (2, 336)), (301, .inl (2, 42)), (302, .inl (2, 42)), (303, .inl (2, 42)), (304, .inl (1, 7)), (305, .inl (2, 48)), (306, .inl (2, 6)), (307, .inl (1, 100)), (308, .inl (1, 20))]
def ly_r : List (Nat × ip_Sh) := ly_r0 ++ (ly_r1 ++ (ly_r2 ++ (ly_r3 ++ (ly_r4 ++ (ly_r5 ++ (ly_r6 ++ (ly_r7)))))))
def gD : List ip_C := clD ++ Sum.inr (9, oR_52) :: reC
set_option maxRecDepth 100000 in
theorem gD_e : gD = ly_r.map (fun q => ceR M0 q.1 q.2) := by
  rfl
theorem ly_c : (List.range 307).all (fun i => decide (ly_r[i]? = (ip_sp (rnE (i + 2))).map (fun s => (rnE (i + 2), s)))) = true := by decide +kernel
theorem ly_n : ly_r.length = 307 := by decide +kernel
theorem ly_m : ip_ly.length = 307 := by decide +kernel
theorem ly_e {a : Nat} : ly_r[a]? = (ip_sp (rnE (a + 2))).map (fun s => (rnE (a + 2), s)) := by
  by_cases ha : a < 307
  · exact of_decide_eq_true (List.all_eq_true.mp ly_c a (List.mem_range.mpr ha))
  · rw [re_6 (by omega), List.getElem?_eq_none (by rw [ly_n]; omega)]
    show none = (ip_ly[a]?).map _
    rw [List.getElem?_eq_none (by rw [ly_m]; omega)]
    rfl
