/-! the frames' methods -/
section FR
variable {d L : Nat} {xs : Nat → Int32} {M : ip_Mm} {a : Nat}
theorem uI_1 {k : Nat} {v : Int32} {b j : Nat} : (uI M a k v).1 b j = if b = a ∧ j = k then v else M.1 b j := rfl
theorem uI_2 {k : Nat} {v : Int32} : (uI M a k v).2.1 = M.2.1 := rfl
theorem uI_3 {k : Nat} {v : Int32} : (uI M a k v).2.2 = M.2.2 := rfl
theorem uJ_1 {k : Nat} {v : Int64} : (uJ M a k v).1 = M.1 := rfl
theorem uJ_2 {k : Nat} {v : Int64} {b j : Nat} : (uJ M a k v).2.1 b j = if b = a ∧ j = k then v else M.2.1 b j := rfl
theorem uJ_3 {k : Nat} {v : Int64} : (uJ M a k v).2.2 = M.2.2 := rfl
theorem uC_1 {g : Nat → Int64} : (uC M a g).1 = M.1 := rfl
theorem uC_2 {g : Nat → Int64} {b j : Nat} : (uC M a g).2.1 b j = if b = a then g j else M.2.1 b j := rfl
theorem uC_3 {g : Nat → Int64} : (uC M a g).2.2 = M.2.2 := rfl
theorem uT_1 : (uT M a).1 = M.1 := rfl
theorem uT_2 : (uT M a).2.1 = M.2.1 := rfl
theorem uT_3 : (uT M a).2.2 = a := rfl
theorem nI_p1 {n : Nat} : nI n + 1 = nI (n + 1) := nI_1 n
theorem nI_m1 {n : Nat} (h : 0 < n) : nI n - 1 = nI (n - 1) := by
  rw [show (1 : Int32) = nI 1 from rfl, pk_sub h]
/-- Frame.push -/
theorem k_push {w : Int64} {n : Nat} (h : isFr a) (hh : M.1 a 1 = nI n) (hn : n ≤ 12) : ip_call d mFr_push [.ref a, .long w] (ip_hm L xs M) = if n < 12 then some (some (.int 0), ip_hm L xs (uI (uJ M (a + 1) n w) a 1 (nI (n + 1)))) else some (some (.int 2), ip_hm L xs M) := by
  by_cases h12 : n < 12
  · have h1 : nI n < 12 := nI_lt (a := n) (b := 12) h12 (by decide)
    simp only [in6, e6_0, e6_1, e6_4, e6_6, e6_9, e6_10, e6_11, e6_12, e6_15, e6_16, e6_19, e6_20, e6_21, e6_22, e6_23, e6_26, e6_27, e6_28, e6_31, e6_32, fr_0_o, fr_0_g0, fr_0_g1, fr_0_p1, fr_0_g2, fr_0_p2, fr_0_g3, fr_0_p3, fr_0_g4, fr_0_p4, fr_0_g5, fr_0_p5, fr_0_g6, fr_0_p6, fr_0_g7, fr_0_p7, fr_1_r, fr_1_w, fr_1_l, h, hh, h1, h12, Option.bind_some, Option.bind_none, Option.toList_some, Option.toList_none, List.cons_append, List.nil_append, if_true, if_false, ite_true, ite_false, bd_ite, eq_self, not_true_eq_false, not_false_eq_true, true_or, or_true, or_self, k1_i, k1_j, k1_a, k1_n, in_t h12 (show 12 < 2 ^ 31 by decide), cl_n (show n < 2 ^ 31 by omega), uI_1, uI_2, uI_3, uJ_1, uJ_2, uJ_3, uC_1, uC_2, uC_3, uT_1, uT_2, uT_3, nI_p1]
  · have h1 : ¬ nI n < 12 := nI_nlt (a := n) (b := 12) (by omega) (by omega)
    simp only [in6, e6_0, e6_1, e6_4, e6_6, e6_9, e6_10, e6_11, e6_12, e6_15, e6_16, e6_19, e6_20, e6_21, e6_22, e6_23, e6_26, e6_27, e6_28, e6_31, e6_32, fr_0_o, fr_0_g0, fr_0_g1, fr_0_p1, fr_0_g2, fr_0_p2, fr_0_g3, fr_0_p3, fr_0_g4, fr_0_p4, fr_0_g5, fr_0_p5, fr_0_g6, fr_0_p6, fr_0_g7, fr_0_p7, fr_1_r, fr_1_w, fr_1_l, h, hh, h1, h12, Option.bind_some, Option.bind_none, Option.toList_some, Option.toList_none, List.cons_append, List.nil_append, if_true, if_false, ite_true, ite_false, bd_ite, eq_self, not_true_eq_false, not_false_eq_true, true_or, or_true, or_self, k1_i, k1_j, k1_a, k1_n]
/-- Frame.pop -/
theorem k_pop {n : Nat} (h : isFr a) (hh : M.1 a 1 = nI n) (hn : n ≤ 12) : ip_call d mFr_pop [.ref a] (ip_hm L xs M) = if 0 < n then some (some (.long (M.2.1 (a + 1) (n - 1))), ip_hm L xs (uI M a 1 (nI (n - 1)))) else some (some (.long 0), ip_hm L xs M) := by
  by_cases h0 : 0 < n
  · have h1 : 1 ≤ nI n := nI_le (a := 1) (b := n) h0 (by omega)
    simp only [in7, e7_0, e7_1, e7_4, e7_5, e7_8, e7_9, e7_10, e7_11, e7_12, e7_15, e7_16, e7_17, e7_20, e7_21, e7_24, e7_25, e7_28, e7_29, fr_0_o, fr_0_g0, fr_0_g1, fr_0_p1, fr_0_g2, fr_0_p2, fr_0_g3, fr_0_p3, fr_0_g4, fr_0_p4, fr_0_g5, fr_0_p5, fr_0_g6, fr_0_p6, fr_0_g7, fr_0_p7, fr_1_r, fr_1_w, fr_1_l, h, hh, h1, h0, Option.bind_some, Option.bind_none, Option.toList_some, Option.toList_none, List.cons_append, List.nil_append, if_true, if_false, ite_true, ite_false, bd_ite, eq_self, not_true_eq_false, not_false_eq_true, true_or, or_true, or_self, k1_i, k1_j, k1_a, k1_n, uI_1, uI_2, uI_3, uJ_1, uJ_2, uJ_3, uC_1, uC_2, uC_3, uT_1, uT_2, uT_3, nI_m1 h0, and_self, in_t (show n - 1 < 12 by omega) (show 12 < 2 ^ 31 by decide), cl_n (show n - 1 < 2 ^ 31 by omega)]
  · have h1 : ¬ 1 ≤ nI n := nI_ge (a := n) (b := 1) (by omega) (by decide)
    simp only [in7, e7_0, e7_1, e7_4, e7_5, e7_8, e7_9, e7_10, e7_11, e7_12, e7_15, e7_16, e7_17, e7_20, e7_21, e7_24, e7_25, e7_28, e7_29, fr_0_o, fr_0_g0, fr_0_g1, fr_0_p1, fr_0_g2, fr_0_p2, fr_0_g3, fr_0_p3, fr_0_g4, fr_0_p4, fr_0_g5, fr_0_p5, fr_0_g6, fr_0_p6, fr_0_g7, fr_0_p7, fr_1_r, fr_1_w, fr_1_l, h, hh, h1, h0, Option.bind_some, Option.bind_none, Option.toList_some, Option.toList_none, List.cons_append, List.nil_append, if_true, if_false, ite_true, ite_false, bd_ite, eq_self, not_true_eq_false, not_false_eq_true, true_or, or_true, or_self, k1_i, k1_j, k1_a, k1_n]
/-- Frame.top -/
theorem k_top {n : Nat} (h : isFr a) (hh : M.1 a 1 = nI n) (hn : n ≤ 12) : ip_call d mFr_top [.ref a] (ip_hm L xs M) = some (some (.long (if 0 < n then M.2.1 (a + 1) (n - 1) else 0)), ip_hm L xs M) := by
  by_cases h0 : 0 < n
  · have h1 : 1 ≤ nI n := nI_le (a := 1) (b := n) h0 (by omega)
    simp only [in8, e8_0, e8_1, e8_4, e8_5, e8_8, e8_9, e8_12, e8_13, e8_16, e8_17, e8_20, e8_21, e8_22, e8_23, fr_0_o, fr_0_g0, fr_0_g1, fr_0_p1, fr_0_g2, fr_0_p2, fr_0_g3, fr_0_p3, fr_0_g4, fr_0_p4, fr_0_g5, fr_0_p5, fr_0_g6, fr_0_p6, fr_0_g7, fr_0_p7, fr_1_r, fr_1_w, fr_1_l, h, hh, h1, h0, Option.bind_some, Option.bind_none, Option.toList_some, Option.toList_none, List.cons_append, List.nil_append, if_true, if_false, ite_true, ite_false, bd_ite, eq_self, not_true_eq_false, not_false_eq_true, true_or, or_true, or_self, k1_i, k1_j, k1_a, k1_n, nI_m1 h0, in_t (show n - 1 < 12 by omega) (show 12 < 2 ^ 31 by decide), cl_n (show n - 1 < 2 ^ 31 by omega)]
  · have h1 : ¬ 1 ≤ nI n := nI_ge (a := n) (b := 1) (by omega) (by decide)
    simp only [in8, e8_0, e8_1, e8_4, e8_5, e8_8, e8_9, e8_12, e8_13, e8_16, e8_17, e8_20, e8_21, e8_22, e8_23, fr_0_o, fr_0_g0, fr_0_g1, fr_0_p1, fr_0_g2, fr_0_p2, fr_0_g3, fr_0_p3, fr_0_g4, fr_0_p4, fr_0_g5, fr_0_p5, fr_0_g6, fr_0_p6, fr_0_g7, fr_0_p7, fr_1_r, fr_1_w, fr_1_l, h, hh, h1, h0, Option.bind_some, Option.bind_none, Option.toList_some, Option.toList_none, List.cons_append, List.nil_append, if_true, if_false, ite_true, ite_false, bd_ite, eq_self, not_true_eq_false, not_false_eq_true, true_or, or_true, or_self, k1_i, k1_j, k1_a, k1_n]
/-- Frame.open -/
theorem k_open {x y z : Int32} {w : Int64} (h : isFr a) : ip_call d mFr_open [.ref a, .int x, .int y, .long w, .int z] (ip_hm L xs M) = some (none, ip_hm L xs (uJ (uI (uJ (uI (uI (uI (uI M a 1 0) a 2 x) a 3 y) a 4 z) a 5 w) a 6 0) a 7 0)) := by
  simp only [in5, e5_0, e5_1, e5_2, e5_5, e5_6, e5_7, e5_10, e5_11, e5_12, e5_15, e5_16, e5_18, e5_21, e5_22, e5_23, e5_26, e5_27, e5_28, e5_31, e5_32, e5_33, e5_36, fr_0_o, fr_0_g0, fr_0_g1, fr_0_p1, fr_0_g2, fr_0_p2, fr_0_g3, fr_0_p3, fr_0_g4, fr_0_p4, fr_0_g5, fr_0_p5, fr_0_g6, fr_0_p6, fr_0_g7, fr_0_p7, fr_1_r, fr_1_w, fr_1_l, h, Option.bind_some, Option.bind_none, Option.toList_some, Option.toList_none, List.cons_append, List.nil_append, if_true, if_false, ite_true, ite_false, bd_ite, eq_self, not_true_eq_false, not_false_eq_true, true_or, or_true, or_self, k1_i, k1_j, k1_a, k1_n]
end FR
