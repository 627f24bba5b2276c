/-! Arrays.fill; Touches.clear; Trace.ask, askAgain, canPay, beginStep, endStep, endWell, endBadly -/
def fI (M : ip_Mm) (b i n : Nat) (v : Int32) : ip_Mm := (fun c j => if c = b ∧ i ≤ j ∧ j < n then v else M.1 c j, M.2.1, M.2.2)
def fJ (M : ip_Mm) (b i n : Nat) (v : Int64) : ip_Mm := (M.1, fun c j => if c = b ∧ i ≤ j ∧ j < n then v else M.2.1 c j, M.2.2)
theorem fI_0 {M : ip_Mm} {b n : Nat} {v : Int32} : fI M b n n v = M := by
  unfold fI
  have e : (fun c j => if c = b ∧ n ≤ j ∧ j < n then v else M.1 c j) = M.1 := by
    funext c j
    exact if_neg (by omega)
  rw [e]
theorem fJ_0 {M : ip_Mm} {b n : Nat} {v : Int64} : fJ M b n n v = M := by
  unfold fJ
  have e : (fun c j => if c = b ∧ n ≤ j ∧ j < n then v else M.2.1 c j) = M.2.1 := by
    funext c j
    exact if_neg (by omega)
  rw [e]
theorem fI_s {M : ip_Mm} {b i n : Nat} {v : Int32} (h : i < n) : fI (uI M b i v) b (i + 1) n v = fI M b i n v := by
  unfold fI uI
  refine congrArg (fun f => (f, M.2.1, M.2.2)) (funext fun c => funext fun j => ?_)
  show (if c = b ∧ i + 1 ≤ j ∧ j < n then v else if c = b ∧ j = i then v else M.1 c j) = _
  by_cases hc : c = b
  · subst hc
    by_cases hj : j = i
    · subst hj
      rw [if_neg (by omega), if_pos ⟨rfl, rfl⟩, if_pos ⟨rfl, Nat.le_refl _, h⟩]
    · by_cases hr : i + 1 ≤ j ∧ j < n
      · rw [if_pos ⟨rfl, hr⟩, if_pos ⟨rfl, by omega, hr.2⟩]
      · rw [if_neg (fun z => hr z.2), if_neg (fun z => hj z.2), if_neg (fun z => hr ⟨by omega, z.2.2⟩)]
  · rw [if_neg (fun z => hc z.1), if_neg (fun z => hc z.1), if_neg (fun z => hc z.1)]
theorem fJ_s {M : ip_Mm} {b i n : Nat} {v : Int64} (h : i < n) : fJ (uJ M b i v) b (i + 1) n v = fJ M b i n v := by
  unfold fJ uJ
  refine congrArg (fun f => (M.1, f, M.2.2)) (funext fun c => funext fun j => ?_)
  show (if c = b ∧ i + 1 ≤ j ∧ j < n then v else if c = b ∧ j = i then v else M.2.1 c j) = _
  by_cases hc : c = b
  · subst hc
    by_cases hj : j = i
    · subst hj
      rw [if_neg (by omega), if_pos ⟨rfl, rfl⟩, if_pos ⟨rfl, Nat.le_refl _, h⟩]
    · by_cases hr : i + 1 ≤ j ∧ j < n
      · rw [if_pos ⟨rfl, hr⟩, if_pos ⟨rfl, by omega, hr.2⟩]
      · rw [if_neg (fun z => hr z.2), if_neg (fun z => hj z.2), if_neg (fun z => hr ⟨by omega, z.2.2⟩)]
  · rw [if_neg (fun z => hc z.1), if_neg (fun z => hc z.1), if_neg (fun z => hc z.1)]
section FL
variable {d L : Nat} {xs : Nat → Int32} {a : Nat}
theorem lp_fillI {b n : Nat} {v : Int32} (hs : ip_sp b = some (.inl (1, n))) (hn : n < 2 ^ 30) : ∀ (k i : Nat) (M : ip_Mm), i + k = n → ip_go d mAr_fillI 5 [some (.ref b), some (.int v), some (.int (nI i)), some (.int (nI n))] [] (ip_hm L xs M) = some (none, ip_hm L xs (fI M b i n v)) := by
  intro k
  induction k with
  | zero =>
    intro i M hi
    obtain rfl : i = n := by omega
    have h1 : nI i ≤ nI i := nI_le (Nat.le_refl _) (by omega)
    rw [e145_5]
    simp only [in145, e145_0, e145_1, e145_2, e145_3, e145_4, e145_6, e145_7, e145_10, e145_11, e145_12, e145_13, e145_14, e145_17, e145_20, Option.bind_some, Option.bind_none, Option.toList_some, Option.toList_none, List.cons_append, List.nil_append, if_true, if_false, ite_true, ite_false, bd_ite, eq_self, not_true_eq_false, not_false_eq_true, true_or, or_true, or_self, k1_i, k1_j, k1_a, k1_n, h1, fI_0]
  | succ k ih =>
    intro i M hi
    have h1 : ¬ nI n ≤ nI i := nI_ge (by omega) (by omega)
    rw [e145_5]
    simp only [in145, e145_0, e145_1, e145_2, e145_3, e145_4, e145_6, e145_7, e145_10, e145_11, e145_12, e145_13, e145_14, e145_17, e145_20, Option.bind_some, Option.bind_none, Option.toList_some, Option.toList_none, List.cons_append, List.nil_append, if_true, if_false, ite_true, ite_false, bd_ite, eq_self, not_true_eq_false, not_false_eq_true, true_or, or_true, or_self, k1_i, k1_j, k1_a, k1_n, h1, m_is hs, in_t (show i < n by omega) (show n < 2 ^ 31 by omega), cl_n (show i < 2 ^ 31 by omega), nI_p1]
    rw [ih (i + 1) _ (by omega), fI_s (by omega)]
theorem k_fillI {M : ip_Mm} {b n : Nat} {v : Int32} (hs : ip_sp b = some (.inl (1, n))) (hn : n < 2 ^ 30) : ip_call d mAr_fillI [.ref b, .int v] (ip_hm L xs M) = some (none, ip_hm L xs (fI M b 0 n v)) := by
  simp only [in145, e145_0, e145_1, e145_2, e145_3, e145_4, e145_6, e145_7, e145_10, e145_11, e145_12, e145_13, e145_14, e145_17, e145_20, m_len1 hs, Option.bind_some, Option.bind_none, Option.toList_some, Option.toList_none, List.cons_append, List.nil_append, if_true, if_false, ite_true, ite_false, bd_ite, eq_self, not_true_eq_false, not_false_eq_true, true_or, or_true, or_self, k1_i, k1_j, k1_a, k1_n]
  exact lp_fillI hs hn n 0 M (by omega)
theorem lp_fillL {b n : Nat} {v : Int64} (hs : ip_sp b = some (.inl (2, n))) (hn : n < 2 ^ 30) : ∀ (k i : Nat) (M : ip_Mm), i + k = n → ip_go d mAr_fillL 6 [some (.ref b), some (.long v), none, some (.int (nI i)), some (.int (nI n))] [] (ip_hm L xs M) = some (none, ip_hm L xs (fJ M b i n v)) := by
  intro k
  induction k with
  | zero =>
    intro i M hi
    obtain rfl : i = n := by omega
    have h1 : nI i ≤ nI i := nI_le (Nat.le_refl _) (by omega)
    rw [e144_6]
    simp only [in144, e144_0, e144_1, e144_2, e144_3, e144_4, e144_7, e144_9, e144_12, e144_13, e144_14, e144_15, e144_16, e144_19, e144_22, Option.bind_some, Option.bind_none, Option.toList_some, Option.toList_none, List.cons_append, List.nil_append, if_true, if_false, ite_true, ite_false, bd_ite, eq_self, not_true_eq_false, not_false_eq_true, true_or, or_true, or_self, k1_i, k1_j, k1_a, k1_n, h1, fJ_0]
  | succ k ih =>
    intro i M hi
    have h1 : ¬ nI n ≤ nI i := nI_ge (by omega) (by omega)
    rw [e144_6]
    simp only [in144, e144_0, e144_1, e144_2, e144_3, e144_4, e144_7, e144_9, e144_12, e144_13, e144_14, e144_15, e144_16, e144_19, e144_22, Option.bind_some, Option.bind_none, Option.toList_some, Option.toList_none, List.cons_append, List.nil_append, if_true, if_false, ite_true, ite_false, bd_ite, eq_self, not_true_eq_false, not_false_eq_true, true_or, or_true, or_self, k1_i, k1_j, k1_a, k1_n, h1, m_js hs, in_t (show i < n by omega) (show n < 2 ^ 31 by omega), cl_n (show i < 2 ^ 31 by omega), nI_p1]
    rw [ih (i + 1) _ (by omega), fJ_s (by omega)]
theorem k_fillL {M : ip_Mm} {b n : Nat} {v : Int64} (hs : ip_sp b = some (.inl (2, n))) (hn : n < 2 ^ 30) : ip_call d mAr_fillL [.ref b, .long v] (ip_hm L xs M) = some (none, ip_hm L xs (fJ M b 0 n v)) := by
  simp only [in144, e144_0, e144_1, e144_2, e144_3, e144_4, e144_7, e144_9, e144_12, e144_13, e144_14, e144_15, e144_16, e144_19, e144_22, m_len1 hs, Option.bind_some, Option.bind_none, Option.toList_some, Option.toList_none, List.cons_append, List.nil_append, if_true, if_false, ite_true, ite_false, bd_ite, eq_self, not_true_eq_false, not_false_eq_true, true_or, or_true, or_self, k1_i, k1_j, k1_a, k1_n]
  exact lp_fillL hs hn n 0 M (by omega)
variable {M : ip_Mm}
theorem k_toClear (h : isTr a) : ip_call (d + 1) mTo_clear [.ref (a + 11)] (ip_hm L xs M) = some (none, ip_hm L xs (uI (fI (fI M (a + 13) 0 48 0) (a + 14) 0 48 0) (a + 11) 3 0)) := by
  simp only [in23, e23_0, e23_1, e23_4, e23_5, e23_8, e23_9, e23_12, e23_13, e23_16, e23_17, e23_18, e23_21, tr_0_o, tr_0_g0, tr_0_p0, tr_0_g1, tr_0_p1, tr_0_g2, tr_0_p2, tr_0_g3, tr_0_p3, tr_0_g4, tr_0_g5, tr_0_g6, tr_0_g7, tr_0_p7, tr_0_g8, tr_0_p8, tr_0_g9, tr_0_p9, tr_0_g10, tr_0_p10, tr_0_g11, tr_0_p11, tr_0_g12, tr_0_p12, tr_0_g13, tr_0_g14, tr_0_g15, tr_0_g16, tr_1_r, tr_1_w, tr_1_l, tr_2_r, tr_3_r, tr_3_w, tr_3_l, tr_4_r, tr_4_w, tr_4_l, tr_5_r, tr_5_w, tr_5_l, tr_6_r, tr_6_w, tr_6_l, tr_7_r, tr_7_w, tr_7_l, tr_8_r, tr_8_w, tr_8_l, tr_9_r, tr_9_w, tr_9_l, tr_10_r, tr_10_w, tr_10_l, tr_11_o, tr_11_g0, tr_11_g1, tr_11_g2, tr_11_g3, tr_11_p3, tr_12_r, tr_12_w, tr_12_l, tr_13_r, tr_13_w, tr_13_l, tr_14_r, tr_14_w, tr_14_l, tr_15_o, tr_15_g0, tr_15_g1, tr_15_g2, tr_15_g3, tr_15_p3, tr_16_r, tr_16_w, tr_16_l, tr_17_r, tr_17_w, tr_17_l, tr_18_r, tr_18_w, tr_18_l, tr_19_r, tr_19_w, tr_19_l, tr_20_r, tr_20_w, tr_20_l, h, Option.bind_some, Option.bind_none, Option.toList_some, Option.toList_none, List.cons_append, List.nil_append, if_true, if_false, ite_true, ite_false, bd_ite, eq_self, not_true_eq_false, not_false_eq_true, true_or, or_true, or_self, k1_i, k1_j, k1_a, k1_n, k_fillI (tr_s13 h) (show 48 < 2 ^ 30 by decide), k_fillI (tr_s14 h) (show 48 < 2 ^ 30 by decide)]
/-- the copy of the first n longs -/
theorem cpy0 {f g : Nat → Int64} {n : Int32} {k : Nat} (hn : n = nI k) (hk : k < 2 ^ 31) : va_cpy f g (0 : Int32).toNatClampNeg (0 : Int32).toNatClampNeg n.toNatClampNeg = fun j => if j < k then f j else g j := by
  rw [hn, cl_n hk]
  funext j
  show (if 0 ≤ j ∧ j < 0 + k then f (0 + (j - 0)) else g j) = _
  by_cases h : j < k
  · rw [if_pos ⟨Nat.zero_le _, by omega⟩, if_pos h]
    congr 1
    omega
  · rw [if_neg (by omega), if_neg h]
def asM (M : ip_Mm) (a : Nat) (x y : Int32) (w : Int64) (z : Int32) (g : Nat → Int64) : ip_Mm := uI (uI (fI (fI (uI (uI (uI (uC (uI (uJ (uI (uI M a 0 x) a 1 y) a 2 w) a 3 z) (a + 1) g) a 7 0) a 8 0) a 9 0) (a + 13) 0 48 0) (a + 14) 0 48 0) (a + 11) 3 0) (a + 15) 3 0
theorem k_ask {x y z : Int32} {w : Int64} {s0 : Nat} (h : isTr a) (hs : ip_sp s0 = some (.inl (2, 54))) : ip_call (d + 2) mTr_ask [.ref a, .int x, .int y, .long w, .int z, .ref s0] (ip_hm L xs M) = some (none, ip_hm L xs (asM M a x y w z (fun j => if j < 54 then M.2.1 s0 j else M.2.1 (a + 1) j))) := by
  have hne : ¬ s0 = a := fun e => by
    subst e
    rw [tr_s0 h] at hs
    cases hs
  have h1 : ¬ a + 1 = a := by omega
  simp only [in26, e26_0, e26_1, e26_2, e26_5, e26_6, e26_7, e26_10, e26_11, e26_12, e26_15, e26_16, e26_18, e26_21, e26_23, e26_24, e26_25, e26_28, e26_29, e26_31, e26_34, e26_35, e26_36, e26_39, e26_40, e26_41, e26_44, e26_45, e26_46, e26_49, e26_50, e26_53, e26_56, e26_57, e26_60, e26_61, e26_64, tr_0_o, tr_0_g0, tr_0_p0, tr_0_g1, tr_0_p1, tr_0_g2, tr_0_p2, tr_0_g3, tr_0_p3, tr_0_g4, tr_0_g5, tr_0_g6, tr_0_g7, tr_0_p7, tr_0_g8, tr_0_p8, tr_0_g9, tr_0_p9, tr_0_g10, tr_0_p10, tr_0_g11, tr_0_p11, tr_0_g12, tr_0_p12, tr_0_g13, tr_0_g14, tr_0_g15, tr_0_g16, tr_1_r, tr_1_w, tr_1_l, tr_2_r, tr_3_r, tr_3_w, tr_3_l, tr_4_r, tr_4_w, tr_4_l, tr_5_r, tr_5_w, tr_5_l, tr_6_r, tr_6_w, tr_6_l, tr_7_r, tr_7_w, tr_7_l, tr_8_r, tr_8_w, tr_8_l, tr_9_r, tr_9_w, tr_9_l, tr_10_r, tr_10_w, tr_10_l, tr_11_o, tr_11_g0, tr_11_g1, tr_11_g2, tr_11_g3, tr_11_p3, tr_12_r, tr_12_w, tr_12_l, tr_13_r, tr_13_w, tr_13_l, tr_14_r, tr_14_w, tr_14_l, tr_15_o, tr_15_g0, tr_15_g1, tr_15_g2, tr_15_g3, tr_15_p3, tr_16_r, tr_16_w, tr_16_l, tr_17_r, tr_17_w, tr_17_l, tr_18_r, tr_18_w, tr_18_l, tr_19_r, tr_19_w, tr_19_l, tr_20_r, tr_20_w, tr_20_l, h, Option.bind_some, Option.bind_none, Option.toList_some, Option.toList_none, List.cons_append, List.nil_append, if_true, if_false, ite_true, ite_false, bd_ite, eq_self, not_true_eq_false, not_false_eq_true, true_or, or_true, or_self, k1_i, k1_j, k1_a, k1_n, m_cp hs (tr_s1 h) (show ¬ (0 : Int32) < 0 ∧ ¬ (0 : Int32) < 0 ∧ ¬ (54 : Int32) < 0 ∧ (0 : Int32).toNatClampNeg + (54 : Int32).toNatClampNeg ≤ 54 ∧ (0 : Int32).toNatClampNeg + (54 : Int32).toNatClampNeg ≤ 54 by decide), k_toClear h, cpy0 (n := 54) (k := 54) rfl (by decide), asM, uI_1, uI_2, uI_3, uJ_1, uJ_2, uJ_3, uC_1, uC_2, uC_3, uT_1, uT_2, uT_3, hne, h1, false_and]
theorem k_askAgain {b : Nat} (h : isTr a) (hb : isTr b) : ip_call (d + 3) mTr_askAgain [.ref a, .ref b] (ip_hm L xs M) = some (none, ip_hm L xs (asM M a (M.1 b 0) (M.1 b 1) (M.2.1 b 2) (M.1 b 3) (fun j => if j < 54 then M.2.1 (b + 1) j else M.2.1 (a + 1) j))) := by
  simp only [in27, e27_0, e27_1, e27_2, e27_5, e27_6, e27_9, e27_10, e27_13, e27_14, e27_17, e27_18, e27_21, e27_24, tr_0_o, tr_0_g0, tr_0_p0, tr_0_g1, tr_0_p1, tr_0_g2, tr_0_p2, tr_0_g3, tr_0_p3, tr_0_g4, tr_0_g5, tr_0_g6, tr_0_g7, tr_0_p7, tr_0_g8, tr_0_p8, tr_0_g9, tr_0_p9, tr_0_g10, tr_0_p10, tr_0_g11, tr_0_p11, tr_0_g12, tr_0_p12, tr_0_g13, tr_0_g14, tr_0_g15, tr_0_g16, tr_1_r, tr_1_w, tr_1_l, tr_2_r, tr_3_r, tr_3_w, tr_3_l, tr_4_r, tr_4_w, tr_4_l, tr_5_r, tr_5_w, tr_5_l, tr_6_r, tr_6_w, tr_6_l, tr_7_r, tr_7_w, tr_7_l, tr_8_r, tr_8_w, tr_8_l, tr_9_r, tr_9_w, tr_9_l, tr_10_r, tr_10_w, tr_10_l, tr_11_o, tr_11_g0, tr_11_g1, tr_11_g2, tr_11_g3, tr_11_p3, tr_12_r, tr_12_w, tr_12_l, tr_13_r, tr_13_w, tr_13_l, tr_14_r, tr_14_w, tr_14_l, tr_15_o, tr_15_g0, tr_15_g1, tr_15_g2, tr_15_g3, tr_15_p3, tr_16_r, tr_16_w, tr_16_l, tr_17_r, tr_17_w, tr_17_l, tr_18_r, tr_18_w, tr_18_l, tr_19_r, tr_19_w, tr_19_l, tr_20_r, tr_20_w, tr_20_l, h, hb, Option.bind_some, Option.bind_none, Option.toList_some, Option.toList_none, List.cons_append, List.nil_append, if_true, if_false, ite_true, ite_false, bd_ite, eq_self, not_true_eq_false, not_false_eq_true, true_or, or_true, or_self, k1_i, k1_j, k1_a, k1_n, k_ask h (tr_s1 hb)]
theorem k_canPay {p : Int32} (h : isTr a) : ip_call d mTr_canPay [.ref a, .int p] (ip_hm L xs M) = some (some (.int (if 100 ≤ M.1 a 7 then 0 else if M.1 a 3 < M.1 a 8 + p then 0 else 1)), ip_hm L xs M) := by
  by_cases h1 : 100 ≤ M.1 a 7
  · simp only [in30, e30_0, e30_1, e30_4, e30_6, e30_9, e30_10, e30_13, e30_14, e30_15, e30_16, e30_19, e30_22, e30_23, e30_26, e30_27, tr_0_o, tr_0_g0, tr_0_p0, tr_0_g1, tr_0_p1, tr_0_g2, tr_0_p2, tr_0_g3, tr_0_p3, tr_0_g4, tr_0_g5, tr_0_g6, tr_0_g7, tr_0_p7, tr_0_g8, tr_0_p8, tr_0_g9, tr_0_p9, tr_0_g10, tr_0_p10, tr_0_g11, tr_0_p11, tr_0_g12, tr_0_p12, tr_0_g13, tr_0_g14, tr_0_g15, tr_0_g16, tr_1_r, tr_1_w, tr_1_l, tr_2_r, tr_3_r, tr_3_w, tr_3_l, tr_4_r, tr_4_w, tr_4_l, tr_5_r, tr_5_w, tr_5_l, tr_6_r, tr_6_w, tr_6_l, tr_7_r, tr_7_w, tr_7_l, tr_8_r, tr_8_w, tr_8_l, tr_9_r, tr_9_w, tr_9_l, tr_10_r, tr_10_w, tr_10_l, tr_11_o, tr_11_g0, tr_11_g1, tr_11_g2, tr_11_g3, tr_11_p3, tr_12_r, tr_12_w, tr_12_l, tr_13_r, tr_13_w, tr_13_l, tr_14_r, tr_14_w, tr_14_l, tr_15_o, tr_15_g0, tr_15_g1, tr_15_g2, tr_15_g3, tr_15_p3, tr_16_r, tr_16_w, tr_16_l, tr_17_r, tr_17_w, tr_17_l, tr_18_r, tr_18_w, tr_18_l, tr_19_r, tr_19_w, tr_19_l, tr_20_r, tr_20_w, tr_20_l, h, h1, Option.bind_some, Option.bind_none, Option.toList_some, Option.toList_none, List.cons_append, List.nil_append, if_true, if_false, ite_true, ite_false, bd_ite, eq_self, not_true_eq_false, not_false_eq_true, true_or, or_true, or_self, k1_i, k1_j, k1_a, k1_n]
  · by_cases h2 : M.1 a 3 < M.1 a 8 + p
    · simp only [in30, e30_0, e30_1, e30_4, e30_6, e30_9, e30_10, e30_13, e30_14, e30_15, e30_16, e30_19, e30_22, e30_23, e30_26, e30_27, tr_0_o, tr_0_g0, tr_0_p0, tr_0_g1, tr_0_p1, tr_0_g2, tr_0_p2, tr_0_g3, tr_0_p3, tr_0_g4, tr_0_g5, tr_0_g6, tr_0_g7, tr_0_p7, tr_0_g8, tr_0_p8, tr_0_g9, tr_0_p9, tr_0_g10, tr_0_p10, tr_0_g11, tr_0_p11, tr_0_g12, tr_0_p12, tr_0_g13, tr_0_g14, tr_0_g15, tr_0_g16, tr_1_r, tr_1_w, tr_1_l, tr_2_r, tr_3_r, tr_3_w, tr_3_l, tr_4_r, tr_4_w, tr_4_l, tr_5_r, tr_5_w, tr_5_l, tr_6_r, tr_6_w, tr_6_l, tr_7_r, tr_7_w, tr_7_l, tr_8_r, tr_8_w, tr_8_l, tr_9_r, tr_9_w, tr_9_l, tr_10_r, tr_10_w, tr_10_l, tr_11_o, tr_11_g0, tr_11_g1, tr_11_g2, tr_11_g3, tr_11_p3, tr_12_r, tr_12_w, tr_12_l, tr_13_r, tr_13_w, tr_13_l, tr_14_r, tr_14_w, tr_14_l, tr_15_o, tr_15_g0, tr_15_g1, tr_15_g2, tr_15_g3, tr_15_p3, tr_16_r, tr_16_w, tr_16_l, tr_17_r, tr_17_w, tr_17_l, tr_18_r, tr_18_w, tr_18_l, tr_19_r, tr_19_w, tr_19_l, tr_20_r, tr_20_w, tr_20_l, h, h1, h2, Option.bind_some, Option.bind_none, Option.toList_some, Option.toList_none, List.cons_append, List.nil_append, if_true, if_false, ite_true, ite_false, bd_ite, eq_self, not_true_eq_false, not_false_eq_true, true_or, or_true, or_self, k1_i, k1_j, k1_a, k1_n]
    · simp only [in30, e30_0, e30_1, e30_4, e30_6, e30_9, e30_10, e30_13, e30_14, e30_15, e30_16, e30_19, e30_22, e30_23, e30_26, e30_27, tr_0_o, tr_0_g0, tr_0_p0, tr_0_g1, tr_0_p1, tr_0_g2, tr_0_p2, tr_0_g3, tr_0_p3, tr_0_g4, tr_0_g5, tr_0_g6, tr_0_g7, tr_0_p7, tr_0_g8, tr_0_p8, tr_0_g9, tr_0_p9, tr_0_g10, tr_0_p10, tr_0_g11, tr_0_p11, tr_0_g12, tr_0_p12, tr_0_g13, tr_0_g14, tr_0_g15, tr_0_g16, tr_1_r, tr_1_w, tr_1_l, tr_2_r, tr_3_r, tr_3_w, tr_3_l, tr_4_r, tr_4_w, tr_4_l, tr_5_r, tr_5_w, tr_5_l, tr_6_r, tr_6_w, tr_6_l, tr_7_r, tr_7_w, tr_7_l, tr_8_r, tr_8_w, tr_8_l, tr_9_r, tr_9_w, tr_9_l, tr_10_r, tr_10_w, tr_10_l, tr_11_o, tr_11_g0, tr_11_g1, tr_11_g2, tr_11_g3, tr_11_p3, tr_12_r, tr_12_w, tr_12_l, tr_13_r, tr_13_w, tr_13_l, tr_14_r, tr_14_w, tr_14_l, tr_15_o, tr_15_g0, tr_15_g1, tr_15_g2, tr_15_g3, tr_15_p3, tr_16_r, tr_16_w, tr_16_l, tr_17_r, tr_17_w, tr_17_l, tr_18_r, tr_18_w, tr_18_l, tr_19_r, tr_19_w, tr_19_l, tr_20_r, tr_20_w, tr_20_l, h, h1, h2, Option.bind_some, Option.bind_none, Option.toList_some, Option.toList_none, List.cons_append, List.nil_append, if_true, if_false, ite_true, ite_false, bd_ite, eq_self, not_true_eq_false, not_false_eq_true, true_or, or_true, or_self, k1_i, k1_j, k1_a, k1_n]
theorem tr_fc (h : isTr a) : ip_aa (ip_hm L xs M) (a + 2) 0 = some (a + 3) ∧ ip_aa (ip_hm L xs M) (a + 2) 1 = some (a + 4) ∧ ip_aa (ip_hm L xs M) (a + 2) 2 = some (a + 5) ∧ ip_aa (ip_hm L xs M) (a + 2) 3 = some (a + 6) ∧ ip_aa (ip_hm L xs M) (a + 2) 4 = some (a + 7) ∧ ip_aa (ip_hm L xs M) (a + 2) 5 = some (a + 8) ∧ ip_aa (ip_hm L xs M) (a + 2) 6 = some (a + 9) := by
  refine ⟨?_, ?_, ?_, ?_, ?_, ?_, ?_⟩ <;> rw [tr_2_r h] <;> rfl
/-- a step noted: depth, account, member, number, kind, price -/
def bsM (M : ip_Mm) (a n : Nat) (x0 x1 x2 x3 x4 x5 : Int32) : ip_Mm := uI (uI (uI (uI (uI (uI (uI (uI M (a + 3) n x0) (a + 4) n x1) (a + 5) n x2) (a + 6) n x3) (a + 7) n x4) (a + 8) n x5) a 7 (nI (n + 1))) a 8 (M.1 a 8 + x5)
theorem fr_ne {f : Nat} (h : isTr a) (hf : isFr f) : ∀ k, k < 21 → ¬ f = a + k := by
  intro k hk e
  rcases h with rfl | rfl | rfl | rfl | rfl | rfl | rfl | rfl | rfl <;> rcases hf with rfl | rfl | rfl | rfl | rfl | rfl <;> omega
theorem k_beginStep {f n : Nat} {x y z : Int32} (h : isTr a) (hf : isFr f) (hh : M.1 a 7 = nI n) (hn : n < 100) : ip_call d mTr_beginStep [.ref a, .ref f, .int x, .int y, .int z] (ip_hm L xs M) = some (none, ip_hm L xs (bsM M a n x (M.1 f 2) (M.1 f 3) (M.1 f 6) y z)) := by
  have h1 : nI n < 100 := nI_lt (a := n) (b := 100) hn (by decide)
  have e3 := fr_ne h hf 3 (by decide)
  have e4 := fr_ne h hf 4 (by decide)
  have e5 := fr_ne h hf 5 (by decide)
  have e6 := fr_ne h hf 6 (by decide)
  have a3 : ¬ a = a + 3 := by omega
  have a4 : ¬ a = a + 4 := by omega
  have a5 : ¬ a = a + 5 := by omega
  have a6 : ¬ a = a + 6 := by omega
  have a7 : ¬ a = a + 7 := by omega
  have a8 : ¬ a = a + 8 := by omega
  simp only [in31, e31_0, e31_1, e31_4, e31_6, e31_9, e31_10, e31_11, e31_14, e31_15, e31_16, e31_17, e31_20, e31_21, e31_22, e31_23, e31_26, e31_27, e31_28, e31_29, e31_32, e31_33, e31_36, e31_37, e31_38, e31_41, e31_42, e31_43, e31_44, e31_47, e31_48, e31_51, e31_52, e31_53, e31_56, e31_57, e31_58, e31_59, e31_62, e31_63, e31_66, e31_67, e31_68, e31_71, e31_72, e31_73, e31_74, e31_77, e31_78, e31_79, e31_80, e31_83, e31_84, e31_85, e31_86, e31_89, e31_91, e31_92, e31_93, e31_94, e31_97, e31_98, e31_99, e31_102, e31_103, e31_104, e31_107, e31_109, e31_110, e31_113, tr_0_o, tr_0_g0, tr_0_p0, tr_0_g1, tr_0_p1, tr_0_g2, tr_0_p2, tr_0_g3, tr_0_p3, tr_0_g4, tr_0_g5, tr_0_g6, tr_0_g7, tr_0_p7, tr_0_g8, tr_0_p8, tr_0_g9, tr_0_p9, tr_0_g10, tr_0_p10, tr_0_g11, tr_0_p11, tr_0_g12, tr_0_p12, tr_0_g13, tr_0_g14, tr_0_g15, tr_0_g16, tr_1_r, tr_1_w, tr_1_l, tr_2_r, tr_3_r, tr_3_w, tr_3_l, tr_4_r, tr_4_w, tr_4_l, tr_5_r, tr_5_w, tr_5_l, tr_6_r, tr_6_w, tr_6_l, tr_7_r, tr_7_w, tr_7_l, tr_8_r, tr_8_w, tr_8_l, tr_9_r, tr_9_w, tr_9_l, tr_10_r, tr_10_w, tr_10_l, tr_11_o, tr_11_g0, tr_11_g1, tr_11_g2, tr_11_g3, tr_11_p3, tr_12_r, tr_12_w, tr_12_l, tr_13_r, tr_13_w, tr_13_l, tr_14_r, tr_14_w, tr_14_l, tr_15_o, tr_15_g0, tr_15_g1, tr_15_g2, tr_15_g3, tr_15_p3, tr_16_r, tr_16_w, tr_16_l, tr_17_r, tr_17_w, tr_17_l, tr_18_r, tr_18_w, tr_18_l, tr_19_r, tr_19_w, tr_19_l, tr_20_r, tr_20_w, tr_20_l, fr_0_o, fr_0_g0, fr_0_g1, fr_0_p1, fr_0_g2, fr_0_p2, fr_0_g3, fr_0_p3, fr_0_g4, fr_0_p4, fr_0_g5, fr_0_p5, fr_0_g6, fr_0_p6, fr_0_g7, fr_0_p7, fr_1_r, fr_1_w, fr_1_l, tr_fc h, h, hf, hh, h1, Option.bind_some, Option.bind_none, Option.toList_some, Option.toList_none, List.cons_append, List.nil_append, if_true, if_false, ite_true, ite_false, bd_ite, eq_self, not_true_eq_false, not_false_eq_true, true_or, or_true, or_self, k1_i, k1_j, k1_a, k1_n, in_t hn (show 100 < 2 ^ 31 by decide), cl_n (show n < 2 ^ 31 by omega), uI_1, uI_2, uI_3, uJ_1, uJ_2, uJ_3, uC_1, uC_2, uC_3, uT_1, uT_2, uT_3, nI_p1, e3, e4, e5, e6, a3, a4, a5, a6, a7, a8, false_and, bsM]
  rfl
theorem k_endStep {n : Nat} {x : Int32} {w : Int64} (h : isTr a) (hh : M.1 a 7 = nI n) (h0 : 0 < n) (hn : n ≤ 100) : ip_call d mTr_endStep [.ref a, .int x, .long w] (ip_hm L xs M) = some (none, ip_hm L xs (uJ (uI M (a + 9) (n - 1) x) (a + 10) (n - 1) (if x = 0 then w else 0))) := by
  have h1 : 1 ≤ nI n := nI_le (a := 1) (b := n) h0 (by omega)
  have a9 : ¬ a = a + 9 := by omega
  by_cases hx : x = 0
  · simp only [in32, e32_0, e32_1, e32_4, e32_5, e32_8, e32_9, e32_10, e32_13, e32_15, e32_16, e32_17, e32_20, e32_21, e32_22, e32_23, e32_24, e32_25, e32_28, e32_29, e32_32, e32_33, e32_34, e32_35, e32_38, e32_39, e32_42, e32_43, e32_44, tr_0_o, tr_0_g0, tr_0_p0, tr_0_g1, tr_0_p1, tr_0_g2, tr_0_p2, tr_0_g3, tr_0_p3, tr_0_g4, tr_0_g5, tr_0_g6, tr_0_g7, tr_0_p7, tr_0_g8, tr_0_p8, tr_0_g9, tr_0_p9, tr_0_g10, tr_0_p10, tr_0_g11, tr_0_p11, tr_0_g12, tr_0_p12, tr_0_g13, tr_0_g14, tr_0_g15, tr_0_g16, tr_1_r, tr_1_w, tr_1_l, tr_2_r, tr_3_r, tr_3_w, tr_3_l, tr_4_r, tr_4_w, tr_4_l, tr_5_r, tr_5_w, tr_5_l, tr_6_r, tr_6_w, tr_6_l, tr_7_r, tr_7_w, tr_7_l, tr_8_r, tr_8_w, tr_8_l, tr_9_r, tr_9_w, tr_9_l, tr_10_r, tr_10_w, tr_10_l, tr_11_o, tr_11_g0, tr_11_g1, tr_11_g2, tr_11_g3, tr_11_p3, tr_12_r, tr_12_w, tr_12_l, tr_13_r, tr_13_w, tr_13_l, tr_14_r, tr_14_w, tr_14_l, tr_15_o, tr_15_g0, tr_15_g1, tr_15_g2, tr_15_g3, tr_15_p3, tr_16_r, tr_16_w, tr_16_l, tr_17_r, tr_17_w, tr_17_l, tr_18_r, tr_18_w, tr_18_l, tr_19_r, tr_19_w, tr_19_l, tr_20_r, tr_20_w, tr_20_l, tr_fc h, h, hh, h1, Option.bind_some, Option.bind_none, Option.toList_some, Option.toList_none, List.cons_append, List.nil_append, if_true, if_false, ite_true, ite_false, bd_ite, eq_self, not_true_eq_false, not_false_eq_true, true_or, or_true, or_self, k1_i, k1_j, k1_a, k1_n, nI_m1 h0, in_t (show n - 1 < 100 by omega) (show 100 < 2 ^ 31 by decide), cl_n (show n - 1 < 2 ^ 31 by omega), uI_1, uI_2, uI_3, uJ_1, uJ_2, uJ_3, uC_1, uC_2, uC_3, uT_1, uT_2, uT_3, a9, false_and, hx]
  · simp only [in32, e32_0, e32_1, e32_4, e32_5, e32_8, e32_9, e32_10, e32_13, e32_15, e32_16, e32_17, e32_20, e32_21, e32_22, e32_23, e32_24, e32_25, e32_28, e32_29, e32_32, e32_33, e32_34, e32_35, e32_38, e32_39, e32_42, e32_43, e32_44, tr_0_o, tr_0_g0, tr_0_p0, tr_0_g1, tr_0_p1, tr_0_g2, tr_0_p2, tr_0_g3, tr_0_p3, tr_0_g4, tr_0_g5, tr_0_g6, tr_0_g7, tr_0_p7, tr_0_g8, tr_0_p8, tr_0_g9, tr_0_p9, tr_0_g10, tr_0_p10, tr_0_g11, tr_0_p11, tr_0_g12, tr_0_p12, tr_0_g13, tr_0_g14, tr_0_g15, tr_0_g16, tr_1_r, tr_1_w, tr_1_l, tr_2_r, tr_3_r, tr_3_w, tr_3_l, tr_4_r, tr_4_w, tr_4_l, tr_5_r, tr_5_w, tr_5_l, tr_6_r, tr_6_w, tr_6_l, tr_7_r, tr_7_w, tr_7_l, tr_8_r, tr_8_w, tr_8_l, tr_9_r, tr_9_w, tr_9_l, tr_10_r, tr_10_w, tr_10_l, tr_11_o, tr_11_g0, tr_11_g1, tr_11_g2, tr_11_g3, tr_11_p3, tr_12_r, tr_12_w, tr_12_l, tr_13_r, tr_13_w, tr_13_l, tr_14_r, tr_14_w, tr_14_l, tr_15_o, tr_15_g0, tr_15_g1, tr_15_g2, tr_15_g3, tr_15_p3, tr_16_r, tr_16_w, tr_16_l, tr_17_r, tr_17_w, tr_17_l, tr_18_r, tr_18_w, tr_18_l, tr_19_r, tr_19_w, tr_19_l, tr_20_r, tr_20_w, tr_20_l, tr_fc h, h, hh, h1, Option.bind_some, Option.bind_none, Option.toList_some, Option.toList_none, List.cons_append, List.nil_append, if_true, if_false, ite_true, ite_false, bd_ite, eq_self, not_true_eq_false, not_false_eq_true, true_or, or_true, or_self, k1_i, k1_j, k1_a, k1_n, nI_m1 h0, in_t (show n - 1 < 100 by omega) (show 100 < 2 ^ 31 by decide), cl_n (show n - 1 < 2 ^ 31 by omega), uI_1, uI_2, uI_3, uJ_1, uJ_2, uJ_3, uC_1, uC_2, uC_3, uT_1, uT_2, uT_3, a9, false_and, hx]
end FL
