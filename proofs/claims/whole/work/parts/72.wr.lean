/-! addSign, addNumber; put, putNumber -/
section S12
variable {d L : Nat} {xs : Nat → Int32} {M : ip_Mm} {n c A : Nat} {v : Int64}
theorem k_addSign (h : M.1 85 2 = nI n) (hn : n < 64) (hc : c < 128) : ip_call d mLi_addSign [.ref 85, .int (nI c)] (ip_hm L xs M) = some (none, ip_hm L xs (cS M n c)) := by
  have e : (uI M 86 n (nI c)).1 85 2 = nI n := by simp (disch := first | assumption | omega) only [rI, rI1, rI0, rJ, rJ1, rJ0, rC, rC0, uI_2, uI_3, uJ_1, uJ_3, uC_1, uC_3, uT_1, uT_2, uT_3, rFI, rFI0, rFI1, rFI2, rFI3, rFJ, rFJ0, rFJ1, rFJ2, rFJ3, h]
  simp (disch := first | assumption | omega) only [in15, e15_0, e15_1, e15_4, e15_6, e15_9, e15_10, e15_13, e15_14, e15_17, e15_18, e15_19, e15_20, e15_21, e15_22, e15_25, e15_26, e15_27, e15_30, c2_o, c2_g0, c2_g1, c2_g2, c2_g3, c2_g4, c2_g5, c2_p5, c2_g6, c2_p6, c3_o, c3_g0, c3_g1, c3_g2, c3_g3, c3_p3, c3_g4, c3_p4, c4_r, c5_r, c5_w, c5_l, c6_r, c6_w, c6_l, c39_r, c39_w, c39_l, c40_r, c41_o, c41_g0, c41_g1, c41_g2, c41_g3, c41_g4, c41_g5, c41_g6, c41_g7, c41_p7, c41_g8, c41_p8, c42_r, c42_w, c42_l, c43_r, c50_r, c50_w, c50_l, c51_r, c85_o, c85_g0, c85_g1, c85_g2, c85_p2, c86_r, c86_w, c86_l, c87_r, c87_w, c87_l, ↓bc5_r, ↓bc6_r, ↓bc39_r, ↓bc42_r, ↓bc50_r, ↓bc86_r, ↓bc87_r, ↓reduceIte, ar1, ar2, ar3, ar4, ar5, ar6, ar7, ar8, ar9, in_t, cl_n, ltNN, ltNL, ltLN, leNN, leNL, leLN, eqNN, eqNL, ntLt, nfLt, ntLe, nfLe, ntEq, nfEq, lN_i32, nI_l, ltJNN, ltJNL, leJNN, leJLN, leJNL, ltJLN, n10, h, by8, e, cS, Option.bind_some, Option.bind_none, Option.toList_some, Option.toList_none, List.cons_append, List.nil_append, if_true, if_false, ite_true, ite_false, bd_ite, eq_self, not_true_eq_false, not_false_eq_true, true_or, or_true, or_self, k1_i, k1_j, k1_a, k1_n]
theorem r_put (h : M.1 256 67 = nI n) (hn : n < 100) : ip_call d mR_put [.ref 256, .int (nI c)] (ip_hm L xs M) = some (none, ip_hm L xs (rS M n c)) := by
  have e : (uI M 307 n (nI c)).1 256 67 = nI n := by simp (disch := first | assumption | omega) only [rI, rI1, rI0, rJ, rJ1, rJ0, rC, rC0, uI_2, uI_3, uJ_1, uJ_3, uC_1, uC_3, uT_1, uT_2, uT_3, rFI, rFI0, rFI1, rFI2, rFI3, rFJ, rFJ0, rFJ1, rFJ2, rFJ3, h]
  simp (disch := first | assumption | omega) only [in139, e139_0, e139_1, e139_4, e139_5, e139_8, e139_9, e139_10, e139_11, e139_12, e139_15, e139_16, e139_17, e139_20, c256_o, c256_g0, c256_p0, c256_g1, c256_g2, c256_g3, c256_g4, c256_g5, c256_p5, c256_g6, c256_g7, c256_g8, c256_g9, c256_g10, c256_p10, c256_g11, c256_p11, c256_g12, c256_g13, c256_g14, c256_g15, c256_g16, c256_g17, c256_g18, c256_g19, c256_g20, c256_g21, c256_g22, c256_g23, c256_g24, c256_g25, c256_g26, c256_g27, c256_g28, c256_g29, c256_g30, c256_g31, c256_g32, c256_g33, c256_g34, c256_g35, c256_g36, c256_g37, c256_g38, c256_p38, c256_g39, c256_p39, c256_g40, c256_p40, c256_g41, c256_p41, c256_g42, c256_p42, c256_g43, c256_p43, c256_g44, c256_p44, c256_g45, c256_p45, c256_g46, c256_p46, c256_g47, c256_p47, c256_g48, c256_p48, c256_g49, c256_p49, c256_g50, c256_p50, c256_g51, c256_g52, c256_g53, c256_g54, c256_g55, c256_g56, c256_g57, c256_g58, c256_g59, c256_g60, c256_g61, c256_g62, c256_g63, c256_g64, c256_g65, c256_g66, c256_g67, c256_p67, c256_g68, c256_g69, c257_r, c257_w, c257_l, c258_r, c258_w, c258_l, c259_r, c259_w, c259_l, c260_r, c260_w, c260_l, c261_r, c261_w, c261_l, c262_r, c262_w, c262_l, c263_r, c263_w, c263_l, c264_r, c264_w, c264_l, c265_r, c265_w, c265_l, c266_r, c266_w, c266_l, c267_r, c267_w, c267_l, c268_r, c268_w, c268_l, c269_r, c269_w, c269_l, c270_r, c270_w, c270_l, c271_r, c271_w, c271_l, c272_r, c272_w, c272_l, c273_r, c273_w, c273_l, c274_r, c274_w, c274_l, c275_r, c275_w, c275_l, c276_r, c276_w, c276_l, c277_r, c277_w, c277_l, c278_r, c278_w, c278_l, c279_r, c279_w, c279_l, c280_r, c280_w, c280_l, c281_r, c281_w, c281_l, c282_r, c282_w, c282_l, c283_r, c283_w, c283_l, c284_r, c284_w, c284_l, c285_r, c285_w, c285_l, c286_r, c286_w, c286_l, c287_r, c287_w, c287_l, c288_r, c288_w, c288_l, c289_r, c289_w, c289_l, c290_r, c290_w, c290_l, c291_r, c291_w, c291_l, c292_r, c292_w, c292_l, c293_r, c293_w, c293_l, c294_r, c294_w, c294_l, c295_r, c295_w, c295_l, c296_r, c296_w, c296_l, c297_r, c297_w, c297_l, c298_r, c298_w, c298_l, c299_r, c299_w, c299_l, c300_r, c300_w, c300_l, c301_r, c301_w, c301_l, c302_r, c302_w, c302_l, c303_r, c303_w, c303_l, c304_r, c304_w, c304_l, c305_r, c305_w, c305_l, c306_r, c306_w, c306_l, c307_r, c307_w, c307_l, c308_r, c308_w, c308_l, ↓bc257_r, ↓bc258_r, ↓bc259_r, ↓bc260_r, ↓bc261_r, ↓bc262_r, ↓bc263_r, ↓bc264_r, ↓bc265_r, ↓bc266_r, ↓bc267_r, ↓bc268_r, ↓bc269_r, ↓bc270_r, ↓bc271_r, ↓bc272_r, ↓bc273_r, ↓bc274_r, ↓bc275_r, ↓bc276_r, ↓bc277_r, ↓bc278_r, ↓bc279_r, ↓bc280_r, ↓bc281_r, ↓bc282_r, ↓bc283_r, ↓bc284_r, ↓bc285_r, ↓bc286_r, ↓bc287_r, ↓bc288_r, ↓bc289_r, ↓bc290_r, ↓bc291_r, ↓bc292_r, ↓bc293_r, ↓bc294_r, ↓bc295_r, ↓bc296_r, ↓bc297_r, ↓bc298_r, ↓bc299_r, ↓bc300_r, ↓bc301_r, ↓bc302_r, ↓bc303_r, ↓bc304_r, ↓bc305_r, ↓bc306_r, ↓bc307_r, ↓bc308_r, ↓reduceIte, ar1, ar2, ar3, ar4, ar5, ar6, ar7, ar8, ar9, in_t, cl_n, ltNN, ltNL, ltLN, leNN, leNL, leLN, eqNN, eqNL, ntLt, nfLt, ntLe, nfLe, ntEq, nfEq, lN_i32, nI_l, ltJNN, ltJNL, leJNN, leJLN, leJNL, ltJLN, n10, h, e, rS, Option.bind_some, Option.bind_none, Option.toList_some, Option.toList_none, List.cons_append, List.nil_append, if_true, if_false, ite_true, ite_false, bd_ite, eq_self, not_true_eq_false, not_false_eq_true, true_or, or_true, or_self, k1_i, k1_j, k1_a, k1_n]
def iM (k : Nat) : Int32 := nI k - 1
theorem iM_0 : iM 0 < 0 := by decide
theorem iM_s {k : Nat} : iM (k + 1) = nI k := nI_pred k
theorem iM_m {k : Nat} : nI k + (-1) = iM k := by
  unfold iM
  apply Int32.toBitVec_inj.mp
  rw [Int32.toBitVec_add, Int32.toBitVec_sub, BitVec.sub_eq_add_neg]
  rfl
/-- the class's figures, from the greatest on -/
theorem lp_wd {l1 l2 l3 l4 : Option Value} {l5 : Int32} : ∀ (k n : Nat) (M : ip_Mm), M.1 85 2 = nI n → n + k ≤ 64 → k ≤ 19 → (∀ i, i < k → M.1 87 i = nI (48 + A / 10 ^ i % 10)) → ∃ M1, ip_go (d + 1) mLi_addNumber 72 [some (.ref 85), l1, l2, l3, l4, some (.int l5), some (.int (iM k))] [] (ip_hm L xs M) = some (none, ip_hm L xs M1) ∧ wC M M1 n (dW A k) := by
  intro k
  induction k with
  | zero =>
    intro n M h _ _ _
    refine ⟨M, ?_, wC_0 h⟩
    have i0 := iM_0
    rw [e16_72]
    simp (disch := first | assumption | omega) only [in16, e16_0, e16_1, e16_2, e16_3, e16_6, e16_7, e16_9, e16_12, e16_13, e16_14, e16_15, e16_18, e16_19, e16_22, e16_23, e16_24, e16_25, e16_26, e16_29, e16_32, e16_34, e16_36, e16_37, e16_40, e16_41, e16_42, e16_43, e16_44, e16_45, e16_48, e16_49, e16_50, e16_53, e16_54, e16_55, e16_56, e16_59, e16_61, e16_63, e16_66, e16_68, e16_69, e16_70, e16_74, e16_77, e16_78, e16_79, e16_82, e16_84, e16_85, e16_88, e16_91, e16_94, i0, Option.bind_some, Option.bind_none, Option.toList_some, Option.toList_none, List.cons_append, List.nil_append, if_true, if_false, ite_true, ite_false, bd_ite, eq_self, not_true_eq_false, not_false_eq_true, true_or, or_true, or_self, k1_i, k1_j, k1_a, k1_n]
  | succ k ih =>
    intro n M h hn hk hf
    have f0 := hf k (by omega)
    have c128 : 48 + A / 10 ^ k % 10 < 128 := by omega
    have ka := k_addSign (d := d) (L := L) (xs := xs) h (by omega) c128
    have e1 : (cS M n (48 + A / 10 ^ k % 10)).1 85 2 = nI (n + 1) := rI0
    obtain ⟨M1, g1, g2⟩ := ih (n + 1) (cS M n (48 + A / 10 ^ k % 10)) e1 (by omega) (by omega) (fun i hi => by
      have := hf i (by omega)
      simp (disch := first | assumption | omega) only [cS, rI, rI1, rI0, rJ, rJ1, rJ0, rC, rC0, uI_2, uI_3, uJ_1, uJ_3, uC_1, uC_3, uT_1, uT_2, uT_3, rFI, rFI0, rFI1, rFI2, rFI3, rFJ, rFJ0, rFJ1, rFJ2, rFJ3, this])
    refine ⟨M1, ?_, wC_t wC_1 g2⟩
    have k0 : ¬ nI k < 0 := nI_pos (by omega)
    rw [iM_s, e16_72]
    simp (disch := first | assumption | omega) only [in16, e16_0, e16_1, e16_2, e16_3, e16_6, e16_7, e16_9, e16_12, e16_13, e16_14, e16_15, e16_18, e16_19, e16_22, e16_23, e16_24, e16_25, e16_26, e16_29, e16_32, e16_34, e16_36, e16_37, e16_40, e16_41, e16_42, e16_43, e16_44, e16_45, e16_48, e16_49, e16_50, e16_53, e16_54, e16_55, e16_56, e16_59, e16_61, e16_63, e16_66, e16_68, e16_69, e16_70, e16_74, e16_77, e16_78, e16_79, e16_82, e16_84, e16_85, e16_88, e16_91, e16_94, c2_o, c2_g0, c2_g1, c2_g2, c2_g3, c2_g4, c2_g5, c2_p5, c2_g6, c2_p6, c3_o, c3_g0, c3_g1, c3_g2, c3_g3, c3_p3, c3_g4, c3_p4, c4_r, c5_r, c5_w, c5_l, c6_r, c6_w, c6_l, c39_r, c39_w, c39_l, c40_r, c41_o, c41_g0, c41_g1, c41_g2, c41_g3, c41_g4, c41_g5, c41_g6, c41_g7, c41_p7, c41_g8, c41_p8, c42_r, c42_w, c42_l, c43_r, c50_r, c50_w, c50_l, c51_r, c85_o, c85_g0, c85_g1, c85_g2, c85_p2, c86_r, c86_w, c86_l, c87_r, c87_w, c87_l, ↓bc5_r, ↓bc6_r, ↓bc39_r, ↓bc42_r, ↓bc50_r, ↓bc86_r, ↓bc87_r, in_t, cl_n, k0, f0, ka, iM_m, Option.bind_some, Option.bind_none, Option.toList_some, Option.toList_none, List.cons_append, List.nil_append, if_true, if_false, ite_true, ite_false, bd_ite, eq_self, not_true_eq_false, not_false_eq_true, true_or, or_true, or_self, k1_i, k1_j, k1_a, k1_n]
    exact g1
theorem ten_lt {k : Nat} (hA : A ≤ 2 ^ 63) (h : ¬ A / 10 ^ k = 0) : k < 19 := by
  apply Nat.lt_of_not_le
  intro hk
  apply h
  have h1 : 10 ^ 19 ≤ 10 ^ k := Nat.pow_le_pow_right (by decide) hk
  apply Nat.div_eq_of_lt
  have : (2 : Nat) ^ 63 < 10 ^ 19 := by decide
  omega
theorem ten_s {k : Nat} : A / 10 ^ k / 10 = A / 10 ^ (k + 1) := by rw [Nat.div_div_eq_div_mul, Nat.pow_succ]
/-- the class's figures found -/
theorem lp_wf {l1 l2 l6 : Option Value} (hA : A ≤ 2 ^ 63) : ∀ (j k : Nat) (x : Int64) (M : ip_Mm), k + (j + 1) = 19 → x.toInt = -((A / 10 ^ k : Nat) : Int) → (∀ i, i < k → M.1 87 i = nI (48 + A / 10 ^ i % 10)) → ∃ (M1 : ip_Mm) (y : Int64), ip_go (d + 1) mLi_addNumber 28 [some (.ref 85), l1, none, some (.long x), none, some (.int (nI k)), l6] [] (ip_hm L xs M) = ip_go (d + 1) mLi_addNumber 72 [some (.ref 85), l1, none, some (.long y), none, some (.int (nI (dn A (j + 1) k))), some (.int (iM (dn A (j + 1) k)))] [] (ip_hm L xs M1) ∧ (∀ i, i < dn A (j + 1) k → M1.1 87 i = nI (48 + A / 10 ^ i % 10)) ∧ (∀ c j, ¬ c = 87 → M1.1 c j = M.1 c j) ∧ M1.2 = M.2 := by
  intro j
  induction j with
  | zero =>
    intro k x M hk hx hf
    have k18 : k = 18 := by omega
    obtain ⟨q1, q2⟩ := q10 hx (Nat.le_trans (Nat.div_le_self _ _) hA)
    have fg := fgC (show A / 10 ^ k % 10 < 10 by omega)
    rw [ten_s] at q1
    have z : A / 10 ^ (k + 1) = 0 := Decidable.byContradiction fun h => by
      have := ten_lt hA h
      omega
    have y0 : lg_cmp (x / 10) 0 = 0 := cm_eqz.mpr (Int64.toInt_inj.mp (by rw [q1, z]; decide))
    have dne : dn A (0 + 1) k = k + 1 := by
      show (if A / 10 ^ (k + 1) = 0 then k + 1 else _) = _
      rw [if_pos z]
    have z10 : ((10 : Int64) = 0) = False := eq_false (by decide)
    have k19 : k < 19 := by omega
    rw [dne]
    refine ⟨uI M 87 k (nI (48 + A / 10 ^ k % 10)), x / 10, ?_, fun i hi => ?_, fun c j hc => ?_, rfl⟩
    · rw [e16_28]
      simp (disch := first | assumption | omega) only [in16, e16_0, e16_1, e16_2, e16_3, e16_6, e16_7, e16_9, e16_12, e16_13, e16_14, e16_15, e16_18, e16_19, e16_22, e16_23, e16_24, e16_25, e16_26, e16_29, e16_32, e16_34, e16_36, e16_37, e16_40, e16_41, e16_42, e16_43, e16_44, e16_45, e16_48, e16_49, e16_50, e16_53, e16_54, e16_55, e16_56, e16_59, e16_61, e16_63, e16_66, e16_68, e16_69, e16_70, e16_74, e16_77, e16_78, e16_79, e16_82, e16_84, e16_85, e16_88, e16_91, e16_94, c2_o, c2_g0, c2_g1, c2_g2, c2_g3, c2_g4, c2_g5, c2_p5, c2_g6, c2_p6, c3_o, c3_g0, c3_g1, c3_g2, c3_g3, c3_p3, c3_g4, c3_p4, c4_r, c5_r, c5_w, c5_l, c6_r, c6_w, c6_l, c39_r, c39_w, c39_l, c40_r, c41_o, c41_g0, c41_g1, c41_g2, c41_g3, c41_g4, c41_g5, c41_g6, c41_g7, c41_p7, c41_g8, c41_p8, c42_r, c42_w, c42_l, c43_r, c50_r, c50_w, c50_l, c51_r, c85_o, c85_g0, c85_g1, c85_g2, c85_p2, c86_r, c86_w, c86_l, c87_r, c87_w, c87_l, ↓bc5_r, ↓bc6_r, ↓bc39_r, ↓bc42_r, ↓bc50_r, ↓bc86_r, ↓bc87_r, in_t, cl_n, q2, fg, z10, nI_p1, y0, iM, Option.bind_some, Option.bind_none, Option.toList_some, Option.toList_none, List.cons_append, List.nil_append, if_true, if_false, ite_true, ite_false, bd_ite, eq_self, not_true_eq_false, not_false_eq_true, true_or, or_true, or_self, k1_i, k1_j, k1_a, k1_n]
    · by_cases e : i = k
      · rw [e, rI0]
      · rw [rI1 e]; exact hf i (by omega)
    · rw [rI hc]
  | succ j ih =>
    intro k x M hk hx hf
    obtain ⟨q1, q2⟩ := q10 hx (Nat.le_trans (Nat.div_le_self _ _) hA)
    have fg := fgC (show A / 10 ^ k % 10 < 10 by omega)
    rw [ten_s] at q1
    have z10 : ((10 : Int64) = 0) = False := eq_false (by decide)
    have k19 : k < 19 := by omega
    have k18 : nI (k + 1) < 19 := nI_lt (a := k + 1) (b := 19) (by omega) (by decide)
    have hf' : ∀ i, i < k + 1 → (uI M 87 k (nI (48 + A / 10 ^ k % 10))).1 87 i = nI (48 + A / 10 ^ i % 10) := fun i hi => by
      by_cases e : i = k
      · rw [e, rI0]
      · rw [rI1 e]; exact hf i (by omega)
    by_cases z : A / 10 ^ (k + 1) = 0
    · have y0 : lg_cmp (x / 10) 0 = 0 := cm_eqz.mpr (Int64.toInt_inj.mp (by rw [q1, z]; decide))
      have dne : dn A (j + 1 + 1) k = k + 1 := by
        show (if A / 10 ^ (k + 1) = 0 then k + 1 else _) = _
        rw [if_pos z]
      rw [dne]
      refine ⟨uI M 87 k (nI (48 + A / 10 ^ k % 10)), x / 10, ?_, hf', fun c j hc => ?_, rfl⟩
      · rw [e16_28]
        simp (disch := first | assumption | omega) only [in16, e16_0, e16_1, e16_2, e16_3, e16_6, e16_7, e16_9, e16_12, e16_13, e16_14, e16_15, e16_18, e16_19, e16_22, e16_23, e16_24, e16_25, e16_26, e16_29, e16_32, e16_34, e16_36, e16_37, e16_40, e16_41, e16_42, e16_43, e16_44, e16_45, e16_48, e16_49, e16_50, e16_53, e16_54, e16_55, e16_56, e16_59, e16_61, e16_63, e16_66, e16_68, e16_69, e16_70, e16_74, e16_77, e16_78, e16_79, e16_82, e16_84, e16_85, e16_88, e16_91, e16_94, c2_o, c2_g0, c2_g1, c2_g2, c2_g3, c2_g4, c2_g5, c2_p5, c2_g6, c2_p6, c3_o, c3_g0, c3_g1, c3_g2, c3_g3, c3_p3, c3_g4, c3_p4, c4_r, c5_r, c5_w, c5_l, c6_r, c6_w, c6_l, c39_r, c39_w, c39_l, c40_r, c41_o, c41_g0, c41_g1, c41_g2, c41_g3, c41_g4, c41_g5, c41_g6, c41_g7, c41_p7, c41_g8, c41_p8, c42_r, c42_w, c42_l, c43_r, c50_r, c50_w, c50_l, c51_r, c85_o, c85_g0, c85_g1, c85_g2, c85_p2, c86_r, c86_w, c86_l, c87_r, c87_w, c87_l, ↓bc5_r, ↓bc6_r, ↓bc39_r, ↓bc42_r, ↓bc50_r, ↓bc86_r, ↓bc87_r, in_t, cl_n, q2, fg, z10, nI_p1, y0, iM, Option.bind_some, Option.bind_none, Option.toList_some, Option.toList_none, List.cons_append, List.nil_append, if_true, if_false, ite_true, ite_false, bd_ite, eq_self, not_true_eq_false, not_false_eq_true, true_or, or_true, or_self, k1_i, k1_j, k1_a, k1_n]
      · rw [rI hc]
    · have y0 : ¬ x / 10 = 0 := fun h => by
        rw [h] at q1
        have : (0 : Int64).toInt = 0 := by decide
        omega
      have dne : dn A (j + 1 + 1) k = dn A (j + 1) (k + 1) := by
        show (if A / 10 ^ (k + 1) = 0 then k + 1 else dn A (j + 1) (k + 1)) = _
        rw [if_neg z]
      rw [dne]
      obtain ⟨M1, y, g1, g2, g3, g4⟩ := ih (k + 1) (x / 10) (uI M 87 k (nI (48 + A / 10 ^ k % 10))) (by omega) q1 hf'
      refine ⟨M1, y, ?_, g2, fun c j hc => (g3 c j hc).trans (by rw [rI hc]), g4⟩
      rw [e16_28]
      simp (disch := first | assumption | omega) only [in16, e16_0, e16_1, e16_2, e16_3, e16_6, e16_7, e16_9, e16_12, e16_13, e16_14, e16_15, e16_18, e16_19, e16_22, e16_23, e16_24, e16_25, e16_26, e16_29, e16_32, e16_34, e16_36, e16_37, e16_40, e16_41, e16_42, e16_43, e16_44, e16_45, e16_48, e16_49, e16_50, e16_53, e16_54, e16_55, e16_56, e16_59, e16_61, e16_63, e16_66, e16_68, e16_69, e16_70, e16_74, e16_77, e16_78, e16_79, e16_82, e16_84, e16_85, e16_88, e16_91, e16_94, c2_o, c2_g0, c2_g1, c2_g2, c2_g3, c2_g4, c2_g5, c2_p5, c2_g6, c2_p6, c3_o, c3_g0, c3_g1, c3_g2, c3_g3, c3_p3, c3_g4, c3_p4, c4_r, c5_r, c5_w, c5_l, c6_r, c6_w, c6_l, c39_r, c39_w, c39_l, c40_r, c41_o, c41_g0, c41_g1, c41_g2, c41_g3, c41_g4, c41_g5, c41_g6, c41_g7, c41_p7, c41_g8, c41_p8, c42_r, c42_w, c42_l, c43_r, c50_r, c50_w, c50_l, c51_r, c85_o, c85_g0, c85_g1, c85_g2, c85_p2, c86_r, c86_w, c86_l, c87_r, c87_w, c87_l, ↓bc5_r, ↓bc6_r, ↓bc39_r, ↓bc42_r, ↓bc50_r, ↓bc86_r, ↓bc87_r, in_t, cl_n, q2, fg, z10, nI_p1, y0, k18, cm_eqz, Option.bind_some, Option.bind_none, Option.toList_some, Option.toList_none, List.cons_append, List.nil_append, if_true, if_false, ite_true, ite_false, bd_ite, eq_self, not_true_eq_false, not_false_eq_true, true_or, or_true, or_self, k1_i, k1_j, k1_a, k1_n]
      exact g1
theorem k_addNumber (h : M.1 85 2 = nI n) (hn : n + (nW v).length ≤ 64) : ∃ M1, ip_call (d + 2) mLi_addNumber [.ref 85, .long v] (ip_hm L xs M) = some (none, ip_hm L xs M1) ∧ wC M M1 n (nW v) := by
  have hv := Int64.toInt_lt v
  have hv' := Int64.le_toInt v
  have hA : v.toInt.natAbs ≤ 2 ^ 63 := by omega
  have z0 : (0 : Int64).toInt = 0 := by decide
  unfold nW at hn ⊢
  rw [List.length_append, dW_len] at hn
  by_cases hneg : v < 0
  · rw [if_pos hneg] at hn ⊢
    have hn' : n + (1 + dn v.toInt.natAbs 19 0) ≤ 64 := hn
    have ks := k_addSign (d := d + 1) (L := L) (xs := xs) (c := 45) h (by omega) (by decide)
    have ks' : ip_call (d + 1) mLi_addSign [.ref 85, .int 45] (ip_hm L xs M) = some (none, ip_hm L xs (cS M n 45)) := ks
    have hx : v.toInt = -((v.toInt.natAbs / 10 ^ 0 : Nat) : Int) := by
      rw [Int64.lt_iff_toInt_lt, z0] at hneg
      rw [Nat.pow_zero, Nat.div_one]
      omega
    obtain ⟨M1, y, g1, g2, g3, g4⟩ := lp_wf (d := d + 1) (L := L) (xs := xs) (l1 := some (.long v)) (l2 := none) (l6 := none) hA 18 0 v (cS M n 45) (by omega) hx (fun i hi => by omega)
    have e1 : M1.1 85 2 = nI (n + 1) := (g3 85 2 (by decide)).trans rI0
    obtain ⟨M2, k1, k2⟩ := lp_wd (d := d + 1) (L := L) (xs := xs) (A := v.toInt.natAbs) (l1 := some (.long v)) (l2 := none) (l3 := some (.long y)) (l4 := none) (l5 := nI (dn v.toInt.natAbs 19 0)) (dn v.toInt.natAbs 19 0) (n + 1) M1 e1 (by omega) (dn_le 19 0) g2
    refine ⟨M2, ?_, ?_⟩
    · have hl := g1.trans k1
      have hg : ¬ 0 ≤ v := fun z => i64n.mpr z hneg
      simp (disch := first | assumption | omega) only [in16, e16_0, e16_1, e16_2, e16_3, e16_6, e16_7, e16_9, e16_12, e16_13, e16_14, e16_15, e16_18, e16_19, e16_22, e16_23, e16_24, e16_25, e16_26, e16_29, e16_32, e16_34, e16_36, e16_37, e16_40, e16_41, e16_42, e16_43, e16_44, e16_45, e16_48, e16_49, e16_50, e16_53, e16_54, e16_55, e16_56, e16_59, e16_61, e16_63, e16_66, e16_68, e16_69, e16_70, e16_74, e16_77, e16_78, e16_79, e16_82, e16_84, e16_85, e16_88, e16_91, e16_94, cm_ge, hg, ks', Option.bind_some, Option.bind_none, Option.toList_some, Option.toList_none, List.cons_append, List.nil_append, if_true, if_false, ite_true, ite_false, bd_ite, eq_self, not_true_eq_false, not_false_eq_true, true_or, or_true, or_self, k1_i, k1_j, k1_a, k1_n]
      exact hl
    · refine wC_t (w := [45]) wC_1 ?_
      obtain ⟨b1, b2, b3, b4, b5⟩ := k2
      exact ⟨fun c j z => (b1 c j z).trans (g3 c j (fun q => z (Or.inr (Or.inl q)))), b2.trans g4, b3, fun i hi => (b4 i hi).trans (g3 86 i (by decide)), b5⟩
  · rw [if_neg hneg] at hn ⊢
    have hn' : n + (0 + dn v.toInt.natAbs 19 0) ≤ 64 := hn
    have hg : 0 ≤ v := i64n.mp hneg
    have hx : (-v).toInt = -((v.toInt.natAbs / 10 ^ 0 : Nat) : Int) := by
      rw [Int64.le_iff_toInt_le, z0] at hg
      rw [Nat.pow_zero, Nat.div_one, Int64.toInt_neg, Int.bmod_eq_of_le (by omega) (by omega)]
      omega
    obtain ⟨M1, y, g1, g2, g3, g4⟩ := lp_wf (d := d + 1) (L := L) (xs := xs) (l1 := some (.long v)) (l2 := none) (l6 := none) hA 18 0 (-v) M (by omega) hx (fun i hi => by omega)
    have e1 : M1.1 85 2 = nI n := (g3 85 2 (by decide)).trans h
    obtain ⟨M2, k1, k2⟩ := lp_wd (d := d + 1) (L := L) (xs := xs) (A := v.toInt.natAbs) (l1 := some (.long v)) (l2 := none) (l3 := some (.long y)) (l4 := none) (l5 := nI (dn v.toInt.natAbs 19 0)) (dn v.toInt.natAbs 19 0) n M1 e1 (by omega) (dn_le 19 0) g2
    refine ⟨M2, ?_, ?_⟩
    · have hl := g1.trans k1
      simp (disch := first | assumption | omega) only [in16, e16_0, e16_1, e16_2, e16_3, e16_6, e16_7, e16_9, e16_12, e16_13, e16_14, e16_15, e16_18, e16_19, e16_22, e16_23, e16_24, e16_25, e16_26, e16_29, e16_32, e16_34, e16_36, e16_37, e16_40, e16_41, e16_42, e16_43, e16_44, e16_45, e16_48, e16_49, e16_50, e16_53, e16_54, e16_55, e16_56, e16_59, e16_61, e16_63, e16_66, e16_68, e16_69, e16_70, e16_74, e16_77, e16_78, e16_79, e16_82, e16_84, e16_85, e16_88, e16_91, e16_94, cm_ge, hg, Option.bind_some, Option.bind_none, Option.toList_some, Option.toList_none, List.cons_append, List.nil_append, if_true, if_false, ite_true, ite_false, bd_ite, eq_self, not_true_eq_false, not_false_eq_true, true_or, or_true, or_self, k1_i, k1_j, k1_a, k1_n]
      exact hl
    · rw [List.nil_append]
      obtain ⟨b1, b2, b3, b4, b5⟩ := k2
      exact ⟨fun c j z => (b1 c j z).trans (g3 c j (fun q => z (Or.inr (Or.inl q)))), b2.trans g4, b3, fun i hi => (b4 i hi).trans (g3 86 i (by decide)), b5⟩
/-- the reference's figures, from the greatest on -/
theorem lp_rd {l1 l2 l3 l4 : Option Value} {l5 : Int32} : ∀ (k n : Nat) (M : ip_Mm), M.1 256 67 = nI n → n + k ≤ 100 → k ≤ 19 → (∀ i, i < k → M.1 308 i = nI (A / 10 ^ i % 10)) → ∃ M1, ip_go (d + 1) mR_putNumber 74 [some (.ref 256), l1, l2, l3, l4, some (.int l5), some (.int (iM k))] [] (ip_hm L xs M) = some (none, ip_hm L xs M1) ∧ wR M M1 n (dW A k) := by
  intro k
  induction k with
  | zero =>
    intro n M h _ _ _
    refine ⟨M, ?_, wR_0 h⟩
    have i0 := iM_0
    rw [e140_74]
    simp (disch := first | assumption | omega) only [in140, e140_0, e140_1, e140_2, e140_3, e140_6, e140_7, e140_9, e140_12, e140_13, e140_14, e140_15, e140_18, e140_19, e140_20, e140_23, e140_25, e140_28, e140_29, e140_32, e140_33, e140_34, e140_36, e140_37, e140_40, e140_42, e140_44, e140_47, e140_49, e140_50, e140_53, e140_55, e140_56, e140_59, e140_60, e140_63, e140_64, e140_65, e140_68, e140_70, e140_71, e140_72, e140_76, e140_79, e140_80, e140_82, e140_83, e140_86, e140_88, e140_89, e140_90, e140_93, e140_96, e140_99, i0, Option.bind_some, Option.bind_none, Option.toList_some, Option.toList_none, List.cons_append, List.nil_append, if_true, if_false, ite_true, ite_false, bd_ite, eq_self, not_true_eq_false, not_false_eq_true, true_or, or_true, or_self, k1_i, k1_j, k1_a, k1_n]
  | succ k ih =>
    intro n M h hn hk hf
    have f0 := hf k (by omega)
    have ka := r_put (d := d) (L := L) (xs := xs) (c := 48 + A / 10 ^ k % 10) h (by omega)
    have e1 : (rS M n (48 + A / 10 ^ k % 10)).1 256 67 = nI (n + 1) := rI0
    obtain ⟨M1, g1, g2⟩ := ih (n + 1) (rS M n (48 + A / 10 ^ k % 10)) e1 (by omega) (by omega) (fun i hi => by
      have := hf i (by omega)
      simp (disch := first | assumption | omega) only [rS, rI, rI1, rI0, rJ, rJ1, rJ0, rC, rC0, uI_2, uI_3, uJ_1, uJ_3, uC_1, uC_3, uT_1, uT_2, uT_3, rFI, rFI0, rFI1, rFI2, rFI3, rFJ, rFJ0, rFJ1, rFJ2, rFJ3, this])
    refine ⟨M1, ?_, wR_t wR_1 g2⟩
    have k0 : ¬ nI k < 0 := nI_pos (by omega)
    rw [iM_s, e140_74]
    simp (disch := first | assumption | omega) only [in140, e140_0, e140_1, e140_2, e140_3, e140_6, e140_7, e140_9, e140_12, e140_13, e140_14, e140_15, e140_18, e140_19, e140_20, e140_23, e140_25, e140_28, e140_29, e140_32, e140_33, e140_34, e140_36, e140_37, e140_40, e140_42, e140_44, e140_47, e140_49, e140_50, e140_53, e140_55, e140_56, e140_59, e140_60, e140_63, e140_64, e140_65, e140_68, e140_70, e140_71, e140_72, e140_76, e140_79, e140_80, e140_82, e140_83, e140_86, e140_88, e140_89, e140_90, e140_93, e140_96, e140_99, c256_o, c256_g0, c256_p0, c256_g1, c256_g2, c256_g3, c256_g4, c256_g5, c256_p5, c256_g6, c256_g7, c256_g8, c256_g9, c256_g10, c256_p10, c256_g11, c256_p11, c256_g12, c256_g13, c256_g14, c256_g15, c256_g16, c256_g17, c256_g18, c256_g19, c256_g20, c256_g21, c256_g22, c256_g23, c256_g24, c256_g25, c256_g26, c256_g27, c256_g28, c256_g29, c256_g30, c256_g31, c256_g32, c256_g33, c256_g34, c256_g35, c256_g36, c256_g37, c256_g38, c256_p38, c256_g39, c256_p39, c256_g40, c256_p40, c256_g41, c256_p41, c256_g42, c256_p42, c256_g43, c256_p43, c256_g44, c256_p44, c256_g45, c256_p45, c256_g46, c256_p46, c256_g47, c256_p47, c256_g48, c256_p48, c256_g49, c256_p49, c256_g50, c256_p50, c256_g51, c256_g52, c256_g53, c256_g54, c256_g55, c256_g56, c256_g57, c256_g58, c256_g59, c256_g60, c256_g61, c256_g62, c256_g63, c256_g64, c256_g65, c256_g66, c256_g67, c256_p67, c256_g68, c256_g69, c257_r, c257_w, c257_l, c258_r, c258_w, c258_l, c259_r, c259_w, c259_l, c260_r, c260_w, c260_l, c261_r, c261_w, c261_l, c262_r, c262_w, c262_l, c263_r, c263_w, c263_l, c264_r, c264_w, c264_l, c265_r, c265_w, c265_l, c266_r, c266_w, c266_l, c267_r, c267_w, c267_l, c268_r, c268_w, c268_l, c269_r, c269_w, c269_l, c270_r, c270_w, c270_l, c271_r, c271_w, c271_l, c272_r, c272_w, c272_l, c273_r, c273_w, c273_l, c274_r, c274_w, c274_l, c275_r, c275_w, c275_l, c276_r, c276_w, c276_l, c277_r, c277_w, c277_l, c278_r, c278_w, c278_l, c279_r, c279_w, c279_l, c280_r, c280_w, c280_l, c281_r, c281_w, c281_l, c282_r, c282_w, c282_l, c283_r, c283_w, c283_l, c284_r, c284_w, c284_l, c285_r, c285_w, c285_l, c286_r, c286_w, c286_l, c287_r, c287_w, c287_l, c288_r, c288_w, c288_l, c289_r, c289_w, c289_l, c290_r, c290_w, c290_l, c291_r, c291_w, c291_l, c292_r, c292_w, c292_l, c293_r, c293_w, c293_l, c294_r, c294_w, c294_l, c295_r, c295_w, c295_l, c296_r, c296_w, c296_l, c297_r, c297_w, c297_l, c298_r, c298_w, c298_l, c299_r, c299_w, c299_l, c300_r, c300_w, c300_l, c301_r, c301_w, c301_l, c302_r, c302_w, c302_l, c303_r, c303_w, c303_l, c304_r, c304_w, c304_l, c305_r, c305_w, c305_l, c306_r, c306_w, c306_l, c307_r, c307_w, c307_l, c308_r, c308_w, c308_l, ↓bc257_r, ↓bc258_r, ↓bc259_r, ↓bc260_r, ↓bc261_r, ↓bc262_r, ↓bc263_r, ↓bc264_r, ↓bc265_r, ↓bc266_r, ↓bc267_r, ↓bc268_r, ↓bc269_r, ↓bc270_r, ↓bc271_r, ↓bc272_r, ↓bc273_r, ↓bc274_r, ↓bc275_r, ↓bc276_r, ↓bc277_r, ↓bc278_r, ↓bc279_r, ↓bc280_r, ↓bc281_r, ↓bc282_r, ↓bc283_r, ↓bc284_r, ↓bc285_r, ↓bc286_r, ↓bc287_r, ↓bc288_r, ↓bc289_r, ↓bc290_r, ↓bc291_r, ↓bc292_r, ↓bc293_r, ↓bc294_r, ↓bc295_r, ↓bc296_r, ↓bc297_r, ↓bc298_r, ↓bc299_r, ↓bc300_r, ↓bc301_r, ↓bc302_r, ↓bc303_r, ↓bc304_r, ↓bc305_r, ↓bc306_r, ↓bc307_r, ↓bc308_r, in_t, cl_n, k0, f0, ar4, ka, iM_m, Option.bind_some, Option.bind_none, Option.toList_some, Option.toList_none, List.cons_append, List.nil_append, if_true, if_false, ite_true, ite_false, bd_ite, eq_self, not_true_eq_false, not_false_eq_true, true_or, or_true, or_self, k1_i, k1_j, k1_a, k1_n]
    exact g1
/-- a figure of the reference -/
theorem rfg {x : Int64} {B : Nat} (h : x.toInt = (B : Int) ∨ x.toInt = -(B : Int)) (hB : B ≤ 2 ^ 63) : ((x / 10).toInt = ((B / 10 : Nat) : Int) ∨ (x / 10).toInt = -((B / 10 : Nat) : Int)) ∧ (0 ≤ (x - x / 10 * 10).toInt32 → (x - x / 10 * 10).toInt32 = nI (B % 10)) ∧ (¬ 0 ≤ (x - x / 10 * 10).toInt32 → -(x - x / 10 * 10).toInt32 = nI (B % 10)) := by
  by_cases hp : x.toInt = (B : Int)
  · have := Int64.toInt_lt x
    obtain ⟨a, b⟩ := p10 hp (by omega)
    refine ⟨Or.inl a, fun _ => ?_, fun z => ?_⟩
    · rw [b, lN_i]
    · rw [b, lN_i] at z
      exact absurd (nI_pos' (show B % 10 < 2 ^ 31 by omega)) z
  · have hq := h.resolve_left hp
    obtain ⟨a, b⟩ := q10 hq hB
    have fn := fgN (show B % 10 < 10 by omega)
    refine ⟨Or.inr a, fun z => ?_, fun z => ?_⟩
    · rw [b] at z ⊢
      rw [if_pos z] at fn
      exact fn
    · rw [b] at z ⊢
      rw [if_neg z] at fn
      exact fn
theorem rf_st {l1 l6 : Option Value} {x : Int64} {B k : Nat} (h : x.toInt = (B : Int) ∨ x.toInt = -(B : Int)) (hB : B ≤ 2 ^ 63) (hk : k < 20) (hz : k = 0 ∨ ¬ x = 0) : ip_go (d + 1) mR_putNumber 17 [some (.ref 256), l1, none, some (.long x), none, some (.int (nI k)), l6] [] (ip_hm L xs M) = ip_go (d + 1) mR_putNumber 17 [some (.ref 256), l1, none, some (.long (x / 10)), none, some (.int (nI (k + 1))), some (.int (x - x / 10 * 10).toInt32)] [] (ip_hm L xs (uI M 308 k (nI (B % 10)))) := by
  obtain ⟨-, q2, q3⟩ := rfg h hB
  have z10 : ((10 : Int64) = 0) = False := eq_false (by decide)
  have b31 : B % 10 < 2 ^ 31 := by omega
  have p0 : 0 ≤ nI (B % 10) := nI_pos' b31
  by_cases x0 : x = 0
  · have cc : lg_cmp x 0 = 0 := cm_eqz.mpr x0
    have kk : k = 0 := by
      rcases hz with hz | hz
      · exact hz
      · exact absurd x0 hz
    subst kk
    by_cases hs : 0 ≤ (x - x / 10 * 10).toInt32
    · have q := q2 hs
      rw [e140_17]
      simp (disch := first | assumption | omega) only [e140_18, e140_19, e140_20, e140_23, e140_25, e140_28, e140_29, e140_32, e140_33, e140_34, e140_36, e140_37, e140_40, e140_42, e140_44, e140_47, e140_49, e140_50, e140_53, e140_55, e140_56, e140_59, e140_60, e140_63, e140_64, e140_65, c256_o, c256_g0, c256_p0, c256_g1, c256_g2, c256_g3, c256_g4, c256_g5, c256_p5, c256_g6, c256_g7, c256_g8, c256_g9, c256_g10, c256_p10, c256_g11, c256_p11, c256_g12, c256_g13, c256_g14, c256_g15, c256_g16, c256_g17, c256_g18, c256_g19, c256_g20, c256_g21, c256_g22, c256_g23, c256_g24, c256_g25, c256_g26, c256_g27, c256_g28, c256_g29, c256_g30, c256_g31, c256_g32, c256_g33, c256_g34, c256_g35, c256_g36, c256_g37, c256_g38, c256_p38, c256_g39, c256_p39, c256_g40, c256_p40, c256_g41, c256_p41, c256_g42, c256_p42, c256_g43, c256_p43, c256_g44, c256_p44, c256_g45, c256_p45, c256_g46, c256_p46, c256_g47, c256_p47, c256_g48, c256_p48, c256_g49, c256_p49, c256_g50, c256_p50, c256_g51, c256_g52, c256_g53, c256_g54, c256_g55, c256_g56, c256_g57, c256_g58, c256_g59, c256_g60, c256_g61, c256_g62, c256_g63, c256_g64, c256_g65, c256_g66, c256_g67, c256_p67, c256_g68, c256_g69, c257_r, c257_w, c257_l, c258_r, c258_w, c258_l, c259_r, c259_w, c259_l, c260_r, c260_w, c260_l, c261_r, c261_w, c261_l, c262_r, c262_w, c262_l, c263_r, c263_w, c263_l, c264_r, c264_w, c264_l, c265_r, c265_w, c265_l, c266_r, c266_w, c266_l, c267_r, c267_w, c267_l, c268_r, c268_w, c268_l, c269_r, c269_w, c269_l, c270_r, c270_w, c270_l, c271_r, c271_w, c271_l, c272_r, c272_w, c272_l, c273_r, c273_w, c273_l, c274_r, c274_w, c274_l, c275_r, c275_w, c275_l, c276_r, c276_w, c276_l, c277_r, c277_w, c277_l, c278_r, c278_w, c278_l, c279_r, c279_w, c279_l, c280_r, c280_w, c280_l, c281_r, c281_w, c281_l, c282_r, c282_w, c282_l, c283_r, c283_w, c283_l, c284_r, c284_w, c284_l, c285_r, c285_w, c285_l, c286_r, c286_w, c286_l, c287_r, c287_w, c287_l, c288_r, c288_w, c288_l, c289_r, c289_w, c289_l, c290_r, c290_w, c290_l, c291_r, c291_w, c291_l, c292_r, c292_w, c292_l, c293_r, c293_w, c293_l, c294_r, c294_w, c294_l, c295_r, c295_w, c295_l, c296_r, c296_w, c296_l, c297_r, c297_w, c297_l, c298_r, c298_w, c298_l, c299_r, c299_w, c299_l, c300_r, c300_w, c300_l, c301_r, c301_w, c301_l, c302_r, c302_w, c302_l, c303_r, c303_w, c303_l, c304_r, c304_w, c304_l, c305_r, c305_w, c305_l, c306_r, c306_w, c306_l, c307_r, c307_w, c307_l, c308_r, c308_w, c308_l, ↓bc257_r, ↓bc258_r, ↓bc259_r, ↓bc260_r, ↓bc261_r, ↓bc262_r, ↓bc263_r, ↓bc264_r, ↓bc265_r, ↓bc266_r, ↓bc267_r, ↓bc268_r, ↓bc269_r, ↓bc270_r, ↓bc271_r, ↓bc272_r, ↓bc273_r, ↓bc274_r, ↓bc275_r, ↓bc276_r, ↓bc277_r, ↓bc278_r, ↓bc279_r, ↓bc280_r, ↓bc281_r, ↓bc282_r, ↓bc283_r, ↓bc284_r, ↓bc285_r, ↓bc286_r, ↓bc287_r, ↓bc288_r, ↓bc289_r, ↓bc290_r, ↓bc291_r, ↓bc292_r, ↓bc293_r, ↓bc294_r, ↓bc295_r, ↓bc296_r, ↓bc297_r, ↓bc298_r, ↓bc299_r, ↓bc300_r, ↓bc301_r, ↓bc302_r, ↓bc303_r, ↓bc304_r, ↓bc305_r, ↓bc306_r, ↓bc307_r, ↓bc308_r, in_t, cl_n, cc, eqNL, z10, q, p0, nI_p1, Option.bind_some, Option.bind_none, Option.toList_some, Option.toList_none, List.cons_append, List.nil_append, if_true, if_false, ite_true, ite_false, bd_ite, eq_self, not_true_eq_false, not_false_eq_true, true_or, or_true, or_self, k1_i, k1_j, k1_a, k1_n]
    · have q := q3 hs
      rw [e140_17]
      simp (disch := first | assumption | omega) only [e140_18, e140_19, e140_20, e140_23, e140_25, e140_28, e140_29, e140_32, e140_33, e140_34, e140_36, e140_37, e140_40, e140_42, e140_44, e140_47, e140_49, e140_50, e140_53, e140_55, e140_56, e140_59, e140_60, e140_63, e140_64, e140_65, c256_o, c256_g0, c256_p0, c256_g1, c256_g2, c256_g3, c256_g4, c256_g5, c256_p5, c256_g6, c256_g7, c256_g8, c256_g9, c256_g10, c256_p10, c256_g11, c256_p11, c256_g12, c256_g13, c256_g14, c256_g15, c256_g16, c256_g17, c256_g18, c256_g19, c256_g20, c256_g21, c256_g22, c256_g23, c256_g24, c256_g25, c256_g26, c256_g27, c256_g28, c256_g29, c256_g30, c256_g31, c256_g32, c256_g33, c256_g34, c256_g35, c256_g36, c256_g37, c256_g38, c256_p38, c256_g39, c256_p39, c256_g40, c256_p40, c256_g41, c256_p41, c256_g42, c256_p42, c256_g43, c256_p43, c256_g44, c256_p44, c256_g45, c256_p45, c256_g46, c256_p46, c256_g47, c256_p47, c256_g48, c256_p48, c256_g49, c256_p49, c256_g50, c256_p50, c256_g51, c256_g52, c256_g53, c256_g54, c256_g55, c256_g56, c256_g57, c256_g58, c256_g59, c256_g60, c256_g61, c256_g62, c256_g63, c256_g64, c256_g65, c256_g66, c256_g67, c256_p67, c256_g68, c256_g69, c257_r, c257_w, c257_l, c258_r, c258_w, c258_l, c259_r, c259_w, c259_l, c260_r, c260_w, c260_l, c261_r, c261_w, c261_l, c262_r, c262_w, c262_l, c263_r, c263_w, c263_l, c264_r, c264_w, c264_l, c265_r, c265_w, c265_l, c266_r, c266_w, c266_l, c267_r, c267_w, c267_l, c268_r, c268_w, c268_l, c269_r, c269_w, c269_l, c270_r, c270_w, c270_l, c271_r, c271_w, c271_l, c272_r, c272_w, c272_l, c273_r, c273_w, c273_l, c274_r, c274_w, c274_l, c275_r, c275_w, c275_l, c276_r, c276_w, c276_l, c277_r, c277_w, c277_l, c278_r, c278_w, c278_l, c279_r, c279_w, c279_l, c280_r, c280_w, c280_l, c281_r, c281_w, c281_l, c282_r, c282_w, c282_l, c283_r, c283_w, c283_l, c284_r, c284_w, c284_l, c285_r, c285_w, c285_l, c286_r, c286_w, c286_l, c287_r, c287_w, c287_l, c288_r, c288_w, c288_l, c289_r, c289_w, c289_l, c290_r, c290_w, c290_l, c291_r, c291_w, c291_l, c292_r, c292_w, c292_l, c293_r, c293_w, c293_l, c294_r, c294_w, c294_l, c295_r, c295_w, c295_l, c296_r, c296_w, c296_l, c297_r, c297_w, c297_l, c298_r, c298_w, c298_l, c299_r, c299_w, c299_l, c300_r, c300_w, c300_l, c301_r, c301_w, c301_l, c302_r, c302_w, c302_l, c303_r, c303_w, c303_l, c304_r, c304_w, c304_l, c305_r, c305_w, c305_l, c306_r, c306_w, c306_l, c307_r, c307_w, c307_l, c308_r, c308_w, c308_l, ↓bc257_r, ↓bc258_r, ↓bc259_r, ↓bc260_r, ↓bc261_r, ↓bc262_r, ↓bc263_r, ↓bc264_r, ↓bc265_r, ↓bc266_r, ↓bc267_r, ↓bc268_r, ↓bc269_r, ↓bc270_r, ↓bc271_r, ↓bc272_r, ↓bc273_r, ↓bc274_r, ↓bc275_r, ↓bc276_r, ↓bc277_r, ↓bc278_r, ↓bc279_r, ↓bc280_r, ↓bc281_r, ↓bc282_r, ↓bc283_r, ↓bc284_r, ↓bc285_r, ↓bc286_r, ↓bc287_r, ↓bc288_r, ↓bc289_r, ↓bc290_r, ↓bc291_r, ↓bc292_r, ↓bc293_r, ↓bc294_r, ↓bc295_r, ↓bc296_r, ↓bc297_r, ↓bc298_r, ↓bc299_r, ↓bc300_r, ↓bc301_r, ↓bc302_r, ↓bc303_r, ↓bc304_r, ↓bc305_r, ↓bc306_r, ↓bc307_r, ↓bc308_r, in_t, cl_n, cc, eqNL, z10, q, hs, nI_p1, Option.bind_some, Option.bind_none, Option.toList_some, Option.toList_none, List.cons_append, List.nil_append, if_true, if_false, ite_true, ite_false, bd_ite, eq_self, not_true_eq_false, not_false_eq_true, true_or, or_true, or_self, k1_i, k1_j, k1_a, k1_n]
  · have cc : ¬ lg_cmp x 0 = 0 := fun z => x0 (cm_eqz.mp z)
    by_cases hs : 0 ≤ (x - x / 10 * 10).toInt32
    · have q := q2 hs
      rw [e140_17]
      simp (disch := first | assumption | omega) only [e140_18, e140_19, e140_20, e140_23, e140_25, e140_28, e140_29, e140_32, e140_33, e140_34, e140_36, e140_37, e140_40, e140_42, e140_44, e140_47, e140_49, e140_50, e140_53, e140_55, e140_56, e140_59, e140_60, e140_63, e140_64, e140_65, c256_o, c256_g0, c256_p0, c256_g1, c256_g2, c256_g3, c256_g4, c256_g5, c256_p5, c256_g6, c256_g7, c256_g8, c256_g9, c256_g10, c256_p10, c256_g11, c256_p11, c256_g12, c256_g13, c256_g14, c256_g15, c256_g16, c256_g17, c256_g18, c256_g19, c256_g20, c256_g21, c256_g22, c256_g23, c256_g24, c256_g25, c256_g26, c256_g27, c256_g28, c256_g29, c256_g30, c256_g31, c256_g32, c256_g33, c256_g34, c256_g35, c256_g36, c256_g37, c256_g38, c256_p38, c256_g39, c256_p39, c256_g40, c256_p40, c256_g41, c256_p41, c256_g42, c256_p42, c256_g43, c256_p43, c256_g44, c256_p44, c256_g45, c256_p45, c256_g46, c256_p46, c256_g47, c256_p47, c256_g48, c256_p48, c256_g49, c256_p49, c256_g50, c256_p50, c256_g51, c256_g52, c256_g53, c256_g54, c256_g55, c256_g56, c256_g57, c256_g58, c256_g59, c256_g60, c256_g61, c256_g62, c256_g63, c256_g64, c256_g65, c256_g66, c256_g67, c256_p67, c256_g68, c256_g69, c257_r, c257_w, c257_l, c258_r, c258_w, c258_l, c259_r, c259_w, c259_l, c260_r, c260_w, c260_l, c261_r, c261_w, c261_l, c262_r, c262_w, c262_l, c263_r, c263_w, c263_l, c264_r, c264_w, c264_l, c265_r, c265_w, c265_l, c266_r, c266_w, c266_l, c267_r, c267_w, c267_l, c268_r, c268_w, c268_l, c269_r, c269_w, c269_l, c270_r, c270_w, c270_l, c271_r, c271_w, c271_l, c272_r, c272_w, c272_l, c273_r, c273_w, c273_l, c274_r, c274_w, c274_l, c275_r, c275_w, c275_l, c276_r, c276_w, c276_l, c277_r, c277_w, c277_l, c278_r, c278_w, c278_l, c279_r, c279_w, c279_l, c280_r, c280_w, c280_l, c281_r, c281_w, c281_l, c282_r, c282_w, c282_l, c283_r, c283_w, c283_l, c284_r, c284_w, c284_l, c285_r, c285_w, c285_l, c286_r, c286_w, c286_l, c287_r, c287_w, c287_l, c288_r, c288_w, c288_l, c289_r, c289_w, c289_l, c290_r, c290_w, c290_l, c291_r, c291_w, c291_l, c292_r, c292_w, c292_l, c293_r, c293_w, c293_l, c294_r, c294_w, c294_l, c295_r, c295_w, c295_l, c296_r, c296_w, c296_l, c297_r, c297_w, c297_l, c298_r, c298_w, c298_l, c299_r, c299_w, c299_l, c300_r, c300_w, c300_l, c301_r, c301_w, c301_l, c302_r, c302_w, c302_l, c303_r, c303_w, c303_l, c304_r, c304_w, c304_l, c305_r, c305_w, c305_l, c306_r, c306_w, c306_l, c307_r, c307_w, c307_l, c308_r, c308_w, c308_l, ↓bc257_r, ↓bc258_r, ↓bc259_r, ↓bc260_r, ↓bc261_r, ↓bc262_r, ↓bc263_r, ↓bc264_r, ↓bc265_r, ↓bc266_r, ↓bc267_r, ↓bc268_r, ↓bc269_r, ↓bc270_r, ↓bc271_r, ↓bc272_r, ↓bc273_r, ↓bc274_r, ↓bc275_r, ↓bc276_r, ↓bc277_r, ↓bc278_r, ↓bc279_r, ↓bc280_r, ↓bc281_r, ↓bc282_r, ↓bc283_r, ↓bc284_r, ↓bc285_r, ↓bc286_r, ↓bc287_r, ↓bc288_r, ↓bc289_r, ↓bc290_r, ↓bc291_r, ↓bc292_r, ↓bc293_r, ↓bc294_r, ↓bc295_r, ↓bc296_r, ↓bc297_r, ↓bc298_r, ↓bc299_r, ↓bc300_r, ↓bc301_r, ↓bc302_r, ↓bc303_r, ↓bc304_r, ↓bc305_r, ↓bc306_r, ↓bc307_r, ↓bc308_r, in_t, cl_n, cc, z10, q, p0, nI_p1, Option.bind_some, Option.bind_none, Option.toList_some, Option.toList_none, List.cons_append, List.nil_append, if_true, if_false, ite_true, ite_false, bd_ite, eq_self, not_true_eq_false, not_false_eq_true, true_or, or_true, or_self, k1_i, k1_j, k1_a, k1_n]
    · have q := q3 hs
      rw [e140_17]
      simp (disch := first | assumption | omega) only [e140_18, e140_19, e140_20, e140_23, e140_25, e140_28, e140_29, e140_32, e140_33, e140_34, e140_36, e140_37, e140_40, e140_42, e140_44, e140_47, e140_49, e140_50, e140_53, e140_55, e140_56, e140_59, e140_60, e140_63, e140_64, e140_65, c256_o, c256_g0, c256_p0, c256_g1, c256_g2, c256_g3, c256_g4, c256_g5, c256_p5, c256_g6, c256_g7, c256_g8, c256_g9, c256_g10, c256_p10, c256_g11, c256_p11, c256_g12, c256_g13, c256_g14, c256_g15, c256_g16, c256_g17, c256_g18, c256_g19, c256_g20, c256_g21, c256_g22, c256_g23, c256_g24, c256_g25, c256_g26, c256_g27, c256_g28, c256_g29, c256_g30, c256_g31, c256_g32, c256_g33, c256_g34, c256_g35, c256_g36, c256_g37, c256_g38, c256_p38, c256_g39, c256_p39, c256_g40, c256_p40, c256_g41, c256_p41, c256_g42, c256_p42, c256_g43, c256_p43, c256_g44, c256_p44, c256_g45, c256_p45, c256_g46, c256_p46, c256_g47, c256_p47, c256_g48, c256_p48, c256_g49, c256_p49, c256_g50, c256_p50, c256_g51, c256_g52, c256_g53, c256_g54, c256_g55, c256_g56, c256_g57, c256_g58, c256_g59, c256_g60, c256_g61, c256_g62, c256_g63, c256_g64, c256_g65, c256_g66, c256_g67, c256_p67, c256_g68, c256_g69, c257_r, c257_w, c257_l, c258_r, c258_w, c258_l, c259_r, c259_w, c259_l, c260_r, c260_w, c260_l, c261_r, c261_w, c261_l, c262_r, c262_w, c262_l, c263_r, c263_w, c263_l, c264_r, c264_w, c264_l, c265_r, c265_w, c265_l, c266_r, c266_w, c266_l, c267_r, c267_w, c267_l, c268_r, c268_w, c268_l, c269_r, c269_w, c269_l, c270_r, c270_w, c270_l, c271_r, c271_w, c271_l, c272_r, c272_w, c272_l, c273_r, c273_w, c273_l, c274_r, c274_w, c274_l, c275_r, c275_w, c275_l, c276_r, c276_w, c276_l, c277_r, c277_w, c277_l, c278_r, c278_w, c278_l, c279_r, c279_w, c279_l, c280_r, c280_w, c280_l, c281_r, c281_w, c281_l, c282_r, c282_w, c282_l, c283_r, c283_w, c283_l, c284_r, c284_w, c284_l, c285_r, c285_w, c285_l, c286_r, c286_w, c286_l, c287_r, c287_w, c287_l, c288_r, c288_w, c288_l, c289_r, c289_w, c289_l, c290_r, c290_w, c290_l, c291_r, c291_w, c291_l, c292_r, c292_w, c292_l, c293_r, c293_w, c293_l, c294_r, c294_w, c294_l, c295_r, c295_w, c295_l, c296_r, c296_w, c296_l, c297_r, c297_w, c297_l, c298_r, c298_w, c298_l, c299_r, c299_w, c299_l, c300_r, c300_w, c300_l, c301_r, c301_w, c301_l, c302_r, c302_w, c302_l, c303_r, c303_w, c303_l, c304_r, c304_w, c304_l, c305_r, c305_w, c305_l, c306_r, c306_w, c306_l, c307_r, c307_w, c307_l, c308_r, c308_w, c308_l, ↓bc257_r, ↓bc258_r, ↓bc259_r, ↓bc260_r, ↓bc261_r, ↓bc262_r, ↓bc263_r, ↓bc264_r, ↓bc265_r, ↓bc266_r, ↓bc267_r, ↓bc268_r, ↓bc269_r, ↓bc270_r, ↓bc271_r, ↓bc272_r, ↓bc273_r, ↓bc274_r, ↓bc275_r, ↓bc276_r, ↓bc277_r, ↓bc278_r, ↓bc279_r, ↓bc280_r, ↓bc281_r, ↓bc282_r, ↓bc283_r, ↓bc284_r, ↓bc285_r, ↓bc286_r, ↓bc287_r, ↓bc288_r, ↓bc289_r, ↓bc290_r, ↓bc291_r, ↓bc292_r, ↓bc293_r, ↓bc294_r, ↓bc295_r, ↓bc296_r, ↓bc297_r, ↓bc298_r, ↓bc299_r, ↓bc300_r, ↓bc301_r, ↓bc302_r, ↓bc303_r, ↓bc304_r, ↓bc305_r, ↓bc306_r, ↓bc307_r, ↓bc308_r, in_t, cl_n, cc, z10, q, hs, nI_p1, Option.bind_some, Option.bind_none, Option.toList_some, Option.toList_none, List.cons_append, List.nil_append, if_true, if_false, ite_true, ite_false, bd_ite, eq_self, not_true_eq_false, not_false_eq_true, true_or, or_true, or_self, k1_i, k1_j, k1_a, k1_n]
theorem rf_ex {l1 l6 : Option Value} {k : Nat} (hk : k < 20) : ip_go (d + 1) mR_putNumber 17 [some (.ref 256), l1, none, some (.long 0), none, some (.int (nI (k + 1))), l6] [] (ip_hm L xs M) = ip_go (d + 1) mR_putNumber 74 [some (.ref 256), l1, none, some (.long 0), none, some (.int (nI (k + 1))), some (.int (iM (k + 1)))] [] (ip_hm L xs M) := by
  have cc : lg_cmp 0 0 = 0 := cm_eqz.mpr rfl
  have kn : ¬ nI (k + 1) = 0 := nI_ne0 (by omega) (by omega)
  rw [e140_17]
  simp (disch := first | assumption | omega) only [e140_18, e140_19, e140_20, e140_23, e140_25, e140_28, e140_29, e140_32, e140_33, e140_34, e140_36, e140_37, e140_40, e140_42, e140_44, e140_47, e140_49, e140_50, e140_53, e140_55, e140_56, e140_59, e140_60, e140_63, e140_64, e140_65, e140_68, e140_70, e140_71, e140_72, cc, kn, iM, Option.bind_some, Option.bind_none, Option.toList_some, Option.toList_none, List.cons_append, List.nil_append, if_true, if_false, ite_true, ite_false, bd_ite, eq_self, not_true_eq_false, not_false_eq_true, true_or, or_true, or_self, k1_i, k1_j, k1_a, k1_n]
theorem lp_rf {l1 : Option Value} (hA : A ≤ 2 ^ 63) : ∀ (j k : Nat) (x : Int64) (M : ip_Mm) (l6 : Option Value), k + (j + 1) = 19 → (x.toInt = ((A / 10 ^ k : Nat) : Int) ∨ x.toInt = -((A / 10 ^ k : Nat) : Int)) → (k = 0 ∨ ¬ A / 10 ^ k = 0) → (∀ i, i < k → M.1 308 i = nI (A / 10 ^ i % 10)) → ∃ (M1 : ip_Mm), ip_go (d + 1) mR_putNumber 17 [some (.ref 256), l1, none, some (.long x), none, some (.int (nI k)), l6] [] (ip_hm L xs M) = ip_go (d + 1) mR_putNumber 74 [some (.ref 256), l1, none, some (.long 0), none, some (.int (nI (dn A (j + 1) k))), some (.int (iM (dn A (j + 1) k)))] [] (ip_hm L xs M1) ∧ (∀ i, i < dn A (j + 1) k → M1.1 308 i = nI (A / 10 ^ i % 10)) ∧ (∀ c j, ¬ c = 308 → M1.1 c j = M.1 c j) ∧ M1.2 = M.2 := by
  intro j
  induction j with
  | zero =>
    intro k x M l6 hk hx hz hf
    have hB := Nat.le_trans (Nat.div_le_self A (10 ^ k)) hA
    have q1 := (rfg hx hB).1
    rw [ten_s] at q1
    have z : A / 10 ^ (k + 1) = 0 := Decidable.byContradiction fun h => by
      have := ten_lt hA h
      omega
    have y0 : x / 10 = 0 := Int64.toInt_inj.mp (by rcases q1 with q | q <;> rw [q, z] <;> decide)
    have dne : dn A (0 + 1) k = k + 1 := by
      show (if A / 10 ^ (k + 1) = 0 then k + 1 else _) = _
      rw [if_pos z]
    have hz' : k = 0 ∨ ¬ x = 0 := hz.imp id (fun hz h => hz (by
      rw [h] at hx
      have : (0 : Int64).toInt = 0 := by decide
      omega))
    rw [dne]
    refine ⟨uI M 308 k (nI (A / 10 ^ k % 10)), ?_, fun i hi => ?_, fun c j hc => ?_, rfl⟩
    · rw [rf_st hx hB (by omega) hz', y0]
      exact rf_ex (by omega)
    · by_cases e : i = k
      · rw [e, rI0]
      · rw [rI1 e]; exact hf i (by omega)
    · rw [rI hc]
  | succ j ih =>
    intro k x M l6 hk hx hz hf
    have hB := Nat.le_trans (Nat.div_le_self A (10 ^ k)) hA
    have q1 := (rfg hx hB).1
    rw [ten_s] at q1
    have hz' : k = 0 ∨ ¬ x = 0 := hz.imp id (fun hz h => hz (by
      rw [h] at hx
      have : (0 : Int64).toInt = 0 := by decide
      omega))
    have hf' : ∀ i, i < k + 1 → (uI M 308 k (nI (A / 10 ^ k % 10))).1 308 i = nI (A / 10 ^ i % 10) := fun i hi => by
      by_cases e : i = k
      · rw [e, rI0]
      · rw [rI1 e]; exact hf i (by omega)
    by_cases z : A / 10 ^ (k + 1) = 0
    · have y0 : x / 10 = 0 := Int64.toInt_inj.mp (by rcases q1 with q | q <;> rw [q, z] <;> decide)
      have dne : dn A (j + 1 + 1) k = k + 1 := by
        show (if A / 10 ^ (k + 1) = 0 then k + 1 else _) = _
        rw [if_pos z]
      rw [dne]
      refine ⟨uI M 308 k (nI (A / 10 ^ k % 10)), ?_, hf', fun c j hc => ?_, rfl⟩
      · rw [rf_st hx hB (by omega) hz', y0]
        exact rf_ex (by omega)
      · rw [rI hc]
    · have dne : dn A (j + 1 + 1) k = dn A (j + 1) (k + 1) := by
        show (if A / 10 ^ (k + 1) = 0 then k + 1 else dn A (j + 1) (k + 1)) = _
        rw [if_neg z]
      rw [dne]
      obtain ⟨M1, g1, g2, g3, g4⟩ := ih (k + 1) (x / 10) (uI M 308 k (nI (A / 10 ^ k % 10))) _ (by omega) q1 (Or.inr z) hf'
      refine ⟨M1, ?_, g2, fun c j hc => (g3 c j hc).trans (by rw [rI hc]), g4⟩
      rw [rf_st hx hB (by omega) hz']
      exact g1
theorem r_putNumber (h : M.1 256 67 = nI n) (hn : n + (nW v).length ≤ 100) : ∃ M1, ip_call (d + 2) mR_putNumber [.ref 256, .long v] (ip_hm L xs M) = some (none, ip_hm L xs M1) ∧ wR M M1 n (nW v) := by
  have hv := Int64.toInt_lt v
  have hv' := Int64.le_toInt v
  have hA : v.toInt.natAbs ≤ 2 ^ 63 := by omega
  have hx : v.toInt = ((v.toInt.natAbs / 10 ^ 0 : Nat) : Int) ∨ v.toInt = -((v.toInt.natAbs / 10 ^ 0 : Nat) : Int) := by
    rw [Nat.pow_zero, Nat.div_one]
    omega
  unfold nW at hn ⊢
  rw [List.length_append, dW_len] at hn
  by_cases hneg : v < 0
  · rw [if_pos hneg] at hn ⊢
    have hn' : n + (1 + dn v.toInt.natAbs 19 0) ≤ 100 := hn
    have ks := r_put (d := d + 1) (L := L) (xs := xs) (c := 45) h (by omega)
    have ks' : ip_call (d + 1) mR_put [.ref 256, .int 45] (ip_hm L xs M) = some (none, ip_hm L xs (rS M n 45)) := ks
    obtain ⟨M1, g1, g2, g3, g4⟩ := lp_rf (d := d + 1) (L := L) (xs := xs) (l1 := some (.long v)) hA 18 0 v (rS M n 45) none (by omega) hx (Or.inl rfl) (fun i hi => by omega)
    have e1 : M1.1 256 67 = nI (n + 1) := (g3 256 67 (by decide)).trans rI0
    obtain ⟨M2, k1, k2⟩ := lp_rd (d := d + 1) (L := L) (xs := xs) (A := v.toInt.natAbs) (l1 := some (.long v)) (l2 := none) (l3 := some (.long 0)) (l4 := none) (l5 := nI (dn v.toInt.natAbs 19 0)) (dn v.toInt.natAbs 19 0) (n + 1) M1 e1 (by omega) (dn_le 19 0) g2
    refine ⟨M2, ?_, ?_⟩
    · have hl := g1.trans k1
      have hg : ¬ 0 ≤ v := fun z => i64n.mpr z hneg
      simp (disch := first | assumption | omega) only [in140, e140_0, e140_1, e140_2, e140_3, e140_6, e140_7, e140_9, e140_12, e140_13, e140_14, e140_15, e140_18, e140_19, e140_20, e140_23, e140_25, e140_28, e140_29, e140_32, e140_33, e140_34, e140_36, e140_37, e140_40, e140_42, e140_44, e140_47, e140_49, e140_50, e140_53, e140_55, e140_56, e140_59, e140_60, e140_63, e140_64, e140_65, e140_68, e140_70, e140_71, e140_72, e140_76, e140_79, e140_80, e140_82, e140_83, e140_86, e140_88, e140_89, e140_90, e140_93, e140_96, e140_99, cm_ge, hg, ks', Option.bind_some, Option.bind_none, Option.toList_some, Option.toList_none, List.cons_append, List.nil_append, if_true, if_false, ite_true, ite_false, bd_ite, eq_self, not_true_eq_false, not_false_eq_true, true_or, or_true, or_self, k1_i, k1_j, k1_a, k1_n]
      exact hl
    · refine wR_t (w := [45]) wR_1 ?_
      obtain ⟨b1, b2, b3, b4, b5⟩ := k2
      exact ⟨fun c j z => (b1 c j z).trans (g3 c j (fun q => z (Or.inr (Or.inl q)))), b2.trans g4, b3, fun i hi => (b4 i hi).trans (g3 307 i (by decide)), b5⟩
  · rw [if_neg hneg] at hn ⊢
    have hn' : n + (0 + dn v.toInt.natAbs 19 0) ≤ 100 := hn
    have hg : 0 ≤ v := i64n.mp hneg
    obtain ⟨M1, g1, g2, g3, g4⟩ := lp_rf (d := d + 1) (L := L) (xs := xs) (l1 := some (.long v)) hA 18 0 v M none (by omega) hx (Or.inl rfl) (fun i hi => by omega)
    have e1 : M1.1 256 67 = nI n := (g3 256 67 (by decide)).trans h
    obtain ⟨M2, k1, k2⟩ := lp_rd (d := d + 1) (L := L) (xs := xs) (A := v.toInt.natAbs) (l1 := some (.long v)) (l2 := none) (l3 := some (.long 0)) (l4 := none) (l5 := nI (dn v.toInt.natAbs 19 0)) (dn v.toInt.natAbs 19 0) n M1 e1 (by omega) (dn_le 19 0) g2
    refine ⟨M2, ?_, ?_⟩
    · have hl := g1.trans k1
      simp (disch := first | assumption | omega) only [in140, e140_0, e140_1, e140_2, e140_3, e140_6, e140_7, e140_9, e140_12, e140_13, e140_14, e140_15, e140_18, e140_19, e140_20, e140_23, e140_25, e140_28, e140_29, e140_32, e140_33, e140_34, e140_36, e140_37, e140_40, e140_42, e140_44, e140_47, e140_49, e140_50, e140_53, e140_55, e140_56, e140_59, e140_60, e140_63, e140_64, e140_65, e140_68, e140_70, e140_71, e140_72, e140_76, e140_79, e140_80, e140_82, e140_83, e140_86, e140_88, e140_89, e140_90, e140_93, e140_96, e140_99, cm_ge, hg, Option.bind_some, Option.bind_none, Option.toList_some, Option.toList_none, List.cons_append, List.nil_append, if_true, if_false, ite_true, ite_false, bd_ite, eq_self, not_true_eq_false, not_false_eq_true, true_or, or_true, or_self, k1_i, k1_j, k1_a, k1_n]
      exact hl
    · rw [List.nil_append]
      obtain ⟨b1, b2, b3, b4, b5⟩ := k2
      exact ⟨fun c j z => (b1 c j z).trans (g3 c j (fun q => z (Or.inr (Or.inl q)))), b2.trans g4, b3, fun i hi => (b4 i hi).trans (g3 307 i (by decide)), b5⟩
end S12
