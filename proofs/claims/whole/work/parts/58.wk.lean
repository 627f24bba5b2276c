/-! Walker.trace set anew -/
def ip_no2 : ip_Sh → Bool
  | .inr (.inr (_, ks)) => ks.all (fun k => k != 2)
  | _ => true
theorem no2_a : (ip_ly0.take 39).all ip_no2 = true := rfl
theorem no2_b : (ip_ly1 ++ (ip_ly2 ++ (ip_ly3 ++ (ip_ly4 ++ (ip_ly5 ++ (ip_ly6 ++ ip_ly7)))))).all ip_no2 = true := by
  simp only [List.all_append, Bool.and_eq_true]
  exact ⟨rfl, rfl, rfl, rfl, rfl, rfl, rfl⟩
theorem no2_sp {b : Nat} {s : ip_Sh} (hb : b ≠ 41) (h : ip_sp b = some s) : ip_no2 s = true := by
  match b, hb, h with
  | 0, _, h => cases h
  | 1, _, h => cases h
  | b + 2, hb, h =>
    have h' : ip_ly[b]? = some s := h
    by_cases h1 : b < 39
    · have : (ip_ly0.take 39)[b]? = some s := by
        rw [List.getElem?_take_of_lt h1, ← h']
        exact (List.getElem?_append_left (show b < ip_ly0.length from Nat.lt_trans h1 (by decide))).symm
      exact List.all_eq_true.mp no2_a s (List.mem_of_getElem? this)
    · have : (ip_ly1 ++ (ip_ly2 ++ (ip_ly3 ++ (ip_ly4 ++ (ip_ly5 ++ (ip_ly6 ++ ip_ly7))))))[b - 40]? = some s := by
        rw [← h']
        exact (List.getElem?_append_right (show ip_ly0.length ≤ b from (show 40 ≤ b by omega))).symm
      exact List.all_eq_true.mp no2_b s (List.mem_of_getElem? this)
theorem fs_uT {M : ip_Mm} {a r : Nat} : ∀ {ks : List Nat} {j : Nat}, ks.all (fun k => k != 2) = true → ip_fs (uT M r) a j ks = ip_fs M a j ks := by
  intro ks
  induction ks with
  | nil => intro j _; rfl
  | cons x ks ih =>
    intro j h
    rw [List.all_cons, Bool.and_eq_true] at h
    show ip_fv (uT M r) a j x :: ip_fs (uT M r) a (j + 1) ks = ip_fv M a j x :: ip_fs M a (j + 1) ks
    rw [ih h.2]
    have hx := h.1
    match x, hx with
    | 0, _ => rfl
    | 1, _ => rfl
    | 2, hx => exact absurd hx (by decide)
    | x + 3, _ => rfl
theorem ce_uT {M : ip_Mm} {b r : Nat} {s : ip_Sh} (h : ip_no2 s = true) : ip_ce (uT M r) b s = ip_ce M b s := by
  match s, h with
  | .inl (t, n), _ => rfl
  | .inr (.inl (t, rs)), _ => rfl
  | .inr (.inr (ci, ks)), h =>
    show Sum.inr (ci, ip_fs (uT M r) b 0 ks) = Sum.inr (ci, ip_fs M b 0 ks)
    rw [fs_uT h]
theorem c41_p6 {L : Nat} {xs : Nat → Int32} {M : ip_Mm} {r : Nat} : ip_pf (ip_hm L xs M) 7 6 41 (.ref r) = some (ip_hm L xs (uT M r)) := by
  unfold ip_pf
  rw [hm_at (show ip_sp 41 = some (.inr (.inr (7, [6, 45, 46, 53, 54, 55, 2, 0, 1]))) from rfl)]
  have hl : 6 < (ip_fs M 41 0 [6, 45, 46, 53, 54, 55, 2, 0, 1]).length := by rw [fs_len]; decide
  show (if 7 = 7 ∧ 6 < (ip_fs M 41 0 [6, 45, 46, 53, 54, 55, 2, 0, 1]).length then some _ else none) = _
  rw [if_pos ⟨rfl, hl⟩]
  exact congrArg some (set_hm (show ip_sp 41 = some (.inr (.inr (7, [6, 45, 46, 53, 54, 55, 2, 0, 1]))) from rfl) rfl (fun b s' hb hs => (ce_uT (no2_sp hb hs)).symm))
/-! Walker.walk; both walks from their start to their end -/
def w0M (M : ip_Mm) (ta : Nat) (hl : Int32) : ip_Mm := uI (uT M ta) 41 7 hl
def w2M (M : ip_Mm) (ta : Nat) (hl : Int32) : ip_Mm := cpM (fJ (w0M M ta hl) 42 0 66 0) 42 0 (ta + 1) 0 0 54
section KW
variable {d L : Nat} {xs : Nat → Int32} {M M5 : ip_Mm} {ta : Nat} {hl r : Int32}
theorem m_cp54 {b : Nat} (hT : isTr ta) (hb : b = 42 ∨ b = 39) : ip_cp (ip_hm L xs M) (ta + 1) 0 42 0 54 = some (ip_hm L xs (cpM M 42 0 (ta + 1) 0 0 54)) := by
  rw [m_cp (tr_s1 hT) (show ip_sp 42 = some (.inl (2, 66)) from rfl) (show ¬ (0 : Int32) < 0 ∧ ¬ (0 : Int32) < 0 ∧ ¬ (54 : Int32) < 0 ∧ (0 : Int32).toNatClampNeg + (54 : Int32).toNatClampNeg ≤ 54 ∧ (0 : Int32).toNatClampNeg + (54 : Int32).toNatClampNeg ≤ 66 by decide), cp_uC (o := 0) (n := 54) (src := 0) (dst := 0) (len := 54) rfl rfl rfl (by decide) (by decide)]
theorem fr0_0 : ([73, 75, 77, 79, 81, 83] : List Nat)[(0 : Int32).toNatClampNeg]? = some 73 := rfl
theorem fr0_n : ([73, 75, 77, 79, 81, 83] : List Nat)[0]? = some 73 := rfl
theorem fr0_i : ip_in 0 6 = true := by decide
theorem k_walk_0 (hT : isTr ta) (e : ip_call (d + 1) mWa_walkFrame [.ref 41, .int 0] (ip_hm L xs (opM (w2M M ta hl) 73 (M.1 ta 0) (M.1 ta 1) (M.2.1 ta 2) (-1))) = some (some (.int 0), ip_hm L xs M5)) : ip_call (d + 2) mWa_walk [.ref 41, .ref ta, .int hl] (ip_hm L xs M) = some (none, ip_hm L xs (ewM M5 ta (M5.2.1 73 7))) := by
  have ht := tr_om hT
  have hF := isFr_l (show 0 < 6 by omega)
  have n1 : ta ≠ 41 := by omega
  have n2 : ta ≠ 42 := by omega
  have n3 : ta + 1 ≠ 42 := by omega
  unfold w2M w0M at e
  simp (disch := first | assumption | omega) only [in40, e40_0, e40_1, e40_2, e40_5, e40_6, e40_7, e40_10, e40_11, e40_14, e40_15, e40_18, e40_19, e40_22, e40_23, e40_24, e40_27, e40_28, e40_30, e40_33, e40_34, e40_37, e40_38, e40_39, e40_40, e40_43, e40_44, e40_47, e40_48, e40_51, e40_52, e40_55, e40_56, e40_57, e40_60, e40_61, e40_62, e40_65, e40_66, e40_67, e40_70, e40_71, e40_72, e40_75, e40_76, e40_79, e40_82, e40_85, e40_86, e40_87, e40_88, e40_91, e40_94, c2_o, c2_g0, c2_g1, c2_g2, c2_g3, c2_g4, c2_g5, c2_p5, c2_g6, c2_p6, c3_o, c3_g0, c3_g1, c3_g2, c3_g3, c3_p3, c3_g4, c3_p4, c4_r, c5_r, c5_w, c5_l, c6_r, c6_w, c6_l, c39_r, c39_w, c39_l, c40_r, c41_o, c41_g0, c41_g1, c41_g2, c41_g3, c41_g4, c41_g5, c41_g6, c41_g7, c41_p7, c41_g8, c41_p8, c42_r, c42_w, c42_l, c43_r, c50_r, c50_w, c50_l, c51_r, c85_o, c85_g0, c85_g1, c85_g2, c85_p2, c86_r, c86_w, c86_l, c87_r, c87_w, c87_l, ↓bc5_r, ↓bc6_r, ↓bc39_r, ↓bc42_r, ↓bc50_r, ↓bc86_r, ↓bc87_r, tr_0_o, tr_0_g0, tr_0_p0, tr_0_g1, tr_0_p1, tr_0_g2, tr_0_p2, tr_0_g3, tr_0_p3, tr_0_g4, tr_0_g5, tr_0_g6, tr_0_g7, tr_0_p7, tr_0_g8, tr_0_p8, tr_0_g9, tr_0_p9, tr_0_g10, tr_0_p10, tr_0_g11, tr_0_p11, tr_0_g12, tr_0_p12, tr_0_g13, tr_0_g14, tr_0_g15, tr_0_g16, tr_1_r, tr_1_w, tr_1_l, tr_2_r, tr_3_r, tr_3_w, tr_3_l, tr_4_r, tr_4_w, tr_4_l, tr_5_r, tr_5_w, tr_5_l, tr_6_r, tr_6_w, tr_6_l, tr_7_r, tr_7_w, tr_7_l, tr_8_r, tr_8_w, tr_8_l, tr_9_r, tr_9_w, tr_9_l, tr_10_r, tr_10_w, tr_10_l, tr_11_o, tr_11_g0, tr_11_g1, tr_11_g2, tr_11_g3, tr_11_p3, tr_12_r, tr_12_w, tr_12_l, tr_13_r, tr_13_w, tr_13_l, tr_14_r, tr_14_w, tr_14_l, tr_15_o, tr_15_g0, tr_15_g1, tr_15_g2, tr_15_g3, tr_15_p3, tr_16_r, tr_16_w, tr_16_l, tr_17_r, tr_17_w, tr_17_l, tr_18_r, tr_18_w, tr_18_l, tr_19_r, tr_19_w, tr_19_l, tr_20_r, tr_20_w, tr_20_l, ↓btr_1_r, ↓btr_3_r, ↓btr_4_r, ↓btr_5_r, ↓btr_6_r, ↓btr_7_r, ↓btr_8_r, ↓btr_9_r, ↓btr_10_r, ↓btr_12_r, ↓btr_13_r, ↓btr_14_r, ↓btr_16_r, ↓btr_17_r, ↓btr_18_r, ↓btr_19_r, ↓btr_20_r, fr_0_o, fr_0_g0, fr_0_g1, fr_0_p1, fr_0_g2, fr_0_p2, fr_0_g3, fr_0_p3, fr_0_g4, fr_0_p4, fr_0_g5, fr_0_p5, fr_0_g6, fr_0_p6, fr_0_g7, fr_0_p7, fr_1_r, fr_1_w, fr_1_l, ↓bfr_1_r, c41_p6, Option.bind_some, Option.bind_none, Option.toList_some, Option.toList_none, List.cons_append, List.nil_append, if_true, if_false, ite_true, ite_false, bd_ite, eq_self, not_true_eq_false, not_false_eq_true, true_or, or_true, or_self, k1_i, k1_j, k1_a, k1_n, k_fillL (show ip_sp 42 = some (.inl (2, 66)) from rfl) (show 66 < 2 ^ 30 by decide), m_cp54 (b := 42) hT (Or.inl rfl), fr0_0, fr0_n, fr0_i, q_open (isFr_l (show 0 < 6 by omega)), rI, rI1, rI0, rJ, rJ1, rJ0, rC, rC0, uI_2, uI_3, uJ_1, uJ_3, uC_1, uC_3, uT_1, uT_2, uT_3, rFI, rFI0, rFI1, rFI2, rFI3, rFJ, rFJ0, rFJ1, rFJ2, rFJ3, rK, rK2, rK3, k_endWell hT, e]
theorem k_walk_b (hT : isTr ta) (hr : ¬ r = 0) (e : ip_call (d + 1) mWa_walkFrame [.ref 41, .int 0] (ip_hm L xs (opM (w2M M ta hl) 73 (M.1 ta 0) (M.1 ta 1) (M.2.1 ta 2) (-1))) = some (some (.int r), ip_hm L xs M5)) : ip_call (d + 2) mWa_walk [.ref 41, .ref ta, .int hl] (ip_hm L xs M) = some (none, ip_hm L xs (ebM M5 ta r (M5.2.1 41 8))) := by
  have ht := tr_om hT
  have hF := isFr_l (show 0 < 6 by omega)
  have n1 : ta ≠ 41 := by omega
  have n2 : ta ≠ 42 := by omega
  have n3 : ta + 1 ≠ 42 := by omega
  unfold w2M w0M at e
  simp (disch := first | assumption | omega) only [in40, e40_0, e40_1, e40_2, e40_5, e40_6, e40_7, e40_10, e40_11, e40_14, e40_15, e40_18, e40_19, e40_22, e40_23, e40_24, e40_27, e40_28, e40_30, e40_33, e40_34, e40_37, e40_38, e40_39, e40_40, e40_43, e40_44, e40_47, e40_48, e40_51, e40_52, e40_55, e40_56, e40_57, e40_60, e40_61, e40_62, e40_65, e40_66, e40_67, e40_70, e40_71, e40_72, e40_75, e40_76, e40_79, e40_82, e40_85, e40_86, e40_87, e40_88, e40_91, e40_94, c2_o, c2_g0, c2_g1, c2_g2, c2_g3, c2_g4, c2_g5, c2_p5, c2_g6, c2_p6, c3_o, c3_g0, c3_g1, c3_g2, c3_g3, c3_p3, c3_g4, c3_p4, c4_r, c5_r, c5_w, c5_l, c6_r, c6_w, c6_l, c39_r, c39_w, c39_l, c40_r, c41_o, c41_g0, c41_g1, c41_g2, c41_g3, c41_g4, c41_g5, c41_g6, c41_g7, c41_p7, c41_g8, c41_p8, c42_r, c42_w, c42_l, c43_r, c50_r, c50_w, c50_l, c51_r, c85_o, c85_g0, c85_g1, c85_g2, c85_p2, c86_r, c86_w, c86_l, c87_r, c87_w, c87_l, ↓bc5_r, ↓bc6_r, ↓bc39_r, ↓bc42_r, ↓bc50_r, ↓bc86_r, ↓bc87_r, tr_0_o, tr_0_g0, tr_0_p0, tr_0_g1, tr_0_p1, tr_0_g2, tr_0_p2, tr_0_g3, tr_0_p3, tr_0_g4, tr_0_g5, tr_0_g6, tr_0_g7, tr_0_p7, tr_0_g8, tr_0_p8, tr_0_g9, tr_0_p9, tr_0_g10, tr_0_p10, tr_0_g11, tr_0_p11, tr_0_g12, tr_0_p12, tr_0_g13, tr_0_g14, tr_0_g15, tr_0_g16, tr_1_r, tr_1_w, tr_1_l, tr_2_r, tr_3_r, tr_3_w, tr_3_l, tr_4_r, tr_4_w, tr_4_l, tr_5_r, tr_5_w, tr_5_l, tr_6_r, tr_6_w, tr_6_l, tr_7_r, tr_7_w, tr_7_l, tr_8_r, tr_8_w, tr_8_l, tr_9_r, tr_9_w, tr_9_l, tr_10_r, tr_10_w, tr_10_l, tr_11_o, tr_11_g0, tr_11_g1, tr_11_g2, tr_11_g3, tr_11_p3, tr_12_r, tr_12_w, tr_12_l, tr_13_r, tr_13_w, tr_13_l, tr_14_r, tr_14_w, tr_14_l, tr_15_o, tr_15_g0, tr_15_g1, tr_15_g2, tr_15_g3, tr_15_p3, tr_16_r, tr_16_w, tr_16_l, tr_17_r, tr_17_w, tr_17_l, tr_18_r, tr_18_w, tr_18_l, tr_19_r, tr_19_w, tr_19_l, tr_20_r, tr_20_w, tr_20_l, ↓btr_1_r, ↓btr_3_r, ↓btr_4_r, ↓btr_5_r, ↓btr_6_r, ↓btr_7_r, ↓btr_8_r, ↓btr_9_r, ↓btr_10_r, ↓btr_12_r, ↓btr_13_r, ↓btr_14_r, ↓btr_16_r, ↓btr_17_r, ↓btr_18_r, ↓btr_19_r, ↓btr_20_r, fr_0_o, fr_0_g0, fr_0_g1, fr_0_p1, fr_0_g2, fr_0_p2, fr_0_g3, fr_0_p3, fr_0_g4, fr_0_p4, fr_0_g5, fr_0_p5, fr_0_g6, fr_0_p6, fr_0_g7, fr_0_p7, fr_1_r, fr_1_w, fr_1_l, ↓bfr_1_r, c41_p6, Option.bind_some, Option.bind_none, Option.toList_some, Option.toList_none, List.cons_append, List.nil_append, if_true, if_false, ite_true, ite_false, bd_ite, eq_self, not_true_eq_false, not_false_eq_true, true_or, or_true, or_self, k1_i, k1_j, k1_a, k1_n, k_fillL (show ip_sp 42 = some (.inl (2, 66)) from rfl) (show 66 < 2 ^ 30 by decide), m_cp54 (b := 42) hT (Or.inl rfl), fr0_0, fr0_n, fr0_i, q_open (isFr_l (show 0 < 6 by omega)), rI, rI1, rI0, rJ, rJ1, rJ0, rC, rC0, uI_2, uI_3, uJ_1, uJ_3, uC_1, uC_3, uT_1, uT_2, uT_3, rFI, rFI0, rFI1, rFI2, rFI3, rFJ, rFJ0, rFJ1, rFJ2, rFJ3, rK, rK2, rK3, k_endBadly hT, e, hr]
end KW
