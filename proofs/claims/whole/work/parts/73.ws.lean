/-! writeStep, write, out -/
section S13
variable {d L : Nat} {xs : Nat → Int32} {M M0 Mi : ip_Mm} {n c t k ta : Nat} {v : Int64} {w : List Nat}
theorem cw_n (d : Nat) (v : Int64) (h : wC M0 Mi 0 w) (hn : w.length + (nW v).length ≤ 64) : ∃ M', ip_call (d + 2) mLi_addNumber [.ref 85, .long v] (ip_hm L xs Mi) = some (none, ip_hm L xs M') ∧ wC M0 M' 0 (w ++ nW v) := by
  have e := h.2.2.1
  rw [Nat.zero_add] at e
  obtain ⟨M', h1, h2⟩ := k_addNumber (d := d) (L := L) (xs := xs) (v := v) e hn
  exact ⟨M', h1, wC_t h (by rw [Nat.zero_add]; exact h2)⟩
theorem cw_s (d c : Nat) (h : wC M0 Mi 0 w) (hn : w.length < 64) (hc : c < 128) : ∃ M', ip_call d mLi_addSign [.ref 85, .int (nI c)] (ip_hm L xs Mi) = some (none, ip_hm L xs M') ∧ wC M0 M' 0 (w ++ [c]) := by
  have e := h.2.2.1
  rw [Nat.zero_add] at e
  exact ⟨_, k_addSign e hn hc, wC_t h (by rw [Nat.zero_add]; exact wC_1)⟩
theorem rw_n (d : Nat) (v : Int64) (h : wR M0 Mi 0 w) (hn : w.length + (nW v).length ≤ 64) : ∃ M', ip_call (d + 2) mR_putNumber [.ref 256, .long v] (ip_hm L xs Mi) = some (none, ip_hm L xs M') ∧ wR M0 M' 0 (w ++ nW v) := by
  have e := h.2.2.1
  rw [Nat.zero_add] at e
  obtain ⟨M', h1, h2⟩ := r_putNumber (d := d) (L := L) (xs := xs) (v := v) e (by omega)
  exact ⟨M', h1, wR_t h (by rw [Nat.zero_add]; exact h2)⟩
theorem rw_s (d c : Nat) (h : wR M0 Mi 0 w) (hn : w.length < 64) : ∃ M', ip_call d mR_put [.ref 256, .int (nI c)] (ip_hm L xs Mi) = some (none, ip_hm L xs M') ∧ wR M0 M' 0 (w ++ [c]) := by
  have e := h.2.2.1
  rw [Nat.zero_add] at e
  exact ⟨_, r_put e (by omega), wR_t h (by rw [Nat.zero_add]; exact wR_1)⟩
theorem wC_f (h : wC M0 Mi 0 w) : ∀ c j, c ≠ 85 → c ≠ 86 → c ≠ 87 → Mi.1 c j = M0.1 c j := fun c j h1 h2 h3 => h.1 c j (fun z => by rcases z with z | z | z; exact h2 z; exact h3 z; exact h1 z.1)
theorem wR_f (h : wR M0 Mi 0 w) : ∀ c j, c ≠ 256 → c ≠ 307 → c ≠ 308 → Mi.1 c j = M0.1 c j := fun c j h1 h2 h3 => h.1 c j (fun z => by rcases z with z | z | z; exact h2 z; exact h3 z; exact h1 z.1)
theorem ln_2 {a b : List Nat} {m q : Nat} (h : a.length ≤ m) (h2 : b.length ≤ q) : (a ++ b).length ≤ m + q := by rw [List.length_append]; omega
/-- the words of a step -/
def sW (p0 p1 p2 p3 p4 f : Nat) (v : Int64) : List Nat := if f = 0 then [] ++ nW (lN p0) ++ [32] ++ nW (lN p1) ++ [46] ++ nW (lN p2) ++ [58] ++ nW (lN p3) ++ [32] ++ nW (lN p4) ++ [32] ++ nW v else [] ++ nW (lN p0) ++ [32] ++ nW (lN p1) ++ [46] ++ nW (lN p2) ++ [58] ++ nW (lN p3) ++ [32] ++ nW (lN p4) ++ [32] ++ nW v ++ [33] ++ nW (lN f)

theorem k_writeStep {p0 p1 p2 p3 p4 f : Nat} (hT : isTr ta) (hk : k < 100) (q0 : p0 < 100) (q1 : p1 < 100) (q2 : p2 < 100) (q3 : p3 < 100) (q4 : p4 < 100) (qf : f < 100) (e0 : M.1 (ta + 3) k = nI p0) (e1 : M.1 (ta + 4) k = nI p1) (e2 : M.1 (ta + 5) k = nI p2) (e3 : M.1 (ta + 6) k = nI p3) (e4 : M.1 (ta + 7) k = nI p4) (e6 : M.1 (ta + 9) k = nI f) (ev : M.2.1 (ta + 10) k = v) : ∃ M', ip_call (d + 3) mLi_writeStep [.ref 85, .ref ta, .int (nI k)] (ip_hm L xs M) = some (none, ip_hm L xs M') ∧ wC (uI M 85 2 0) M' 0 (sW p0 p1 p2 p3 p4 f v) ∧ (sW p0 p1 p2 p3 p4 f v).length ≤ 64 := by
  have ht := tr_om hT
  have f0 : ∀ c j, c ≠ 85 → (uI M 85 2 0).1 c j = M.1 c j := fun c j h => by rw [rI h]
  have g0 : (uI M 85 2 0).2.1 = M.2.1 := rfl
  obtain ⟨A0, eA⟩ : ∃ A0, uI M 85 2 0 = A0 := ⟨_, rfl⟩
  have b0 : wC A0 A0 0 [] := by rw [← eA]; exact wC_0 rI0
  rw [eA] at f0 g0
  have l0 : ([] : List Nat).length ≤ 0 := Nat.le_refl _
  obtain ⟨A1, a1, b1⟩ := cw_n (L := L) (xs := xs) (d) (lN p0) b0 (by have := nW_len2 (b := p0) (by omega); omega)
  have l1 := ln_2 l0 (nW_len2 (b := p0) (by omega))
  have f1 := wC_f b1
  have g1 : A1.2.1 = A0.2.1 := congrArg (fun q => q.1) b1.2.1
  obtain ⟨A2, a2, b2⟩ := cw_s (L := L) (xs := xs) (d + 2) 32 b1 (by omega) (by decide)
  have a2' : ip_call (d + 2) mLi_addSign [.ref 85, .int 32] (ip_hm L xs A1) = some (none, ip_hm L xs A2) := a2
  have l2 := ln_2 l1 (show ([32] : List Nat).length ≤ 1 from Nat.le_refl _)
  have f2 := wC_f b2
  have g2 : A2.2.1 = A0.2.1 := congrArg (fun q => q.1) b2.2.1
  obtain ⟨A3, a3, b3⟩ := cw_n (L := L) (xs := xs) (d) (lN p1) b2 (by have := nW_len2 (b := p1) (by omega); omega)
  have l3 := ln_2 l2 (nW_len2 (b := p1) (by omega))
  have f3 := wC_f b3
  have g3 : A3.2.1 = A0.2.1 := congrArg (fun q => q.1) b3.2.1
  obtain ⟨A4, a4, b4⟩ := cw_s (L := L) (xs := xs) (d + 2) 46 b3 (by omega) (by decide)
  have a4' : ip_call (d + 2) mLi_addSign [.ref 85, .int 46] (ip_hm L xs A3) = some (none, ip_hm L xs A4) := a4
  have l4 := ln_2 l3 (show ([46] : List Nat).length ≤ 1 from Nat.le_refl _)
  have f4 := wC_f b4
  have g4 : A4.2.1 = A0.2.1 := congrArg (fun q => q.1) b4.2.1
  obtain ⟨A5, a5, b5⟩ := cw_n (L := L) (xs := xs) (d) (lN p2) b4 (by have := nW_len2 (b := p2) (by omega); omega)
  have l5 := ln_2 l4 (nW_len2 (b := p2) (by omega))
  have f5 := wC_f b5
  have g5 : A5.2.1 = A0.2.1 := congrArg (fun q => q.1) b5.2.1
  obtain ⟨A6, a6, b6⟩ := cw_s (L := L) (xs := xs) (d + 2) 58 b5 (by omega) (by decide)
  have a6' : ip_call (d + 2) mLi_addSign [.ref 85, .int 58] (ip_hm L xs A5) = some (none, ip_hm L xs A6) := a6
  have l6 := ln_2 l5 (show ([58] : List Nat).length ≤ 1 from Nat.le_refl _)
  have f6 := wC_f b6
  have g6 : A6.2.1 = A0.2.1 := congrArg (fun q => q.1) b6.2.1
  obtain ⟨A7, a7, b7⟩ := cw_n (L := L) (xs := xs) (d) (lN p3) b6 (by have := nW_len2 (b := p3) (by omega); omega)
  have l7 := ln_2 l6 (nW_len2 (b := p3) (by omega))
  have f7 := wC_f b7
  have g7 : A7.2.1 = A0.2.1 := congrArg (fun q => q.1) b7.2.1
  obtain ⟨A8, a8, b8⟩ := cw_s (L := L) (xs := xs) (d + 2) 32 b7 (by omega) (by decide)
  have a8' : ip_call (d + 2) mLi_addSign [.ref 85, .int 32] (ip_hm L xs A7) = some (none, ip_hm L xs A8) := a8
  have l8 := ln_2 l7 (show ([32] : List Nat).length ≤ 1 from Nat.le_refl _)
  have f8 := wC_f b8
  have g8 : A8.2.1 = A0.2.1 := congrArg (fun q => q.1) b8.2.1
  obtain ⟨A9, a9, b9⟩ := cw_n (L := L) (xs := xs) (d) (lN p4) b8 (by have := nW_len2 (b := p4) (by omega); omega)
  have l9 := ln_2 l8 (nW_len2 (b := p4) (by omega))
  have f9 := wC_f b9
  have g9 : A9.2.1 = A0.2.1 := congrArg (fun q => q.1) b9.2.1
  obtain ⟨A10, a10, b10⟩ := cw_s (L := L) (xs := xs) (d + 2) 32 b9 (by omega) (by decide)
  have a10' : ip_call (d + 2) mLi_addSign [.ref 85, .int 32] (ip_hm L xs A9) = some (none, ip_hm L xs A10) := a10
  have l10 := ln_2 l9 (show ([32] : List Nat).length ≤ 1 from Nat.le_refl _)
  have f10 := wC_f b10
  have g10 : A10.2.1 = A0.2.1 := congrArg (fun q => q.1) b10.2.1
  obtain ⟨A11, a11, b11⟩ := cw_n (L := L) (xs := xs) (d) (v) b10 (by have := nW_len (v := v); omega)
  have l11 := ln_2 l10 (nW_len (v := v))
  have f11 := wC_f b11
  have g11 : A11.2.1 = A0.2.1 := congrArg (fun q => q.1) b11.2.1
  by_cases h0 : f = 0
  · unfold sW
    rw [if_pos h0, eA]
    refine ⟨A11, ?_, b11, by omega⟩
    rw [h0] at e6
    simp (disch := first | assumption | omega) only [in14, e14_0, e14_1, e14_4, e14_6, e14_7, e14_8, e14_9, e14_10, e14_11, e14_12, e14_15, e14_16, e14_17, e14_20, e14_21, e14_22, e14_23, e14_24, e14_25, e14_28, e14_29, e14_31, e14_34, e14_35, e14_36, e14_39, e14_40, e14_41, e14_42, e14_43, e14_44, e14_47, e14_48, e14_50, e14_53, e14_54, e14_55, e14_58, e14_59, e14_60, e14_61, e14_62, e14_63, e14_66, e14_67, e14_69, e14_72, e14_73, e14_74, e14_77, e14_78, e14_79, e14_80, e14_81, e14_82, e14_85, e14_86, e14_88, e14_91, e14_92, e14_93, e14_96, e14_97, e14_98, e14_99, e14_100, e14_101, e14_104, e14_105, e14_107, e14_110, e14_111, e14_112, e14_115, e14_116, e14_117, e14_120, e14_121, e14_124, e14_125, e14_127, e14_130, e14_131, e14_132, e14_133, e14_136, c85_o, c85_p2, tr_0_o, tr_0_g5, tr_0_g6, tr_fc hT, btr_3_r, btr_4_r, btr_5_r, btr_6_r, btr_7_r, btr_9_r, btr_10_r, ↓reduceIte, ar1, ar2, ar3, ar4, ar5, ar6, ar7, ar8, ar9, in_t, cl_n, ltNN, ltNL, ltLN, leNN, leNL, leLN, eqNN, eqNL, ntLt, nfLt, ntLe, nfLe, ntEq, nfEq, lN_i32, nI_l, ltJNN, ltJNL, leJNN, leJLN, leJNL, ltJLN, n10, eA, a1, a2', a3, a4', a5, a6', a7, a8', a9, a10', a11, f1, f2, f3, f4, f5, f6, f7, f8, f9, f10, f11, g1, g2, g3, g4, g5, g6, g7, g8, g9, g10, g11, f0, g0, e0, e1, e2, e3, e4, e6, ev, Option.bind_some, Option.bind_none, Option.toList_some, Option.toList_none, List.cons_append, List.nil_append, if_true, if_false, ite_true, ite_false, bd_ite, eq_self, not_true_eq_false, not_false_eq_true, true_or, or_true, or_self, k1_i, k1_j, k1_a, k1_n]
  · unfold sW
    rw [if_neg h0, eA]
    obtain ⟨A12, a12, b12⟩ := cw_s (L := L) (xs := xs) (d + 2) 33 b11 (by omega) (by decide)
    have a12' : ip_call (d + 2) mLi_addSign [.ref 85, .int 33] (ip_hm L xs A11) = some (none, ip_hm L xs A12) := a12
    have l12 := ln_2 l11 (show ([33] : List Nat).length ≤ 1 from Nat.le_refl _)
    have f12 := wC_f b12
    have g12 : A12.2.1 = A0.2.1 := congrArg (fun q => q.1) b12.2.1
    obtain ⟨A13, a13, b13⟩ := cw_n (L := L) (xs := xs) (d) (lN f) b12 (by have := nW_len2 (b := f) (by omega); omega)
    have l13 := ln_2 l12 (nW_len2 (b := f) (by omega))
    have f13 := wC_f b13
    have g13 : A13.2.1 = A0.2.1 := congrArg (fun q => q.1) b13.2.1
    refine ⟨A13, ?_, b13, by omega⟩
    simp (disch := first | assumption | omega) only [in14, e14_0, e14_1, e14_4, e14_6, e14_7, e14_8, e14_9, e14_10, e14_11, e14_12, e14_15, e14_16, e14_17, e14_20, e14_21, e14_22, e14_23, e14_24, e14_25, e14_28, e14_29, e14_31, e14_34, e14_35, e14_36, e14_39, e14_40, e14_41, e14_42, e14_43, e14_44, e14_47, e14_48, e14_50, e14_53, e14_54, e14_55, e14_58, e14_59, e14_60, e14_61, e14_62, e14_63, e14_66, e14_67, e14_69, e14_72, e14_73, e14_74, e14_77, e14_78, e14_79, e14_80, e14_81, e14_82, e14_85, e14_86, e14_88, e14_91, e14_92, e14_93, e14_96, e14_97, e14_98, e14_99, e14_100, e14_101, e14_104, e14_105, e14_107, e14_110, e14_111, e14_112, e14_115, e14_116, e14_117, e14_120, e14_121, e14_124, e14_125, e14_127, e14_130, e14_131, e14_132, e14_133, e14_136, c85_o, c85_p2, tr_0_o, tr_0_g5, tr_0_g6, tr_fc hT, btr_3_r, btr_4_r, btr_5_r, btr_6_r, btr_7_r, btr_9_r, btr_10_r, ↓reduceIte, ar1, ar2, ar3, ar4, ar5, ar6, ar7, ar8, ar9, in_t, cl_n, ltNN, ltNL, ltLN, leNN, leNL, leLN, eqNN, eqNL, ntLt, nfLt, ntLe, nfLe, ntEq, nfEq, lN_i32, nI_l, ltJNN, ltJNL, leJNN, leJLN, leJNL, ltJLN, n10, eA, a1, a2', a3, a4', a5, a6', a7, a8', a9, a10', a11, a12', a13, f1, f2, f3, f4, f5, f6, f7, f8, f9, f10, f11, f12, f13, g1, g2, g3, g4, g5, g6, g7, g8, g9, g10, g11, g12, g13, f0, g0, e0, e1, e2, e3, e4, e6, ev, Option.bind_some, Option.bind_none, Option.toList_some, Option.toList_none, List.cons_append, List.nil_append, if_true, if_false, ite_true, ite_false, bd_ite, eq_self, not_true_eq_false, not_false_eq_true, true_or, or_true, or_self, k1_i, k1_j, k1_a, k1_n]
theorem r_write {nt N p0 p1 p2 p3 p4 f : Nat} (c4 : M.1 256 10 = nI nt) (hn : nt ≤ 8) (ht : t < nt) (t6 : M.1 271 t = nI N) (hN : N ≤ 100) (hk : k < N) (q0 : p0 < 100) (q1 : p1 < 100) (q2 : p2 < 100) (q3 : p3 < 100) (q4 : p4 < 100) (qf : f < 100) (e0 : M.1 277 (7 * (100 * t + k)) = nI p0) (e1 : M.1 277 (7 * (100 * t + k) + 1) = nI p1) (e2 : M.1 277 (7 * (100 * t + k) + 2) = nI p2) (e3 : M.1 277 (7 * (100 * t + k) + 3) = nI p3) (e4 : M.1 277 (7 * (100 * t + k) + 4) = nI p4) (e6 : M.1 277 (7 * (100 * t + k) + 6) = nI f) (ev : M.2.1 278 (100 * t + k) = v) : ∃ M', ip_call (d + 3) mR_write [.ref 256, .int (nI t), .int (nI k)] (ip_hm L xs M) = some (some (.int (nI (sW p0 p1 p2 p3 p4 f v).length)), ip_hm L xs M') ∧ wR (uI M 256 67 0) M' 0 (sW p0 p1 p2 p3 p4 f v) := by
  have t8 : t < 8 := by omega
  have k100 : k < 100 := by omega
  have wk : wi (nI k) N := ⟨k, hk, rfl⟩
  have is := r_isStep_t (d := d) (L := L) (xs := xs) (k := nI k) c4 hn ht t6 hN
  rw [bZ_t wk] at is
  have f0 : ∀ c j, c ≠ 256 → (uI M 256 67 0).1 c j = M.1 c j := fun c j h => by rw [rI h]
  have g0 : (uI M 256 67 0).2.1 = M.2.1 := rfl
  obtain ⟨A0, eA⟩ : ∃ A0, uI M 256 67 0 = A0 := ⟨_, rfl⟩
  have b0 : wR A0 A0 0 [] := by rw [← eA]; exact wR_0 rI0
  rw [eA] at f0 g0
  have l0 : ([] : List Nat).length ≤ 0 := Nat.le_refl _
  obtain ⟨A1, a1, b1⟩ := rw_n (L := L) (xs := xs) (d) (lN p0) b0 (by have := nW_len2 (b := p0) (by omega); omega)
  have l1 := ln_2 l0 (nW_len2 (b := p0) (by omega))
  have f1 := wR_f b1
  have g1 : A1.2.1 = A0.2.1 := congrArg (fun q => q.1) b1.2.1
  obtain ⟨A2, a2, b2⟩ := rw_s (L := L) (xs := xs) (d + 2) 32 b1 (by omega)
  have a2' : ip_call (d + 2) mR_put [.ref 256, .int 32] (ip_hm L xs A1) = some (none, ip_hm L xs A2) := a2
  have l2 := ln_2 l1 (show ([32] : List Nat).length ≤ 1 from Nat.le_refl _)
  have f2 := wR_f b2
  have g2 : A2.2.1 = A0.2.1 := congrArg (fun q => q.1) b2.2.1
  obtain ⟨A3, a3, b3⟩ := rw_n (L := L) (xs := xs) (d) (lN p1) b2 (by have := nW_len2 (b := p1) (by omega); omega)
  have l3 := ln_2 l2 (nW_len2 (b := p1) (by omega))
  have f3 := wR_f b3
  have g3 : A3.2.1 = A0.2.1 := congrArg (fun q => q.1) b3.2.1
  obtain ⟨A4, a4, b4⟩ := rw_s (L := L) (xs := xs) (d + 2) 46 b3 (by omega)
  have a4' : ip_call (d + 2) mR_put [.ref 256, .int 46] (ip_hm L xs A3) = some (none, ip_hm L xs A4) := a4
  have l4 := ln_2 l3 (show ([46] : List Nat).length ≤ 1 from Nat.le_refl _)
  have f4 := wR_f b4
  have g4 : A4.2.1 = A0.2.1 := congrArg (fun q => q.1) b4.2.1
  obtain ⟨A5, a5, b5⟩ := rw_n (L := L) (xs := xs) (d) (lN p2) b4 (by have := nW_len2 (b := p2) (by omega); omega)
  have l5 := ln_2 l4 (nW_len2 (b := p2) (by omega))
  have f5 := wR_f b5
  have g5 : A5.2.1 = A0.2.1 := congrArg (fun q => q.1) b5.2.1
  obtain ⟨A6, a6, b6⟩ := rw_s (L := L) (xs := xs) (d + 2) 58 b5 (by omega)
  have a6' : ip_call (d + 2) mR_put [.ref 256, .int 58] (ip_hm L xs A5) = some (none, ip_hm L xs A6) := a6
  have l6 := ln_2 l5 (show ([58] : List Nat).length ≤ 1 from Nat.le_refl _)
  have f6 := wR_f b6
  have g6 : A6.2.1 = A0.2.1 := congrArg (fun q => q.1) b6.2.1
  obtain ⟨A7, a7, b7⟩ := rw_n (L := L) (xs := xs) (d) (lN p3) b6 (by have := nW_len2 (b := p3) (by omega); omega)
  have l7 := ln_2 l6 (nW_len2 (b := p3) (by omega))
  have f7 := wR_f b7
  have g7 : A7.2.1 = A0.2.1 := congrArg (fun q => q.1) b7.2.1
  obtain ⟨A8, a8, b8⟩ := rw_s (L := L) (xs := xs) (d + 2) 32 b7 (by omega)
  have a8' : ip_call (d + 2) mR_put [.ref 256, .int 32] (ip_hm L xs A7) = some (none, ip_hm L xs A8) := a8
  have l8 := ln_2 l7 (show ([32] : List Nat).length ≤ 1 from Nat.le_refl _)
  have f8 := wR_f b8
  have g8 : A8.2.1 = A0.2.1 := congrArg (fun q => q.1) b8.2.1
  obtain ⟨A9, a9, b9⟩ := rw_n (L := L) (xs := xs) (d) (lN p4) b8 (by have := nW_len2 (b := p4) (by omega); omega)
  have l9 := ln_2 l8 (nW_len2 (b := p4) (by omega))
  have f9 := wR_f b9
  have g9 : A9.2.1 = A0.2.1 := congrArg (fun q => q.1) b9.2.1
  obtain ⟨A10, a10, b10⟩ := rw_s (L := L) (xs := xs) (d + 2) 32 b9 (by omega)
  have a10' : ip_call (d + 2) mR_put [.ref 256, .int 32] (ip_hm L xs A9) = some (none, ip_hm L xs A10) := a10
  have l10 := ln_2 l9 (show ([32] : List Nat).length ≤ 1 from Nat.le_refl _)
  have f10 := wR_f b10
  have g10 : A10.2.1 = A0.2.1 := congrArg (fun q => q.1) b10.2.1
  obtain ⟨A11, a11, b11⟩ := rw_n (L := L) (xs := xs) (d) (v) b10 (by have := nW_len (v := v); omega)
  have l11 := ln_2 l10 (nW_len (v := v))
  have f11 := wR_f b11
  have g11 : A11.2.1 = A0.2.1 := congrArg (fun q => q.1) b11.2.1
  by_cases h0 : f = 0
  · unfold sW
    rw [if_pos h0, eA]
    refine ⟨A11, ?_, b11⟩
    have ez := b11.2.2.1
    rw [Nat.zero_add] at ez
    rw [h0] at e6
    simp (disch := first | assumption | omega) only [in141, e141_0, e141_1, e141_2, e141_3, e141_6, e141_9, e141_10, e141_11, e141_13, e141_15, e141_16, e141_17, e141_18, e141_19, e141_20, e141_21, e141_22, e141_23, e141_26, e141_27, e141_28, e141_31, e141_32, e141_33, e141_34, e141_37, e141_38, e141_40, e141_43, e141_44, e141_45, e141_48, e141_49, e141_50, e141_51, e141_52, e141_53, e141_56, e141_57, e141_59, e141_62, e141_63, e141_64, e141_67, e141_68, e141_69, e141_70, e141_71, e141_72, e141_75, e141_76, e141_78, e141_81, e141_82, e141_83, e141_86, e141_87, e141_88, e141_89, e141_90, e141_91, e141_94, e141_95, e141_97, e141_100, e141_101, e141_102, e141_105, e141_106, e141_107, e141_108, e141_109, e141_110, e141_113, e141_114, e141_116, e141_119, e141_120, e141_121, e141_124, e141_126, e141_127, e141_128, e141_129, e141_130, e141_131, e141_134, e141_135, e141_138, e141_139, e141_141, e141_142, e141_143, e141_146, e141_147, e141_149, e141_152, e141_153, e141_154, e141_157, e141_158, e141_160, e141_161, e141_162, e141_163, e141_166, e141_167, e141_170, c256_o, c256_g0, c256_p0, c256_g1, c256_g2, c256_g3, c256_g4, c256_g5, c256_p5, c256_g6, c256_g7, c256_g8, c256_g9, c256_g10, c256_p10, c256_g11, c256_p11, c256_g12, c256_g13, c256_g14, c256_g15, c256_g16, c256_g17, c256_g18, c256_g19, c256_g20, c256_g21, c256_g22, c256_g23, c256_g24, c256_g25, c256_g26, c256_g27, c256_g28, c256_g29, c256_g30, c256_g31, c256_g32, c256_g33, c256_g34, c256_g35, c256_g36, c256_g37, c256_g38, c256_p38, c256_g39, c256_p39, c256_g40, c256_p40, c256_g41, c256_p41, c256_g42, c256_p42, c256_g43, c256_p43, c256_g44, c256_p44, c256_g45, c256_p45, c256_g46, c256_p46, c256_g47, c256_p47, c256_g48, c256_p48, c256_g49, c256_p49, c256_g50, c256_p50, c256_g51, c256_g52, c256_g53, c256_g54, c256_g55, c256_g56, c256_g57, c256_g58, c256_g59, c256_g60, c256_g61, c256_g62, c256_g63, c256_g64, c256_g65, c256_g66, c256_g67, c256_p67, c256_g68, c256_g69, c257_r, c257_w, c257_l, c258_r, c258_w, c258_l, c259_r, c259_w, c259_l, c260_r, c260_w, c260_l, c261_r, c261_w, c261_l, c262_r, c262_w, c262_l, c263_r, c263_w, c263_l, c264_r, c264_w, c264_l, c265_r, c265_w, c265_l, c266_r, c266_w, c266_l, c267_r, c267_w, c267_l, c268_r, c268_w, c268_l, c269_r, c269_w, c269_l, c270_r, c270_w, c270_l, c271_r, c271_w, c271_l, c272_r, c272_w, c272_l, c273_r, c273_w, c273_l, c274_r, c274_w, c274_l, c275_r, c275_w, c275_l, c276_r, c276_w, c276_l, c277_r, c277_w, c277_l, c278_r, c278_w, c278_l, c279_r, c279_w, c279_l, c280_r, c280_w, c280_l, c281_r, c281_w, c281_l, c282_r, c282_w, c282_l, c283_r, c283_w, c283_l, c284_r, c284_w, c284_l, c285_r, c285_w, c285_l, c286_r, c286_w, c286_l, c287_r, c287_w, c287_l, c288_r, c288_w, c288_l, c289_r, c289_w, c289_l, c290_r, c290_w, c290_l, c291_r, c291_w, c291_l, c292_r, c292_w, c292_l, c293_r, c293_w, c293_l, c294_r, c294_w, c294_l, c295_r, c295_w, c295_l, c296_r, c296_w, c296_l, c297_r, c297_w, c297_l, c298_r, c298_w, c298_l, c299_r, c299_w, c299_l, c300_r, c300_w, c300_l, c301_r, c301_w, c301_l, c302_r, c302_w, c302_l, c303_r, c303_w, c303_l, c304_r, c304_w, c304_l, c305_r, c305_w, c305_l, c306_r, c306_w, c306_l, c307_r, c307_w, c307_l, c308_r, c308_w, c308_l, ↓bc257_r, ↓bc258_r, ↓bc259_r, ↓bc260_r, ↓bc261_r, ↓bc262_r, ↓bc263_r, ↓bc264_r, ↓bc265_r, ↓bc266_r, ↓bc267_r, ↓bc268_r, ↓bc269_r, ↓bc270_r, ↓bc271_r, ↓bc272_r, ↓bc273_r, ↓bc274_r, ↓bc275_r, ↓bc276_r, ↓bc277_r, ↓bc278_r, ↓bc279_r, ↓bc280_r, ↓bc281_r, ↓bc282_r, ↓bc283_r, ↓bc284_r, ↓bc285_r, ↓bc286_r, ↓bc287_r, ↓bc288_r, ↓bc289_r, ↓bc290_r, ↓bc291_r, ↓bc292_r, ↓bc293_r, ↓bc294_r, ↓bc295_r, ↓bc296_r, ↓bc297_r, ↓bc298_r, ↓bc299_r, ↓bc300_r, ↓bc301_r, ↓bc302_r, ↓bc303_r, ↓bc304_r, ↓bc305_r, ↓bc306_r, ↓bc307_r, ↓bc308_r, ↓reduceIte, ar1, ar2, ar3, ar4, ar5, ar6, ar7, ar8, ar9, in_t, cl_n, ltNN, ltNL, ltLN, leNN, leNL, leLN, eqNN, eqNL, ntLt, nfLt, ntLe, nfLe, ntEq, nfEq, lN_i32, nI_l, ltJNN, ltJNL, leJNN, leJLN, leJNL, ltJLN, n10, is, eA, a1, a2', a3, a4', a5, a6', a7, a8', a9, a10', a11, f1, f2, f3, f4, f5, f6, f7, f8, f9, f10, f11, g1, g2, g3, g4, g5, g6, g7, g8, g9, g10, g11, f0, g0, e0, e1, e2, e3, e4, e6, ev, ez, Option.bind_some, Option.bind_none, Option.toList_some, Option.toList_none, List.cons_append, List.nil_append, if_true, if_false, ite_true, ite_false, bd_ite, eq_self, not_true_eq_false, not_false_eq_true, true_or, or_true, or_self, k1_i, k1_j, k1_a, k1_n]
  · unfold sW
    rw [if_neg h0, eA]
    obtain ⟨A12, a12, b12⟩ := rw_s (L := L) (xs := xs) (d + 2) 33 b11 (by omega)
    have a12' : ip_call (d + 2) mR_put [.ref 256, .int 33] (ip_hm L xs A11) = some (none, ip_hm L xs A12) := a12
    have l12 := ln_2 l11 (show ([33] : List Nat).length ≤ 1 from Nat.le_refl _)
    have f12 := wR_f b12
    have g12 : A12.2.1 = A0.2.1 := congrArg (fun q => q.1) b12.2.1
    obtain ⟨A13, a13, b13⟩ := rw_n (L := L) (xs := xs) (d) (lN f) b12 (by have := nW_len2 (b := f) (by omega); omega)
    have l13 := ln_2 l12 (nW_len2 (b := f) (by omega))
    have f13 := wR_f b13
    have g13 : A13.2.1 = A0.2.1 := congrArg (fun q => q.1) b13.2.1
    refine ⟨A13, ?_, b13⟩
    have ez := b13.2.2.1
    rw [Nat.zero_add] at ez
    simp (disch := first | assumption | omega) only [in141, e141_0, e141_1, e141_2, e141_3, e141_6, e141_9, e141_10, e141_11, e141_13, e141_15, e141_16, e141_17, e141_18, e141_19, e141_20, e141_21, e141_22, e141_23, e141_26, e141_27, e141_28, e141_31, e141_32, e141_33, e141_34, e141_37, e141_38, e141_40, e141_43, e141_44, e141_45, e141_48, e141_49, e141_50, e141_51, e141_52, e141_53, e141_56, e141_57, e141_59, e141_62, e141_63, e141_64, e141_67, e141_68, e141_69, e141_70, e141_71, e141_72, e141_75, e141_76, e141_78, e141_81, e141_82, e141_83, e141_86, e141_87, e141_88, e141_89, e141_90, e141_91, e141_94, e141_95, e141_97, e141_100, e141_101, e141_102, e141_105, e141_106, e141_107, e141_108, e141_109, e141_110, e141_113, e141_114, e141_116, e141_119, e141_120, e141_121, e141_124, e141_126, e141_127, e141_128, e141_129, e141_130, e141_131, e141_134, e141_135, e141_138, e141_139, e141_141, e141_142, e141_143, e141_146, e141_147, e141_149, e141_152, e141_153, e141_154, e141_157, e141_158, e141_160, e141_161, e141_162, e141_163, e141_166, e141_167, e141_170, c256_o, c256_g0, c256_p0, c256_g1, c256_g2, c256_g3, c256_g4, c256_g5, c256_p5, c256_g6, c256_g7, c256_g8, c256_g9, c256_g10, c256_p10, c256_g11, c256_p11, c256_g12, c256_g13, c256_g14, c256_g15, c256_g16, c256_g17, c256_g18, c256_g19, c256_g20, c256_g21, c256_g22, c256_g23, c256_g24, c256_g25, c256_g26, c256_g27, c256_g28, c256_g29, c256_g30, c256_g31, c256_g32, c256_g33, c256_g34, c256_g35, c256_g36, c256_g37, c256_g38, c256_p38, c256_g39, c256_p39, c256_g40, c256_p40, c256_g41, c256_p41, c256_g42, c256_p42, c256_g43, c256_p43, c256_g44, c256_p44, c256_g45, c256_p45, c256_g46, c256_p46, c256_g47, c256_p47, c256_g48, c256_p48, c256_g49, c256_p49, c256_g50, c256_p50, c256_g51, c256_g52, c256_g53, c256_g54, c256_g55, c256_g56, c256_g57, c256_g58, c256_g59, c256_g60, c256_g61, c256_g62, c256_g63, c256_g64, c256_g65, c256_g66, c256_g67, c256_p67, c256_g68, c256_g69, c257_r, c257_w, c257_l, c258_r, c258_w, c258_l, c259_r, c259_w, c259_l, c260_r, c260_w, c260_l, c261_r, c261_w, c261_l, c262_r, c262_w, c262_l, c263_r, c263_w, c263_l, c264_r, c264_w, c264_l, c265_r, c265_w, c265_l, c266_r, c266_w, c266_l, c267_r, c267_w, c267_l, c268_r, c268_w, c268_l, c269_r, c269_w, c269_l, c270_r, c270_w, c270_l, c271_r, c271_w, c271_l, c272_r, c272_w, c272_l, c273_r, c273_w, c273_l, c274_r, c274_w, c274_l, c275_r, c275_w, c275_l, c276_r, c276_w, c276_l, c277_r, c277_w, c277_l, c278_r, c278_w, c278_l, c279_r, c279_w, c279_l, c280_r, c280_w, c280_l, c281_r, c281_w, c281_l, c282_r, c282_w, c282_l, c283_r, c283_w, c283_l, c284_r, c284_w, c284_l, c285_r, c285_w, c285_l, c286_r, c286_w, c286_l, c287_r, c287_w, c287_l, c288_r, c288_w, c288_l, c289_r, c289_w, c289_l, c290_r, c290_w, c290_l, c291_r, c291_w, c291_l, c292_r, c292_w, c292_l, c293_r, c293_w, c293_l, c294_r, c294_w, c294_l, c295_r, c295_w, c295_l, c296_r, c296_w, c296_l, c297_r, c297_w, c297_l, c298_r, c298_w, c298_l, c299_r, c299_w, c299_l, c300_r, c300_w, c300_l, c301_r, c301_w, c301_l, c302_r, c302_w, c302_l, c303_r, c303_w, c303_l, c304_r, c304_w, c304_l, c305_r, c305_w, c305_l, c306_r, c306_w, c306_l, c307_r, c307_w, c307_l, c308_r, c308_w, c308_l, ↓bc257_r, ↓bc258_r, ↓bc259_r, ↓bc260_r, ↓bc261_r, ↓bc262_r, ↓bc263_r, ↓bc264_r, ↓bc265_r, ↓bc266_r, ↓bc267_r, ↓bc268_r, ↓bc269_r, ↓bc270_r, ↓bc271_r, ↓bc272_r, ↓bc273_r, ↓bc274_r, ↓bc275_r, ↓bc276_r, ↓bc277_r, ↓bc278_r, ↓bc279_r, ↓bc280_r, ↓bc281_r, ↓bc282_r, ↓bc283_r, ↓bc284_r, ↓bc285_r, ↓bc286_r, ↓bc287_r, ↓bc288_r, ↓bc289_r, ↓bc290_r, ↓bc291_r, ↓bc292_r, ↓bc293_r, ↓bc294_r, ↓bc295_r, ↓bc296_r, ↓bc297_r, ↓bc298_r, ↓bc299_r, ↓bc300_r, ↓bc301_r, ↓bc302_r, ↓bc303_r, ↓bc304_r, ↓bc305_r, ↓bc306_r, ↓bc307_r, ↓bc308_r, ↓reduceIte, ar1, ar2, ar3, ar4, ar5, ar6, ar7, ar8, ar9, in_t, cl_n, ltNN, ltNL, ltLN, leNN, leNL, leLN, eqNN, eqNL, ntLt, nfLt, ntLe, nfLe, ntEq, nfEq, lN_i32, nI_l, ltJNN, ltJNL, leJNN, leJLN, leJNL, ltJLN, n10, is, eA, a1, a2', a3, a4', a5, a6', a7, a8', a9, a10', a11, a12', a13, f1, f2, f3, f4, f5, f6, f7, f8, f9, f10, f11, f12, f13, g1, g2, g3, g4, g5, g6, g7, g8, g9, g10, g11, g12, g13, f0, g0, e0, e1, e2, e3, e4, e6, ev, ez, Option.bind_some, Option.bind_none, Option.toList_some, Option.toList_none, List.cons_append, List.nil_append, if_true, if_false, ite_true, ite_false, bd_ite, eq_self, not_true_eq_false, not_false_eq_true, true_or, or_true, or_self, k1_i, k1_j, k1_a, k1_n]
/-- the line alone has changed -/
theorem zIK_l {K : zK} {nt nc : Nat} {M' : ip_Mm} (h : zIK K nt nc M) (hu : ∀ c j, c ≠ 85 → c ≠ 86 → c ≠ 87 → ¬ (c = 256 ∧ j = 67) → c ≠ 307 → c ≠ 308 → M'.1 c j = M.1 c j) (hj : M'.2.1 = M.2.1) (li : zLi M') : zIv M' := by
  obtain ⟨a1, a2, a3, a4, a5, a6, a7, a8, a9, a10, a11⟩ := h
  have sr : ∀ lo hi, (hi ≤ 85 ∨ 88 ≤ lo) → (hi ≤ 256 ∨ 257 ≤ lo) → (hi ≤ 307 ∨ 309 ≤ lo) → sR lo hi M M' := fun lo hi x1 x2 x3 c y1 y2 => ⟨funext fun j => hu c j (by omega) (by omega) (by omega) (by omega) (by omega) (by omega), by rw [hj]⟩
  have h256 : ∀ j, j ≠ 67 → M'.1 256 j = M.1 256 j := fun j hj => hu 256 j (by decide) (by decide) (by decide) (by omega) (by decide) (by decide)
  refine ⟨K, nt, nc, a1, kc_f a2 (sr _ _ (by omega) (by omega) (by omega)), kr_f a3 (h256 0 (by decide)) (h256 5 (by decide)) (sr _ _ (by omega) (by omega) (by omega)), ⟨a4.1, fun a m x1 x2 x3 => ?_⟩, zNw_f a5 (sr _ _ (by omega) (by omega) (by omega)) (sr _ _ (by omega) (by omega) (by omega)), ?_, fun t ht => ?_, fun t ht => ?_, ?_, ?_, li⟩
  · rw [((sr 5 6 (by omega) (by omega) (by omega)) 5 (by omega) (by omega)).1]; exact a4.2 a m x1 x2 x3
  · obtain ⟨c1, c2, c3, c4, c5, c6⟩ := a6
    have h2 : M'.1 2 = M.1 2 := ((sr 2 3 (by omega) (by omega) (by omega)) 2 (by omega) (by omega)).1
    exact ⟨c1, c2, by rw [h2]; exact c3, by rw [h256 10 (by decide)]; exact c4, by rw [h2]; exact c5, by rw [h256 11 (by decide)]; exact c6⟩
  · have := a6.1
    exact zTR_f (a7 t ht) (sr _ _ (by omega) (by omega) (by omega)) (sr _ _ (by omega) (by omega) (by omega)) rfl (Nat.le_refl _) (fun _ _ _ _ => rfl)
  · exact zTq_f (a8 t ht) (sr _ _ (by omega) (by omega) (by omega)) (sr _ _ (by omega) (by omega) (by omega))
  · exact zSk_f a9 (sr _ _ (by omega) (by omega) (by omega)) (sr _ _ (by omega) (by omega) (by omega))
  · rw [((sr 50 51 (by omega) (by omega) (by omega)) 50 (by omega) (by omega)).1]; exact a10
theorem pp_write {t k : Int32} (h : zIv M) : zPI (d + 60) L xs mC_write mR_write [.int t, .int k] M := by
  obtain ⟨⟨np, na, sz, kd, oa, ob, mb, pc⟩, nt, nc, h⟩ := h
  obtain ⟨ko, kc, kr, k2, nw, ct, htr, htq, hsk, h50, hli⟩ := id h
  dsimp only [zKO, zKC, zKR, zK2, kNp, kNa, kSz, kKd, kOa, kOb, kMb, kPc] at ko kc kr k2
  obtain ⟨ko1, ko2, ko3, ko4, ko5, ko6⟩ := ko
  obtain ⟨kc1, kc2, kc3, kc4, kc5, kc6⟩ := kc
  obtain ⟨kr1, kr2, kr3, kr4, kr5, kr6⟩ := kr
  obtain ⟨ct1, ct2, ct3, ct4, ct5, ct6⟩ := ct
  by_cases ht : wi t nt
  · obtain ⟨t, ht, rfl⟩ := ht
    obtain ⟨x, y, c, lim, N, ⟨u1, u2, u3, u4, u5, u6⟩, ⟨b0, b1, b3, b7⟩, t1, t2, t3, t4, t5, t6, ⟨f, f8, t7, t7'⟩, t8, t9, t10, t11, t12, t13, t14, ⟨tn, tn4, t15⟩, t16, t17, g, de, ch, t18, t19⟩ := htr t ht
    have q8 : t < 8 := by omega
    have hT := isTr_l q8
    by_cases hk : wi k N
    · obtain ⟨k, hk, rfl⟩ := hk
      have wk : wi (nI k) N := ⟨k, hk, rfl⟩
      have k100 : k < 100 := by omega
      obtain ⟨s1, s2, ⟨p0, p0b, e0⟩, ⟨p1, p1b, e1⟩, ⟨p2, p2b, e2⟩, ⟨p3, p3b, e3⟩, ⟨p4, p4b, e4⟩, ⟨p6, p6b, e6⟩⟩ := t12 k hk
      obtain ⟨M1, k1, w1, len⟩ := k_writeStep (d := d + 56) (L := L) (xs := xs) (M := M) hT k100 (show p0 < 100 by omega) (show p1 < 100 by omega) (show p2 < 100 by omega) (show p3 < 100 by omega) (show p4 < 100 by omega) (show p6 < 100 by omega) e0 e1 e2 e3 e4 e6 rfl
      have u1 : ∀ c j, c ≠ 85 → c ≠ 86 → c ≠ 87 → M1.1 c j = M.1 c j := fun c j x1 x2 x3 => (wC_f w1 c j x1 x2 x3).trans (by rw [rI x1])
      have v1 : M1.2.1 = M.2.1 := congrArg (fun q => q.1) w1.2.1
      have r : ∀ j, M1.1 277 j = M.1 277 j := fun j => u1 277 j (by decide) (by decide) (by decide)
      obtain ⟨M2, k2, w2⟩ := r_write (d := d + 57) (L := L) (xs := xs) (M := M1) (t := t) (k := k) (nt := nt) (N := N) (p0 := p0) (p1 := p1) (p2 := p2) (p3 := p3) (p4 := p4) (f := p6) (v := M.2.1 (88 + 21 * t + 10) k) (by rw [u1 256 10 (by decide) (by decide) (by decide)]; exact ct4) ct1 ht (by rw [u1 271 t (by decide) (by decide) (by decide)]; exact t6) u6 hk (by omega) (by omega) (by omega) (by omega) (by omega) (by omega) (by rw [r]; exact (s1 0 (by omega)).trans e0) (by rw [r]; exact (s1 1 (by omega)).trans e1) (by rw [r]; exact (s1 2 (by omega)).trans e2) (by rw [r]; exact (s1 3 (by omega)).trans e3) (by rw [r]; exact (s1 4 (by omega)).trans e4) (by rw [r]; exact (s1 6 (by omega)).trans e6) (by rw [v1]; exact s2)
      have z1 := w1.2.2.1
      have z2 := w2.2.2.1
      rw [Nat.zero_add] at z1 z2
      refine ⟨(nI (sW p0 p1 p2 p3 p4 p6 (M.2.1 (88 + 21 * t + 10) k)).length), M1, M2, ?_, k2, ?_⟩
      · simp (disch := first | assumption | omega) only [in79, e79_0, e79_1, e79_2, e79_3, e79_6, e79_9, e79_10, e79_11, e79_12, e79_15, e79_16, e79_19, e79_20, e79_21, e79_22, e79_25, e79_26, e79_29, e79_32, c2_o, c2_g3, c2_g4, c40_r, c85_o, c85_g2, tr_0_o, in_t, cl_n, n10, at_tr, k_hasStep_t ct3 ct1 ht b7 u6, bZ_t wk, k1, z1, Option.bind_some, Option.bind_none, Option.toList_some, Option.toList_none, List.cons_append, List.nil_append, if_true, if_false, ite_true, ite_false, bd_ite, eq_self, not_true_eq_false, not_false_eq_true, true_or, or_true, or_self, k1_i, k1_j, k1_a, k1_n]
      · refine zIK_l h (fun c j x1 x2 x3 x4 x5 x6 => ?_) ?_ ⟨_, len, ?_, z2, fun i hi => ?_⟩
        · rw [w2.1 c j (fun z => by rcases z with z | z | z; exact x5 z; exact x6 z; exact x4 z)]
          by_cases e : c = 256
          · subst e
            rw [rI1 (fun z => x4 ⟨rfl, z⟩)]
            exact u1 256 j x1 x2 x3
          · rw [rI e]
            exact u1 c j x1 x2 x3
        · exact (congrArg (fun q => q.1) w2.2.1).trans v1
        · rw [w2.1 85 2 (by decide), rI (by decide)]
          exact z1
        · have g1 := w1.2.2.2.2 i _ (List.getElem?_eq_getElem hi)
          have g2 := w2.2.2.2.2 i _ (List.getElem?_eq_getElem hi)
          rw [Nat.zero_add] at g1 g2
          rw [g2, w2.1 86 i (by omega), rI (by decide)]
          exact g1
    · refine ⟨(-1), M, M, ?_, ?_, _, _, _, h⟩
      · simp (disch := first | assumption | omega) only [in79, e79_0, e79_1, e79_2, e79_3, e79_6, e79_9, e79_10, e79_11, e79_12, e79_15, e79_16, e79_19, e79_20, e79_21, e79_22, e79_25, e79_26, e79_29, e79_32, c2_o, c2_g0, c2_g1, c2_g2, c2_g3, c2_g4, c2_g5, c2_p5, c2_g6, c2_p6, c3_o, c3_g0, c3_g1, c3_g2, c3_g3, c3_p3, c3_g4, c3_p4, c4_r, c5_r, c5_w, c5_l, c6_r, c6_w, c6_l, c39_r, c39_w, c39_l, c40_r, c41_o, c41_g0, c41_g1, c41_g2, c41_g3, c41_g4, c41_g5, c41_g6, c41_g7, c41_p7, c41_g8, c41_p8, c42_r, c42_w, c42_l, c43_r, c50_r, c50_w, c50_l, c51_r, c85_o, c85_g0, c85_g1, c85_g2, c85_p2, c86_r, c86_w, c86_l, c87_r, c87_w, c87_l, ↓bc5_r, ↓bc6_r, ↓bc39_r, ↓bc42_r, ↓bc50_r, ↓bc86_r, ↓bc87_r, k_hasStep_t ct3 ct1 ht b7 u6, bZ_f hk, Option.bind_some, Option.bind_none, Option.toList_some, Option.toList_none, List.cons_append, List.nil_append, if_true, if_false, ite_true, ite_false, bd_ite, eq_self, not_true_eq_false, not_false_eq_true, true_or, or_true, or_self, k1_i, k1_j, k1_a, k1_n]
      · simp (disch := first | assumption | omega) only [in141, e141_0, e141_1, e141_2, e141_3, e141_6, e141_9, e141_10, e141_11, e141_13, e141_15, e141_16, e141_17, e141_18, e141_19, e141_20, e141_21, e141_22, e141_23, e141_26, e141_27, e141_28, e141_31, e141_32, e141_33, e141_34, e141_37, e141_38, e141_40, e141_43, e141_44, e141_45, e141_48, e141_49, e141_50, e141_51, e141_52, e141_53, e141_56, e141_57, e141_59, e141_62, e141_63, e141_64, e141_67, e141_68, e141_69, e141_70, e141_71, e141_72, e141_75, e141_76, e141_78, e141_81, e141_82, e141_83, e141_86, e141_87, e141_88, e141_89, e141_90, e141_91, e141_94, e141_95, e141_97, e141_100, e141_101, e141_102, e141_105, e141_106, e141_107, e141_108, e141_109, e141_110, e141_113, e141_114, e141_116, e141_119, e141_120, e141_121, e141_124, e141_126, e141_127, e141_128, e141_129, e141_130, e141_131, e141_134, e141_135, e141_138, e141_139, e141_141, e141_142, e141_143, e141_146, e141_147, e141_149, e141_152, e141_153, e141_154, e141_157, e141_158, e141_160, e141_161, e141_162, e141_163, e141_166, e141_167, e141_170, c256_o, c256_g0, c256_p0, c256_g1, c256_g2, c256_g3, c256_g4, c256_g5, c256_p5, c256_g6, c256_g7, c256_g8, c256_g9, c256_g10, c256_p10, c256_g11, c256_p11, c256_g12, c256_g13, c256_g14, c256_g15, c256_g16, c256_g17, c256_g18, c256_g19, c256_g20, c256_g21, c256_g22, c256_g23, c256_g24, c256_g25, c256_g26, c256_g27, c256_g28, c256_g29, c256_g30, c256_g31, c256_g32, c256_g33, c256_g34, c256_g35, c256_g36, c256_g37, c256_g38, c256_p38, c256_g39, c256_p39, c256_g40, c256_p40, c256_g41, c256_p41, c256_g42, c256_p42, c256_g43, c256_p43, c256_g44, c256_p44, c256_g45, c256_p45, c256_g46, c256_p46, c256_g47, c256_p47, c256_g48, c256_p48, c256_g49, c256_p49, c256_g50, c256_p50, c256_g51, c256_g52, c256_g53, c256_g54, c256_g55, c256_g56, c256_g57, c256_g58, c256_g59, c256_g60, c256_g61, c256_g62, c256_g63, c256_g64, c256_g65, c256_g66, c256_g67, c256_p67, c256_g68, c256_g69, c257_r, c257_w, c257_l, c258_r, c258_w, c258_l, c259_r, c259_w, c259_l, c260_r, c260_w, c260_l, c261_r, c261_w, c261_l, c262_r, c262_w, c262_l, c263_r, c263_w, c263_l, c264_r, c264_w, c264_l, c265_r, c265_w, c265_l, c266_r, c266_w, c266_l, c267_r, c267_w, c267_l, c268_r, c268_w, c268_l, c269_r, c269_w, c269_l, c270_r, c270_w, c270_l, c271_r, c271_w, c271_l, c272_r, c272_w, c272_l, c273_r, c273_w, c273_l, c274_r, c274_w, c274_l, c275_r, c275_w, c275_l, c276_r, c276_w, c276_l, c277_r, c277_w, c277_l, c278_r, c278_w, c278_l, c279_r, c279_w, c279_l, c280_r, c280_w, c280_l, c281_r, c281_w, c281_l, c282_r, c282_w, c282_l, c283_r, c283_w, c283_l, c284_r, c284_w, c284_l, c285_r, c285_w, c285_l, c286_r, c286_w, c286_l, c287_r, c287_w, c287_l, c288_r, c288_w, c288_l, c289_r, c289_w, c289_l, c290_r, c290_w, c290_l, c291_r, c291_w, c291_l, c292_r, c292_w, c292_l, c293_r, c293_w, c293_l, c294_r, c294_w, c294_l, c295_r, c295_w, c295_l, c296_r, c296_w, c296_l, c297_r, c297_w, c297_l, c298_r, c298_w, c298_l, c299_r, c299_w, c299_l, c300_r, c300_w, c300_l, c301_r, c301_w, c301_l, c302_r, c302_w, c302_l, c303_r, c303_w, c303_l, c304_r, c304_w, c304_l, c305_r, c305_w, c305_l, c306_r, c306_w, c306_l, c307_r, c307_w, c307_l, c308_r, c308_w, c308_l, ↓bc257_r, ↓bc258_r, ↓bc259_r, ↓bc260_r, ↓bc261_r, ↓bc262_r, ↓bc263_r, ↓bc264_r, ↓bc265_r, ↓bc266_r, ↓bc267_r, ↓bc268_r, ↓bc269_r, ↓bc270_r, ↓bc271_r, ↓bc272_r, ↓bc273_r, ↓bc274_r, ↓bc275_r, ↓bc276_r, ↓bc277_r, ↓bc278_r, ↓bc279_r, ↓bc280_r, ↓bc281_r, ↓bc282_r, ↓bc283_r, ↓bc284_r, ↓bc285_r, ↓bc286_r, ↓bc287_r, ↓bc288_r, ↓bc289_r, ↓bc290_r, ↓bc291_r, ↓bc292_r, ↓bc293_r, ↓bc294_r, ↓bc295_r, ↓bc296_r, ↓bc297_r, ↓bc298_r, ↓bc299_r, ↓bc300_r, ↓bc301_r, ↓bc302_r, ↓bc303_r, ↓bc304_r, ↓bc305_r, ↓bc306_r, ↓bc307_r, ↓bc308_r, r_isStep_t ct4 ct1 ht t6 u6, bZ_f hk, Option.bind_some, Option.bind_none, Option.toList_some, Option.toList_none, List.cons_append, List.nil_append, if_true, if_false, ite_true, ite_false, bd_ite, eq_self, not_true_eq_false, not_false_eq_true, true_or, or_true, or_self, k1_i, k1_j, k1_a, k1_n]
  · refine ⟨(-1), M, M, ?_, ?_, _, _, _, h⟩
    · simp (disch := first | assumption | omega) only [in79, e79_0, e79_1, e79_2, e79_3, e79_6, e79_9, e79_10, e79_11, e79_12, e79_15, e79_16, e79_19, e79_20, e79_21, e79_22, e79_25, e79_26, e79_29, e79_32, c2_o, c2_g0, c2_g1, c2_g2, c2_g3, c2_g4, c2_g5, c2_p5, c2_g6, c2_p6, c3_o, c3_g0, c3_g1, c3_g2, c3_g3, c3_p3, c3_g4, c3_p4, c4_r, c5_r, c5_w, c5_l, c6_r, c6_w, c6_l, c39_r, c39_w, c39_l, c40_r, c41_o, c41_g0, c41_g1, c41_g2, c41_g3, c41_g4, c41_g5, c41_g6, c41_g7, c41_p7, c41_g8, c41_p8, c42_r, c42_w, c42_l, c43_r, c50_r, c50_w, c50_l, c51_r, c85_o, c85_g0, c85_g1, c85_g2, c85_p2, c86_r, c86_w, c86_l, c87_r, c87_w, c87_l, ↓bc5_r, ↓bc6_r, ↓bc39_r, ↓bc42_r, ↓bc50_r, ↓bc86_r, ↓bc87_r, k_hasStep_f ct3 ct1 ht, Option.bind_some, Option.bind_none, Option.toList_some, Option.toList_none, List.cons_append, List.nil_append, if_true, if_false, ite_true, ite_false, bd_ite, eq_self, not_true_eq_false, not_false_eq_true, true_or, or_true, or_self, k1_i, k1_j, k1_a, k1_n]
    · simp (disch := first | assumption | omega) only [in141, e141_0, e141_1, e141_2, e141_3, e141_6, e141_9, e141_10, e141_11, e141_13, e141_15, e141_16, e141_17, e141_18, e141_19, e141_20, e141_21, e141_22, e141_23, e141_26, e141_27, e141_28, e141_31, e141_32, e141_33, e141_34, e141_37, e141_38, e141_40, e141_43, e141_44, e141_45, e141_48, e141_49, e141_50, e141_51, e141_52, e141_53, e141_56, e141_57, e141_59, e141_62, e141_63, e141_64, e141_67, e141_68, e141_69, e141_70, e141_71, e141_72, e141_75, e141_76, e141_78, e141_81, e141_82, e141_83, e141_86, e141_87, e141_88, e141_89, e141_90, e141_91, e141_94, e141_95, e141_97, e141_100, e141_101, e141_102, e141_105, e141_106, e141_107, e141_108, e141_109, e141_110, e141_113, e141_114, e141_116, e141_119, e141_120, e141_121, e141_124, e141_126, e141_127, e141_128, e141_129, e141_130, e141_131, e141_134, e141_135, e141_138, e141_139, e141_141, e141_142, e141_143, e141_146, e141_147, e141_149, e141_152, e141_153, e141_154, e141_157, e141_158, e141_160, e141_161, e141_162, e141_163, e141_166, e141_167, e141_170, c256_o, c256_g0, c256_p0, c256_g1, c256_g2, c256_g3, c256_g4, c256_g5, c256_p5, c256_g6, c256_g7, c256_g8, c256_g9, c256_g10, c256_p10, c256_g11, c256_p11, c256_g12, c256_g13, c256_g14, c256_g15, c256_g16, c256_g17, c256_g18, c256_g19, c256_g20, c256_g21, c256_g22, c256_g23, c256_g24, c256_g25, c256_g26, c256_g27, c256_g28, c256_g29, c256_g30, c256_g31, c256_g32, c256_g33, c256_g34, c256_g35, c256_g36, c256_g37, c256_g38, c256_p38, c256_g39, c256_p39, c256_g40, c256_p40, c256_g41, c256_p41, c256_g42, c256_p42, c256_g43, c256_p43, c256_g44, c256_p44, c256_g45, c256_p45, c256_g46, c256_p46, c256_g47, c256_p47, c256_g48, c256_p48, c256_g49, c256_p49, c256_g50, c256_p50, c256_g51, c256_g52, c256_g53, c256_g54, c256_g55, c256_g56, c256_g57, c256_g58, c256_g59, c256_g60, c256_g61, c256_g62, c256_g63, c256_g64, c256_g65, c256_g66, c256_g67, c256_p67, c256_g68, c256_g69, c257_r, c257_w, c257_l, c258_r, c258_w, c258_l, c259_r, c259_w, c259_l, c260_r, c260_w, c260_l, c261_r, c261_w, c261_l, c262_r, c262_w, c262_l, c263_r, c263_w, c263_l, c264_r, c264_w, c264_l, c265_r, c265_w, c265_l, c266_r, c266_w, c266_l, c267_r, c267_w, c267_l, c268_r, c268_w, c268_l, c269_r, c269_w, c269_l, c270_r, c270_w, c270_l, c271_r, c271_w, c271_l, c272_r, c272_w, c272_l, c273_r, c273_w, c273_l, c274_r, c274_w, c274_l, c275_r, c275_w, c275_l, c276_r, c276_w, c276_l, c277_r, c277_w, c277_l, c278_r, c278_w, c278_l, c279_r, c279_w, c279_l, c280_r, c280_w, c280_l, c281_r, c281_w, c281_l, c282_r, c282_w, c282_l, c283_r, c283_w, c283_l, c284_r, c284_w, c284_l, c285_r, c285_w, c285_l, c286_r, c286_w, c286_l, c287_r, c287_w, c287_l, c288_r, c288_w, c288_l, c289_r, c289_w, c289_l, c290_r, c290_w, c290_l, c291_r, c291_w, c291_l, c292_r, c292_w, c292_l, c293_r, c293_w, c293_l, c294_r, c294_w, c294_l, c295_r, c295_w, c295_l, c296_r, c296_w, c296_l, c297_r, c297_w, c297_l, c298_r, c298_w, c298_l, c299_r, c299_w, c299_l, c300_r, c300_w, c300_l, c301_r, c301_w, c301_l, c302_r, c302_w, c302_l, c303_r, c303_w, c303_l, c304_r, c304_w, c304_l, c305_r, c305_w, c305_l, c306_r, c306_w, c306_l, c307_r, c307_w, c307_l, c308_r, c308_w, c308_l, ↓bc257_r, ↓bc258_r, ↓bc259_r, ↓bc260_r, ↓bc261_r, ↓bc262_r, ↓bc263_r, ↓bc264_r, ↓bc265_r, ↓bc266_r, ↓bc267_r, ↓bc268_r, ↓bc269_r, ↓bc270_r, ↓bc271_r, ↓bc272_r, ↓bc273_r, ↓bc274_r, ↓bc275_r, ↓bc276_r, ↓bc277_r, ↓bc278_r, ↓bc279_r, ↓bc280_r, ↓bc281_r, ↓bc282_r, ↓bc283_r, ↓bc284_r, ↓bc285_r, ↓bc286_r, ↓bc287_r, ↓bc288_r, ↓bc289_r, ↓bc290_r, ↓bc291_r, ↓bc292_r, ↓bc293_r, ↓bc294_r, ↓bc295_r, ↓bc296_r, ↓bc297_r, ↓bc298_r, ↓bc299_r, ↓bc300_r, ↓bc301_r, ↓bc302_r, ↓bc303_r, ↓bc304_r, ↓bc305_r, ↓bc306_r, ↓bc307_r, ↓bc308_r, r_isStep_f ct4 ct1 ht, Option.bind_some, Option.bind_none, Option.toList_some, Option.toList_none, List.cons_append, List.nil_append, if_true, if_false, ite_true, ite_false, bd_ite, eq_self, not_true_eq_false, not_false_eq_true, true_or, or_true, or_self, k1_i, k1_j, k1_a, k1_n]
theorem pp_out {i : Int32} (h : zIv M) : zPI (d + 60) L xs mC_out mR_out [.int i] M := by
  obtain ⟨⟨np, na, sz, kd, oa, ob, mb, pc⟩, nt, nc, h⟩ := h
  obtain ⟨ko, kc, kr, k2, nw, ct, htr, htq, hsk, h50, hli⟩ := id h
  dsimp only [zKO, zKC, zKR, zK2, kNp, kNa, kSz, kKd, kOa, kOb, kMb, kPc] at ko kc kr k2
  obtain ⟨ko1, ko2, ko3, ko4, ko5, ko6⟩ := ko
  obtain ⟨kc1, kc2, kc3, kc4, kc5, kc6⟩ := kc
  obtain ⟨kr1, kr2, kr3, kr4, kr5, kr6⟩ := kr
  obtain ⟨ct1, ct2, ct3, ct4, ct5, ct6⟩ := ct
  obtain ⟨nl, l64, l1, l2, l3⟩ := hli
  by_cases hi : wi i nl
  · obtain ⟨i, hi, rfl⟩ := hi
    have e := l3 i hi
    refine ⟨(M.1 86 i), M, M, ?_, ?_, _, _, _, h⟩
    · simp (disch := first | assumption | omega) only [in80, e80_0, e80_1, e80_2, e80_3, e80_6, e80_9, e80_12, e80_15, e80_16, e80_19, e80_22, e80_23, e80_24, e80_27, e80_29, c2_o, c2_g0, c2_g1, c2_g2, c2_g3, c2_g4, c2_g5, c2_p5, c2_g6, c2_p6, c3_o, c3_g0, c3_g1, c3_g2, c3_g3, c3_p3, c3_g4, c3_p4, c4_r, c5_r, c5_w, c5_l, c6_r, c6_w, c6_l, c39_r, c39_w, c39_l, c40_r, c41_o, c41_g0, c41_g1, c41_g2, c41_g3, c41_g4, c41_g5, c41_g6, c41_g7, c41_p7, c41_g8, c41_p8, c42_r, c42_w, c42_l, c43_r, c50_r, c50_w, c50_l, c51_r, c85_o, c85_g0, c85_g1, c85_g2, c85_p2, c86_r, c86_w, c86_l, c87_r, c87_w, c87_l, ↓bc5_r, ↓bc6_r, ↓bc39_r, ↓bc42_r, ↓bc50_r, ↓bc86_r, ↓bc87_r, ↓reduceIte, ar1, ar2, ar3, ar4, ar5, ar6, ar7, ar8, ar9, in_t, cl_n, ltNN, ltNL, ltLN, leNN, leNL, leLN, eqNN, eqNL, ntLt, nfLt, ntLe, nfLe, ntEq, nfEq, lN_i32, nI_l, ltJNN, ltJNL, leJNN, leJLN, leJNL, ltJLN, n10, l1, wn_t hi, Option.bind_some, Option.bind_none, Option.toList_some, Option.toList_none, List.cons_append, List.nil_append, if_true, if_false, ite_true, ite_false, bd_ite, eq_self, not_true_eq_false, not_false_eq_true, true_or, or_true, or_self, k1_i, k1_j, k1_a, k1_n]
    · simp (disch := first | assumption | omega) only [in142, e142_0, e142_1, e142_2, e142_3, e142_4, e142_7, e142_8, e142_9, e142_10, e142_13, e142_16, e142_17, e142_20, e142_21, e142_22, e142_25, e142_27, c256_o, c256_g0, c256_p0, c256_g1, c256_g2, c256_g3, c256_g4, c256_g5, c256_p5, c256_g6, c256_g7, c256_g8, c256_g9, c256_g10, c256_p10, c256_g11, c256_p11, c256_g12, c256_g13, c256_g14, c256_g15, c256_g16, c256_g17, c256_g18, c256_g19, c256_g20, c256_g21, c256_g22, c256_g23, c256_g24, c256_g25, c256_g26, c256_g27, c256_g28, c256_g29, c256_g30, c256_g31, c256_g32, c256_g33, c256_g34, c256_g35, c256_g36, c256_g37, c256_g38, c256_p38, c256_g39, c256_p39, c256_g40, c256_p40, c256_g41, c256_p41, c256_g42, c256_p42, c256_g43, c256_p43, c256_g44, c256_p44, c256_g45, c256_p45, c256_g46, c256_p46, c256_g47, c256_p47, c256_g48, c256_p48, c256_g49, c256_p49, c256_g50, c256_p50, c256_g51, c256_g52, c256_g53, c256_g54, c256_g55, c256_g56, c256_g57, c256_g58, c256_g59, c256_g60, c256_g61, c256_g62, c256_g63, c256_g64, c256_g65, c256_g66, c256_g67, c256_p67, c256_g68, c256_g69, c257_r, c257_w, c257_l, c258_r, c258_w, c258_l, c259_r, c259_w, c259_l, c260_r, c260_w, c260_l, c261_r, c261_w, c261_l, c262_r, c262_w, c262_l, c263_r, c263_w, c263_l, c264_r, c264_w, c264_l, c265_r, c265_w, c265_l, c266_r, c266_w, c266_l, c267_r, c267_w, c267_l, c268_r, c268_w, c268_l, c269_r, c269_w, c269_l, c270_r, c270_w, c270_l, c271_r, c271_w, c271_l, c272_r, c272_w, c272_l, c273_r, c273_w, c273_l, c274_r, c274_w, c274_l, c275_r, c275_w, c275_l, c276_r, c276_w, c276_l, c277_r, c277_w, c277_l, c278_r, c278_w, c278_l, c279_r, c279_w, c279_l, c280_r, c280_w, c280_l, c281_r, c281_w, c281_l, c282_r, c282_w, c282_l, c283_r, c283_w, c283_l, c284_r, c284_w, c284_l, c285_r, c285_w, c285_l, c286_r, c286_w, c286_l, c287_r, c287_w, c287_l, c288_r, c288_w, c288_l, c289_r, c289_w, c289_l, c290_r, c290_w, c290_l, c291_r, c291_w, c291_l, c292_r, c292_w, c292_l, c293_r, c293_w, c293_l, c294_r, c294_w, c294_l, c295_r, c295_w, c295_l, c296_r, c296_w, c296_l, c297_r, c297_w, c297_l, c298_r, c298_w, c298_l, c299_r, c299_w, c299_l, c300_r, c300_w, c300_l, c301_r, c301_w, c301_l, c302_r, c302_w, c302_l, c303_r, c303_w, c303_l, c304_r, c304_w, c304_l, c305_r, c305_w, c305_l, c306_r, c306_w, c306_l, c307_r, c307_w, c307_l, c308_r, c308_w, c308_l, ↓bc257_r, ↓bc258_r, ↓bc259_r, ↓bc260_r, ↓bc261_r, ↓bc262_r, ↓bc263_r, ↓bc264_r, ↓bc265_r, ↓bc266_r, ↓bc267_r, ↓bc268_r, ↓bc269_r, ↓bc270_r, ↓bc271_r, ↓bc272_r, ↓bc273_r, ↓bc274_r, ↓bc275_r, ↓bc276_r, ↓bc277_r, ↓bc278_r, ↓bc279_r, ↓bc280_r, ↓bc281_r, ↓bc282_r, ↓bc283_r, ↓bc284_r, ↓bc285_r, ↓bc286_r, ↓bc287_r, ↓bc288_r, ↓bc289_r, ↓bc290_r, ↓bc291_r, ↓bc292_r, ↓bc293_r, ↓bc294_r, ↓bc295_r, ↓bc296_r, ↓bc297_r, ↓bc298_r, ↓bc299_r, ↓bc300_r, ↓bc301_r, ↓bc302_r, ↓bc303_r, ↓bc304_r, ↓bc305_r, ↓bc306_r, ↓bc307_r, ↓bc308_r, ↓reduceIte, ar1, ar2, ar3, ar4, ar5, ar6, ar7, ar8, ar9, in_t, cl_n, ltNN, ltNL, ltLN, leNN, leNL, leLN, eqNN, eqNL, ntLt, nfLt, ntLe, nfLe, ntEq, nfEq, lN_i32, nI_l, ltJNN, ltJNL, leJNN, leJLN, leJNL, ltJLN, n10, l2, rinN_t (show i ≤ nl - 1 by omega), e, Option.bind_some, Option.bind_none, Option.toList_some, Option.toList_none, List.cons_append, List.nil_append, if_true, if_false, ite_true, ite_false, bd_ite, eq_self, not_true_eq_false, not_false_eq_true, true_or, or_true, or_self, k1_i, k1_j, k1_a, k1_n]
  · have hij := nwi_j (by omega) hi
    have r1 : ∀ d hp, ip_call d mR_in [.long i.toInt64, .long 0, .long (nI nl - 1).toInt64] hp = some (some (.int 0), hp) := fun d hp => by
      rw [rin_w (by omega), bZ_f hij]
    refine ⟨(-5), M, M, ?_, ?_, _, _, _, h⟩
    · simp (disch := first | assumption | omega) only [in80, e80_0, e80_1, e80_2, e80_3, e80_6, e80_9, e80_12, e80_15, e80_16, e80_19, e80_22, e80_23, e80_24, e80_27, e80_29, c2_o, c2_g0, c2_g1, c2_g2, c2_g3, c2_g4, c2_g5, c2_p5, c2_g6, c2_p6, c3_o, c3_g0, c3_g1, c3_g2, c3_g3, c3_p3, c3_g4, c3_p4, c4_r, c5_r, c5_w, c5_l, c6_r, c6_w, c6_l, c39_r, c39_w, c39_l, c40_r, c41_o, c41_g0, c41_g1, c41_g2, c41_g3, c41_g4, c41_g5, c41_g6, c41_g7, c41_p7, c41_g8, c41_p8, c42_r, c42_w, c42_l, c43_r, c50_r, c50_w, c50_l, c51_r, c85_o, c85_g0, c85_g1, c85_g2, c85_p2, c86_r, c86_w, c86_l, c87_r, c87_w, c87_l, ↓bc5_r, ↓bc6_r, ↓bc39_r, ↓bc42_r, ↓bc50_r, ↓bc86_r, ↓bc87_r, n10, l1, wn_f hij, Option.bind_some, Option.bind_none, Option.toList_some, Option.toList_none, List.cons_append, List.nil_append, if_true, if_false, ite_true, ite_false, bd_ite, eq_self, not_true_eq_false, not_false_eq_true, true_or, or_true, or_self, k1_i, k1_j, k1_a, k1_n]
    · simp (disch := first | assumption | omega) only [in142, e142_0, e142_1, e142_2, e142_3, e142_4, e142_7, e142_8, e142_9, e142_10, e142_13, e142_16, e142_17, e142_20, e142_21, e142_22, e142_25, e142_27, c256_o, c256_g0, c256_p0, c256_g1, c256_g2, c256_g3, c256_g4, c256_g5, c256_p5, c256_g6, c256_g7, c256_g8, c256_g9, c256_g10, c256_p10, c256_g11, c256_p11, c256_g12, c256_g13, c256_g14, c256_g15, c256_g16, c256_g17, c256_g18, c256_g19, c256_g20, c256_g21, c256_g22, c256_g23, c256_g24, c256_g25, c256_g26, c256_g27, c256_g28, c256_g29, c256_g30, c256_g31, c256_g32, c256_g33, c256_g34, c256_g35, c256_g36, c256_g37, c256_g38, c256_p38, c256_g39, c256_p39, c256_g40, c256_p40, c256_g41, c256_p41, c256_g42, c256_p42, c256_g43, c256_p43, c256_g44, c256_p44, c256_g45, c256_p45, c256_g46, c256_p46, c256_g47, c256_p47, c256_g48, c256_p48, c256_g49, c256_p49, c256_g50, c256_p50, c256_g51, c256_g52, c256_g53, c256_g54, c256_g55, c256_g56, c256_g57, c256_g58, c256_g59, c256_g60, c256_g61, c256_g62, c256_g63, c256_g64, c256_g65, c256_g66, c256_g67, c256_p67, c256_g68, c256_g69, c257_r, c257_w, c257_l, c258_r, c258_w, c258_l, c259_r, c259_w, c259_l, c260_r, c260_w, c260_l, c261_r, c261_w, c261_l, c262_r, c262_w, c262_l, c263_r, c263_w, c263_l, c264_r, c264_w, c264_l, c265_r, c265_w, c265_l, c266_r, c266_w, c266_l, c267_r, c267_w, c267_l, c268_r, c268_w, c268_l, c269_r, c269_w, c269_l, c270_r, c270_w, c270_l, c271_r, c271_w, c271_l, c272_r, c272_w, c272_l, c273_r, c273_w, c273_l, c274_r, c274_w, c274_l, c275_r, c275_w, c275_l, c276_r, c276_w, c276_l, c277_r, c277_w, c277_l, c278_r, c278_w, c278_l, c279_r, c279_w, c279_l, c280_r, c280_w, c280_l, c281_r, c281_w, c281_l, c282_r, c282_w, c282_l, c283_r, c283_w, c283_l, c284_r, c284_w, c284_l, c285_r, c285_w, c285_l, c286_r, c286_w, c286_l, c287_r, c287_w, c287_l, c288_r, c288_w, c288_l, c289_r, c289_w, c289_l, c290_r, c290_w, c290_l, c291_r, c291_w, c291_l, c292_r, c292_w, c292_l, c293_r, c293_w, c293_l, c294_r, c294_w, c294_l, c295_r, c295_w, c295_l, c296_r, c296_w, c296_l, c297_r, c297_w, c297_l, c298_r, c298_w, c298_l, c299_r, c299_w, c299_l, c300_r, c300_w, c300_l, c301_r, c301_w, c301_l, c302_r, c302_w, c302_l, c303_r, c303_w, c303_l, c304_r, c304_w, c304_l, c305_r, c305_w, c305_l, c306_r, c306_w, c306_l, c307_r, c307_w, c307_l, c308_r, c308_w, c308_l, ↓bc257_r, ↓bc258_r, ↓bc259_r, ↓bc260_r, ↓bc261_r, ↓bc262_r, ↓bc263_r, ↓bc264_r, ↓bc265_r, ↓bc266_r, ↓bc267_r, ↓bc268_r, ↓bc269_r, ↓bc270_r, ↓bc271_r, ↓bc272_r, ↓bc273_r, ↓bc274_r, ↓bc275_r, ↓bc276_r, ↓bc277_r, ↓bc278_r, ↓bc279_r, ↓bc280_r, ↓bc281_r, ↓bc282_r, ↓bc283_r, ↓bc284_r, ↓bc285_r, ↓bc286_r, ↓bc287_r, ↓bc288_r, ↓bc289_r, ↓bc290_r, ↓bc291_r, ↓bc292_r, ↓bc293_r, ↓bc294_r, ↓bc295_r, ↓bc296_r, ↓bc297_r, ↓bc298_r, ↓bc299_r, ↓bc300_r, ↓bc301_r, ↓bc302_r, ↓bc303_r, ↓bc304_r, ↓bc305_r, ↓bc306_r, ↓bc307_r, ↓bc308_r, n10, l2, r1, Option.bind_some, Option.bind_none, Option.toList_some, Option.toList_none, List.cons_append, List.nil_append, if_true, if_false, ite_true, ite_false, bd_ite, eq_self, not_true_eq_false, not_false_eq_true, true_or, or_true, or_self, k1_i, k1_j, k1_a, k1_n]
end S13
