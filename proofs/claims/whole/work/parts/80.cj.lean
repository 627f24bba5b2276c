/-! the constructors: Walker, CallTraces -/
section S20
variable {d L w : Nat} {xs : Nat → Int32} {cs P Q : List ip_C} {o : ip_C}
theorem ha_p1 {ci k : Nat} {fs : List Value} {v : Value} : ip_pf (ha L xs w (o :: Sum.inr (ci, fs) :: Q)) ci k 3 v = if k < fs.length then some (ha L xs w (o :: Sum.inr (ci, fs.set k v) :: Q)) else none := ha_p (P := [o])
theorem ha_f1 {ci k : Nat} {fs : List Value} : ip_gf (ha L xs w (o :: Sum.inr (ci, fs) :: Q)) ci k 3 = fs[k]? := ha_f (P := [o])
theorem ha_q1 {ci k : Nat} {fs : List Value} {v : Value} (hk : k < fs.length) : ip_pf (ha L xs w (o :: Sum.inr (ci, fs) :: Q)) ci k 3 v = some (ha L xs w (o :: Sum.inr (ci, fs.set k v) :: Q)) := by
  rw [ha_p1, if_pos hk]
/-- the cells of the contracts, behind the object itself and its Walker -/
def coQ : List ip_C := coO :: zF 5 8 (rg 8 4 8) :: m5 :: q6 :: prs 8
theorem coQ_len : coQ.length = 36 := rfl
def waO : ip_C := .inr (7, [.ref 4, .ref 40, .ref 41, .ref 48, .ref 49, .ref 50, .ref 50, .int (-1), .long 0])
theorem wa_0 : ip_call (d + 3) mWa_init [.ref 3] (ha L xs w [o, .inr (7, [.null, .null, .null, .null, .null, .null, .null, .int 0, .long 0])]) = ip_go (d + 3) mWa_init 15 [some (.ref 3), none] [] (ha L xs (w + 565) (o :: .inr (7, [.ref 4, .null, .null, .null, .null, .null, .null, .int 0, .long 0]) :: coQ)) := by
  have n0 : ip_new (ha L xs w [o, .inr (7, [.null, .null, .null, .null, .null, .null, .null, .int 0, .long 0])]) 5 (.inr (0, [.null, .null, .null, .int 0, .int 0])) = ha L xs (w + 5) [o, .inr (7, [.null, .null, .null, .null, .null, .null, .null, .int 0, .long 0]), .inr (0, [.null, .null, .null, .int 0, .int 0])] := ha_n
  have a0 : (ha L xs w [o, .inr (7, [.null, .null, .null, .null, .null, .null, .null, .int 0, .long 0])]).1 = 4 := rfl
  have k0 := k_CoI (d := d) (L := L) (xs := xs) (w := w + 5) (o := o) (u := .inr (7, [.null, .null, .null, .null, .null, .null, .null, .int 0, .long 0]))
  have p0 : ip_pf (ha L xs (w + 5 + 560) (coL 8 o (.inr (7, [.null, .null, .null, .null, .null, .null, .null, .int 0, .long 0])) m5 q6)) 7 0 3 (.ref 4) = some (ha L xs (w + 5 + 560) (o :: .inr (7, [.ref 4, .null, .null, .null, .null, .null, .null, .int 0, .long 0]) :: coQ)) := ha_q1 (Q := coQ) (fs := [.null, .null, .null, .null, .null, .null, .null, .int 0, .long 0]) (by decide)
  rw [show w + 565 = w + 5 + 560 by omega]
  simp (disch := first | assumption | omega) only [in39, e39_0, e39_1, e39_4, e39_5, e39_8, e39_9, e39_12, n0, a0, k0, p0, Option.bind_some, Option.bind_none, Option.toList_some, Option.toList_none, List.cons_append, List.nil_append, if_true, if_false, ite_true, ite_false, bd_ite, eq_self, not_true_eq_false, not_false_eq_true, true_or, or_true, or_self, k1_i, k1_j, k1_a, k1_n]
theorem wa_1 (hQ : Q.length = 36) : ip_go (d + 3) mWa_init 15 [some (.ref 3), none] [] (ha L xs w (o :: .inr (7, [.ref 4, .null, .null, .null, .null, .null, .null, .int 0, .long 0]) :: Q)) = ip_go (d + 3) mWa_init 83 [some (.ref 3), some (.int 0)] [] (ha L xs (w + 1642) (o :: .inr (7, [.ref 4, .ref 40, .ref 41, .ref 48, .ref 49, .ref 50, .ref 50, .int (-1), .long 0]) :: (Q ++ (zJ 66 :: zF 8 6 (rf 6 42) :: zJ 66 :: zJ 66 :: zJ 66 :: zJ 66 :: zJ 66 :: zJ 66 :: zI 6 :: zF 4 6 (rg 71 2 0) :: trC 50)))) := by
  have kt := k_TrI (d := d) (L := L) (xs := xs) (w := w + 497) (P := o :: .inr (7, [.ref 4, .ref 40, .ref 41, .ref 48, .ref 49, .null, .null, .int 0, .long 0]) :: (Q ++ [zJ 66, zF 8 6 (rf 6 42), zJ 66, zJ 66, zJ 66, zJ 66, zJ 66, zJ 66, zI 6, zF 4 6 (rg 71 2 0)]))
  simp only [List.append_assoc, List.cons_append, List.nil_append, List.length_append, List.length_cons, List.length_nil, Nat.zero_add, Nat.reduceAdd, Nat.add_assoc, hQ, rg_0, zI, zJ, zF] at kt
  simp (disch := first | assumption | omega | exact Nat.le_of_ble_eq_true rfl) only [e39_15, e39_16, e39_18, e39_20, e39_23, e39_24, e39_26, e39_28, e39_32, e39_35, e39_36, e39_38, e39_40, e39_43, e39_44, e39_46, e39_49, e39_52, e39_53, e39_56, e39_57, e39_60, e39_63, e39_64, e39_65, e39_68, e39_71, e39_72, e39_73, e39_76, e39_77, e39_78, e39_81, e39_82, ha_n, ha_m, ha_1, ha_p, List.append_assoc, List.cons_append, List.nil_append, List.length_append, List.length_cons, List.length_nil, List.length_replicate, Nat.zero_add, Nat.reduceAdd, Nat.reduceMul, Nat.add_assoc, List.set_cons_zero, List.set_cons_succ, ntLt, ↓reduceIte, hQ, ha_p1, ha_f1, List.getElem?_cons_succ, List.getElem?_cons_zero, List.replicate_succ, List.replicate_zero, rg_0, kt, zI, zJ, zF, Option.bind_some, Option.bind_none, Option.toList_some, Option.toList_none, List.cons_append, List.nil_append, if_true, if_false, ite_true, ite_false, bd_ite, eq_self, not_true_eq_false, not_false_eq_true, true_or, or_true, or_self, k1_i, k1_j, k1_a, k1_n]
def frC (b : Nat) : List ip_C := [.inr (1, [.ref (b + 1), .int 0, .int 0, .int 0, .int (-1), .long 0, .int 0, .long 0]), zJ 12]
def frs : Nat → List ip_C
  | 0 => []
  | i + 1 => frs i ++ frC (71 + 2 * i)
theorem frs_len : ∀ i, (frs i).length = 2 * i := by
  intro i
  induction i with
  | zero => rfl
  | succ i ih =>
    show (frs i ++ frC (71 + 2 * i)).length = _
    rw [List.length_append, ih]
    show 2 * i + 2 = _
    omega
def waT : List ip_C := [zJ 66, zF 8 6 (rf 6 42), zJ 66, zJ 66, zJ 66, zJ 66, zJ 66, zJ 66, zI 6]
def waL (o : ip_C) (i : Nat) : List ip_C := (o :: waO :: coQ ++ waT) ++ zF 4 6 (rg 71 2 i) :: (trC 50 ++ frs i)
theorem waP_len : (o :: waO :: coQ ++ waT).length = 47 := rfl
theorem waL_len {i : Nat} : (waL o i).length = 69 + 2 * i := by
  unfold waL
  rw [List.length_append, waP_len, List.length_cons, List.length_append, frs_len]
  show 47 + (21 + 2 * i + 1) = _
  omega
theorem lp_wa : ∀ (k i w : Nat), i + k = 6 → ip_go (d + 2) mWa_init 83 [some (.ref 3), some (.int (nI i))] [] (ha L xs w (waL o i)) = ip_go (d + 2) mWa_init 83 [some (.ref 3), some (.int (nI 6))] [] (ha L xs (w + 20 * k) (waL o 6)) := by
  intro k
  induction k with
  | zero =>
    intro i w hi
    have : i = 6 := by omega
    subst this
    rfl
  | succ k ih =>
    intro i w hi
    have g1 : ip_gf (ha L xs w (waL o i)) 7 4 3 = some (.ref 49) := rfl
    have l1 : (ha L xs w (waL o i)).1 = 71 + 2 * i := by rw [ha_1, waL_len]; omega
    have k1 := k_FrI (d := d) (L := L) (xs := xs) (w := w + 8) (P := waL o i)
    rw [waL_len, show 69 + 2 * i + 2 = 71 + 2 * i by omega, show 69 + 2 * i + 3 = 71 + 2 * i + 1 by omega] at k1
    have eL : waL o i ++ [.inr (1, [.ref (71 + 2 * i + 1), .int 0, .int 0, .int 0, .int (-1), .long 0, .int 0, .long 0]), zJ 12] = (o :: waO :: coQ ++ waT) ++ zF 4 6 (rg 71 2 i) :: (trC 50 ++ frs (i + 1)) := by
      unfold waL
      rw [List.append_assoc (o :: waO :: coQ ++ waT), List.cons_append (a := zF 4 6 (rg 71 2 i)), List.append_assoc (trC 50)]
      rfl
    have ho : ip_isO (ha L xs (w + 8 + 12) (waL o i ++ [.inr (1, [.ref (71 + 2 * i + 1), .int 0, .int 0, .int 0, .int (-1), .long 0, .int 0, .long 0]), zJ 12])) (71 + 2 * i) 1 = true := by
      have := ha_o (L := L) (xs := xs) (w := w + 8 + 12) (P := waL o i) (Q := [zJ 12]) (ci := 1) (fs := [.ref (71 + 2 * i + 1), .int 0, .int 0, .int 0, .int (-1), .long 0, .int 0, .long 0])
      rw [waL_len, show 69 + 2 * i + 2 = 71 + 2 * i by omega] at this
      exact this
    have s1 : ip_as (ha L xs (w + 8 + 12) (waL o i ++ [.inr (1, [.ref (71 + 2 * i + 1), .int 0, .int 0, .int 0, .int (-1), .long 0, .int 0, .long 0]), zJ 12])) 49 (nI i) (71 + 2 * i) = some (ha L xs (w + 8 + 12) (waL o (i + 1))) := by
      rw [eL] at ho ⊢
      have := ha_a (L := L) (xs := xs) (w := w + 8 + 12) (P := o :: waO :: coQ ++ waT) (Q := trC 50 ++ frs (i + 1)) (t := 4) (n := 6) (ci := 1) (i := i) (v := 71 + 2 * i) (f := rg 71 2 i) rfl (by omega) (by decide) ho
      rw [rg_u, waP_len] at this
      exact this
    have z := ih (i + 1) (w + 8 + 12) (by omega)
    rw [show w + 8 + 12 + 20 * k = w + 20 * (k + 1) by omega] at z
    rw [← z, e39_83]
    simp (disch := first | assumption | omega) only [in39, e39_0, e39_1, e39_4, e39_5, e39_8, e39_9, e39_12, e39_15, e39_16, e39_18, e39_20, e39_23, e39_24, e39_26, e39_28, e39_32, e39_35, e39_36, e39_38, e39_40, e39_43, e39_44, e39_46, e39_49, e39_52, e39_53, e39_56, e39_57, e39_60, e39_63, e39_64, e39_65, e39_68, e39_71, e39_72, e39_73, e39_76, e39_77, e39_78, e39_81, e39_82, e39_84, e39_86, e39_89, e39_90, e39_93, e39_94, e39_97, e39_98, e39_101, e39_102, e39_105, e39_108, g1, ha_n, l1, k1, s1, ↓reduceIte, ar1, ar2, ar3, ar4, ar5, ar6, ar7, ar8, ar9, in_t, cl_n, ltNN, ltNL, ltLN, leNN, leNL, leLN, eqNN, eqNL, ntLt, nfLt, ntLe, nfLe, ntEq, nfEq, lN_i32, nI_l, ltJNN, ltJNL, leJNN, leJLN, leJNL, ltJLN, n10, Option.bind_some, Option.bind_none, Option.toList_some, Option.toList_none, List.cons_append, List.nil_append, if_true, if_false, ite_true, ite_false, bd_ite, eq_self, not_true_eq_false, not_false_eq_true, true_or, or_true, or_self, k1_i, k1_j, k1_a, k1_n]
/-- the cells 3 to 82 -/
def clW : List ip_C := (waO :: coQ ++ waT) ++ zF 4 6 (rg 71 2 6) :: (trC 50 ++ frs 6)
theorem k_WaI : ip_call (d + 3) mWa_init [.ref 3] (ha L xs w [o, .inr (7, [.null, .null, .null, .null, .null, .null, .null, .int 0, .long 0])]) = some (none, ha L xs (w + 2327) (o :: clW)) := by
  have c1 := (wa_0 (d := d) (L := L) (xs := xs) (w := w) (o := o)).trans (wa_1 (d := d) (L := L) (xs := xs) (w := w + 565) (o := o) coQ_len)
  have e : o :: .inr (7, [.ref 4, .ref 40, .ref 41, .ref 48, .ref 49, .ref 50, .ref 50, .int (-1), .long 0]) :: (coQ ++ (zJ 66 :: zF 8 6 (rf 6 42) :: zJ 66 :: zJ 66 :: zJ 66 :: zJ 66 :: zJ 66 :: zJ 66 :: zI 6 :: zF 4 6 (rg 71 2 0) :: trC 50)) = waL o 0 := by
    unfold waL
    rw [List.append_assoc (o :: waO :: coQ), show frs 0 = [] from rfl, List.append_nil]
    rfl
  rw [e] at c1
  have c2 := lp_wa (d := d + 1) (L := L) (xs := xs) (o := o) 6 0 (w + 565 + 1642) (by omega)
  refine (c1.trans c2).trans ?_
  rw [show w + 2327 = w + 565 + 1642 + 20 * 6 by omega, e39_83, show o :: clW = waL o 6 from rfl]
  simp (disch := first | assumption | omega) only [in39, e39_0, e39_1, e39_4, e39_5, e39_8, e39_9, e39_12, e39_15, e39_16, e39_18, e39_20, e39_23, e39_24, e39_26, e39_28, e39_32, e39_35, e39_36, e39_38, e39_40, e39_43, e39_44, e39_46, e39_49, e39_52, e39_53, e39_56, e39_57, e39_60, e39_63, e39_64, e39_65, e39_68, e39_71, e39_72, e39_73, e39_76, e39_77, e39_78, e39_81, e39_82, e39_84, e39_86, e39_89, e39_90, e39_93, e39_94, e39_97, e39_98, e39_101, e39_102, e39_105, e39_108, ↓reduceIte, ar1, ar2, ar3, ar4, ar5, ar6, ar7, ar8, ar9, in_t, cl_n, ltNN, ltNL, ltLN, leNN, leNL, leLN, eqNN, eqNL, ntLt, nfLt, ntLe, nfLe, ntEq, nfEq, lN_i32, nI_l, ltJNN, ltJNL, leJNN, leJLN, leJNL, ltJLN, n10, Option.bind_some, Option.bind_none, Option.toList_some, Option.toList_none, List.cons_append, List.nil_append, if_true, if_false, ite_true, ite_false, bd_ite, eq_self, not_true_eq_false, not_false_eq_true, true_or, or_true, or_self, k1_i, k1_j, k1_a, k1_n]
end S20
section S21
variable {d L w : Nat} {xs : Nat → Int32} {cs P Q : List ip_C}
theorem ha_p0 {ci k : Nat} {fs : List Value} {v : Value} (h : cs = .inr (ci, fs) :: Q) (hk : k < fs.length) : ip_pf (ha L xs w cs) ci k 2 v = some (ha L xs w (.inr (ci, fs.set k v) :: Q)) := by
  subst h
  have := ha_p (L := L) (xs := xs) (w := w) (P := []) (Q := Q) (ci := ci) (k := k) (fs := fs) (v := v)
  rw [if_pos hk] at this
  exact this
def liC : List ip_C := [.inr (2, [.ref 86, .ref 87, .int 0]), zB 0 64, zI 19]
def trs : Nat → List ip_C
  | 0 => []
  | i + 1 => trs i ++ trC (88 + 21 * i)
theorem trs_len : ∀ i, (trs i).length = 21 * i := by
  intro i
  induction i with
  | zero => rfl
  | succ i ih =>
    show (trs i ++ trC (88 + 21 * i)).length = _
    rw [List.length_append, ih]
    show 21 * i + 21 = _
    omega
/-- the first 82 cells -/
def clA (o : ip_C) : List ip_C := (o :: clW) ++ [zJ 54]
def clL (i : Nat) : List ip_C := clA (oC (.ref 3) (.ref 4) (.ref 83) (.ref 84) (.ref 85)) ++ zF 6 8 (rg 88 21 i) :: (liC ++ trs i)
theorem clA_len {o : ip_C} : (clA o).length = 82 := rfl
theorem clL_len {i : Nat} : (clL i).length = 86 + 21 * i := by
  unfold clL
  rw [List.length_append, List.length_cons, List.length_append, clA_len, trs_len]
  show 82 + (3 + 21 * i + 1) = _
  omega
theorem lp_cl : ∀ (k i w : Nat), i + k = 8 → ip_go (d + 3) mC_init 66 [some (.ref 2), some (.int (nI i))] [] (ha L xs w (clL i)) = ip_go (d + 3) mC_init 66 [some (.ref 2), some (.int (nI 8))] [] (ha L xs (w + 1162 * k) (clL 8)) := by
  intro k
  induction k with
  | zero =>
    intro i w hi
    have : i = 8 := by omega
    subst this
    rfl
  | succ k ih =>
    intro i w hi
    have g1 : ip_gf (ha L xs w (clL i)) 8 3 2 = some (.ref 84) := rfl
    have l1 : (ha L xs w (clL i)).1 = 88 + 21 * i := by rw [ha_1, clL_len]; omega
    have k1 := k_TrI (d := d) (L := L) (xs := xs) (w := w + 17) (P := clL i)
    rw [clL_len, show 86 + 21 * i + 2 = 88 + 21 * i by omega] at k1
    have eL : clL i ++ trC (88 + 21 * i) = clA (oC (.ref 3) (.ref 4) (.ref 83) (.ref 84) (.ref 85)) ++ zF 6 8 (rg 88 21 i) :: (liC ++ trs (i + 1)) := by
      unfold clL
      rw [List.append_assoc, List.cons_append, List.append_assoc liC]
      rfl
    have ho : ip_isO (ha L xs (w + 17 + 1145) (clL i ++ trC (88 + 21 * i))) (88 + 21 * i) 6 = true := by
      have := ha_o (L := L) (xs := xs) (w := w + 17 + 1145) (P := clL i) (Q := (trC (88 + 21 * i)).tail) (ci := 6) (fs := [.int 0, .int 0, .long 0, .int 0, .ref (88 + 21 * i + 1), .ref (88 + 21 * i + 2), .ref (88 + 21 * i + 10), .int 0, .int 0, .int 0, .int 0, .int 0, .long 0, .ref (88 + 21 * i + 11), .ref (88 + 21 * i + 15), .ref (88 + 21 * i + 19), .ref (88 + 21 * i + 20)])
      rw [clL_len, show 86 + 21 * i + 2 = 88 + 21 * i by omega] at this
      exact this
    have s1 : ip_as (ha L xs (w + 17 + 1145) (clL i ++ trC (88 + 21 * i))) 84 (nI i) (88 + 21 * i) = some (ha L xs (w + 17 + 1145) (clL (i + 1))) := by
      rw [eL] at ho ⊢
      have := ha_a (L := L) (xs := xs) (w := w + 17 + 1145) (P := clA (oC (.ref 3) (.ref 4) (.ref 83) (.ref 84) (.ref 85))) (Q := liC ++ trs (i + 1)) (t := 6) (n := 8) (ci := 6) (i := i) (v := 88 + 21 * i) (f := rg 88 21 i) rfl (by omega) (by decide) ho
      rw [rg_u, clA_len] at this
      exact this
    have z := ih (i + 1) (w + 17 + 1145) (by omega)
    rw [show w + 17 + 1145 + 1162 * k = w + 1162 * (k + 1) by omega] at z
    rw [← z, e54_66]
    simp (disch := first | assumption | omega) only [in54, e54_0, e54_1, e54_4, e54_5, e54_8, e54_9, e54_12, e54_15, e54_16, e54_17, e54_20, e54_23, e54_26, e54_27, e54_29, e54_31, e54_34, e54_35, e54_37, e54_40, e54_43, e54_44, e54_47, e54_48, e54_51, e54_54, e54_55, e54_56, e54_59, e54_60, e54_61, e54_64, e54_65, e54_67, e54_69, e54_72, e54_73, e54_76, e54_77, e54_80, e54_81, e54_84, e54_85, e54_88, e54_91, g1, ha_n, l1, k1, s1, ↓reduceIte, ar1, ar2, ar3, ar4, ar5, ar6, ar7, ar8, ar9, in_t, cl_n, ltNN, ltNL, ltLN, leNN, leNL, leLN, eqNN, eqNL, ntLt, nfLt, ntLe, nfLe, ntEq, nfEq, lN_i32, nI_l, ltJNN, ltJNL, leJNN, leJLN, leJNL, ltJLN, n10, Option.bind_some, Option.bind_none, Option.toList_some, Option.toList_none, List.cons_append, List.nil_append, if_true, if_false, ite_true, ite_false, bd_ite, eq_self, not_true_eq_false, not_false_eq_true, true_or, or_true, or_self, k1_i, k1_j, k1_a, k1_n]
def oCl (v0 v1 v2 v3 v4 : Value) : List Value := [v0, v1, v2, v3, v4, .int 0, .int 0]
theorem k_CI : ip_call (d + 4) mC_init [.ref 2] (ha L xs w [oC .null .null .null .null .null]) = some (none, ha L xs (w + 11780) (clL 8)) := by
  have n0 : ip_new (ha L xs w [oC .null .null .null .null .null]) 9 (.inr (7, [.null, .null, .null, .null, .null, .null, .null, .int 0, .long 0])) = ha L xs (w + 9) [oC .null .null .null .null .null, .inr (7, [.null, .null, .null, .null, .null, .null, .null, .int 0, .long 0])] := ha_n
  have a0 : (ha L xs w [oC .null .null .null .null .null]).1 = 3 := rfl
  have k0 := k_WaI (d := d) (L := L) (xs := xs) (w := w + 9) (o := oC .null .null .null .null .null)
  have p0 : ip_pf (ha L xs (w + 9 + 2327) (oC .null .null .null .null .null :: clW)) 8 0 2 (.ref 3) = some (ha L xs (w + 9 + 2327) (oC (.ref 3) .null .null .null .null :: clW)) := ha_p0 (fs := oCl .null .null .null .null .null) rfl (by decide)
  have g0 : ip_gf (ha L xs (w + 9 + 2327) (oC (.ref 3) .null .null .null .null :: clW)) 8 0 2 = some (.ref 3) := rfl
  have g1 : ip_gf (ha L xs (w + 9 + 2327) (oC (.ref 3) .null .null .null .null :: clW)) 7 0 3 = some (.ref 4) := rfl
  have p1 : ip_pf (ha L xs (w + 9 + 2327) (oC (.ref 3) .null .null .null .null :: clW)) 8 1 2 (.ref 4) = some (ha L xs (w + 9 + 2327) (oC (.ref 3) (.ref 4) .null .null .null :: clW)) := ha_p0 (fs := oCl (.ref 3) .null .null .null .null) rfl (by decide)
  have n2 : ip_new (ha L xs (w + 9 + 2327) (oC (.ref 3) (.ref 4) .null .null .null :: clW)) 54 (.inl (2, 54, .inr (.inl (fun _ => 0)))) = ha L xs (w + 9 + 2327 + 54) (clA (oC (.ref 3) (.ref 4) .null .null .null)) := ha_n
  have a2 : (ha L xs (w + 9 + 2327) (oC (.ref 3) (.ref 4) .null .null .null :: clW)).1 = 83 := rfl
  have p2 : ip_pf (ha L xs (w + 9 + 2327 + 54) (clA (oC (.ref 3) (.ref 4) .null .null .null))) 8 2 2 (.ref 83) = some (ha L xs (w + 9 + 2327 + 54) (clA (oC (.ref 3) (.ref 4) (.ref 83) .null .null))) := ha_p0 (fs := oCl (.ref 3) (.ref 4) .null .null .null) rfl (by decide)
  have n3 : ip_new (ha L xs (w + 9 + 2327 + 54) (clA (oC (.ref 3) (.ref 4) (.ref 83) .null .null))) 8 (.inl (6, 8, .inr (.inr (.inr (.inr (fun _ => none)))))) = ha L xs (w + 9 + 2327 + 54 + 8) (clA (oC (.ref 3) (.ref 4) (.ref 83) .null .null) ++ [zF 6 8 (rg 88 21 0)]) := by
    rw [rg_0]
    exact ha_n
  have a3 : (ha L xs (w + 9 + 2327 + 54) (clA (oC (.ref 3) (.ref 4) (.ref 83) .null .null))).1 = 84 := rfl
  have p3 : ip_pf (ha L xs (w + 9 + 2327 + 54 + 8) (clA (oC (.ref 3) (.ref 4) (.ref 83) .null .null) ++ [zF 6 8 (rg 88 21 0)])) 8 3 2 (.ref 84) = some (ha L xs (w + 9 + 2327 + 54 + 8) (clA (oC (.ref 3) (.ref 4) (.ref 83) (.ref 84) .null) ++ [zF 6 8 (rg 88 21 0)])) := ha_p0 (fs := oCl (.ref 3) (.ref 4) (.ref 83) .null .null) rfl (by decide)
  have n4 : ip_new (ha L xs (w + 9 + 2327 + 54 + 8) (clA (oC (.ref 3) (.ref 4) (.ref 83) (.ref 84) .null) ++ [zF 6 8 (rg 88 21 0)])) 3 (.inr (2, [.null, .null, .int 0])) = ha L xs (w + 9 + 2327 + 54 + 8 + 3) ((clA (oC (.ref 3) (.ref 4) (.ref 83) (.ref 84) .null) ++ [zF 6 8 (rg 88 21 0)]) ++ [.inr (2, [.null, .null, .int 0])]) := ha_n
  have a4 : (ha L xs (w + 9 + 2327 + 54 + 8) (clA (oC (.ref 3) (.ref 4) (.ref 83) (.ref 84) .null) ++ [zF 6 8 (rg 88 21 0)])).1 = 85 := rfl
  have k4 : ip_call (d + 3) mLi_init [.ref 85] (ha L xs (w + 9 + 2327 + 54 + 8 + 3) ((clA (oC (.ref 3) (.ref 4) (.ref 83) (.ref 84) .null) ++ [zF 6 8 (rg 88 21 0)]) ++ [.inr (2, [.null, .null, .int 0])])) = some (none, ha L xs (w + 9 + 2327 + 54 + 8 + 3 + 83) ((clA (oC (.ref 3) (.ref 4) (.ref 83) (.ref 84) .null) ++ [zF 6 8 (rg 88 21 0)]) ++ liC)) := k_LiI (d := d + 2) (P := clA (oC (.ref 3) (.ref 4) (.ref 83) (.ref 84) .null) ++ [zF 6 8 (rg 88 21 0)])
  have p4 : ip_pf (ha L xs (w + 9 + 2327 + 54 + 8 + 3 + 83) ((clA (oC (.ref 3) (.ref 4) (.ref 83) (.ref 84) .null) ++ [zF 6 8 (rg 88 21 0)]) ++ liC)) 8 4 2 (.ref 85) = some (ha L xs (w + 9 + 2327 + 54 + 8 + 3 + 83) (clL 0)) := ha_p0 (fs := oCl (.ref 3) (.ref 4) (.ref 83) (.ref 84) .null) rfl (by decide)
  have p5 : ip_pf (ha L xs (w + 9 + 2327 + 54 + 8 + 3 + 83) (clL 0)) 8 5 2 (.int 0) = some (ha L xs (w + 9 + 2327 + 54 + 8 + 3 + 83) (clL 0)) := ha_p0 (fs := oCl (.ref 3) (.ref 4) (.ref 83) (.ref 84) (.ref 85)) rfl (by decide)
  have p6 : ip_pf (ha L xs (w + 9 + 2327 + 54 + 8 + 3 + 83) (clL 0)) 8 6 2 (.int 0) = some (ha L xs (w + 9 + 2327 + 54 + 8 + 3 + 83) (clL 0)) := ha_p0 (fs := oCl (.ref 3) (.ref 4) (.ref 83) (.ref 84) (.ref 85)) rfl (by decide)
  have c := lp_cl (d := d + 1) (L := L) (xs := xs) 8 0 (w + 9 + 2327 + 54 + 8 + 3 + 83) (by omega)
  have c2 : ip_go (d + 4) mC_init 66 [some (.ref 2), some (.int (nI 8))] [] (ha L xs (w + 9 + 2327 + 54 + 8 + 3 + 83 + 1162 * 8) (clL 8)) = some (none, ha L xs (w + 9 + 2327 + 54 + 8 + 3 + 83 + 1162 * 8) (clL 8)) := by
    rw [e54_66]
    simp (disch := first | assumption | omega) only [in54, e54_0, e54_1, e54_4, e54_5, e54_8, e54_9, e54_12, e54_15, e54_16, e54_17, e54_20, e54_23, e54_26, e54_27, e54_29, e54_31, e54_34, e54_35, e54_37, e54_40, e54_43, e54_44, e54_47, e54_48, e54_51, e54_54, e54_55, e54_56, e54_59, e54_60, e54_61, e54_64, e54_65, e54_67, e54_69, e54_72, e54_73, e54_76, e54_77, e54_80, e54_81, e54_84, e54_85, e54_88, e54_91, ↓reduceIte, ar1, ar2, ar3, ar4, ar5, ar6, ar7, ar8, ar9, in_t, cl_n, ltNN, ltNL, ltLN, leNN, leNL, leLN, eqNN, eqNL, ntLt, nfLt, ntLe, nfLe, ntEq, nfEq, lN_i32, nI_l, ltJNN, ltJNL, leJNN, leJLN, leJNL, ltJLN, n10, Option.bind_some, Option.bind_none, Option.toList_some, Option.toList_none, List.cons_append, List.nil_append, if_true, if_false, ite_true, ite_false, bd_ite, eq_self, not_true_eq_false, not_false_eq_true, true_or, or_true, or_self, k1_i, k1_j, k1_a, k1_n]
  have all := c.trans c2
  rw [show w + 11780 = w + 9 + 2327 + 54 + 8 + 3 + 83 + 1162 * 8 by omega]
  simp (disch := first | assumption | omega) only [in54, e54_0, e54_1, e54_4, e54_5, e54_8, e54_9, e54_12, e54_15, e54_16, e54_17, e54_20, e54_23, e54_26, e54_27, e54_29, e54_31, e54_34, e54_35, e54_37, e54_40, e54_43, e54_44, e54_47, e54_48, e54_51, e54_54, e54_55, e54_56, e54_59, e54_60, e54_61, e54_64, e54_65, e54_67, e54_69, e54_72, e54_73, e54_76, e54_77, e54_80, e54_81, e54_84, e54_85, e54_88, e54_91, n0, a0, k0, p0, g0, g1, p1, n2, a2, p2, n3, a3, p3, n4, a4, k4, p4, p5, p6, Option.bind_some, Option.bind_none, Option.toList_some, Option.toList_none, List.cons_append, List.nil_append, if_true, if_false, ite_true, ite_false, bd_ite, eq_self, not_true_eq_false, not_false_eq_true, true_or, or_true, or_self, k1_i, k1_j, k1_a, k1_n]
  exact all
end S21
