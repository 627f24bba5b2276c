/-! the constructors: Walker, CallTraces -/
section S20
variable {d L w : Nat} {xs : Nat → Int32} {cs P Q : List ip_C}
theorem wa_1 : ip_call (d + 3) mWa_init [.ref (P.length + 2), .ref 3] (ha L xs w (P ++ [.inr (7, [.null, .null, .null, .null, .null, .null, .null, .int 0, .long 0])])) = ip_go (d + 3) mWa_init 77 [some (.ref (P.length + 2)), some (.ref 3), some (.int 0)] [] (ha L xs (w + 1642) (P ++ (.inr (7, [.ref 3, .ref (P.length + 3), .ref (P.length + 4), .ref (P.length + 11), .ref (P.length + 12), .ref (P.length + 13), .ref (P.length + 13), .int (-1), .long 0]) :: zJ 66 :: zF 8 6 (rf 6 (P.length + 5)) :: zJ 66 :: zJ 66 :: zJ 66 :: zJ 66 :: zJ 66 :: zJ 66 :: zI 6 :: zF 4 6 (rg 73 2 0) :: trC (P.length + 13)))) := by
  have kt := k_TrI (d := d) (L := L) (xs := xs) (w := w + 497) (P := P ++ [.inr (7, [.null, .ref (P.length + 3), .ref (P.length + 4), .ref (P.length + 11), .ref (P.length + 12), .null, .null, .int 0, .long 0]), zJ 66, zF 8 6 (rf 6 (P.length + 5)), zJ 66, zJ 66, zJ 66, zJ 66, zJ 66, zJ 66, zI 6, zF 4 6 (rg 73 2 0)])
  simp only [List.append_assoc, List.cons_append, List.nil_append, List.length_append, List.length_cons, List.length_nil, Nat.zero_add, Nat.reduceAdd, Nat.add_assoc, rg_0, zI, zJ, zF] at kt
  simp (disch := first | assumption | omega | exact Nat.le_of_ble_eq_true rfl) only [in39, e39_0, e39_1, e39_4, e39_5, e39_7, e39_9, e39_12, e39_13, e39_15, e39_17, e39_21, e39_24, e39_25, e39_27, e39_29, e39_32, e39_33, e39_35, e39_38, e39_41, e39_42, e39_45, e39_46, e39_49, e39_52, e39_53, e39_54, e39_57, e39_60, e39_61, e39_62, e39_65, e39_66, e39_67, e39_70, e39_71, e39_72, e39_75, e39_76, e39_78, e39_80, e39_83, e39_84, e39_87, e39_88, e39_91, e39_92, e39_95, e39_96, e39_99, e39_102, ha_n, ha_m, ha_1, ha_p, List.append_assoc, List.cons_append, List.nil_append, List.length_append, List.length_cons, List.length_nil, List.length_replicate, Nat.zero_add, Nat.reduceAdd, Nat.reduceMul, Nat.add_assoc, List.set_cons_zero, List.set_cons_succ, ntLt, ↓reduceIte, ha_f, List.getElem?_cons_succ, List.getElem?_cons_zero, List.replicate_succ, List.replicate_zero, rg_0, kt, zI, zJ, zF, Option.bind_some, Option.bind_none, Option.toList_some, Option.toList_none, List.cons_append, List.nil_append, if_true, if_false, ite_true, ite_false, bd_ite, eq_self, not_true_eq_false, not_false_eq_true, true_or, or_true, or_self, k1_i, k1_j, k1_a, k1_n]
def waO : ip_C := .inr (7, [.ref 3, .ref 42, .ref 43, .ref 50, .ref 51, .ref 52, .ref 52, .int (-1), .long 0])
def frC (b : Nat) : List ip_C := [.inr (1, [.ref (b + 1), .int 0, .int 0, .int 0, .int (-1), .long 0, .int 0, .long 0]), zJ 12]
def frs : Nat → List ip_C
  | 0 => []
  | i + 1 => frs i ++ frC (73 + 2 * i)
theorem frs_len : ∀ i, (frs i).length = 2 * i := by
  intro i
  induction i with
  | zero => rfl
  | succ i ih =>
    show (frs i ++ frC (73 + 2 * i)).length = _
    rw [List.length_append, ih]
    show 2 * i + 2 = _
    omega
def waT : List ip_C := [waO, zJ 66, zF 8 6 (rf 6 44), zJ 66, zJ 66, zJ 66, zJ 66, zJ 66, zJ 66, zI 6]
def waL (P : List ip_C) (i : Nat) : List ip_C := (P ++ waT) ++ zF 4 6 (rg 73 2 i) :: (trC 52 ++ frs i)
theorem waL_len {i : Nat} (hP : P.length = 39) : (waL P i).length = 71 + 2 * i := by
  unfold waL
  rw [List.length_append, List.length_append, List.length_cons, List.length_append, hP, frs_len]
  show 39 + 10 + (21 + 2 * i + 1) = _
  omega
theorem lp_wa (hP : P.length = 39) : ∀ (k i w : Nat), i + k = 6 → ip_go (d + 2) mWa_init 77 [some (.ref 41), some (.ref 3), some (.int (nI i))] [] (ha L xs w (waL P i)) = ip_go (d + 2) mWa_init 77 [some (.ref 41), some (.ref 3), some (.int (nI 6))] [] (ha L xs (w + 20 * k) (waL P 6)) := by
  intro k
  induction k with
  | zero =>
    intro i w hi
    have : i = 6 := by omega
    subst this
    rfl
  | succ k ih =>
    intro i w hi
    have g1 : ip_gf (ha L xs w (waL P i)) 7 4 41 = some (.ref 51) := by
      have := ha_f (L := L) (xs := xs) (w := w) (P := P) (ci := 7) (k := 4) (fs := [.ref 3, .ref 42, .ref 43, .ref 50, .ref 51, .ref 52, .ref 52, .int (-1), .long 0]) (Q := waT.tail ++ zF 4 6 (rg 73 2 i) :: (trC 52 ++ frs i))
      rw [hP] at this
      unfold waL
      rw [List.append_assoc]
      exact this
    have l1 : (ha L xs w (waL P i)).1 = 73 + 2 * i := by rw [ha_1, waL_len hP]; omega
    have k1 := k_FrI (d := d) (L := L) (xs := xs) (w := w + 8) (P := waL P i)
    rw [waL_len hP, show 71 + 2 * i + 2 = 73 + 2 * i by omega, show 71 + 2 * i + 3 = 73 + 2 * i + 1 by omega] at k1
    have eL : waL P i ++ [.inr (1, [.ref (73 + 2 * i + 1), .int 0, .int 0, .int 0, .int (-1), .long 0, .int 0, .long 0]), zJ 12] = (P ++ waT) ++ zF 4 6 (rg 73 2 i) :: (trC 52 ++ frs (i + 1)) := by
      unfold waL
      rw [List.append_assoc, List.cons_append, List.append_assoc (trC 52)]
      rfl
    have ho : ip_isO (ha L xs (w + 8 + 12) (waL P i ++ [.inr (1, [.ref (73 + 2 * i + 1), .int 0, .int 0, .int 0, .int (-1), .long 0, .int 0, .long 0]), zJ 12])) (73 + 2 * i) 1 = true := by
      have := ha_o (L := L) (xs := xs) (w := w + 8 + 12) (P := waL P i) (Q := [zJ 12]) (ci := 1) (fs := [.ref (73 + 2 * i + 1), .int 0, .int 0, .int 0, .int (-1), .long 0, .int 0, .long 0])
      rw [waL_len hP, show 71 + 2 * i + 2 = 73 + 2 * i by omega] at this
      exact this
    have s1 : ip_as (ha L xs (w + 8 + 12) (waL P i ++ [.inr (1, [.ref (73 + 2 * i + 1), .int 0, .int 0, .int 0, .int (-1), .long 0, .int 0, .long 0]), zJ 12])) 51 (nI i) (73 + 2 * i) = some (ha L xs (w + 8 + 12) (waL P (i + 1))) := by
      rw [eL] at ho ⊢
      have := ha_a (L := L) (xs := xs) (w := w + 8 + 12) (P := P ++ waT) (Q := trC 52 ++ frs (i + 1)) (t := 4) (n := 6) (ci := 1) (i := i) (v := 73 + 2 * i) (f := rg 73 2 i) rfl (by omega) (by decide) ho
      rw [rg_u, List.length_append, hP] at this
      exact this
    have z := ih (i + 1) (w + 8 + 12) (by omega)
    rw [show w + 8 + 12 + 20 * k = w + 20 * (k + 1) by omega] at z
    rw [← z, e39_77]
    simp (disch := first | assumption | omega) only [in39, e39_0, e39_1, e39_4, e39_5, e39_7, e39_9, e39_12, e39_13, e39_15, e39_17, e39_21, e39_24, e39_25, e39_27, e39_29, e39_32, e39_33, e39_35, e39_38, e39_41, e39_42, e39_45, e39_46, e39_49, e39_52, e39_53, e39_54, e39_57, e39_60, e39_61, e39_62, e39_65, e39_66, e39_67, e39_70, e39_71, e39_72, e39_75, e39_76, e39_78, e39_80, e39_83, e39_84, e39_87, e39_88, e39_91, e39_92, e39_95, e39_96, e39_99, e39_102, g1, ha_n, l1, k1, s1, ↓reduceIte, ar1, ar2, ar3, ar4, ar5, ar6, ar7, ar8, ar9, in_t, cl_n, ltNN, ltNL, ltLN, leNN, leNL, leLN, eqNN, eqNL, ntLt, nfLt, ntLe, nfLe, ntEq, nfEq, lN_i32, nI_l, ltJNN, ltJNL, leJNN, leJLN, leJNL, ltJLN, n10, Option.bind_some, Option.bind_none, Option.toList_some, Option.toList_none, List.cons_append, List.nil_append, if_true, if_false, ite_true, ite_false, bd_ite, eq_self, not_true_eq_false, not_false_eq_true, true_or, or_true, or_self, k1_i, k1_j, k1_a, k1_n]
theorem k_WaI (hP : P.length = 39) : ip_call (d + 3) mWa_init [.ref 41, .ref 3] (ha L xs w (P ++ [.inr (7, [.null, .null, .null, .null, .null, .null, .null, .int 0, .long 0])])) = some (none, ha L xs (w + 1762) (waL P 6)) := by
  have c1 := wa_1 (d := d) (L := L) (xs := xs) (w := w) (P := P)
  rw [hP] at c1
  have e : P ++ (.inr (7, [.ref 3, .ref (39 + 3), .ref (39 + 4), .ref (39 + 11), .ref (39 + 12), .ref (39 + 13), .ref (39 + 13), .int (-1), .long 0]) :: zJ 66 :: zF 8 6 (rf 6 (39 + 5)) :: zJ 66 :: zJ 66 :: zJ 66 :: zJ 66 :: zJ 66 :: zJ 66 :: zI 6 :: zF 4 6 (rg 73 2 0) :: trC (39 + 13)) = waL P 0 := by
    unfold waL
    rw [List.append_assoc, show frs 0 = [] from rfl, List.append_nil]
    rfl
  rw [e] at c1
  have c2 := lp_wa (d := d + 1) (L := L) (xs := xs) hP 6 0 (w + 1642) (by omega)
  refine (c1.trans c2).trans ?_
  rw [show w + 1762 = w + 1642 + 20 * 6 by omega, e39_77]
  simp (disch := first | assumption | omega) only [in39, e39_0, e39_1, e39_4, e39_5, e39_7, e39_9, e39_12, e39_13, e39_15, e39_17, e39_21, e39_24, e39_25, e39_27, e39_29, e39_32, e39_33, e39_35, e39_38, e39_41, e39_42, e39_45, e39_46, e39_49, e39_52, e39_53, e39_54, e39_57, e39_60, e39_61, e39_62, e39_65, e39_66, e39_67, e39_70, e39_71, e39_72, e39_75, e39_76, e39_78, e39_80, e39_83, e39_84, e39_87, e39_88, e39_91, e39_92, e39_95, e39_96, e39_99, e39_102, ↓reduceIte, ar1, ar2, ar3, ar4, ar5, ar6, ar7, ar8, ar9, in_t, cl_n, ltNN, ltNL, ltLN, leNN, leNL, leLN, eqNN, eqNL, ntLt, nfLt, ntLe, nfLe, ntEq, nfEq, lN_i32, nI_l, ltJNN, ltJNL, leJNN, leJLN, leJNL, ltJLN, n10, Option.bind_some, Option.bind_none, Option.toList_some, Option.toList_none, List.cons_append, List.nil_append, if_true, if_false, ite_true, ite_false, bd_ite, eq_self, not_true_eq_false, not_false_eq_true, true_or, or_true, or_self, k1_i, k1_j, k1_a, k1_n]
end S20
section S21
variable {d L w : Nat} {xs : Nat → Int32} {cs P Q : List ip_C}
theorem ha_p0 {ci k : Nat} {fs : List Value} {v : Value} (h : cs = .inr (ci, fs) :: Q) (hk : k < fs.length) : ip_pf (ha L xs w cs) ci k 2 v = some (ha L xs w (.inr (ci, fs.set k v) :: Q)) := by
  subst h
  have := ha_p (L := L) (xs := xs) (w := w) (P := []) (Q := Q) (ci := ci) (k := k) (fs := fs) (v := v)
  rw [if_pos hk] at this
  exact this
def liC : List ip_C := [.inr (2, [.ref 86, .ref 87, .int 0]), zB 0 64, zI 19]
def trs : Nat → List ip_C
  | 0 => []
  | i + 1 => trs i ++ trC (88 + 21 * i)
theorem trs_len : ∀ i, (trs i).length = 21 * i := by
  intro i
  induction i with
  | zero => rfl
  | succ i ih =>
    show (trs i ++ trC (88 + 21 * i)).length = _
    rw [List.length_append, ih]
    show 21 * i + 21 = _
    omega
/-- the first 38 cells; what stands behind the array of traces -/
def clA (v0 v1 v2 v3 v4 : Value) : List ip_C := coL 8 (oC v0 v1 v2 v3 v4) m5 q6 ++ [zJ 54]
def clW : List ip_C := waT ++ zF 4 6 (rg 73 2 6) :: (trC 52 ++ frs 6)
def clL (i : Nat) : List ip_C := clA (.ref 3) (.ref 39) (.ref 40) (.ref 41) (.ref 85) ++ zF 6 8 (rg 88 21 i) :: (clW ++ (liC ++ trs i))
theorem clA_len {v0 v1 v2 v3 v4 : Value} : (clA v0 v1 v2 v3 v4).length = 38 := rfl
theorem clW_len : clW.length = 44 := rfl
theorem clL_len {i : Nat} : (clL i).length = 86 + 21 * i := by
  unfold clL
  rw [List.length_append, List.length_cons, List.length_append, List.length_append, clA_len, clW_len, trs_len]
  show 38 + (44 + (3 + 21 * i) + 1) = _
  omega
theorem lp_cl : ∀ (k i w : Nat), i + k = 8 → ip_go (d + 3) mC_init 70 [some (.ref 2), some (.int (nI i))] [] (ha L xs w (clL i)) = ip_go (d + 3) mC_init 70 [some (.ref 2), some (.int (nI 8))] [] (ha L xs (w + 1162 * k) (clL 8)) := by
  intro k
  induction k with
  | zero =>
    intro i w hi
    have : i = 8 := by omega
    subst this
    rfl
  | succ k ih =>
    intro i w hi
    have g1 : ip_gf (ha L xs w (clL i)) 8 2 2 = some (.ref 40) := rfl
    have l1 : (ha L xs w (clL i)).1 = 88 + 21 * i := by rw [ha_1, clL_len]; omega
    have k1 := k_TrI (d := d) (L := L) (xs := xs) (w := w + 17) (P := clL i)
    rw [clL_len, show 86 + 21 * i + 2 = 88 + 21 * i by omega] at k1
    have eL : clL i ++ trC (88 + 21 * i) = clA (.ref 3) (.ref 39) (.ref 40) (.ref 41) (.ref 85) ++ zF 6 8 (rg 88 21 i) :: (clW ++ (liC ++ trs (i + 1))) := by
      unfold clL
      rw [List.append_assoc, List.cons_append, List.append_assoc clW, List.append_assoc liC]
      rfl
    have ho : ip_isO (ha L xs (w + 17 + 1145) (clL i ++ trC (88 + 21 * i))) (88 + 21 * i) 6 = true := by
      have := ha_o (L := L) (xs := xs) (w := w + 17 + 1145) (P := clL i) (Q := (trC (88 + 21 * i)).tail) (ci := 6) (fs := [.int 0, .int 0, .long 0, .int 0, .ref (88 + 21 * i + 1), .ref (88 + 21 * i + 2), .ref (88 + 21 * i + 10), .int 0, .int 0, .int 0, .int 0, .int 0, .long 0, .ref (88 + 21 * i + 11), .ref (88 + 21 * i + 15), .ref (88 + 21 * i + 19), .ref (88 + 21 * i + 20)])
      rw [clL_len, show 86 + 21 * i + 2 = 88 + 21 * i by omega] at this
      exact this
    have s1 : ip_as (ha L xs (w + 17 + 1145) (clL i ++ trC (88 + 21 * i))) 40 (nI i) (88 + 21 * i) = some (ha L xs (w + 17 + 1145) (clL (i + 1))) := by
      rw [eL] at ho ⊢
      have := ha_a (L := L) (xs := xs) (w := w + 17 + 1145) (P := clA (.ref 3) (.ref 39) (.ref 40) (.ref 41) (.ref 85)) (Q := clW ++ (liC ++ trs (i + 1))) (t := 6) (n := 8) (ci := 6) (i := i) (v := 88 + 21 * i) (f := rg 88 21 i) rfl (by omega) (by decide) ho
      rw [rg_u, clA_len] at this
      exact this
    have z := ih (i + 1) (w + 17 + 1145) (by omega)
    rw [show w + 17 + 1145 + 1162 * k = w + 1162 * (k + 1) by omega] at z
    rw [← z, e54_70]
    simp (disch := first | assumption | omega) only [in54, e54_0, e54_1, e54_4, e54_5, e54_8, e54_9, e54_12, e54_15, e54_16, e54_18, e54_20, e54_23, e54_24, e54_26, e54_29, e54_32, e54_33, e54_36, e54_37, e54_38, e54_41, e54_44, e54_47, e54_48, e54_51, e54_52, e54_55, e54_58, e54_59, e54_60, e54_63, e54_64, e54_65, e54_68, e54_69, e54_71, e54_73, e54_76, e54_77, e54_80, e54_81, e54_84, e54_85, e54_88, e54_89, e54_92, e54_95, g1, ha_n, l1, k1, s1, ↓reduceIte, ar1, ar2, ar3, ar4, ar5, ar6, ar7, ar8, ar9, in_t, cl_n, ltNN, ltNL, ltLN, leNN, leNL, leLN, eqNN, eqNL, ntLt, nfLt, ntLe, nfLe, ntEq, nfEq, lN_i32, nI_l, ltJNN, ltJNL, leJNN, leJLN, leJNL, ltJLN, n10, Option.bind_some, Option.bind_none, Option.toList_some, Option.toList_none, List.cons_append, List.nil_append, if_true, if_false, ite_true, ite_false, bd_ite, eq_self, not_true_eq_false, not_false_eq_true, true_or, or_true, or_self, k1_i, k1_j, k1_a, k1_n]
def oCl (v0 v1 v2 v3 v4 : Value) : List Value := [v0, v1, v2, v3, v4, .int 0, .int 0]
theorem k_CI : ip_call (d + 4) mC_init [.ref 2] (ha L xs w [oC .null .null .null .null .null]) = some (none, ha L xs (w + 11780) (clL 8)) := by
  have k0 := k_CoI (d := d + 1) (L := L) (xs := xs) (w := w + 5) (o := oC .null .null .null .null .null)
  have n0 : ip_new (ha L xs w [oC .null .null .null .null .null]) 5 (.inr (0, [.null, .null, .null, .int 0, .int 0])) = ha L xs (w + 5) [oC .null .null .null .null .null, .inr (0, [.null, .null, .null, .int 0, .int 0])] := ha_n
  have a0 : (ha L xs w [oC .null .null .null .null .null]).1 = 3 := rfl
  have p0 : ip_pf (ha L xs (w + 5 + 560) (coL 8 (oC .null .null .null .null .null) m5 q6)) 8 0 2 (.ref 3) = some (ha L xs (w + 5 + 560) (coL 8 (oC (.ref 3) .null .null .null .null) m5 q6)) := ha_p0 (fs := oCl .null .null .null .null .null) rfl (by decide)
  have n1 : ip_new (ha L xs (w + 5 + 560) (coL 8 (oC (.ref 3) .null .null .null .null) m5 q6)) 54 (.inl (2, 54, .inr (.inl (fun _ => 0)))) = ha L xs (w + 5 + 560 + 54) (clA (.ref 3) .null .null .null .null) := ha_n
  have a1 : (ha L xs (w + 5 + 560) (coL 8 (oC (.ref 3) .null .null .null .null) m5 q6)).1 = 39 := rfl
  have p1 : ip_pf (ha L xs (w + 5 + 560 + 54) (clA (.ref 3) .null .null .null .null)) 8 1 2 (.ref 39) = some (ha L xs (w + 5 + 560 + 54) (clA (.ref 3) (.ref 39) .null .null .null)) := ha_p0 (fs := oCl (.ref 3) .null .null .null .null) rfl (by decide)
  have n2 : ip_new (ha L xs (w + 5 + 560 + 54) (clA (.ref 3) (.ref 39) .null .null .null)) 8 (.inl (6, 8, .inr (.inr (.inr (.inr (fun _ => none)))))) = ha L xs (w + 5 + 560 + 54 + 8) (clA (.ref 3) (.ref 39) .null .null .null ++ [zF 6 8 (rg 88 21 0)]) := by
    rw [rg_0]
    exact ha_n
  have a2 : (ha L xs (w + 5 + 560 + 54) (clA (.ref 3) (.ref 39) .null .null .null)).1 = 40 := rfl
  have p2 : ip_pf (ha L xs (w + 5 + 560 + 54 + 8) (clA (.ref 3) (.ref 39) .null .null .null ++ [zF 6 8 (rg 88 21 0)])) 8 2 2 (.ref 40) = some (ha L xs (w + 5 + 560 + 54 + 8) (clA (.ref 3) (.ref 39) (.ref 40) .null .null ++ [zF 6 8 (rg 88 21 0)])) := ha_p0 (fs := oCl (.ref 3) (.ref 39) .null .null .null) rfl (by decide)
  have n3 : ip_new (ha L xs (w + 5 + 560 + 54 + 8) (clA (.ref 3) (.ref 39) (.ref 40) .null .null ++ [zF 6 8 (rg 88 21 0)])) 9 (.inr (7, [.null, .null, .null, .null, .null, .null, .null, .int 0, .long 0])) = ha L xs (w + 5 + 560 + 54 + 8 + 9) ((clA (.ref 3) (.ref 39) (.ref 40) .null .null ++ [zF 6 8 (rg 88 21 0)]) ++ [.inr (7, [.null, .null, .null, .null, .null, .null, .null, .int 0, .long 0])]) := ha_n
  have a3 : (ha L xs (w + 5 + 560 + 54 + 8) (clA (.ref 3) (.ref 39) (.ref 40) .null .null ++ [zF 6 8 (rg 88 21 0)])).1 = 41 := rfl
  have g3 : ip_gf (ha L xs (w + 5 + 560 + 54 + 8 + 9) ((clA (.ref 3) (.ref 39) (.ref 40) .null .null ++ [zF 6 8 (rg 88 21 0)]) ++ [.inr (7, [.null, .null, .null, .null, .null, .null, .null, .int 0, .long 0])])) 8 0 2 = some (.ref 3) := rfl
  have k3 := k_WaI (d := d) (L := L) (xs := xs) (w := w + 5 + 560 + 54 + 8 + 9) (P := clA (.ref 3) (.ref 39) (.ref 40) .null .null ++ [zF 6 8 (rg 88 21 0)]) rfl
  have eW : ∀ v3 v4, waL (clA (.ref 3) (.ref 39) (.ref 40) v3 v4 ++ [zF 6 8 (rg 88 21 0)]) 6 = clA (.ref 3) (.ref 39) (.ref 40) v3 v4 ++ zF 6 8 (rg 88 21 0) :: clW := fun v3 v4 => by
    unfold waL clW
    rw [List.append_assoc, List.append_assoc]
    rfl
  rw [eW] at k3
  have p3 : ip_pf (ha L xs (w + 5 + 560 + 54 + 8 + 9 + 1762) (clA (.ref 3) (.ref 39) (.ref 40) .null .null ++ zF 6 8 (rg 88 21 0) :: clW)) 8 3 2 (.ref 41) = some (ha L xs (w + 5 + 560 + 54 + 8 + 9 + 1762) (clA (.ref 3) (.ref 39) (.ref 40) (.ref 41) .null ++ zF 6 8 (rg 88 21 0) :: clW)) := ha_p0 (fs := oCl (.ref 3) (.ref 39) (.ref 40) .null .null) rfl (by decide)
  have n4 : ip_new (ha L xs (w + 5 + 560 + 54 + 8 + 9 + 1762) (clA (.ref 3) (.ref 39) (.ref 40) (.ref 41) .null ++ zF 6 8 (rg 88 21 0) :: clW)) 3 (.inr (2, [.null, .null, .int 0])) = ha L xs (w + 5 + 560 + 54 + 8 + 9 + 1762 + 3) ((clA (.ref 3) (.ref 39) (.ref 40) (.ref 41) .null ++ zF 6 8 (rg 88 21 0) :: clW) ++ [.inr (2, [.null, .null, .int 0])]) := ha_n
  have a4 : (ha L xs (w + 5 + 560 + 54 + 8 + 9 + 1762) (clA (.ref 3) (.ref 39) (.ref 40) (.ref 41) .null ++ zF 6 8 (rg 88 21 0) :: clW)).1 = 85 := rfl
  have k4 : ip_call (d + 3) mLi_init [.ref 85] (ha L xs (w + 5 + 560 + 54 + 8 + 9 + 1762 + 3) ((clA (.ref 3) (.ref 39) (.ref 40) (.ref 41) .null ++ zF 6 8 (rg 88 21 0) :: clW) ++ [.inr (2, [.null, .null, .int 0])])) = some (none, ha L xs (w + 5 + 560 + 54 + 8 + 9 + 1762 + 3 + 83) ((clA (.ref 3) (.ref 39) (.ref 40) (.ref 41) .null ++ zF 6 8 (rg 88 21 0) :: clW) ++ liC)) := k_LiI (d := d + 2) (P := clA (.ref 3) (.ref 39) (.ref 40) (.ref 41) .null ++ zF 6 8 (rg 88 21 0) :: clW)
  have eC : ∀ v4, (clA (.ref 3) (.ref 39) (.ref 40) (.ref 41) v4 ++ zF 6 8 (rg 88 21 0) :: clW) ++ liC = clA (.ref 3) (.ref 39) (.ref 40) (.ref 41) v4 ++ zF 6 8 (rg 88 21 0) :: (clW ++ (liC ++ trs 0)) := fun v4 => by
    rw [List.append_assoc, List.cons_append, show trs 0 = [] from rfl, List.append_nil]
  rw [eC] at k4
  have p4 : ip_pf (ha L xs (w + 5 + 560 + 54 + 8 + 9 + 1762 + 3 + 83) (clA (.ref 3) (.ref 39) (.ref 40) (.ref 41) .null ++ zF 6 8 (rg 88 21 0) :: (clW ++ (liC ++ trs 0)))) 8 4 2 (.ref 85) = some (ha L xs (w + 5 + 560 + 54 + 8 + 9 + 1762 + 3 + 83) (clL 0)) := ha_p0 (fs := oCl (.ref 3) (.ref 39) (.ref 40) (.ref 41) .null) rfl (by decide)
  have p5 : ip_pf (ha L xs (w + 5 + 560 + 54 + 8 + 9 + 1762 + 3 + 83) (clL 0)) 8 5 2 (.int 0) = some (ha L xs (w + 5 + 560 + 54 + 8 + 9 + 1762 + 3 + 83) (clL 0)) := ha_p0 (fs := oCl (.ref 3) (.ref 39) (.ref 40) (.ref 41) (.ref 85)) rfl (by decide)
  have p6 : ip_pf (ha L xs (w + 5 + 560 + 54 + 8 + 9 + 1762 + 3 + 83) (clL 0)) 8 6 2 (.int 0) = some (ha L xs (w + 5 + 560 + 54 + 8 + 9 + 1762 + 3 + 83) (clL 0)) := ha_p0 (fs := oCl (.ref 3) (.ref 39) (.ref 40) (.ref 41) (.ref 85)) rfl (by decide)
  have c := lp_cl (d := d + 1) (L := L) (xs := xs) 8 0 (w + 5 + 560 + 54 + 8 + 9 + 1762 + 3 + 83) (by omega)
  have c2 : ip_go (d + 4) mC_init 70 [some (.ref 2), some (.int (nI 8))] [] (ha L xs (w + 5 + 560 + 54 + 8 + 9 + 1762 + 3 + 83 + 1162 * 8) (clL 8)) = some (none, ha L xs (w + 5 + 560 + 54 + 8 + 9 + 1762 + 3 + 83 + 1162 * 8) (clL 8)) := by
    rw [e54_70]
    simp (disch := first | assumption | omega) only [in54, e54_0, e54_1, e54_4, e54_5, e54_8, e54_9, e54_12, e54_15, e54_16, e54_18, e54_20, e54_23, e54_24, e54_26, e54_29, e54_32, e54_33, e54_36, e54_37, e54_38, e54_41, e54_44, e54_47, e54_48, e54_51, e54_52, e54_55, e54_58, e54_59, e54_60, e54_63, e54_64, e54_65, e54_68, e54_69, e54_71, e54_73, e54_76, e54_77, e54_80, e54_81, e54_84, e54_85, e54_88, e54_89, e54_92, e54_95, ↓reduceIte, ar1, ar2, ar3, ar4, ar5, ar6, ar7, ar8, ar9, in_t, cl_n, ltNN, ltNL, ltLN, leNN, leNL, leLN, eqNN, eqNL, ntLt, nfLt, ntLe, nfLe, ntEq, nfEq, lN_i32, nI_l, ltJNN, ltJNL, leJNN, leJLN, leJNL, ltJLN, n10, Option.bind_some, Option.bind_none, Option.toList_some, Option.toList_none, List.cons_append, List.nil_append, if_true, if_false, ite_true, ite_false, bd_ite, eq_self, not_true_eq_false, not_false_eq_true, true_or, or_true, or_self, k1_i, k1_j, k1_a, k1_n]
  have all := c.trans c2
  rw [show w + 11780 = w + 5 + 560 + 54 + 8 + 9 + 1762 + 3 + 83 + 1162 * 8 by omega]
  simp (disch := first | assumption | omega) only [in54, e54_0, e54_1, e54_4, e54_5, e54_8, e54_9, e54_12, e54_15, e54_16, e54_18, e54_20, e54_23, e54_24, e54_26, e54_29, e54_32, e54_33, e54_36, e54_37, e54_38, e54_41, e54_44, e54_47, e54_48, e54_51, e54_52, e54_55, e54_58, e54_59, e54_60, e54_63, e54_64, e54_65, e54_68, e54_69, e54_71, e54_73, e54_76, e54_77, e54_80, e54_81, e54_84, e54_85, e54_88, e54_89, e54_92, e54_95, n0, a0, k0, p0, n1, a1, p1, n2, a2, p2, n3, a3, g3, k3, p3, n4, a4, k4, p4, p5, p6, Option.bind_some, Option.bind_none, Option.toList_some, Option.toList_none, List.cons_append, List.nil_append, if_true, if_false, ite_true, ite_false, bd_ite, eq_self, not_true_eq_false, not_false_eq_true, true_or, or_true, or_self, k1_i, k1_j, k1_a, k1_n]
  exact all
end S21
