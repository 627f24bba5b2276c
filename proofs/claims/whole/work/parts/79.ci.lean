/-! the constructors: Trace, Contracts -/
section S19
variable {d L w : Nat} {xs : Nat → Int32} {cs P Q : List ip_C}
/-- the cells of a trace at a -/
def trC (a : Nat) : List ip_C := [.inr (6, [.int 0, .int 0, .long 0, .int 0, .ref (a + 1), .ref (a + 2), .ref (a + 10), .int 0, .int 0, .int 0, .int 0, .int 0, .long 0, .ref (a + 11), .ref (a + 15), .ref (a + 19), .ref (a + 20)]), zJ 54, zF 7 7 (rf 7 (a + 3)), zI 100, zI 100, zI 100, zI 100, zI 100, zI 100, zI 100, zJ 100, .inr (5, [.ref (a + 12), .ref (a + 13), .ref (a + 14), .int 0]), zI 48, zI 48, zI 48, .inr (4, [.ref (a + 16), .ref (a + 17), .ref (a + 18), .int 0]), zI 40, zJ 40, zJ 40, zJ 6, zJ 6]
theorem k_TrI : ip_call (d + 2) mTr_init [.ref (P.length + 2)] (ha L xs w (P ++ [.inr (6, [.int 0, .int 0, .long 0, .int 0, .null, .null, .null, .int 0, .int 0, .int 0, .int 0, .int 0, .long 0, .null, .null, .null, .null])])) = some (none, ha L xs (w + 1145) (P ++ trC (P.length + 2))) := by
  have kt := k_ToI (d := d) (L := L) (xs := xs) (w := w + 865) (P := P ++ [.inr (6, [.int 0, .int 0, .long 0, .int 0, .ref (P.length + 3), .ref (P.length + 4), .ref (P.length + 12), .int 0, .int 0, .int 0, .int 0, .int 0, .long 0, .null, .null, .null, .null]), zJ 54, zF 7 7 (rf 7 (P.length + 5)), zI 100, zI 100, zI 100, zI 100, zI 100, zI 100, zI 100, zJ 100])
  have ke := k_TeI (d := d) (L := L) (xs := xs) (w := w + 1013) (P := P ++ [.inr (6, [.int 0, .int 0, .long 0, .int 0, .ref (P.length + 3), .ref (P.length + 4), .ref (P.length + 12), .int 0, .int 0, .int 0, .int 0, .int 0, .long 0, .ref (P.length + 13), .null, .null, .null]), zJ 54, zF 7 7 (rf 7 (P.length + 5)), zI 100, zI 100, zI 100, zI 100, zI 100, zI 100, zI 100, zJ 100, .inr (5, [.ref (P.length + 14), .ref (P.length + 15), .ref (P.length + 16), .int 0]), zI 48, zI 48, zI 48])
  simp only [List.append_assoc, List.cons_append, List.nil_append, List.length_append, List.length_cons, List.length_nil, Nat.zero_add, Nat.reduceAdd, Nat.add_assoc, zI, zJ, zF] at kt ke
  simp (disch := first | assumption | omega | exact Nat.le_of_ble_eq_true rfl) only [in25, e25_0, e25_1, e25_4, e25_5, e25_6, e25_9, e25_10, e25_11, e25_14, e25_15, e25_16, e25_19, e25_20, e25_21, e25_24, e25_25, e25_27, e25_29, e25_32, e25_33, e25_35, e25_37, e25_41, e25_44, e25_45, e25_47, e25_49, e25_52, e25_53, e25_54, e25_57, e25_58, e25_59, e25_62, e25_63, e25_64, e25_67, e25_68, e25_69, e25_72, e25_73, e25_74, e25_77, e25_78, e25_79, e25_82, e25_83, e25_86, e25_87, e25_90, e25_93, e25_94, e25_97, e25_98, e25_101, e25_104, e25_105, e25_107, e25_109, e25_112, e25_113, e25_115, e25_117, e25_120, ha_n, ha_m, ha_1, ha_p, List.append_assoc, List.cons_append, List.nil_append, List.length_append, List.length_cons, List.length_nil, List.length_replicate, Nat.zero_add, Nat.reduceAdd, Nat.reduceMul, Nat.add_assoc, List.set_cons_zero, List.set_cons_succ, ntLt, ↓reduceIte, List.replicate_succ, List.replicate_zero, kt, ke, trC, zI, zJ, zF, Option.bind_some, Option.bind_none, Option.toList_some, Option.toList_none, List.cons_append, List.nil_append, if_true, if_false, ite_true, ite_false, bd_ite, eq_self, not_true_eq_false, not_false_eq_true, true_or, or_true, or_self, k1_i, k1_j, k1_a, k1_n]
/-- Contracts -/
def oC (v0 v1 v2 v3 v4 : Value) : ip_C := .inr (8, [v0, v1, v2, v3, v4, .int 0, .int 0])
def coO : ip_C := .inr (0, [.ref 5, .ref 6, .ref 7, .int 0, .int 0])
def prC (b : Nat) : List ip_C := [.inr (3, [.ref (b + 1), .ref (b + 2), .ref (b + 3), .int 0]), zI 20, zJ 20, zI 20]
def prs : Nat → List ip_C
  | 0 => []
  | i + 1 => prs i ++ prC (8 + 4 * i)
theorem prs_len : ∀ i, (prs i).length = 4 * i := by
  intro i
  induction i with
  | zero => rfl
  | succ i ih =>
    show (prs i ++ prC (8 + 4 * i)).length = _
    rw [List.length_append, ih]
    show 4 * i + 4 = _
    omega
theorem rg_0 {b s : Nat} : rg b s 0 = fun _ => none := by
  funext j
  exact if_neg (by omega)
theorem co_1 : ip_call (d + 1) mCo_init [.ref (P.length + 2)] (ha L xs w (P ++ [.inr (0, [.null, .null, .null, .int 0, .int 0])])) = ip_go (d + 1) mCo_init 41 [some (.ref (P.length + 2)), some (.int 0)] [] (ha L xs (w + 48) (P ++ [.inr (0, [.ref (P.length + 3), .ref (P.length + 4), .ref (P.length + 5), .int 0, .int 0]), zF 5 8 (rg 8 4 0), zI 24, zI 16])) := by
  simp (disch := first | assumption | omega | exact Nat.le_of_ble_eq_true rfl) only [in0, e0_0, e0_1, e0_4, e0_5, e0_7, e0_10, e0_13, e0_14, e0_16, e0_18, e0_21, e0_22, e0_24, e0_26, e0_29, e0_30, e0_31, e0_34, e0_35, e0_36, e0_39, e0_40, e0_42, e0_44, e0_47, e0_48, e0_51, e0_52, e0_55, e0_56, e0_59, e0_60, e0_63, e0_66, e0_67, e0_70, e0_71, e0_74, e0_75, e0_78, e0_79, e0_82, ha_n, ha_m, ha_1, ha_p, List.append_assoc, List.cons_append, List.nil_append, List.length_append, List.length_cons, List.length_nil, List.length_replicate, Nat.zero_add, Nat.reduceAdd, Nat.reduceMul, Nat.add_assoc, List.set_cons_zero, List.set_cons_succ, ntLt, ↓reduceIte, rg_0, zI, zJ, zF, Option.bind_some, Option.bind_none, Option.toList_some, Option.toList_none, List.cons_append, List.nil_append, if_true, if_false, ite_true, ite_false, bd_ite, eq_self, not_true_eq_false, not_false_eq_true, true_or, or_true, or_self, k1_i, k1_j, k1_a, k1_n]
def coL (i : Nat) (o u m q : ip_C) : List ip_C := o :: u :: coO :: zF 5 8 (rg 8 4 i) :: m :: q :: prs i
theorem coL_len {i : Nat} {o u m q : ip_C} : (coL i o u m q).length = 6 + 4 * i := by
  show (prs i).length + 1 + 1 + 1 + 1 + 1 + 1 = _
  rw [prs_len]
  omega
theorem lp_co {o u m q : ip_C} : ∀ (k i w : Nat), i + k = 8 → ip_go (d + 2) mCo_init 41 [some (.ref 4), some (.int (nI i))] [] (ha L xs w (coL i o u m q)) = ip_go (d + 2) mCo_init 41 [some (.ref 4), some (.int (nI 8))] [] (ha L xs (w + 64 * k) (coL 8 o u m q)) := by
  intro k
  induction k with
  | zero =>
    intro i w hi
    have : i = 8 := by omega
    subst this
    rfl
  | succ k ih =>
    intro i w hi
    have g1 : ip_gf (ha L xs w (coL i o u m q)) 0 0 4 = some (.ref 5) := rfl
    have l1 : (ha L xs w (coL i o u m q)).1 = 8 + 4 * i := by rw [ha_1, coL_len]; omega
    have k1 := k_PrI (d := d) (L := L) (xs := xs) (w := w + 4) (P := coL i o u m q)
    rw [coL_len, show 6 + 4 * i + 2 = 8 + 4 * i by omega, show 6 + 4 * i + 3 = 8 + 4 * i + 1 by omega, show 6 + 4 * i + 4 = 8 + 4 * i + 2 by omega, show 6 + 4 * i + 5 = 8 + 4 * i + 3 by omega] at k1
    have eL : coL i o u m q ++ [.inr (3, [.ref (8 + 4 * i + 1), .ref (8 + 4 * i + 2), .ref (8 + 4 * i + 3), .int 0]), zI 20, zJ 20, zI 20] = [o, u, coO] ++ zF 5 8 (rg 8 4 i) :: (m :: q :: prs (i + 1)) := rfl
    have ho : ip_isO (ha L xs (w + 4 + 60) (coL i o u m q ++ [.inr (3, [.ref (8 + 4 * i + 1), .ref (8 + 4 * i + 2), .ref (8 + 4 * i + 3), .int 0]), zI 20, zJ 20, zI 20])) (8 + 4 * i) 3 = true := by
      have := ha_o (L := L) (xs := xs) (w := w + 4 + 60) (P := coL i o u m q) (Q := [zI 20, zJ 20, zI 20]) (ci := 3) (fs := [.ref (8 + 4 * i + 1), .ref (8 + 4 * i + 2), .ref (8 + 4 * i + 3), .int 0])
      rw [coL_len, show 6 + 4 * i + 2 = 8 + 4 * i by omega] at this
      exact this
    have s1 : ip_as (ha L xs (w + 4 + 60) (coL i o u m q ++ [.inr (3, [.ref (8 + 4 * i + 1), .ref (8 + 4 * i + 2), .ref (8 + 4 * i + 3), .int 0]), zI 20, zJ 20, zI 20])) 5 (nI i) (8 + 4 * i) = some (ha L xs (w + 4 + 60) (coL (i + 1) o u m q)) := by
      rw [eL] at ho ⊢
      have := ha_a (L := L) (xs := xs) (w := w + 4 + 60) (P := [o, u, coO]) (Q := m :: q :: prs (i + 1)) (t := 5) (n := 8) (ci := 3) (i := i) (v := 8 + 4 * i) (f := rg 8 4 i) rfl (by omega) (by decide) ho
      rw [rg_u] at this
      exact this
    have z := ih (i + 1) (w + 4 + 60) (by omega)
    rw [show w + 4 + 60 + 64 * k = w + 64 * (k + 1) by omega] at z
    rw [← z, e0_41]
    simp (disch := first | assumption | omega) only [in0, e0_0, e0_1, e0_4, e0_5, e0_7, e0_10, e0_13, e0_14, e0_16, e0_18, e0_21, e0_22, e0_24, e0_26, e0_29, e0_30, e0_31, e0_34, e0_35, e0_36, e0_39, e0_40, e0_42, e0_44, e0_47, e0_48, e0_51, e0_52, e0_55, e0_56, e0_59, e0_60, e0_63, e0_66, e0_67, e0_70, e0_71, e0_74, e0_75, e0_78, e0_79, e0_82, g1, ha_n, l1, k1, s1, ↓reduceIte, ar1, ar2, ar3, ar4, ar5, ar6, ar7, ar8, ar9, in_t, cl_n, ltNN, ltNL, ltLN, leNN, leNL, leLN, eqNN, eqNL, ntLt, nfLt, ntLe, nfLe, ntEq, nfEq, lN_i32, nI_l, ltJNN, ltJNL, leJNN, leJLN, leJNL, ltJLN, n10, Option.bind_some, Option.bind_none, Option.toList_some, Option.toList_none, List.cons_append, List.nil_append, if_true, if_false, ite_true, ite_false, bd_ite, eq_self, not_true_eq_false, not_false_eq_true, true_or, or_true, or_self, k1_i, k1_j, k1_a, k1_n]
theorem lp_hf {n : Nat} {v : Int32} (hn : n < 2 ^ 30) : ∀ (k i : Nat) (f : Nat → Int32), i + k = n → ip_go d mAr_fillI 5 [some (.ref (P.length + 2)), some (.int v), some (.int (nI i)), some (.int (nI n))] [] (ha L xs w (P ++ (.inl (1, n, .inl f)) :: Q)) = some (none, ha L xs w (P ++ (.inl (1, n, .inl (fun j => if i ≤ j ∧ j < n then v else f j))) :: Q)) := by
  intro k
  induction k with
  | zero =>
    intro i f hi
    have : i = n := by omega
    subst this
    have e : (fun j => if i ≤ j ∧ j < i then v else f j) = f := funext fun j => if_neg (by omega)
    have h1 : nI i ≤ nI i := nI_le (Nat.le_refl _) (by omega)
    rw [e, e145_5]
    simp (disch := first | assumption | omega) only [in145, e145_0, e145_1, e145_2, e145_3, e145_4, e145_6, e145_7, e145_10, e145_11, e145_12, e145_13, e145_14, e145_17, e145_20, h1, Option.bind_some, Option.bind_none, Option.toList_some, Option.toList_none, List.cons_append, List.nil_append, if_true, if_false, ite_true, ite_false, bd_ite, eq_self, not_true_eq_false, not_false_eq_true, true_or, or_true, or_self, k1_i, k1_j, k1_a, k1_n]
  | succ k ih =>
    intro i f hi
    have h1 : ¬ nI n ≤ nI i := nI_ge (by omega) (by omega)
    have s1 := ha_i (L := L) (xs := xs) (w := w) (P := P) (Q := Q) (x := v) (f := f) (show i < n by omega) (show n < 2 ^ 31 by omega)
    have z := ih (i + 1) (upd f i v) (by omega)
    have e : (fun j => if i + 1 ≤ j ∧ j < n then v else upd f i v j) = fun j => if i ≤ j ∧ j < n then v else f j := funext fun j => by
      show (if i + 1 ≤ j ∧ j < n then v else if j = i then v else f j) = _
      by_cases h : j = i
      · rw [if_neg (by omega), if_pos h, if_pos (by omega)]
      · rw [if_neg h]
        by_cases h2 : i + 1 ≤ j ∧ j < n
        · rw [if_pos h2, if_pos (by omega)]
        · rw [if_neg h2, if_neg (by omega)]
    rw [e] at z
    rw [← z, e145_5]
    simp (disch := first | assumption | omega) only [in145, e145_0, e145_1, e145_2, e145_3, e145_4, e145_6, e145_7, e145_10, e145_11, e145_12, e145_13, e145_14, e145_17, e145_20, h1, s1, nI_p1, Option.bind_some, Option.bind_none, Option.toList_some, Option.toList_none, List.cons_append, List.nil_append, if_true, if_false, ite_true, ite_false, bd_ite, eq_self, not_true_eq_false, not_false_eq_true, true_or, or_true, or_self, k1_i, k1_j, k1_a, k1_n]
theorem k_hf {n : Nat} {v : Int32} {f : Nat → Int32} (hn : n < 2 ^ 30) : ip_call d mAr_fillI [.ref (P.length + 2), .int v] (ha L xs w (P ++ (.inl (1, n, .inl f)) :: Q)) = some (none, ha L xs w (P ++ (.inl (1, n, .inl (fun j => if 0 ≤ j ∧ j < n then v else f j))) :: Q)) := by
  have l : ip_len (ha L xs w (P ++ (.inl (1, n, .inl f)) :: Q)) (P.length + 2) = some n := by
    unfold ip_len
    rw [ha_g]
  have z := lp_hf (d := d) (L := L) (xs := xs) (w := w) (P := P) (Q := Q) (v := v) hn n 0 f (by omega)
  simp (disch := first | assumption | omega) only [in145, e145_0, e145_1, e145_2, e145_3, e145_4, e145_6, e145_7, e145_10, e145_11, e145_12, e145_13, e145_14, e145_17, e145_20, l, Option.bind_some, Option.bind_none, Option.toList_some, Option.toList_none, List.cons_append, List.nil_append, if_true, if_false, ite_true, ite_false, bd_ite, eq_self, not_true_eq_false, not_false_eq_true, true_or, or_true, or_self, k1_i, k1_j, k1_a, k1_n]
  exact z
def m5 : ip_C := .inl (1, 24, .inl (fun j => if 0 ≤ j ∧ j < 24 then -1 else 0))
def q6 : ip_C := .inl (1, 16, .inl (fun j => if 0 ≤ j ∧ j < 16 then 1 else 0))
theorem k_CoI {o u : ip_C} : ip_call (d + 2) mCo_init [.ref 4] (ha L xs w [o, u, .inr (0, [.null, .null, .null, .int 0, .int 0])]) = some (none, ha L xs (w + 560) (coL 8 o u m5 q6)) := by
  have c1 : ip_call (d + 2) mCo_init [.ref 4] (ha L xs w [o, u, .inr (0, [.null, .null, .null, .int 0, .int 0])]) = ip_go (d + 2) mCo_init 41 [some (.ref 4), some (.int 0)] [] (ha L xs (w + 48) (coL 0 o u (zI 24) (zI 16))) := co_1 (d := d + 1) (P := [o, u])
  have c2 := lp_co (d := d) (L := L) (xs := xs) (o := o) (u := u) (m := zI 24) (q := zI 16) 8 0 (w + 48) (by omega)
  have g1 : ∀ m q, ip_gf (ha L xs (w + 48 + 64 * 8) (coL 8 o u m q)) 0 1 4 = some (.ref 6) := fun _ _ => rfl
  have g2 : ∀ m q, ip_gf (ha L xs (w + 48 + 64 * 8) (coL 8 o u m q)) 0 2 4 = some (.ref 7) := fun _ _ => rfl
  have f1 : ip_call (d + 1) mAr_fillI [.ref 6, .int (-1)] (ha L xs (w + 48 + 64 * 8) (coL 8 o u (zI 24) (zI 16))) = some (none, ha L xs (w + 48 + 64 * 8) (coL 8 o u m5 (zI 16))) := k_hf (P := [o, u, coO, zF 5 8 (rg 8 4 8)]) (Q := zI 16 :: prs 8) (n := 24) (by decide)
  have f2 : ip_call (d + 1) mAr_fillI [.ref 7, .int 1] (ha L xs (w + 48 + 64 * 8) (coL 8 o u m5 (zI 16))) = some (none, ha L xs (w + 48 + 64 * 8) (coL 8 o u m5 q6)) := k_hf (P := [o, u, coO, zF 5 8 (rg 8 4 8), m5]) (Q := prs 8) (n := 16) (by decide)
  refine (c1.trans c2).trans ?_
  rw [show w + 560 = w + 48 + 64 * 8 by omega, e0_41]
  simp (disch := first | assumption | omega) only [in0, e0_0, e0_1, e0_4, e0_5, e0_7, e0_10, e0_13, e0_14, e0_16, e0_18, e0_21, e0_22, e0_24, e0_26, e0_29, e0_30, e0_31, e0_34, e0_35, e0_36, e0_39, e0_40, e0_42, e0_44, e0_47, e0_48, e0_51, e0_52, e0_55, e0_56, e0_59, e0_60, e0_63, e0_66, e0_67, e0_70, e0_71, e0_74, e0_75, e0_78, e0_79, e0_82, ↓reduceIte, ar1, ar2, ar3, ar4, ar5, ar6, ar7, ar8, ar9, in_t, cl_n, ltNN, ltNL, ltLN, leNN, leNL, leLN, eqNN, eqNL, ntLt, nfLt, ntLe, nfLe, ntEq, nfEq, lN_i32, nI_l, ltJNN, ltJNL, leJNN, leJLN, leJNL, ltJLN, n10, g1, g2, f1, f2, Option.bind_some, Option.bind_none, Option.toList_some, Option.toList_none, List.cons_append, List.nil_append, if_true, if_false, ite_true, ite_false, bd_ite, eq_self, not_true_eq_false, not_false_eq_true, true_or, or_true, or_self, k1_i, k1_j, k1_a, k1_n]
end S19
