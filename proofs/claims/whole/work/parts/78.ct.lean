/-! the constructors: heaps by lists of their cells -/
def ha (L : Nat) (xs : Nat → Int32) (w : Nat) (cs : List ip_C) : ip_H := (cs.length + 2, w, fun a => if a = 0 then some (.inl (9, L, .inl xs)) else if a = 1 then some (.inl (9, 16, .inl ip_pp)) else cs[a - 2]?)
def zI (n : Nat) : ip_C := .inl (1, n, .inl (fun _ => 0))
def zJ (n : Nat) : ip_C := .inl (2, n, .inr (.inl (fun _ => 0)))
def zB (t n : Nat) : ip_C := .inl (t, n, .inl (fun _ => 0))
def zF (t n : Nat) (f : Nat → Option Nat) : ip_C := .inl (t, n, .inr (.inr (.inr (.inr f))))
/-- n references from b on; i references from b on, s apart -/
def rf (n b : Nat) : Nat → Option Nat := fun i => if i < n then some (b + i) else none
def rg (b s i : Nat) : Nat → Option Nat := fun j => if j < i then some (b + s * j) else none
section S18
variable {d L w : Nat} {xs : Nat → Int32} {cs P Q : List ip_C}
theorem ha_1 : (ha L xs w cs).1 = cs.length + 2 := rfl
theorem ha_x {hp : ip_H} (h1 : hp.1 = cs.length + 2) (h2 : hp.2.1 = w) (h3 : ∀ a, hp.2.2 (a + 2) = cs[a]?) (h4 : hp.2.2 0 = some (.inl (9, L, .inl xs))) (h5 : hp.2.2 1 = some (.inl (9, 16, .inl ip_pp))) : hp = ha L xs w cs := by
  obtain ⟨x, y, f⟩ := hp
  dsimp only at h1 h2 h3 h4 h5
  subst h1
  subst h2
  have e : f = (ha L xs y cs).2.2 := by
    funext a
    match a with
    | 0 => exact h4
    | 1 => exact h5
    | a + 2 => exact h3 a
  subst e
  rfl
theorem ha_n {k : Nat} {c : ip_C} : ip_new (ha L xs w cs) k c = ha L xs (w + k) (cs ++ [c]) := by
  refine ha_x ?_ rfl (fun a => ?_) rfl rfl
  · show cs.length + 2 + 1 = _
    rw [List.length_append]
    rfl
  · show (if a + 2 = cs.length + 2 then some c else cs[a]?) = _
    by_cases h : a = cs.length
    · rw [if_pos (by omega), h, List.getElem?_append_right (Nat.le_refl _), Nat.sub_self]
      rfl
    · rw [if_neg (by omega)]
      by_cases h2 : a < cs.length
      · rw [List.getElem?_append_left h2]
      · rw [List.getElem?_append_right (by omega), List.getElem?_eq_none (by omega), List.getElem?_eq_none (by show 1 ≤ a - cs.length; omega)]
theorem ha_m {t u n k : Nat} {z : vp_A} : ip_mul (ha L xs w cs) t u n k z = ha L xs (w + n + n * k) (cs ++ (zF t n (rf n (cs.length + 3)) :: List.replicate n (.inl (u, z)))) := by
  refine ha_x ?_ rfl (fun a => ?_) ?_ ?_
  · show cs.length + 2 + 1 + n = _
    rw [List.length_append, List.length_cons, List.length_replicate]
    omega
  · show (if a + 2 = cs.length + 2 then some _ else if cs.length + 2 < a + 2 ∧ a + 2 < cs.length + 2 + 1 + n then some _ else cs[a]?) = _
    by_cases h : a = cs.length
    · rw [if_pos (by omega), h, List.getElem?_append_right (Nat.le_refl _), Nat.sub_self]
      rfl
    · rw [if_neg (by omega)]
      by_cases h2 : a < cs.length
      · rw [List.getElem?_append_left h2, if_neg (by omega)]
      · rw [List.getElem?_append_right (by omega)]
        obtain ⟨b, hb⟩ : ∃ b, a - cs.length = b + 1 := ⟨a - cs.length - 1, by omega⟩
        rw [hb, List.getElem?_cons_succ, List.getElem?_replicate]
        by_cases h3 : b < n
        · rw [if_pos (by omega), if_pos h3]
        · rw [if_neg (by omega), if_neg h3, List.getElem?_eq_none (by omega)]
  · unfold ip_mul
    dsimp only
    rw [if_neg (show ¬ 0 = (ha L xs w cs).1 by show ¬ 0 = cs.length + 2; omega), if_neg (show ¬ ((ha L xs w cs).1 < 0 ∧ 0 < (ha L xs w cs).1 + 1 + n) by omega)]
    rfl
  · unfold ip_mul
    dsimp only
    rw [if_neg (show ¬ 1 = (ha L xs w cs).1 by show ¬ 1 = cs.length + 2; omega), if_neg (show ¬ ((ha L xs w cs).1 < 1 ∧ 1 < (ha L xs w cs).1 + 1 + n) by show ¬ (cs.length + 2 < 1 ∧ 1 < cs.length + 2 + 1 + n); omega)]
    rfl
theorem ha_g {c : ip_C} : (ha L xs w (P ++ c :: Q)).2.2 (P.length + 2) = some c := by
  show (P ++ c :: Q)[P.length]? = _
  rw [List.getElem?_append_right (Nat.le_refl _), Nat.sub_self]
  rfl
theorem ha_s {c c' : ip_C} : ip_set (ha L xs w (P ++ c :: Q)) (P.length + 2) c' = ha L xs w (P ++ c' :: Q) := by
  refine ha_x ?_ rfl (fun a => ?_) rfl rfl
  · show (P ++ c :: Q).length + 2 = _
    rw [List.length_append, List.length_append]
    rfl
  · show (if a + 2 = P.length + 2 then some c' else (P ++ c :: Q)[a]?) = _
    by_cases h : a = P.length
    · rw [if_pos (by omega), h, List.getElem?_append_right (Nat.le_refl _), Nat.sub_self]
      rfl
    · rw [if_neg (by omega)]
      by_cases h2 : a < P.length
      · rw [List.getElem?_append_left h2, List.getElem?_append_left h2]
      · rw [List.getElem?_append_right (by omega), List.getElem?_append_right (by omega)]
        obtain ⟨b, hb⟩ : ∃ b, a - P.length = b + 1 := ⟨a - P.length - 1, by omega⟩
        rw [hb, List.getElem?_cons_succ, List.getElem?_cons_succ]
theorem ha_p {ci k : Nat} {fs : List Value} {v : Value} : ip_pf (ha L xs w (P ++ Sum.inr (ci, fs) :: Q)) ci k (P.length + 2) v = if k < fs.length then some (ha L xs w (P ++ Sum.inr (ci, fs.set k v) :: Q)) else none := by
  unfold ip_pf
  rw [ha_g]
  show (if ci = ci ∧ k < fs.length then some (ip_set _ _ _) else none) = _
  rw [ha_s]
  by_cases hk : k < fs.length
  · rw [if_pos ⟨rfl, hk⟩, if_pos hk]
  · rw [if_neg (fun z => hk z.2), if_neg hk]
theorem ha_f {ci k : Nat} {fs : List Value} : ip_gf (ha L xs w (P ++ Sum.inr (ci, fs) :: Q)) ci k (P.length + 2) = fs[k]? := by
  unfold ip_gf
  rw [ha_g]
  exact if_pos rfl
theorem ha_o {ci : Nat} {fs : List Value} : ip_isO (ha L xs w (P ++ Sum.inr (ci, fs) :: Q)) (P.length + 2) ci = true := by
  unfold ip_isO
  rw [ha_g]
  exact beq_self_eq_true ci
theorem ha_a {t n ci i v : Nat} {f : Nat → Option Nat} (ht : ip_te t = some ci) (hi : i < n) (hn : n < 2 ^ 31) (ho : ip_isO (ha L xs w (P ++ zF t n f :: Q)) v ci = true) : ip_as (ha L xs w (P ++ zF t n f :: Q)) (P.length + 2) (nI i) v = some (ha L xs w (P ++ zF t n (va_up f i (some v)) :: Q)) := by
  unfold ip_as
  rw [ha_g]
  show (if ip_in (nI i) n = true then (match ip_te t with
    | some ci => if ip_isO _ v ci = true then some (ip_set _ _ _) else none
    | none => none) else none) = _
  rw [if_pos (in_t hi hn), ht]
  show (if ip_isO _ v ci = true then some (ip_set _ _ _) else none) = _
  rw [if_pos ho, cl_n (by omega)]
  exact congrArg some ha_s
theorem ha_i {n i : Nat} {x : Int32} {f : Nat → Int32} (hi : i < n) (hn : n < 2 ^ 31) : ip_is (ha L xs w (P ++ (.inl (1, n, .inl f)) :: Q)) (P.length + 2) (nI i) x = some (ha L xs w (P ++ (.inl (1, n, .inl (upd f i x))) :: Q)) := by
  unfold ip_is
  rw [ha_g]
  show (if 1 = 1 ∧ ip_in (nI i) n = true then some (ip_set _ _ _) else none) = _
  rw [if_pos ⟨rfl, in_t hi hn⟩, cl_n (by omega)]
  exact congrArg some ha_s
theorem rg_u {b s i : Nat} : va_up (rg b s i) i (some (b + s * i)) = rg b s (i + 1) := by
  funext j
  show (if j = i then some (b + s * i) else if j < i then some (b + s * j) else none) = if j < i + 1 then some (b + s * j) else none
  by_cases h : j = i
  · rw [if_pos h, if_pos (by omega), h]
  · rw [if_neg h]
    by_cases h2 : j < i
    · rw [if_pos h2, if_pos (by omega)]
    · rw [if_neg h2, if_neg (by omega)]
/-- Program, Touches, Tells, Frame, Line -/
theorem k_PrI : ip_call (d + 1) mPr_init [.ref (P.length + 2)] (ha L xs w (P ++ [.inr (3, [.null, .null, .null, .int 0])])) = some (none, ha L xs (w + 60) (P ++ [.inr (3, [.ref (P.length + 3), .ref (P.length + 4), .ref (P.length + 5), .int 0]), zI 20, zJ 20, zI 20])) := by
  simp (disch := first | assumption | omega | exact Nat.le_of_ble_eq_true rfl) only [in17, e17_0, e17_1, e17_4, e17_5, e17_7, e17_9, e17_12, e17_13, e17_15, e17_17, e17_20, e17_21, e17_23, e17_25, e17_28, e17_29, e17_30, e17_33, ha_n, ha_m, ha_1, ha_p, List.append_assoc, List.cons_append, List.nil_append, List.length_append, List.length_cons, List.length_nil, List.length_replicate, Nat.zero_add, Nat.reduceAdd, Nat.reduceMul, Nat.add_assoc, List.set_cons_zero, List.set_cons_succ, ntLt, ↓reduceIte, zI, zJ, Option.bind_some, Option.bind_none, Option.toList_some, Option.toList_none, List.cons_append, List.nil_append, if_true, if_false, ite_true, ite_false, bd_ite, eq_self, not_true_eq_false, not_false_eq_true, true_or, or_true, or_self, k1_i, k1_j, k1_a, k1_n]
theorem k_ToI : ip_call (d + 1) mTo_init [.ref (P.length + 2)] (ha L xs w (P ++ [.inr (5, [.null, .null, .null, .int 0])])) = some (none, ha L xs (w + 144) (P ++ [.inr (5, [.ref (P.length + 3), .ref (P.length + 4), .ref (P.length + 5), .int 0]), zI 48, zI 48, zI 48])) := by
  simp (disch := first | assumption | omega | exact Nat.le_of_ble_eq_true rfl) only [in22, e22_0, e22_1, e22_4, e22_5, e22_7, e22_9, e22_12, e22_13, e22_15, e22_17, e22_20, e22_21, e22_23, e22_25, e22_28, e22_29, e22_30, e22_33, ha_n, ha_m, ha_1, ha_p, List.append_assoc, List.cons_append, List.nil_append, List.length_append, List.length_cons, List.length_nil, List.length_replicate, Nat.zero_add, Nat.reduceAdd, Nat.reduceMul, Nat.add_assoc, List.set_cons_zero, List.set_cons_succ, ntLt, ↓reduceIte, zI, zJ, Option.bind_some, Option.bind_none, Option.toList_some, Option.toList_none, List.cons_append, List.nil_append, if_true, if_false, ite_true, ite_false, bd_ite, eq_self, not_true_eq_false, not_false_eq_true, true_or, or_true, or_self, k1_i, k1_j, k1_a, k1_n]
theorem k_TeI : ip_call (d + 1) mTe_init [.ref (P.length + 2)] (ha L xs w (P ++ [.inr (4, [.null, .null, .null, .int 0])])) = some (none, ha L xs (w + 120) (P ++ [.inr (4, [.ref (P.length + 3), .ref (P.length + 4), .ref (P.length + 5), .int 0]), zI 40, zJ 40, zJ 40])) := by
  simp (disch := first | assumption | omega | exact Nat.le_of_ble_eq_true rfl) only [in19, e19_0, e19_1, e19_4, e19_5, e19_7, e19_9, e19_12, e19_13, e19_15, e19_17, e19_20, e19_21, e19_23, e19_25, e19_28, e19_29, e19_30, e19_33, ha_n, ha_m, ha_1, ha_p, List.append_assoc, List.cons_append, List.nil_append, List.length_append, List.length_cons, List.length_nil, List.length_replicate, Nat.zero_add, Nat.reduceAdd, Nat.reduceMul, Nat.add_assoc, List.set_cons_zero, List.set_cons_succ, ntLt, ↓reduceIte, zI, zJ, Option.bind_some, Option.bind_none, Option.toList_some, Option.toList_none, List.cons_append, List.nil_append, if_true, if_false, ite_true, ite_false, bd_ite, eq_self, not_true_eq_false, not_false_eq_true, true_or, or_true, or_self, k1_i, k1_j, k1_a, k1_n]
theorem k_FrI : ip_call (d + 1) mFr_init [.ref (P.length + 2)] (ha L xs w (P ++ [.inr (1, [.null, .int 0, .int 0, .int 0, .int 0, .long 0, .int 0, .long 0])])) = some (none, ha L xs (w + 12) (P ++ [.inr (1, [.ref (P.length + 3), .int 0, .int 0, .int 0, .int (-1), .long 0, .int 0, .long 0]), zJ 12])) := by
  simp (disch := first | assumption | omega | exact Nat.le_of_ble_eq_true rfl) only [in4, e4_0, e4_1, e4_4, e4_5, e4_7, e4_9, e4_12, e4_13, e4_14, e4_17, e4_18, e4_19, e4_22, e4_23, e4_24, e4_27, e4_28, e4_29, e4_32, e4_33, e4_34, e4_37, e4_38, e4_39, e4_42, e4_43, e4_44, e4_47, ha_n, ha_m, ha_1, ha_p, List.append_assoc, List.cons_append, List.nil_append, List.length_append, List.length_cons, List.length_nil, List.length_replicate, Nat.zero_add, Nat.reduceAdd, Nat.reduceMul, Nat.add_assoc, List.set_cons_zero, List.set_cons_succ, ntLt, ↓reduceIte, zI, zJ, Option.bind_some, Option.bind_none, Option.toList_some, Option.toList_none, List.cons_append, List.nil_append, if_true, if_false, ite_true, ite_false, bd_ite, eq_self, not_true_eq_false, not_false_eq_true, true_or, or_true, or_self, k1_i, k1_j, k1_a, k1_n]
theorem k_LiI : ip_call (d + 1) mLi_init [.ref (P.length + 2)] (ha L xs w (P ++ [.inr (2, [.null, .null, .int 0])])) = some (none, ha L xs (w + 83) (P ++ [.inr (2, [.ref (P.length + 3), .ref (P.length + 4), .int 0]), zB 0 64, zI 19])) := by
  simp (disch := first | assumption | omega | exact Nat.le_of_ble_eq_true rfl) only [in13, e13_0, e13_1, e13_4, e13_5, e13_7, e13_9, e13_12, e13_13, e13_15, e13_17, e13_20, e13_21, e13_22, e13_25, ha_n, ha_m, ha_1, ha_p, List.append_assoc, List.cons_append, List.nil_append, List.length_append, List.length_cons, List.length_nil, List.length_replicate, Nat.zero_add, Nat.reduceAdd, Nat.reduceMul, Nat.add_assoc, List.set_cons_zero, List.set_cons_succ, ntLt, ↓reduceIte, zI, zJ, zB, Option.bind_some, Option.bind_none, Option.toList_some, Option.toList_none, List.cons_append, List.nil_append, if_true, if_false, ite_true, ite_false, bd_ite, eq_self, not_true_eq_false, not_false_eq_true, true_or, or_true, or_self, k1_i, k1_j, k1_a, k1_n]
end S18
