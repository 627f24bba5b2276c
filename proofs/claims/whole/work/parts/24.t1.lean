/-! numbers; contracts of the smallest methods -/
theorem bd_ite {α β : Type} {p : Prop} [Decidable p] {a : α} {f : α → Option β} : (if p then some a else none).bind f = if p then f a else none := by
  by_cases h : p
  · rw [if_pos h, if_pos h]; rfl
  · rw [if_neg h, if_neg h]; rfl
theorem cm_lt {x y : Int64} : lg_cmp x y < 0 ↔ x < y := by
  unfold lg_cmp
  by_cases h1 : x > y
  · rw [if_pos h1]
    exact ⟨fun h => absurd h (by decide), fun h => by rw [gt_iff_lt, Int64.lt_iff_toInt_lt] at h1; rw [Int64.lt_iff_toInt_lt] at h; omega⟩
  · rw [if_neg h1]
    by_cases h2 : x = y
    · rw [if_pos h2]
      subst h2
      exact ⟨fun h => absurd h (by decide), fun h => by rw [Int64.lt_iff_toInt_lt] at h; omega⟩
    · rw [if_neg h2]
      refine ⟨fun _ => ?_, fun _ => by decide⟩
      rw [gt_iff_lt, Int64.lt_iff_toInt_lt] at h1
      rw [Int64.lt_iff_toInt_lt]
      have h3 : x.toInt ≠ y.toInt := fun e => h2 (Int64.toInt_inj.mp e)
      omega
theorem cm_gt {x y : Int64} : 0 < lg_cmp x y ↔ y < x := by
  unfold lg_cmp
  by_cases h1 : x > y
  · rw [if_pos h1]
    exact ⟨fun _ => h1, fun _ => by decide⟩
  · rw [if_neg h1]
    refine ⟨fun h => ?_, fun h => absurd h h1⟩
    by_cases h2 : x = y
    · rw [if_pos h2] at h; exact absurd h (by decide)
    · rw [if_neg h2] at h; exact absurd h (by decide)
theorem i32n {x y : Int32} : ¬ x < y ↔ y ≤ x := by rw [Int32.lt_iff_toInt_lt, Int32.le_iff_toInt_le]; omega
theorem i64n {x y : Int64} : ¬ x < y ↔ y ≤ x := by rw [Int64.lt_iff_toInt_lt, Int64.le_iff_toInt_le]; omega
theorem cm_ge {x y : Int64} : 0 ≤ lg_cmp x y ↔ y ≤ x := by rw [← i32n, cm_lt, i64n]
theorem cm_le {x y : Int64} : lg_cmp x y ≤ 0 ↔ x ≤ y := by rw [← i32n, cm_gt, i64n]
theorem cm_eqz {x y : Int64} : lg_cmp x y = 0 ↔ x = y := by
  unfold lg_cmp
  by_cases h1 : x > y
  · rw [if_pos h1]
    exact ⟨fun h => absurd h (by decide), fun h => by subst h; rw [gt_iff_lt, Int64.lt_iff_toInt_lt] at h1; omega⟩
  · rw [if_neg h1]
    by_cases h2 : x = y
    · rw [if_pos h2]; exact ⟨fun _ => h2, fun _ => rfl⟩
    · rw [if_neg h2]; exact ⟨fun h => absurd h (by decide), fun h => absurd h h2⟩
/-- an int, a long from 0 on, below n -/
def wi (x : Int32) (n : Nat) : Prop := ∃ j : Nat, j < n ∧ x = nI j
def wj (x : Int64) (n : Nat) : Prop := ∃ j : Nat, j < n ∧ x = lN j
theorem wj_iff {x : Int64} {n : Nat} (hn : n < 2 ^ 31) : wj x n ↔ 0 ≤ x.toInt ∧ x.toInt < n := by
  constructor
  · rintro ⟨j, hj, rfl⟩
    rw [lN_toInt (by omega)]
    omega
  · rintro ⟨h1, h2⟩
    refine ⟨x.toInt.toNat, by omega, ?_⟩
    apply Int64.toInt_inj.mp
    rw [lN_toInt (by omega)]
    omega
theorem wi_iff {x : Int32} {n : Nat} (hn : n < 2 ^ 31) : wi x n ↔ 0 ≤ x.toInt ∧ x.toInt < n := by
  constructor
  · rintro ⟨j, hj, rfl⟩
    rw [nI_toInt (by omega)]
    omega
  · rintro ⟨h1, h2⟩
    refine ⟨x.toInt.toNat, by omega, ?_⟩
    apply Int32.toInt_inj.mp
    rw [nI_toInt (by omega)]
    omega
theorem wj_i {x : Int32} {n : Nat} (hn : n < 2 ^ 31) : wj x.toInt64 n ↔ wi x n := by
  rw [wj_iff hn, wi_iff hn, Int32.toInt_toInt64]
theorem in_nI {k n : Nat} (hn : n < 2 ^ 31) (hk : k < 2 ^ 31) : ip_in (nI k) n = decide (k < n) := by
  unfold ip_in
  apply decide_eq_decide.mpr
  rw [nI_clamp hk]
  have h0 := nI_pos hk
  constructor
  · intro h
    exact Nat.not_le.mp fun z => h (Or.inr z)
  · intro h z
    rcases z with z | z
    · exact h0 z
    · omega
theorem in_t {k n : Nat} (h : k < n) (hn : n < 2 ^ 31) : ip_in (nI k) n = true := by rw [in_nI hn (by omega)]; exact decide_eq_true h
theorem cl_n {k : Nat} (h : k < 2 ^ 31) : (nI k).toNatClampNeg = k := nI_clamp h
/-- a truth as an int -/
noncomputable def bZ (p : Prop) : Int32 := @ite Int32 p (Classical.propDecidable p) 1 0
theorem bZ_t {p : Prop} (h : p) : bZ p = 1 := by unfold bZ; exact if_pos h
theorem bZ_f {p : Prop} (h : ¬ p) : bZ p = 0 := by unfold bZ; exact if_neg h
theorem bZ_01 {p : Prop} : bZ p = 0 ∨ bZ p = 1 := by
  by_cases h : p
  · exact Or.inr (bZ_t h)
  · exact Or.inl (bZ_f h)
theorem bZ_0 {p : Prop} : bZ p = 0 ↔ ¬ p := ⟨fun h hp => by rw [bZ_t hp] at h; exact absurd h (by decide), bZ_f⟩
theorem bZ_c {p q : Prop} (h : p ↔ q) : bZ p = bZ q := by rw [propext h]
theorem n10 : ((1 : Int32) = 0) = False := by simp
section T1
variable {d L : Nat} {xs : Nat → Int32} {M : ip_Mm} {a : Nat}
theorem k_isWithin {hp : ip_H} {x : Int64} {n : Nat} {b : Int32} (hb : b = nI n) (hn : n < 2 ^ 31) : ip_call d mC_isWithin [.long x, .int b] hp = some (some (.int (bZ (wj x n))), hp) := by
  simp only [in86, e86_0, e86_1, e86_2, e86_3, e86_6, e86_7, e86_8, e86_9, e86_10, e86_13, e86_14, e86_17, e86_18, cm_lt, cm_ge, Option.bind_some, Option.bind_none, Option.toList_some, Option.toList_none, List.cons_append, List.nil_append, if_true, if_false, ite_true, ite_false, bd_ite, eq_self, not_true_eq_false, not_false_eq_true, true_or, or_true, or_self, k1_i, k1_j, k1_a, k1_n]
  have hz : (0 : Int64).toInt = 0 := by decide
  have hbn : b.toInt64.toInt = n := by rw [hb, Int32.toInt_toInt64, nI_toInt hn]
  by_cases h : wj x n
  · have h9 := (wj_iff hn).mp h
    rw [if_neg (by rw [Int64.lt_iff_toInt_lt, hz]; omega), if_neg (by rw [Int64.le_iff_toInt_le, hbn]; omega), bZ_t h]
  · rw [bZ_f h]
    have h9 : ¬ (0 ≤ x.toInt ∧ x.toInt < n) := fun z => h ((wj_iff hn).mpr z)
    by_cases h1 : x < 0
    · rw [if_pos h1]
    · rw [if_neg h1, if_pos (by rw [Int64.lt_iff_toInt_lt, hz] at h1; rw [Int64.le_iff_toInt_le, hbn]; omega)]
theorem k_in {hp : ip_H} {v lo hi : Int64} : ip_call d mR_in [.long v, .long lo, .long hi] hp = some (some (.int (bZ (lo ≤ v ∧ v ≤ hi))), hp) := by
  simp only [in90, e90_0, e90_1, e90_2, e90_3, e90_6, e90_7, e90_9, e90_10, e90_13, e90_14, e90_17, e90_18, cm_lt, cm_gt, Option.bind_some, Option.bind_none, Option.toList_some, Option.toList_none, List.cons_append, List.nil_append, if_true, if_false, ite_true, ite_false, bd_ite, eq_self, not_true_eq_false, not_false_eq_true, true_or, or_true, or_self, k1_i, k1_j, k1_a, k1_n]
  by_cases h1 : v < lo
  · rw [if_pos h1, bZ_f (fun z => i64n.mpr z.1 h1)]
  · rw [if_neg h1]
    by_cases h2 : hi < v
    · rw [if_pos h2, bZ_f (fun z => i64n.mpr z.2 h2)]
    · rw [if_neg h2, bZ_t ⟨i64n.mp h1, i64n.mp h2⟩]
/-- in(v, 0, n - 1) -/
theorem in0w {v hi : Int64} {n : Nat} (hn : n < 2 ^ 31) (h : hi.toInt = (n : Int) - 1) : (0 ≤ v ∧ v ≤ hi) ↔ wj v n := by
  have hz : (0 : Int64).toInt = 0 := by decide
  rw [wj_iff hn, Int64.le_iff_toInt_le, Int64.le_iff_toInt_le, hz, h]
  omega
theorem pr_1 {n : Nat} (hn : n < 2 ^ 30) : ((nI n - 1).toInt64).toInt = (n : Int) - 1 := by
  rw [Int32.toInt_toInt64, show (1 : Int32) = nI 1 from rfl, pk_sub_toInt hn (by decide)]
  rfl
theorem k_isAccount {x : Int64} {n : Nat} (hA : M.1 256 5 = nI n) (hn : n < 2 ^ 30) : ip_call (d + 1) mR_isAccount [.ref 256, .long x] (ip_hm L xs M) = some (some (.int (bZ (wj x n))), ip_hm L xs M) := by
  simp only [in91, e91_0, e91_1, e91_2, e91_3, e91_6, e91_7, e91_8, e91_9, e91_12, c256_g5, hA, k_in, Option.bind_some, Option.bind_none, Option.toList_some, Option.toList_none, List.cons_append, List.nil_append, if_true, if_false, ite_true, ite_false, bd_ite, eq_self, not_true_eq_false, not_false_eq_true, true_or, or_true, or_self, k1_i, k1_j, k1_a, k1_n, bZ_01]
  rw [bZ_c (in0w (by omega) (pr_1 hn))]
theorem k_isTrace {x : Int32} {n : Nat} (hA : M.1 256 10 = nI n) (hn : n < 2 ^ 30) : ip_call (d + 1) mR_isTrace [.ref 256, .int x] (ip_hm L xs M) = some (some (.int (bZ (wi x n))), ip_hm L xs M) := by
  simp only [in92, e92_0, e92_1, e92_2, e92_3, e92_4, e92_7, e92_8, e92_9, e92_10, e92_13, c256_g10, hA, k_in, Option.bind_some, Option.bind_none, Option.toList_some, Option.toList_none, List.cons_append, List.nil_append, if_true, if_false, ite_true, ite_false, bd_ite, eq_self, not_true_eq_false, not_false_eq_true, true_or, or_true, or_self, k1_i, k1_j, k1_a, k1_n, bZ_01]
  rw [bZ_c ((in0w (by omega) (pr_1 hn)).trans (wj_i (by omega)))]
theorem k_hasProgram {x : Int32} {n : Nat} (hA : M.1 3 3 = nI n) (hn : n < 2 ^ 30) : ip_call (d + 1) mCo_hasProgram [.ref 3, .int x] (ip_hm L xs M) = some (some (.int (bZ (wi x n))), ip_hm L xs M) := by
  simp only [in1, e1_0, e1_1, e1_2, e1_3, e1_6, e1_9, c3_g3, hA, Option.bind_some, Option.bind_none, Option.toList_some, Option.toList_none, List.cons_append, List.nil_append, if_true, if_false, ite_true, ite_false, bd_ite, eq_self, not_true_eq_false, not_false_eq_true, true_or, or_true, or_self, k1_i, k1_j, k1_a, k1_n]
  rw [k_isWithin rfl (by omega)]
  simp only [in1, e1_0, e1_1, e1_2, e1_3, e1_6, e1_9, Option.bind_some, Option.bind_none, Option.toList_some, Option.toList_none, List.cons_append, List.nil_append, if_true, if_false, ite_true, ite_false, bd_ite, eq_self, not_true_eq_false, not_false_eq_true, true_or, or_true, or_self, k1_i, k1_j, k1_a, k1_n, bZ_01]
  rw [bZ_c (wj_i (by omega))]
theorem k_hasAccount {x : Int64} {n : Nat} (hA : M.1 3 4 = nI n) (hn : n < 2 ^ 30) : ip_call d mCo_hasAccount [.ref 3, .long x] (ip_hm L xs M) = some (some (.int (bZ (wj x n))), ip_hm L xs M) := by
  simp only [in2, e2_0, e2_1, e2_2, e2_3, e2_6, e2_7, e2_8, e2_11, e2_12, e2_13, e2_16, e2_17, e2_20, e2_21, c3_g4, hA, cm_lt, cm_ge, Option.bind_some, Option.bind_none, Option.toList_some, Option.toList_none, List.cons_append, List.nil_append, if_true, if_false, ite_true, ite_false, bd_ite, eq_self, not_true_eq_false, not_false_eq_true, true_or, or_true, or_self, k1_i, k1_j, k1_a, k1_n]
  have hz : (0 : Int64).toInt = 0 := by decide
  have hbn : (nI n).toInt64.toInt = n := by rw [Int32.toInt_toInt64, nI_toInt (by omega)]
  by_cases h : wj x n
  · have h9 := (wj_iff (by omega)).mp h
    rw [if_neg (by rw [Int64.lt_iff_toInt_lt, hz]; omega), if_neg (by rw [Int64.le_iff_toInt_le, hbn]; omega), bZ_t h]
  · rw [bZ_f h]
    have h9 : ¬ (0 ≤ x.toInt ∧ x.toInt < n) := fun z => h ((wj_iff (by omega)).mpr z)
    by_cases h1 : x < 0
    · rw [if_pos h1]
    · rw [if_neg h1, if_pos (by rw [Int64.lt_iff_toInt_lt, hz] at h1; rw [Int64.le_iff_toInt_le, hbn]; omega)]
theorem k_isKept {x : Int32} {n : Nat} (hA : M.1 2 5 = nI n) (hn : n < 2 ^ 30) : ip_call (d + 1) mC_isKept [.ref 2, .int x] (ip_hm L xs M) = some (some (.int (bZ (wi x n))), ip_hm L xs M) := by
  simp only [in82, e82_0, e82_1, e82_2, e82_3, e82_6, e82_9, c2_g5, hA, Option.bind_some, Option.bind_none, Option.toList_some, Option.toList_none, List.cons_append, List.nil_append, if_true, if_false, ite_true, ite_false, bd_ite, eq_self, not_true_eq_false, not_false_eq_true, true_or, or_true, or_self, k1_i, k1_j, k1_a, k1_n]
  rw [k_isWithin rfl (by omega)]
  simp only [in82, e82_0, e82_1, e82_2, e82_3, e82_6, e82_9, Option.bind_some, Option.bind_none, Option.toList_some, Option.toList_none, List.cons_append, List.nil_append, if_true, if_false, ite_true, ite_false, bd_ite, eq_self, not_true_eq_false, not_false_eq_true, true_or, or_true, or_self, k1_i, k1_j, k1_a, k1_n, bZ_01]
  rw [bZ_c (wj_i (by omega))]
theorem k_cellPlace {hp : ip_H} {x y : Int32} : ip_call d mC_cellPlace [.int x, .int y] hp = some (some (.int (x * 9 + y)), hp) := by
  simp only [in87, e87_0, e87_1, e87_3, e87_4, e87_5, e87_6]
theorem k_balancePlace {hp : ip_H} {x : Int32} : ip_call d mC_balancePlace [.int x] hp = some (some (.int (x * 9 + 8)), hp) := by
  simp only [in88, e88_0, e88_1, e88_3, e88_4, e88_6, e88_7]
def dg (h v : Int64) : Int64 := ((h ^^^ v) * (-7046029254386353131)) ^^^ ((((h ^^^ v) * (-7046029254386353131)).toUInt64 >>> ((29 : Int32).toInt64.toUInt64 &&& Int64.toUInt64 63)).toInt64)
theorem k_digestWith {hp : ip_H} {x y : Int64} : ip_call d mC_digestWith [.long x, .long y] hp = some (some (.long (dg x y)), hp) := by
  simp only [in85, e85_0, e85_1, e85_2, e85_3, e85_6, e85_7, e85_9, e85_11, e85_13, e85_15, e85_16, e85_17, dg]
theorem k_mixed {hp : ip_H} {x y : Int64} : ip_call d mR_mixed [.long x, .long y] hp = some (some (.long (dg x y)), hp) := by
  simp only [in131, e131_0, e131_1, e131_2, e131_3, e131_6, e131_7, e131_9, e131_11, e131_13, e131_15, e131_16, e131_17, dg]
end T1
