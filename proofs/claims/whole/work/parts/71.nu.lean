/-! numbers in words -/
/-- how many figures A has, from the k-th on -/
def dn (A : Nat) : Nat → Nat → Nat
  | 0, k => k
  | j + 1, k => if A / 10 ^ (k + 1) = 0 then k + 1 else dn A j (k + 1)
/-- the last k figures, the greatest first -/
def dW (A : Nat) : Nat → List Nat
  | 0 => []
  | k + 1 => (48 + A / 10 ^ k % 10) :: dW A k
def nW (v : Int64) : List Nat := (if v < 0 then [45] else []) ++ dW v.toInt.natAbs (dn v.toInt.natAbs 19 0)
theorem dn_le {A : Nat} : ∀ (j k : Nat), dn A j k ≤ k + j := by
  intro j
  induction j with
  | zero => intro k; exact Nat.le_refl _
  | succ j ih =>
    intro k
    show (if A / 10 ^ (k + 1) = 0 then k + 1 else dn A j (k + 1)) ≤ k + (j + 1)
    split
    · omega
    · have := ih (k + 1); omega
theorem dn_le2 {A : Nat} (h : A < 100) : dn A 19 0 ≤ 2 := by
  show (if A / 10 ^ (0 + 1) = 0 then 0 + 1 else (if A / 10 ^ (0 + 1 + 1) = 0 then 0 + 1 + 1 else dn A 17 (0 + 1 + 1))) ≤ 2
  by_cases h1 : A / 10 ^ (0 + 1) = 0
  · rw [if_pos h1]; omega
  · rw [if_neg h1, if_pos (by show A / 100 = 0; omega)]; omega
theorem dW_len {A : Nat} : ∀ k : Nat, (dW A k).length = k := by
  intro k
  induction k with
  | zero => rfl
  | succ k ih => show (dW A k).length + 1 = k + 1; rw [ih]
theorem nW_len {v : Int64} : (nW v).length ≤ 20 := by
  unfold nW
  rw [List.length_append, dW_len]
  have := dn_le (A := v.toInt.natAbs) 19 0
  split
  · show 1 + _ ≤ 20; omega
  · show 0 + _ ≤ 20; omega
theorem nW_len2 {b : Nat} (h : b < 100) : (nW (lN b)).length ≤ 2 := by
  unfold nW
  rw [List.length_append, dW_len, lN_toInt (by omega)]
  have := dn_le2 (A := (b : Int).natAbs) (by omega)
  have z0 : (0 : Int64).toInt = 0 := by decide
  have zn : ¬ lN b < 0 := by
    rw [Int64.lt_iff_toInt_lt, lN_toInt (by omega), z0]
    omega
  rw [if_neg zn]
  show 0 + _ ≤ 2
  omega
theorem q10 {x : Int64} {B : Nat} (h : x.toInt = -(B : Int)) (hB : B ≤ 2 ^ 63) : (x / 10).toInt = -((B / 10 : Nat) : Int) ∧ x - x / 10 * 10 = -(lN (B % 10)) := by
  have t10 : (10 : Int64).toInt = 10 := by decide
  have h1 : (x / 10).toInt = -((B / 10 : Nat) : Int) := by
    rw [Int64.toInt_div, h, t10, Int.neg_tdiv, Int.tdiv_eq_ediv_of_nonneg (by omega)]
    rw [Int.bmod_eq_of_le (by omega) (by omega)]
    omega
  refine ⟨h1, ?_⟩
  apply Int64.toInt_inj.mp
  have h2 : (x / 10 * 10).toInt = -((B / 10 * 10 : Nat) : Int) := by
    rw [Int64.toInt_mul, h1, t10, Int.bmod_eq_of_le (by omega) (by omega)]
    omega
  rw [Int64.toInt_sub, h, h2, Int64.toInt_neg, lN_toInt (by omega), Int.bmod_eq_of_le (by omega) (by omega), Int.bmod_eq_of_le (by omega) (by omega)]
  omega
theorem p10 {x : Int64} {B : Nat} (h : x.toInt = (B : Int)) (hB : B < 2 ^ 63) : (x / 10).toInt = ((B / 10 : Nat) : Int) ∧ x - x / 10 * 10 = lN (B % 10) := by
  have e : x = lN B := Int64.toInt_inj.mp (by rw [h, pk_lT hB])
  subst e
  have h10 : (10 : Int64) = lN 10 := rfl
  rw [h10, pk_lDiv hB (by decide) (by decide), pk_lT (by omega)]
  refine ⟨rfl, ?_⟩
  have := pk_lRem (a := B) (b := 10) hB (by decide) (by decide)
  rw [pk_lDiv hB (by decide) (by decide)] at this
  exact this
/-- a figure, class: 48 less a rest from -9 to 0 -/
theorem fgC {m : Nat} (h : m < 10) : (48 : Int32) - (-(lN m)).toInt32 = nI (48 + m) := by
  rcases (show m = 0 ∨ m = 1 ∨ m = 2 ∨ m = 3 ∨ m = 4 ∨ m = 5 ∨ m = 6 ∨ m = 7 ∨ m = 8 ∨ m = 9 by omega) with rfl | rfl | rfl | rfl | rfl | rfl | rfl | rfl | rfl | rfl <;> decide
theorem fgN {m : Nat} (h : m < 10) : (if 0 ≤ (-(lN m)).toInt32 then (-(lN m)).toInt32 else -(-(lN m)).toInt32) = nI m := by
  rcases (show m = 0 ∨ m = 1 ∨ m = 2 ∨ m = 3 ∨ m = 4 ∨ m = 5 ∨ m = 6 ∨ m = 7 ∨ m = 8 ∨ m = 9 by omega) with rfl | rfl | rfl | rfl | rfl | rfl | rfl | rfl | rfl | rfl <;> decide
theorem by8 {c : Nat} (h : c < 128) : vp_nar .byte (nI c).toInt8.toInt32 = nI c := by
  rw [pk_vb]
  apply Int32.toInt_inj.mp
  rw [nI_toInt (by omega), Int8.toInt_toInt32]
  have e : (nI c).toInt8.toInt = (nI c).toInt.bmod (2 ^ 8) := Int32.toInt_toInt8 _
  rw [e, nI_toInt (by omega), Int.bmod_eq_of_le (by omega) (by omega)]
/-- a line grows, class and reference -/
def cS (M : ip_Mm) (n c : Nat) : ip_Mm := uI (uI M 86 n (nI c)) 85 2 (nI (n + 1))
def rS (M : ip_Mm) (n c : Nat) : ip_Mm := uI (uI M 307 n (nI c)) 256 67 (nI (n + 1))
def wC (M M1 : ip_Mm) (n : Nat) (w : List Nat) : Prop := (∀ c j, ¬ (c = 86 ∨ c = 87 ∨ (c = 85 ∧ j = 2)) → M1.1 c j = M.1 c j) ∧ M1.2 = M.2 ∧ M1.1 85 2 = nI (n + w.length) ∧ (∀ i, i < n → M1.1 86 i = M.1 86 i) ∧ ∀ i v, w[i]? = some v → M1.1 86 (n + i) = nI v
def wR (M M1 : ip_Mm) (n : Nat) (w : List Nat) : Prop := (∀ c j, ¬ (c = 307 ∨ c = 308 ∨ (c = 256 ∧ j = 67)) → M1.1 c j = M.1 c j) ∧ M1.2 = M.2 ∧ M1.1 256 67 = nI (n + w.length) ∧ (∀ i, i < n → M1.1 307 i = M.1 307 i) ∧ ∀ i v, w[i]? = some v → M1.1 307 (n + i) = nI v
theorem wC_t {M M1 M2 : ip_Mm} {n : Nat} {w w' : List Nat} (h : wC M M1 n w) (h' : wC M1 M2 (n + w.length) w') : wC M M2 n (w ++ w') := by
  obtain ⟨a1, a2, a3, a4, a5⟩ := h
  obtain ⟨b1, b2, b3, b4, b5⟩ := h'
  refine ⟨fun c j z => (b1 c j z).trans (a1 c j z), b2.trans a2, ?_, fun i hi => (b4 i (by omega)).trans (a4 i hi), fun i v hv => ?_⟩
  · rw [b3, List.length_append, Nat.add_assoc]
  · by_cases hi : i < w.length
    · rw [List.getElem?_append_left hi] at hv
      rw [b4 (n + i) (by omega)]
      exact a5 i v hv
    · rw [List.getElem?_append_right (by omega)] at hv
      have := b5 _ v hv
      rw [show n + w.length + (i - w.length) = n + i by omega] at this
      exact this
theorem wR_t {M M1 M2 : ip_Mm} {n : Nat} {w w' : List Nat} (h : wR M M1 n w) (h' : wR M1 M2 (n + w.length) w') : wR M M2 n (w ++ w') := by
  obtain ⟨a1, a2, a3, a4, a5⟩ := h
  obtain ⟨b1, b2, b3, b4, b5⟩ := h'
  refine ⟨fun c j z => (b1 c j z).trans (a1 c j z), b2.trans a2, ?_, fun i hi => (b4 i (by omega)).trans (a4 i hi), fun i v hv => ?_⟩
  · rw [b3, List.length_append, Nat.add_assoc]
  · by_cases hi : i < w.length
    · rw [List.getElem?_append_left hi] at hv
      rw [b4 (n + i) (by omega)]
      exact a5 i v hv
    · rw [List.getElem?_append_right (by omega)] at hv
      have := b5 _ v hv
      rw [show n + w.length + (i - w.length) = n + i by omega] at this
      exact this
theorem wC_1 {M : ip_Mm} {n c : Nat} : wC M (cS M n c) n [c] := by
  refine ⟨fun e j z => ?_, rfl, ?_, fun i hi => ?_, fun i v hv => ?_⟩
  · have z1 : ¬ (e = 86) := fun q => z (Or.inl q)
    have z2 : ¬ (e = 85 ∧ j = 2) := fun q => z (Or.inr (Or.inr q))
    show (if e = 85 ∧ j = 2 then _ else if e = 86 ∧ j = n then _ else M.1 e j) = _
    rw [if_neg z2, if_neg (fun q => z1 q.1)]
  · exact rI0
  · unfold cS
    rw [rI (by decide), rI1 (by omega)]
  · match i, hv with
    | 0, hv =>
      have : c = v := Option.some.inj hv
      subst this
      unfold cS
      rw [rI (by decide), Nat.add_zero, rI0]
    | i + 1, hv => cases hv
theorem wR_1 {M : ip_Mm} {n c : Nat} : wR M (rS M n c) n [c] := by
  refine ⟨fun e j z => ?_, rfl, ?_, fun i hi => ?_, fun i v hv => ?_⟩
  · have z1 : ¬ (e = 307) := fun q => z (Or.inl q)
    have z2 : ¬ (e = 256 ∧ j = 67) := fun q => z (Or.inr (Or.inr q))
    show (if e = 256 ∧ j = 67 then _ else if e = 307 ∧ j = n then _ else M.1 e j) = _
    rw [if_neg z2, if_neg (fun q => z1 q.1)]
  · exact rI0
  · unfold rS
    rw [rI (by decide), rI1 (by omega)]
  · match i, hv with
    | 0, hv =>
      have : c = v := Option.some.inj hv
      subst this
      unfold rS
      rw [rI (by decide), Nat.add_zero, rI0]
    | i + 1, hv => cases hv
theorem wC_0 {M : ip_Mm} {n : Nat} (h : M.1 85 2 = nI n) : wC M M n [] := ⟨fun _ _ _ => rfl, rfl, h, fun _ _ => rfl, fun i v hv => by cases hv⟩
theorem wR_0 {M : ip_Mm} {n : Nat} (h : M.1 256 67 = nI n) : wR M M n [] := ⟨fun _ _ _ => rfl, rfl, h, fun _ _ => rfl, fun i v hv => by cases hv⟩
