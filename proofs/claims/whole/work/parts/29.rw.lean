/-! rows of updated memories; numbers in normal form -/
section RW
variable {M : ip_Mm} {a b j k i n c : Nat} {v : Int32} {w : Int64} {g : Nat → Int64}
theorem rI (h : b ≠ a) : (uI M a k v).1 b = M.1 b := by
  funext j
  exact if_neg (fun z => h z.1)
theorem rI1 (h : j ≠ k) : (uI M a k v).1 a j = M.1 a j := if_neg (fun z => h z.2)
theorem rI0 : (uI M a k v).1 a k = v := if_pos ⟨rfl, rfl⟩
theorem rJ (h : b ≠ a) : (uJ M a k w).2.1 b = M.2.1 b := by
  funext j
  exact if_neg (fun z => h z.1)
theorem rJ1 (h : j ≠ k) : (uJ M a k w).2.1 a j = M.2.1 a j := if_neg (fun z => h z.2)
theorem rJ0 : (uJ M a k w).2.1 a k = w := if_pos ⟨rfl, rfl⟩
theorem rC (h : b ≠ a) : (uC M a g).2.1 b = M.2.1 b := by
  funext j
  exact if_neg h
theorem rC0 : (uC M a g).2.1 a = g := by
  funext j
  exact if_pos rfl
theorem rFI (h : b ≠ a) : (fI M a i n v).1 b = M.1 b := by
  funext j
  exact if_neg (fun z => h z.1)
theorem rFI0 (h : i ≤ j) (h2 : j < n) : (fI M a i n v).1 a j = v := if_pos ⟨rfl, h, h2⟩
theorem rFI1 (h : j < i ∨ n ≤ j) : (fI M a i n v).1 a j = M.1 a j := if_neg (by omega)
theorem rFI2 : (fI M a i n v).2.1 = M.2.1 := rfl
theorem rFI3 : (fI M a i n v).2.2 = M.2.2 := rfl
theorem rFJ (h : b ≠ a) : (fJ M a i n w).2.1 b = M.2.1 b := by
  funext j
  exact if_neg (fun z => h z.1)
theorem rFJ0 (h : i ≤ j) (h2 : j < n) : (fJ M a i n w).2.1 a j = w := if_pos ⟨rfl, h, h2⟩
theorem rFJ1 (h : j < i ∨ n ≤ j) : (fJ M a i n w).2.1 a j = M.2.1 a j := if_neg (by omega)
theorem rFJ2 : (fJ M a i n w).1 = M.1 := rfl
theorem rFJ3 : (fJ M a i n w).2.2 = M.2.2 := rfl
theorem ofI : (@OfNat.ofNat Int32 c _) = nI c := rfl
theorem ofJ : (@OfNat.ofNat Int64 c _) = lN c := rfl
theorem ofN : @OfNat.ofNat Nat c _ = c := rfl
theorem ar1 : (no_index (@OfNat.ofNat Int32 c _)) * nI n = nI (@OfNat.ofNat Nat c _ * n) := pk_mul c n
theorem ar2 : nI n * (no_index (@OfNat.ofNat Int32 c _)) = nI (n * @OfNat.ofNat Nat c _) := pk_mul n c
theorem ar3 : nI n + (no_index (@OfNat.ofNat Int32 c _)) = nI (n + @OfNat.ofNat Nat c _) := nI_add n c
theorem ar4 : (no_index (@OfNat.ofNat Int32 c _)) + nI n = nI (@OfNat.ofNat Nat c _ + n) := nI_add c n
theorem ar5 : nI a + nI b = nI (a + b) := nI_add a b
theorem ar6 (h : @OfNat.ofNat Nat c _ ≤ n) : nI n - (no_index (@OfNat.ofNat Int32 c _)) = nI (n - @OfNat.ofNat Nat c _) := pk_sub h
theorem ar7 (h : b ≤ a) : nI a - nI b = nI (a - b) := pk_sub h
theorem ar8 : nI a * nI b = nI (a * b) := pk_mul a b
theorem ar9 : (0 : Int32) = 0 ↔ True := by simp
theorem ltNN (ha : a < 2 ^ 31) (hb : b < 2 ^ 31) : (nI a < nI b) = (a < b) := propext (nI_ltI ha hb)
theorem ltNL (ha : a < 2 ^ 31) (hb : @OfNat.ofNat Nat c _ < 2 ^ 31) : (nI a < (no_index (@OfNat.ofNat Int32 c _))) = (a < @OfNat.ofNat Nat c _) := propext (nI_ltI ha hb)
theorem ltLN (ha : a < 2 ^ 31) (hb : @OfNat.ofNat Nat c _ < 2 ^ 31) : ((no_index (@OfNat.ofNat Int32 c _)) < nI a) = (@OfNat.ofNat Nat c _ < a) := propext (nI_ltI hb ha)
theorem leNN (ha : a < 2 ^ 31) (hb : b < 2 ^ 31) : (nI a ≤ nI b) = (a ≤ b) := propext (nI_leI ha hb)
theorem leNL (ha : a < 2 ^ 31) (hb : @OfNat.ofNat Nat c _ < 2 ^ 31) : (nI a ≤ (no_index (@OfNat.ofNat Int32 c _))) = (a ≤ @OfNat.ofNat Nat c _) := propext (nI_leI ha hb)
theorem leLN (ha : a < 2 ^ 31) (hb : @OfNat.ofNat Nat c _ < 2 ^ 31) : ((no_index (@OfNat.ofNat Int32 c _)) ≤ nI a) = (@OfNat.ofNat Nat c _ ≤ a) := propext (nI_leI hb ha)
theorem eqNN (ha : a < 2 ^ 31) (hb : b < 2 ^ 31) : (nI a = nI b) = (a = b) := propext (nI_eq ha hb)
theorem eqNL (ha : a < 2 ^ 31) (hb : @OfNat.ofNat Nat c _ < 2 ^ 31) : (nI a = (no_index (@OfNat.ofNat Int32 c _))) = (a = @OfNat.ofNat Nat c _) := propext (nI_eq ha hb)
theorem ntLt (h : a < b) : (a < b) = True := eq_true h
theorem nfLt (h : b ≤ a) : (a < b) = False := eq_false (by omega)
theorem ntLe (h : a ≤ b) : (a ≤ b) = True := eq_true h
theorem nfLe (h : b < a) : (a ≤ b) = False := eq_false (by omega)
theorem ntEq (h : a = b) : (a = b) = True := eq_true h
theorem nfEq (h : a ≠ b) : (a = b) = False := eq_false h
theorem ltJNN (ha : a < 2 ^ 31) (hb : b < 2 ^ 31) : (lN a < lN b) = (a < b) := propext (lN_lt ha hb)
theorem ltJNL (ha : a < 2 ^ 31) (hb : @OfNat.ofNat Nat c _ < 2 ^ 31) : (lN a < (no_index (@OfNat.ofNat Int64 c _))) = (a < @OfNat.ofNat Nat c _) := propext (lN_lt ha hb)
theorem ltJLN (ha : a < 2 ^ 31) (hb : @OfNat.ofNat Nat c _ < 2 ^ 31) : ((no_index (@OfNat.ofNat Int64 c _)) < lN a) = (@OfNat.ofNat Nat c _ < a) := propext (lN_lt hb ha)
theorem leJNN (ha : a < 2 ^ 31) (hb : b < 2 ^ 31) : (lN a ≤ lN b) = (a ≤ b) := propext (lN_le ha hb)
theorem leJNL (ha : a < 2 ^ 31) (hb : @OfNat.ofNat Nat c _ < 2 ^ 31) : (lN a ≤ (no_index (@OfNat.ofNat Int64 c _))) = (a ≤ @OfNat.ofNat Nat c _) := propext (lN_le ha hb)
theorem leJLN (ha : a < 2 ^ 31) (hb : @OfNat.ofNat Nat c _ < 2 ^ 31) : ((no_index (@OfNat.ofNat Int64 c _)) ≤ lN a) = (@OfNat.ofNat Nat c _ ≤ a) := propext (lN_le hb ha)
theorem nwj {x : Int64} (hn : n < 2 ^ 31) (h : ¬ wj x n) : x < 0 ∨ (nI n).toInt64 ≤ x := by
  have hz : (0 : Int64).toInt = 0 := by decide
  have hbn : (nI n).toInt64.toInt = n := by rw [Int32.toInt_toInt64, nI_toInt hn]
  have h9 : ¬ (0 ≤ x.toInt ∧ x.toInt < n) := fun z => h ((wj_iff hn).mpr z)
  rw [Int64.lt_iff_toInt_lt, Int64.le_iff_toInt_le, hz, hbn]
  omega
theorem nwi {x : Int32} (hn : n < 2 ^ 31) (h : ¬ wi x n) : x < 0 ∨ nI n ≤ x := by
  have hz : (0 : Int32).toInt = 0 := by decide
  have hbn : (nI n).toInt = n := nI_toInt hn
  have h9 : ¬ (0 ≤ x.toInt ∧ x.toInt < n) := fun z => h ((wi_iff hn).mpr z)
  rw [Int32.lt_iff_toInt_lt, Int32.le_iff_toInt_le, hz, hbn]
  omega
end RW
