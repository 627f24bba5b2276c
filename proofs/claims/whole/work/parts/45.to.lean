/-! touches and tells -/
theorem pgn : ∀ (n : Nat) (f : Nat → Nat), (∀ i, i < n + 1 → f i < n) → ∃ i j, i < j ∧ j < n + 1 ∧ f i = f j := by
  intro n
  induction n with
  | zero => intro f h; exact absurd (h 0 (by omega)) (by omega)
  | succ n ih =>
    intro f h
    by_cases hx : ∃ i, i < n + 1 ∧ f i = f (n + 1)
    · obtain ⟨i, hi, e⟩ := hx
      exact ⟨i, n + 1, by omega, by omega, e⟩
    · have hne : ∀ i, i < n + 1 → f i ≠ f (n + 1) := fun i hi e => hx ⟨i, hi, e⟩
      have hv := h (n + 1) (by omega)
      obtain ⟨i, j, h1, h2, h3⟩ := ih (fun i => if f i < f (n + 1) then f i else f i - 1) (fun i hi => by
        have a := hne i hi
        have b := h i (by omega)
        show (if f i < f (n + 1) then f i else f i - 1) < n
        split <;> omega)
      refine ⟨i, j, h1, by omega, ?_⟩
      have a1 := hne i (by omega)
      have a2 := hne j (by omega)
      have h3' : (if f i < f (n + 1) then f i else f i - 1) = (if f j < f (n + 1) then f j else f j - 1) := h3
      split at h3' <;> split at h3' <;> omega
section TO
variable {M Mc Mr : ip_Mm} {a p n i q ta N tc t x c k L : Nat} {wr : Bool} {xs : Nat → Int32}
theorem to_11 : (toM M a p n wr).1 (a + 11) 3 = if M.1 (a + 13) p = 0 ∧ M.1 (a + 14) p = 0 ∧ n < 48 then nI (n + 1) else M.1 (a + 11) 3 := by
  unfold toM
  by_cases h1 : M.1 (a + 13) p = 0 ∧ M.1 (a + 14) p = 0 ∧ n < 48
  · simp only [if_pos h1]
    cases wr
    · show (uI _ (a + 13) p _).1 (a + 11) 3 = _
      rw [rI (by omega), rI0]
    · show (uI _ (a + 14) p _).1 (a + 11) 3 = _
      rw [rI (by omega), rI0]
  · simp only [if_neg h1]
    cases wr
    · show (uI _ (a + 13) p _).1 (a + 11) 3 = _
      rw [rI (by omega)]
    · show (uI _ (a + 14) p _).1 (a + 11) 3 = _
      rw [rI (by omega)]
theorem to_12 : (toM M a p n wr).1 (a + 12) i = if (M.1 (a + 13) p = 0 ∧ M.1 (a + 14) p = 0 ∧ n < 48) ∧ i = n then nI p else M.1 (a + 12) i := by
  unfold toM
  by_cases h1 : M.1 (a + 13) p = 0 ∧ M.1 (a + 14) p = 0 ∧ n < 48
  · simp only [if_pos h1]
    cases wr
    · show (uI _ (a + 13) p _).1 (a + 12) i = _
      rw [rI (by omega), rI (by omega)]
      by_cases hi : i = n
      · rw [if_pos ⟨h1, hi⟩, hi, rI0]
      · rw [if_neg (fun z => hi z.2), rI1 hi]
    · show (uI _ (a + 14) p _).1 (a + 12) i = _
      rw [rI (by omega), rI (by omega)]
      by_cases hi : i = n
      · rw [if_pos ⟨h1, hi⟩, hi, rI0]
      · rw [if_neg (fun z => hi z.2), rI1 hi]
  · simp only [if_neg h1]
    cases wr
    · show (uI _ (a + 13) p _).1 (a + 12) i = _
      rw [rI (by omega), if_neg (fun z => h1 z.1)]
    · show (uI _ (a + 14) p _).1 (a + 12) i = _
      rw [rI (by omega), if_neg (fun z => h1 z.1)]
theorem to_13 : (toM M a p n wr).1 (a + 13) q = if wr = false ∧ q = p then M.1 (a + 13) p + 1 else M.1 (a + 13) q := by
  unfold toM
  by_cases h1 : M.1 (a + 13) p = 0 ∧ M.1 (a + 14) p = 0 ∧ n < 48
  · simp only [if_pos h1]
    cases wr
    · show (uI _ (a + 13) p _).1 (a + 13) q = _
      by_cases hq : q = p
      · subst hq
        rw [rI0, if_pos ⟨rfl, rfl⟩]
      · rw [rI1 hq, if_neg (fun z => hq z.2), rI (by omega), rI (by omega)]
    · show (uI _ (a + 14) p _).1 (a + 13) q = _
      rw [rI (by omega), rI (by omega), rI (by omega), if_neg (fun z => Bool.noConfusion z.1)]
  · simp only [if_neg h1]
    cases wr
    · show (uI _ (a + 13) p _).1 (a + 13) q = _
      by_cases hq : q = p
      · subst hq
        rw [rI0, if_pos ⟨rfl, rfl⟩]
      · rw [rI1 hq, if_neg (fun z => hq z.2)]
    · show (uI _ (a + 14) p _).1 (a + 13) q = _
      rw [rI (by omega), if_neg (fun z => Bool.noConfusion z.1)]
theorem to_14 : (toM M a p n wr).1 (a + 14) q = if wr = true ∧ q = p then M.1 (a + 14) p + 1 else M.1 (a + 14) q := by
  unfold toM
  by_cases h1 : M.1 (a + 13) p = 0 ∧ M.1 (a + 14) p = 0 ∧ n < 48
  · simp only [if_pos h1]
    cases wr
    · show (uI _ (a + 13) p _).1 (a + 14) q = _
      rw [rI (by omega), rI (by omega), rI (by omega), if_neg (fun z => Bool.noConfusion z.1)]
    · show (uI _ (a + 14) p _).1 (a + 14) q = _
      by_cases hq : q = p
      · subst hq
        rw [rI0, if_pos ⟨rfl, rfl⟩]
      · rw [rI1 hq, if_neg (fun z => hq z.2), rI (by omega), rI (by omega)]
  · simp only [if_neg h1]
    cases wr
    · show (uI _ (a + 13) p _).1 (a + 14) q = _
      rw [rI (by omega), if_neg (fun z => Bool.noConfusion z.1)]
    · show (uI _ (a + 14) p _).1 (a + 14) q = _
      by_cases hq : q = p
      · subst hq
        rw [rI0, if_pos ⟨rfl, rfl⟩]
      · rw [rI1 hq, if_neg (fun z => hq z.2)]
theorem to_13n (h : q ≠ p) : (toM M a p n wr).1 (a + 13) q = M.1 (a + 13) q := by rw [to_13, if_neg (fun z => h z.2)]
theorem to_14n (h : q ≠ p) : (toM M a p n wr).1 (a + 14) q = M.1 (a + 14) q := by rw [to_14, if_neg (fun z => h z.2)]
theorem nI_ne {x y : Nat} (hx : x < 2 ^ 31) (hy : y < 2 ^ 31) (h : x ≠ y) : nI x ≠ nI y := fun z => h ((nI_eq hx hy).mp z)
theorem nI_ij {x y : Nat} (hx : x < 2 ^ 31) (hy : y < 2 ^ 31) (h : nI x = nI y) : x = y := (nI_eq hx hy).mp h
/-- behind a touch the place is touched -/
theorem to_nz (hw : zTW ta N M) (hN : N < 100) (hp : p < 48) : ¬ ((toM M ta p n wr).1 (ta + 13) p = 0 ∧ (toM M ta p n wr).1 (ta + 14) p = 0) := by
  obtain ⟨tc, h1, h2, h3, h4, h5, h6⟩ := hw
  obtain ⟨r, w, a1, a2, a3, a4⟩ := h6 p hp
  rw [to_13, to_14]
  cases wr
  · rw [if_pos ⟨rfl, rfl⟩, a3, nI_p1]
    exact fun z => nI_ne (x := r + 1) (y := 0) (by omega) (by omega) (by omega) z.1
  · rw [if_pos (⟨rfl, rfl⟩ : true = true ∧ p = p), a4, nI_p1]
    exact fun z => nI_ne (x := w + 1) (y := 0) (by omega) (by omega) (by omega) z.2
/-- a place that is not touched yet: there is room -/
theorem to_room (hw : zTW ta N M) (hp : p < 48) (hc : M.1 (ta + 11) 3 = nI tc) (htc : tc ≤ 48) (hz : M.1 (ta + 13) p = 0 ∧ M.1 (ta + 14) p = 0) : tc < 48 := by
  obtain ⟨tc', h1, h2, h3, h4, h5, h6⟩ := hw
  have e : tc' = tc := nI_ij (by omega) (by omega) (h2.symm.trans hc)
  subst e
  by_cases h48 : tc' < 48
  · exact h48
  · exfalso
    have e : tc' = 48 := by omega
    subst e
    obtain ⟨i, j, q1, q2, q3⟩ := pgn 48 (fun i => if i < 48 then (M.1 (ta + 12) i).toNatClampNeg else p) (fun i hi => by
      show (if i < 48 then (M.1 (ta + 12) i).toNatClampNeg else p) < 48
      by_cases hi2 : i < 48
      · rw [if_pos hi2]
        obtain ⟨q, b1, b2, b3⟩ := h3 i hi2
        rw [b2, cl_n (by omega)]
        exact b1
      · rw [if_neg hi2]; exact hp)
    have q3' : (if i < 48 then (M.1 (ta + 12) i).toNatClampNeg else p) = (if j < 48 then (M.1 (ta + 12) j).toNatClampNeg else p) := q3
    obtain ⟨pi, b1, b2, b3⟩ := h3 i (by omega)
    rw [if_pos (show i < 48 by omega), b2, cl_n (by omega)] at q3'
    by_cases hj : j < 48
    · obtain ⟨pj, c1, c2, c3⟩ := h3 j hj
      rw [if_pos hj, c2, cl_n (by omega)] at q3'
      exact h5 i j q1 hj (by rw [b2, c2, q3'])
    · rw [if_neg hj] at q3'
      subst q3'
      exact b3 hz
theorem zTW_t (hw : zTW ta N M) (hp : p < 48) (hc : M.1 (ta + 11) 3 = nI tc) (htc : tc ≤ 48) (hN : N < 100) : zTW ta (N + 1) (toM M ta p tc wr) := by
  have hnz := to_nz (n := tc) (wr := wr) hw hN hp
  have hrm := to_room hw hp hc htc
  obtain ⟨tc', h1, h2, h3, h4, h5, h6⟩ := hw
  have e : tc' = tc := nI_ij (by omega) (by omega) (h2.symm.trans hc)
  subst e
  have bd : ∀ q, q < 48 → ∃ r w, r ≤ N + 1 ∧ w ≤ N + 1 ∧ (toM M ta p tc' wr).1 (ta + 13) q = nI r ∧ (toM M ta p tc' wr).1 (ta + 14) q = nI w := by
    intro q hq
    obtain ⟨r, w, a1, a2, a3, a4⟩ := h6 q hq
    by_cases e : q = p
    · subst e
      rw [to_13, to_14]
      cases wr
      · rw [if_pos ⟨rfl, rfl⟩, a3, nI_p1, if_neg (fun z => Bool.noConfusion z.1), a4]
        exact ⟨r + 1, w, by omega, by omega, rfl, rfl⟩
      · rw [if_pos (⟨rfl, rfl⟩ : true = true ∧ q = q), a4, nI_p1, if_neg (fun z => Bool.noConfusion z.1), a3]
        exact ⟨r, w + 1, by omega, by omega, rfl, rfl⟩
    · rw [to_13n e, to_14n e]
      exact ⟨r, w, by omega, by omega, a3, a4⟩
  by_cases hz : M.1 (ta + 13) p = 0 ∧ M.1 (ta + 14) p = 0
  · have h48 := hrm hz
    have new : M.1 (ta + 13) p = 0 ∧ M.1 (ta + 14) p = 0 ∧ tc' < 48 := ⟨hz.1, hz.2, h48⟩
    refine ⟨tc' + 1, by omega, by rw [to_11, if_pos new], fun i hi => ?_, fun q hq hn => ?_, fun i j hij hj => ?_, bd⟩
    · by_cases e : i = tc'
      · subst e
        exact ⟨p, hp, by rw [to_12, if_pos ⟨new, rfl⟩], hnz⟩
      · obtain ⟨q, b1, b2, b3⟩ := h3 i (by omega)
        have qp : q ≠ p := fun z => b3 (by rw [z]; exact hz)
        exact ⟨q, b1, by rw [to_12, if_neg (fun z => e z.2)]; exact b2, by rw [to_13n qp, to_14n qp]; exact b3⟩
    · by_cases e : q = p
      · subst e
        exact ⟨tc', by omega, by rw [to_12, if_pos ⟨new, rfl⟩]⟩
      · rw [to_13n e, to_14n e] at hn
        obtain ⟨i, b1, b2⟩ := h4 q hq hn
        exact ⟨i, by omega, by rw [to_12, if_neg (fun z => by have := z.2; omega)]; exact b2⟩
    · have hi : i ≠ tc' := by omega
      rw [to_12, if_neg (fun z => hi z.2), to_12]
      by_cases e : j = tc'
      · subst e
        rw [if_pos ⟨new, rfl⟩]
        obtain ⟨q, b1, b2, b3⟩ := h3 i (by omega)
        rw [b2]
        exact nI_ne (by omega) (by omega) (fun z => b3 (by rw [z]; exact hz))
      · rw [if_neg (fun z => e z.2)]
        exact h5 i j hij (by omega)
  · have new : ¬ (M.1 (ta + 13) p = 0 ∧ M.1 (ta + 14) p = 0 ∧ tc' < 48) := fun z => hz ⟨z.1, z.2.1⟩
    have r12 : ∀ i, (toM M ta p tc' wr).1 (ta + 12) i = M.1 (ta + 12) i := fun i => by rw [to_12, if_neg (fun z => new z.1)]
    refine ⟨tc', h1, by rw [to_11, if_neg new]; exact h2, fun i hi => ?_, fun q hq hn => ?_, fun i j hij hj => ?_, bd⟩
    · obtain ⟨q, b1, b2, b3⟩ := h3 i hi
      refine ⟨q, b1, (r12 i).trans b2, ?_⟩
      by_cases e : q = p
      · subst e; exact hnz
      · rw [to_13n e, to_14n e]; exact b3
    · have hn' : ¬ (M.1 (ta + 13) q = 0 ∧ M.1 (ta + 14) q = 0) := by
        by_cases e : q = p
        · subst e; exact hz
        · rw [to_13n e, to_14n e] at hn; exact hn
      obtain ⟨i, b1, b2⟩ := h4 q hq hn'
      exact ⟨i, b1, (r12 i).trans b2⟩
    · rw [r12, r12]
      exact h5 i j hij hj
theorem rw_284 {u : Nat} {v : Int32} (hne : q + u ≠ i) : (mkM M q u).1 284 i = M.1 284 i := by
  unfold mkM
  rw [rI1 (fun z => hne z.symm)]
theorem zTo_t {u : Nat} (hu : u = if wr = true then 3 else 2) (hw : zTW ta N Mc) (ho : zTo ta t Mc Mr) (hx : x < 6) (hc : c < 8) (hcc : Mc.1 (ta + 11) 3 = nI tc) (htc : tc ≤ 48) (hN : N < 100) (ht8 : t < 8) (hr : Mr.1 256 38 = 1) (ht : Mr.1 256 39 = nI t) : ∃ Mr', (∀ d, ip_call d mR_marks [.ref 256, .int (nI x), .int (nI c), .int (nI u)] (ip_hm L xs Mr) = some (none, ip_hm L xs Mr')) ∧ zTo ta t (toM Mc ta (8 * x + c) tc wr) Mr' ∧ sR 0 283 Mr Mr' ∧ sR 285 400 Mr Mr' ∧ zU (dI 1 t) (dJ 1 t) Mr Mr' := by
  have hp : 8 * x + c < 48 := by omega
  have hnz := to_nz (n := tc) (wr := wr) hw hN hp
  have hrm := to_room hw hp hcc htc
  obtain ⟨tc', h1, h2, h3, h4, h5, h6⟩ := hw
  have e : tc' = tc := nI_ij (by omega) (by omega) (h2.symm.trans hcc)
  subst e
  obtain ⟨o1, o2⟩ := ho
  have hu4 : u < 4 := by rw [hu]; split <;> omega
  have ex : ∀ i, i < tc' → ∃ y e, y < 6 ∧ e < 8 ∧ Mc.1 (ta + 12) i = nI (8 * y + e) ∧ Mr.1 284 (4 * (48 * t + i)) = nI y ∧ Mr.1 284 (4 * (48 * t + i) + 1) = nI e ∧ Mr.1 284 (4 * (48 * t + i) + 2) = Mc.1 (ta + 13) (8 * y + e) ∧ Mr.1 284 (4 * (48 * t + i) + 3) = Mc.1 (ta + 14) (8 * y + e) := by
    intro i hi
    obtain ⟨q, b1, b2, b3⟩ := h3 i hi
    have eq : 8 * (q / 8) + q % 8 = q := by omega
    have := o2 tc' i (q / 8) (q % 8) h1 h2 hi (by omega) (by omega) (by rw [eq]; exact b2)
    exact ⟨q / 8, q % 8, by omega, by omega, by rw [eq]; exact b2, this⟩
  by_cases hz : Mc.1 (ta + 13) (8 * x + c) = 0 ∧ Mc.1 (ta + 14) (8 * x + c) = 0
  · have h48 := hrm hz
    have new : Mc.1 (ta + 13) (8 * x + c) = 0 ∧ Mc.1 (ta + 14) (8 * x + c) = 0 ∧ tc' < 48 := ⟨hz.1, hz.2, h48⟩
    refine ⟨_, fun d => r_marks_new hr ht ht8 (by rw [o1]; exact h2) h48 hx hc hu4 (fun i hi => ?_), ⟨?_, fun tn i y e hn1 hn2 hin hy he hpl => ?_⟩, ?_, ?_, ?_⟩
    · obtain ⟨y, e, b1, b2, b3, b4, b5, b6, b7⟩ := ex i hi
      refine ⟨y, e, b1, b2, b4, b5, fun z => ?_⟩
      obtain ⟨q, q1, q2, q3⟩ := h3 i hi
      have : q = 8 * y + e := nI_ij (by omega) (by omega) (q2.symm.trans b3)
      rw [this, z.1, z.2] at q3
      exact q3 hz
    · rw [to_11, if_pos new]
      simp (disch := first | assumption | omega) only [mkM, rI, rI1, rI0, rJ, rJ1, rJ0, rC, rC0, uI_2, uI_3, uJ_1, uJ_3, uC_1, uC_3, uT_1, uT_2, uT_3, rFI, rFI0, rFI1, rFI2, rFI3, rFJ, rFJ0, rFJ1, rFJ2, rFJ3]
    · rw [to_11, if_pos new] at hn2
      have e1 : tn = tc' + 1 := nI_ij (by omega) (by omega) hn2.symm
      subst e1
      rw [to_12] at hpl
      by_cases ei : i = tc'
      · subst ei
        rw [if_pos ⟨new, rfl⟩] at hpl
        have e3 := nI_ij (by omega) (by omega) hpl
        have e4 : y = x := by omega
        have e5 : e = c := by omega
        subst e4 e5
        rw [to_13, to_14, hz.1, hz.2]
        cases wr
        · have hu2 : u = 2 := hu
          subst hu2
          refine ⟨?_, ?_, ?_, ?_⟩
          · simp (disch := first | assumption | omega) only [mkM, rI, rI1, rI0, rJ, rJ1, rJ0, rC, rC0, uI_2, uI_3, uJ_1, uJ_3, uC_1, uC_3, uT_1, uT_2, uT_3, rFI, rFI0, rFI1, rFI2, rFI3, rFJ, rFJ0, rFJ1, rFJ2, rFJ3]
          · simp (disch := first | assumption | omega) only [mkM, rI, rI1, rI0, rJ, rJ1, rJ0, rC, rC0, uI_2, uI_3, uJ_1, uJ_3, uC_1, uC_3, uT_1, uT_2, uT_3, rFI, rFI0, rFI1, rFI2, rFI3, rFJ, rFJ0, rFJ1, rFJ2, rFJ3]
          · rw [if_pos ⟨rfl, rfl⟩]
            simp (disch := first | assumption | omega) only [mkM, rI, rI1, rI0, rJ, rJ1, rJ0, rC, rC0, uI_2, uI_3, uJ_1, uJ_3, uC_1, uC_3, uT_1, uT_2, uT_3, rFI, rFI0, rFI1, rFI2, rFI3, rFJ, rFJ0, rFJ1, rFJ2, rFJ3]
          · rw [if_neg (fun z => Bool.noConfusion z.1)]
            simp (disch := first | assumption | omega) only [mkM, rI, rI1, rI0, rJ, rJ1, rJ0, rC, rC0, uI_2, uI_3, uJ_1, uJ_3, uC_1, uC_3, uT_1, uT_2, uT_3, rFI, rFI0, rFI1, rFI2, rFI3, rFJ, rFJ0, rFJ1, rFJ2, rFJ3]
        · have hu2 : u = 3 := hu
          subst hu2
          refine ⟨?_, ?_, ?_, ?_⟩
          · simp (disch := first | assumption | omega) only [mkM, rI, rI1, rI0, rJ, rJ1, rJ0, rC, rC0, uI_2, uI_3, uJ_1, uJ_3, uC_1, uC_3, uT_1, uT_2, uT_3, rFI, rFI0, rFI1, rFI2, rFI3, rFJ, rFJ0, rFJ1, rFJ2, rFJ3]
          · simp (disch := first | assumption | omega) only [mkM, rI, rI1, rI0, rJ, rJ1, rJ0, rC, rC0, uI_2, uI_3, uJ_1, uJ_3, uC_1, uC_3, uT_1, uT_2, uT_3, rFI, rFI0, rFI1, rFI2, rFI3, rFJ, rFJ0, rFJ1, rFJ2, rFJ3]
          · rw [if_neg (fun z => Bool.noConfusion z.1)]
            simp (disch := first | assumption | omega) only [mkM, rI, rI1, rI0, rJ, rJ1, rJ0, rC, rC0, uI_2, uI_3, uJ_1, uJ_3, uC_1, uC_3, uT_1, uT_2, uT_3, rFI, rFI0, rFI1, rFI2, rFI3, rFJ, rFJ0, rFJ1, rFJ2, rFJ3]
          · rw [if_pos (⟨rfl, rfl⟩ : true = true ∧ 8 * y + e = 8 * y + e)]
            simp (disch := first | assumption | omega) only [mkM, rI, rI1, rI0, rJ, rJ1, rJ0, rC, rC0, uI_2, uI_3, uJ_1, uJ_3, uC_1, uC_3, uT_1, uT_2, uT_3, rFI, rFI0, rFI1, rFI2, rFI3, rFJ, rFJ0, rFJ1, rFJ2, rFJ3]
      · rw [if_neg (fun z => ei z.2)] at hpl
        have hne : 8 * y + e ≠ 8 * x + c := fun z => by
          obtain ⟨q, q1, q2, q3⟩ := h3 i (by omega)
          have : q = 8 * y + e := nI_ij (by omega) (by omega) (q2.symm.trans hpl)
          rw [this, z] at q3
          exact q3 hz
        rw [to_13n hne, to_14n hne]
        obtain ⟨b1, b2, b3, b4⟩ := o2 tc' i y e h1 h2 (by omega) hy he hpl
        refine ⟨?_, ?_, ?_, ?_⟩
        · simp (disch := first | assumption | omega) only [mkM, rI, rI1, rI0, rJ, rJ1, rJ0, rC, rC0, uI_2, uI_3, uJ_1, uJ_3, uC_1, uC_3, uT_1, uT_2, uT_3, rFI, rFI0, rFI1, rFI2, rFI3, rFJ, rFJ0, rFJ1, rFJ2, rFJ3, b1]
        · simp (disch := first | assumption | omega) only [mkM, rI, rI1, rI0, rJ, rJ1, rJ0, rC, rC0, uI_2, uI_3, uJ_1, uJ_3, uC_1, uC_3, uT_1, uT_2, uT_3, rFI, rFI0, rFI1, rFI2, rFI3, rFJ, rFJ0, rFJ1, rFJ2, rFJ3, b2]
        · simp (disch := first | assumption | omega) only [mkM, rI, rI1, rI0, rJ, rJ1, rJ0, rC, rC0, uI_2, uI_3, uJ_1, uJ_3, uC_1, uC_3, uT_1, uT_2, uT_3, rFI, rFI0, rFI1, rFI2, rFI3, rFJ, rFJ0, rFJ1, rFJ2, rFJ3, b3]
        · simp (disch := first | assumption | omega) only [mkM, rI, rI1, rI0, rJ, rJ1, rJ0, rC, rC0, uI_2, uI_3, uJ_1, uJ_3, uC_1, uC_3, uT_1, uT_2, uT_3, rFI, rFI0, rFI1, rFI2, rFI3, rFJ, rFJ0, rFJ1, rFJ2, rFJ3, b4]
    · exact (by (try dsimp only [puM, poM, rpM, roM, rfM, plM, pyM, boM, bsM, opM, seM, rsM, rgM, mkM, ntM, enA, enK, enN, enF, enZ, unR, unT, svM, unM]); repeat (first | with_reducible exact sR_r | with_reducible exact sR_toM (by omega) | with_reducible refine sR_I ?_ (by omega) | with_reducible refine sR_J ?_ (by omega) | with_reducible refine sR_C ?_ (by omega) | with_reducible refine sR_K ?_ (by omega) | with_reducible refine sR_F ?_ (by omega)))
    · exact (by (try dsimp only [puM, poM, rpM, roM, rfM, plM, pyM, boM, bsM, opM, seM, rsM, rgM, mkM, ntM, enA, enK, enN, enF, enZ, unR, unT, svM, unM]); repeat (first | with_reducible exact sR_r | with_reducible exact sR_toM (by omega) | with_reducible refine sR_I ?_ (by omega) | with_reducible refine sR_J ?_ (by omega) | with_reducible refine sR_C ?_ (by omega) | with_reducible refine sR_K ?_ (by omega) | with_reducible refine sR_F ?_ (by omega)))
    · have hU : zU (dI 1 t) (dJ 1 t) Mr Mr := zU_r
      exact (by (try dsimp only [rpM, roM, rfM, plM, pyM, rsM, rgM, mkM, ntM, enA, enK, enN, enF, enZ, unR, unT]); repeat (first | with_reducible assumption | with_reducible refine zU_I ?_ (by unfold dI; omega) | with_reducible refine zU_J ?_ (by unfold dJ; omega) | with_reducible refine zU_K ?_ (fun j h1 h2 => by unfold dJ; omega) | with_reducible refine zU_F ?_ (fun j h1 h2 => by unfold dJ; omega)))
  · have new : ¬ (Mc.1 (ta + 13) (8 * x + c) = 0 ∧ Mc.1 (ta + 14) (8 * x + c) = 0 ∧ tc' < 48) := fun z => hz ⟨z.1, z.2.1⟩
    obtain ⟨k, hk, ek⟩ := h4 _ hp hz
    obtain ⟨f1, f2, f3, f4⟩ := o2 tc' k x c h1 h2 hk hx hc ek
    refine ⟨_, fun d => r_marks_old (k := k) hr ht ht8 (by rw [o1]; exact h2) h1 hk hx hc hu4 (fun i hi => ?_) f1 f2, ⟨?_, fun tn i y e hn1 hn2 hin hy he hpl => ?_⟩, ?_, ?_, ?_⟩
    · obtain ⟨y, e, b1, b2, b3, b4, b5, b6, b7⟩ := ex i (by omega)
      refine ⟨y, e, b1, b2, b4, b5, fun z => ?_⟩
      rw [z.1, z.2] at b3
      exact h5 i k hi hk (b3.trans ek.symm)
    · rw [to_11, if_neg new]
      simp (disch := first | assumption | omega) only [mkM, rI, rI1, rI0, rJ, rJ1, rJ0, rC, rC0, uI_2, uI_3, uJ_1, uJ_3, uC_1, uC_3, uT_1, uT_2, uT_3, rFI, rFI0, rFI1, rFI2, rFI3, rFJ, rFJ0, rFJ1, rFJ2, rFJ3, o1]
    · rw [to_11, if_neg new] at hn2
      have e1 : tn = tc' := nI_ij (by omega) (by omega) (hn2.symm.trans h2)
      subst e1
      rw [to_12, if_neg (fun z => new z.1)] at hpl
      by_cases ei : i = k
      · subst ei
        have e3 := nI_ij (by omega) (by omega) (hpl.symm.trans ek)
        have e4 : y = x := by omega
        have e5 : e = c := by omega
        subst e4 e5
        rw [to_13, to_14]
        cases wr
        · have hu2 : u = 2 := hu
          subst hu2
          refine ⟨?_, ?_, ?_, ?_⟩
          · simp (disch := first | assumption | omega) only [mkM, rI, rI1, rI0, rJ, rJ1, rJ0, rC, rC0, uI_2, uI_3, uJ_1, uJ_3, uC_1, uC_3, uT_1, uT_2, uT_3, rFI, rFI0, rFI1, rFI2, rFI3, rFJ, rFJ0, rFJ1, rFJ2, rFJ3, f1]
          · simp (disch := first | assumption | omega) only [mkM, rI, rI1, rI0, rJ, rJ1, rJ0, rC, rC0, uI_2, uI_3, uJ_1, uJ_3, uC_1, uC_3, uT_1, uT_2, uT_3, rFI, rFI0, rFI1, rFI2, rFI3, rFJ, rFJ0, rFJ1, rFJ2, rFJ3, f2]
          · rw [if_pos ⟨rfl, rfl⟩]
            simp (disch := first | assumption | omega) only [mkM, rI, rI1, rI0, rJ, rJ1, rJ0, rC, rC0, uI_2, uI_3, uJ_1, uJ_3, uC_1, uC_3, uT_1, uT_2, uT_3, rFI, rFI0, rFI1, rFI2, rFI3, rFJ, rFJ0, rFJ1, rFJ2, rFJ3, f3]
          · rw [if_neg (fun z => Bool.noConfusion z.1)]
            simp (disch := first | assumption | omega) only [mkM, rI, rI1, rI0, rJ, rJ1, rJ0, rC, rC0, uI_2, uI_3, uJ_1, uJ_3, uC_1, uC_3, uT_1, uT_2, uT_3, rFI, rFI0, rFI1, rFI2, rFI3, rFJ, rFJ0, rFJ1, rFJ2, rFJ3, f4]
        · have hu2 : u = 3 := hu
          subst hu2
          refine ⟨?_, ?_, ?_, ?_⟩
          · simp (disch := first | assumption | omega) only [mkM, rI, rI1, rI0, rJ, rJ1, rJ0, rC, rC0, uI_2, uI_3, uJ_1, uJ_3, uC_1, uC_3, uT_1, uT_2, uT_3, rFI, rFI0, rFI1, rFI2, rFI3, rFJ, rFJ0, rFJ1, rFJ2, rFJ3, f1]
          · simp (disch := first | assumption | omega) only [mkM, rI, rI1, rI0, rJ, rJ1, rJ0, rC, rC0, uI_2, uI_3, uJ_1, uJ_3, uC_1, uC_3, uT_1, uT_2, uT_3, rFI, rFI0, rFI1, rFI2, rFI3, rFJ, rFJ0, rFJ1, rFJ2, rFJ3, f2]
          · rw [if_neg (fun z => Bool.noConfusion z.1)]
            simp (disch := first | assumption | omega) only [mkM, rI, rI1, rI0, rJ, rJ1, rJ0, rC, rC0, uI_2, uI_3, uJ_1, uJ_3, uC_1, uC_3, uT_1, uT_2, uT_3, rFI, rFI0, rFI1, rFI2, rFI3, rFJ, rFJ0, rFJ1, rFJ2, rFJ3, f3]
          · rw [if_pos (⟨rfl, rfl⟩ : true = true ∧ 8 * y + e = 8 * y + e)]
            simp (disch := first | assumption | omega) only [mkM, rI, rI1, rI0, rJ, rJ1, rJ0, rC, rC0, uI_2, uI_3, uJ_1, uJ_3, uC_1, uC_3, uT_1, uT_2, uT_3, rFI, rFI0, rFI1, rFI2, rFI3, rFJ, rFJ0, rFJ1, rFJ2, rFJ3, f4]
      · have hne : 8 * y + e ≠ 8 * x + c := fun z => by
          rw [z] at hpl
          rcases Nat.lt_or_gt_of_ne ei with g | g
          · exact h5 i k g hk (hpl.trans ek.symm)
          · exact h5 k i g hin (ek.trans hpl.symm)
        rw [to_13n hne, to_14n hne]
        obtain ⟨b1, b2, b3, b4⟩ := o2 tn i y e h1 h2 hin hy he hpl
        refine ⟨?_, ?_, ?_, ?_⟩
        · simp (disch := first | assumption | omega) only [mkM, rI, rI1, rI0, rJ, rJ1, rJ0, rC, rC0, uI_2, uI_3, uJ_1, uJ_3, uC_1, uC_3, uT_1, uT_2, uT_3, rFI, rFI0, rFI1, rFI2, rFI3, rFJ, rFJ0, rFJ1, rFJ2, rFJ3, b1]
        · simp (disch := first | assumption | omega) only [mkM, rI, rI1, rI0, rJ, rJ1, rJ0, rC, rC0, uI_2, uI_3, uJ_1, uJ_3, uC_1, uC_3, uT_1, uT_2, uT_3, rFI, rFI0, rFI1, rFI2, rFI3, rFJ, rFJ0, rFJ1, rFJ2, rFJ3, b2]
        · simp (disch := first | assumption | omega) only [mkM, rI, rI1, rI0, rJ, rJ1, rJ0, rC, rC0, uI_2, uI_3, uJ_1, uJ_3, uC_1, uC_3, uT_1, uT_2, uT_3, rFI, rFI0, rFI1, rFI2, rFI3, rFJ, rFJ0, rFJ1, rFJ2, rFJ3, b3]
        · simp (disch := first | assumption | omega) only [mkM, rI, rI1, rI0, rJ, rJ1, rJ0, rC, rC0, uI_2, uI_3, uJ_1, uJ_3, uC_1, uC_3, uT_1, uT_2, uT_3, rFI, rFI0, rFI1, rFI2, rFI3, rFJ, rFJ0, rFJ1, rFJ2, rFJ3, b4]
    · exact (by (try dsimp only [puM, poM, rpM, roM, rfM, plM, pyM, boM, bsM, opM, seM, rsM, rgM, mkM, ntM, enA, enK, enN, enF, enZ, unR, unT, svM, unM]); repeat (first | with_reducible exact sR_r | with_reducible exact sR_toM (by omega) | with_reducible refine sR_I ?_ (by omega) | with_reducible refine sR_J ?_ (by omega) | with_reducible refine sR_C ?_ (by omega) | with_reducible refine sR_K ?_ (by omega) | with_reducible refine sR_F ?_ (by omega)))
    · exact (by (try dsimp only [puM, poM, rpM, roM, rfM, plM, pyM, boM, bsM, opM, seM, rsM, rgM, mkM, ntM, enA, enK, enN, enF, enZ, unR, unT, svM, unM]); repeat (first | with_reducible exact sR_r | with_reducible exact sR_toM (by omega) | with_reducible refine sR_I ?_ (by omega) | with_reducible refine sR_J ?_ (by omega) | with_reducible refine sR_C ?_ (by omega) | with_reducible refine sR_K ?_ (by omega) | with_reducible refine sR_F ?_ (by omega)))
    · have hU : zU (dI 1 t) (dJ 1 t) Mr Mr := zU_r
      exact (by (try dsimp only [rpM, roM, rfM, plM, pyM, rsM, rgM, mkM, ntM, enA, enK, enN, enF, enZ, unR, unT]); repeat (first | with_reducible assumption | with_reducible refine zU_I ?_ (by unfold dI; omega) | with_reducible refine zU_J ?_ (by unfold dJ; omega) | with_reducible refine zU_K ?_ (fun j h1 h2 => by unfold dJ; omega) | with_reducible refine zU_F ?_ (fun j h1 h2 => by unfold dJ; omega)))
/-- tells -/
theorem zTe_t {y : Int32} {v w : Int64} (h : zTe ta t Mc Mr) (hk : k < 40) : zTe ta t (uI (uJ (uJ (uI Mc (ta + 16) k y) (ta + 17) k v) (ta + 18) k w) (ta + 15) 3 (nI (k + 1))) (uI (uJ (uJ (uI Mr 286 (40 * t + k) y) 287 (40 * t + k) v) 288 (40 * t + k) w) 285 t (nI (k + 1))) := by
  obtain ⟨a1, a2⟩ := h
  refine ⟨?_, fun i hi => ?_⟩
  · simp (disch := first | assumption | omega) only [rI, rI1, rI0, rJ, rJ1, rJ0, rC, rC0, uI_2, uI_3, uJ_1, uJ_3, uC_1, uC_3, uT_1, uT_2, uT_3, rFI, rFI0, rFI1, rFI2, rFI3, rFJ, rFJ0, rFJ1, rFJ2, rFJ3]
  · obtain ⟨b1, b2, b3⟩ := a2 i hi
    by_cases e : i = k
    · subst e
      refine ⟨?_, ?_, ?_⟩
      · simp (disch := first | assumption | omega) only [rI, rI1, rI0, rJ, rJ1, rJ0, rC, rC0, uI_2, uI_3, uJ_1, uJ_3, uC_1, uC_3, uT_1, uT_2, uT_3, rFI, rFI0, rFI1, rFI2, rFI3, rFJ, rFJ0, rFJ1, rFJ2, rFJ3]
      · simp (disch := first | assumption | omega) only [rI, rI1, rI0, rJ, rJ1, rJ0, rC, rC0, uI_2, uI_3, uJ_1, uJ_3, uC_1, uC_3, uT_1, uT_2, uT_3, rFI, rFI0, rFI1, rFI2, rFI3, rFJ, rFJ0, rFJ1, rFJ2, rFJ3]
      · simp (disch := first | assumption | omega) only [rI, rI1, rI0, rJ, rJ1, rJ0, rC, rC0, uI_2, uI_3, uJ_1, uJ_3, uC_1, uC_3, uT_1, uT_2, uT_3, rFI, rFI0, rFI1, rFI2, rFI3, rFJ, rFJ0, rFJ1, rFJ2, rFJ3]
    · have e2 : 40 * t + i ≠ 40 * t + k := by omega
      refine ⟨?_, ?_, ?_⟩
      · simp (disch := first | assumption | omega) only [rI, rI1, rI0, rJ, rJ1, rJ0, rC, rC0, uI_2, uI_3, uJ_1, uJ_3, uC_1, uC_3, uT_1, uT_2, uT_3, rFI, rFI0, rFI1, rFI2, rFI3, rFJ, rFJ0, rFJ1, rFJ2, rFJ3, b1]
      · simp (disch := first | assumption | omega) only [rI, rI1, rI0, rJ, rJ1, rJ0, rC, rC0, uI_2, uI_3, uJ_1, uJ_3, uC_1, uC_3, uT_1, uT_2, uT_3, rFI, rFI0, rFI1, rFI2, rFI3, rFJ, rFJ0, rFJ1, rFJ2, rFJ3, b2]
      · simp (disch := first | assumption | omega) only [rI, rI1, rI0, rJ, rJ1, rJ0, rC, rC0, uI_2, uI_3, uJ_1, uJ_3, uC_1, uC_3, uT_1, uT_2, uT_3, rFI, rFI0, rFI1, rFI2, rFI3, rFJ, rFJ0, rFJ1, rFJ2, rFJ3, b3]
end TO
