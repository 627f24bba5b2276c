/-! both walks, from start to end -/
section WP
variable {L : Nat} {xs : Nat → Int32} {K : zK} {ta t rc lim x y c : Nat} {hl : Int32} {M Mr : ip_Mm}
/-- the class is asked -/
def zQc (K : zK) (ta lim x y c : Nat) (M : ip_Mm) : Prop := zKO K ∧ isTr ta ∧ lim ≤ 100 ∧ zKC K M ∧ x < kNa K ∧ y < 4 ∧ c < kNp K ∧ kMb K x y = nI c ∧ M.1 ta 0 = nI x ∧ M.1 ta 1 = nI y ∧ M.1 ta 3 = nI lim ∧ M.1 ta 7 = 0 ∧ M.1 ta 8 = 0 ∧ M.1 ta 9 = 0 ∧ M.1 (ta + 11) 3 = 0 ∧ (∀ p, p < 48 → M.1 (ta + 13) p = 0 ∧ M.1 (ta + 14) p = 0) ∧ M.1 (ta + 15) 3 = 0 ∧ ∀ l, l < 6 → ∃ n, n ≤ 40 ∧ M.1 50 l = nI n
theorem kc_f {M' : ip_Mm} (h : zKC K M) (hr : sR 3 39 M M') : zKC K M' := by
  obtain ⟨h1, h2, h3, h4, h5, h6⟩ := h
  refine ⟨?_, ?_, fun p hp => ?_, fun p i hp hi => ?_, fun a m ha hm => ?_, fun k hk => ?_⟩
  · rw [(hr 3 (by omega) (by omega)).1]; exact h1
  · rw [(hr 3 (by omega) (by omega)).1]; exact h2
  · rw [(hr (7 + 4 * p) (by omega) (by omega)).1]; exact h3 p hp
  · rw [(hr (7 + 4 * p + 1) (by omega) (by omega)).1, (hr (7 + 4 * p + 2) (by omega) (by omega)).2, (hr (7 + 4 * p + 3) (by omega) (by omega)).1]; exact h4 p i hp hi
  · rw [(hr 5 (by omega) (by omega)).1]; exact h5 a m ha hm
  · rw [(hr 6 (by omega) (by omega)).1]; exact h6 k hk
theorem w0_E (h : zQc K ta lim x y c M) : zE K ta lim hl (w0M M ta hl) := by
  obtain ⟨h1, h2, h3, h4, h5, h6, h7, h8, h9, h10, h11, -⟩ := h
  have ht := tr_om h2
  refine ⟨h1, h2, h3, kc_f h4 (sR_I (fun _ _ _ => ⟨rfl, rfl⟩) (by omega)), ?_, rI0, rfl⟩
  have n1 : ta ≠ 41 := by omega
  simp (disch := first | assumption | omega) only [w0M, rI, rI1, rI0, rJ, rJ1, rJ0, rC, rC0, uI_2, uI_3, uJ_1, uJ_3, uC_1, uC_3, uT_1, uT_2, uT_3, rFI, rFI0, rFI1, rFI2, rFI3, rFJ, rFJ0, rFJ1, rFJ2, rFJ3, h11]
theorem w2_W {G : zG} (h : zQc K ta lim x y c M) : zW K ta lim (w0M M ta hl) 0 G 0 0 0 (w2M M ta hl) := by
  obtain ⟨h1, h2, h3, h4, h5, h6, h7, h8, h9, h10, h11, h12, h13, h14, h15, h16, h17, h18⟩ := h
  have ht := tr_om h2
  have n1 : ta ≠ 41 := by omega
  have e0 : ∀ e, e ≠ 41 → (w2M M ta hl).1 e = M.1 e := fun e he => by simp (disch := first | assumption | omega) only [w2M, w0M, rI, rI1, rI0, rJ, rJ1, rJ0, rC, rC0, uI_2, uI_3, uJ_1, uJ_3, uC_1, uC_3, uT_1, uT_2, uT_3, rFI, rFI0, rFI1, rFI2, rFI3, rFJ, rFJ0, rFJ1, rFJ2, rFJ3, rK2]
  refine ⟨?_, fun l hl => absurd hl (by omega), ⟨?_, ?_, by omega, by omega, 0, by omega, ?_⟩, ⟨0, by omega, ?_, fun i hi => absurd hi (by omega), fun p hp hn => ?_, fun i j _ hj => absurd hj (by omega), fun p hp => ?_⟩, ⟨0, by omega, ?_⟩, fun l hl => ?_⟩
  · unfold w2M
    refine zU_K (zU_F zU_r (fun j _ _ => by unfold cJ; omega)) (fun j _ _ => by unfold cJ; omega)
  · rw [e0 ta n1]; exact h12
  · rw [e0 ta n1]; exact h13
  · rw [e0 ta n1]; exact h14
  · rw [e0 _ (by omega)]; exact h15
  · rw [e0 _ (by omega), e0 _ (by omega)] at hn
    exact absurd (h16 p hp) hn
  · rw [e0 _ (by omega), e0 _ (by omega)]
    exact ⟨0, 0, by omega, by omega, (h16 p hp).1, (h16 p hp).2⟩
  · rw [e0 _ (by omega)]; exact h17
  · rw [e0 50 (by omega)]; exact h18 l hl
/-- the reference is asked -/
def zQr (K : zK) (ta t rc : Nat) (M Mr : ip_Mm) : Prop := zKR K Mr ∧ rc ≤ 1 ∧ (rc = 1 → t < 8) ∧ Mr.1 256 38 = nI rc ∧ (rc = 1 → Mr.1 256 39 = nI t) ∧ (∀ a c, a < 6 → c < 8 → Mr.2.1 263 (8 * a + c) = M.2.1 (ta + 1) (a * 9 + c)) ∧ (∀ a, a < 6 → Mr.2.1 264 a = M.2.1 (ta + 1) (a * 9 + 8)) ∧ zSk M Mr ∧ (rc = 1 → Mr.1 283 t = 0 ∧ Mr.1 285 t = 0 ∧ (∀ i, i < 40 → Mr.1 286 (40 * t + i) = M.1 (ta + 16) i ∧ Mr.2.1 287 (40 * t + i) = M.2.1 (ta + 17) i ∧ Mr.2.1 288 (40 * t + i) = M.2.1 (ta + 18) i) ∧ ∀ a, a < 6 → Mr.2.1 289 (6 * t + a) = 0 ∧ Mr.2.1 290 (6 * t + a) = 0)
theorem w2_42 {i : Nat} (hT : isTr ta) (hi : i < 66) : (w2M M ta hl).2.1 42 i = if i < 54 then M.2.1 (ta + 1) i else 0 := by
  have ht := tr_om hT
  have n3 : ta + 1 ≠ 42 := by omega
  unfold w2M
  by_cases h : i < 54
  · rw [if_pos h, rK0 (by omega) (by omega), rFJ n3, Nat.zero_add, Nat.sub_zero]
    rfl
  · rw [if_neg h, rK1 (by omega), rFJ0 (by omega) (by omega)]
theorem wk_r (hc : zQc K ta lim x y c M) (hq : zQr K ta t rc M Mr) (w : Int64) (d : Nat) : ∃ Q, ip_call (d + 1) mR_enters [.ref 256, .int (nI x), .int (nI y), .long w, .int 0] (ip_hm L xs (wkM Mr (nI lim) hl)) = some (none, ip_hm L xs Q) ∧ zR ta t rc lim hl Mr 1 1 (fun _ => (x, y, c, 0)) 0 0 0 0 (ecM (w2M M ta hl) ta 0 x y w (-1) 0 0) Q := by
  obtain ⟨h1, h2, h3, h4, h5, h6, h7, h8, h9, h10, h11, h12, h13, h14, h15, h16, h17, h18⟩ := id hc
  obtain ⟨q1, q2, q3, q4, q5, q6, q7, q8, q9⟩ := hq
  have ht := tr_om h2
  have hta : ta = 52 ∨ 88 ≤ ta := by omega
  have n6 := h1.2.1
  have n1 : ta ≠ 41 := by omega
  have e0 : ∀ e, e ≠ 41 → (w2M M ta hl).1 e = M.1 e := fun e he => by simp (disch := first | assumption | omega) only [w2M, w0M, rI, rI1, rI0, rJ, rJ1, rJ0, rC, rC0, uI_2, uI_3, uJ_1, uJ_3, uC_1, uC_3, uT_1, uT_2, uT_3, rFI, rFI0, rFI1, rFI2, rFI3, rFJ, rFJ0, rFJ1, rFJ2, rFJ3, rK2]
  have e1 : ∀ e, e ≠ 42 → (w2M M ta hl).2.1 e = M.2.1 e := fun e he => by simp (disch := first | assumption | omega) only [w2M, w0M, rI, rI1, rI0, rJ, rJ1, rJ0, rC, rC0, uI_2, uI_3, uJ_1, uJ_3, uC_1, uC_3, uT_1, uT_2, uT_3, rFI, rFI0, rFI1, rFI2, rFI3, rFJ, rFJ0, rFJ1, rFJ2, rFJ3, rK]
  have p1 : ∀ e, e ≠ 256 → (wkM Mr (nI lim) hl).1 e = Mr.1 e := fun e he => by simp (disch := first | assumption | omega) only [wkM, rI, rI1, rI0, rJ, rJ1, rJ0, rC, rC0, uI_2, uI_3, uJ_1, uJ_3, uC_1, uC_3, uT_1, uT_2, uT_3, rFI, rFI0, rFI1, rFI2, rFI3, rFJ, rFJ0, rFJ1, rFJ2, rFJ3]
  have p2 : ∀ e, e ≠ 256 → (wkM Mr (nI lim) hl).2.1 e = Mr.2.1 e := fun e he => by simp (disch := first | assumption | omega) only [wkM, rI, rI1, rI0, rJ, rJ1, rJ0, rC, rC0, uI_2, uI_3, uJ_1, uJ_3, uC_1, uC_3, uT_1, uT_2, uT_3, rFI, rFI0, rFI1, rFI2, rFI3, rFJ, rFJ0, rFJ1, rFJ2, rFJ3]
  have st : zSt rc t (w2M M ta hl) (wkM Mr (nI lim) hl) := by
    refine ⟨fun a e ha he => ?_, fun a ha => ?_, fun z a ha => ⟨?_, ?_⟩⟩
    · rw [p2 _ (by decide), w2_42 h2 (by omega), if_pos (by omega)]; exact q6 a e ha he
    · rw [p2 _ (by decide), w2_42 h2 (by omega), if_pos (by omega)]; exact q7 a ha
    · rw [p2 _ (by decide), w2_42 h2 (by omega), if_neg (by omega)]; exact ((q9 z).2.2.2 a ha).1
    · rw [p2 _ (by decide), w2_42 h2 (by omega), if_neg (by omega)]; exact ((q9 z).2.2.2 a ha).2
  have sk : zSk (w2M M ta hl) (wkM Mr (nI lim) hl) := by
    intro l i hl hi
    rw [p2 _ (by decide), e1 _ (by omega)]
    exact q8 l i hl hi
  have g9 : (w2M M ta hl).1 ta 9 = nI 0 := by rw [e0 ta n1]; exact h14
  have d50 : (wkM Mr (nI lim) hl).1 256 50 = nI 0 := by simp (disch := first | assumption | omega) only [wkM, rI, rI1, rI0, rJ, rJ1, rJ0, rC, rC0, uI_2, uI_3, uJ_1, uJ_3, uC_1, uC_3, uT_1, uT_2, uT_3, rFI, rFI0, rFI1, rFI2, rFI3, rFJ, rFJ0, rFJ1, rFJ2, rFJ3]; rfl
  have g48 : (wkM Mr (nI lim) hl).1 256 48 = nI 0 := by simp (disch := first | assumption | omega) only [wkM, rI, rI1, rI0, rJ, rJ1, rJ0, rC, rC0, uI_2, uI_3, uJ_1, uJ_3, uC_1, uC_3, uT_1, uT_2, uT_3, rFI, rFI0, rFI1, rFI2, rFI3, rFJ, rFJ0, rFJ1, rFJ2, rFJ3]; rfl
  have g49 : (wkM Mr (nI lim) hl).1 256 49 = nI 0 := by simp (disch := first | assumption | omega) only [wkM, rI, rI1, rI0, rJ, rJ1, rJ0, rC, rC0, uI_2, uI_3, uJ_1, uJ_3, uC_1, uC_3, uT_1, uT_2, uT_3, rFI, rFI0, rFI1, rFI2, rFI3, rFJ, rFJ0, rFJ1, rFJ2, rFJ3]; rfl
  have r38 : (wkM Mr (nI lim) hl).1 256 38 = nI rc := by simp (disch := first | assumption | omega) only [wkM, rI, rI1, rI0, rJ, rJ1, rJ0, rC, rC0, uI_2, uI_3, uJ_1, uJ_3, uC_1, uC_3, uT_1, uT_2, uT_3, rFI, rFI0, rFI1, rFI2, rFI3, rFJ, rFJ0, rFJ1, rFJ2, rFJ3, q4]
  have r39 : rc = 1 → (wkM Mr (nI lim) hl).1 256 39 = nI t := fun z => by
    have := q5 z
    simp (disch := first | assumption | omega) only [wkM, rI, rI1, rI0, rJ, rJ1, rJ0, rC, rC0, uI_2, uI_3, uJ_1, uJ_3, uC_1, uC_3, uT_1, uT_2, uT_3, rFI, rFI0, rFI1, rFI2, rFI3, rFJ, rFJ0, rFJ1, rFJ2, rFJ3, this]
  have sc : zSc rc t lim 0 0 0 0 hl ((w2M M ta hl).1 ta 9) (wkM Mr (nI lim) hl) := by
    refine ⟨r38, r39, ?_, ?_, ?_, ?_, ?_, ?_, d50, ?_, 0, by omega, g48⟩
    · simp (disch := first | assumption | omega) only [wkM, rI, rI1, rI0, rJ, rJ1, rJ0, rC, rC0, uI_2, uI_3, uJ_1, uJ_3, uC_1, uC_3, uT_1, uT_2, uT_3, rFI, rFI0, rFI1, rFI2, rFI3, rFJ, rFJ0, rFJ1, rFJ2, rFJ3]
    · simp (disch := first | assumption | omega) only [wkM, rI, rI1, rI0, rJ, rJ1, rJ0, rC, rC0, uI_2, uI_3, uJ_1, uJ_3, uC_1, uC_3, uT_1, uT_2, uT_3, rFI, rFI0, rFI1, rFI2, rFI3, rFJ, rFJ0, rFJ1, rFJ2, rFJ3]
    · simp (disch := first | assumption | omega) only [wkM, rI, rI1, rI0, rJ, rJ1, rJ0, rC, rC0, uI_2, uI_3, uJ_1, uJ_3, uC_1, uC_3, uT_1, uT_2, uT_3, rFI, rFI0, rFI1, rFI2, rFI3, rFJ, rFJ0, rFJ1, rFJ2, rFJ3]
    · simp (disch := first | assumption | omega) only [wkM, rI, rI1, rI0, rJ, rJ1, rJ0, rC, rC0, uI_2, uI_3, uJ_1, uJ_3, uC_1, uC_3, uT_1, uT_2, uT_3, rFI, rFI0, rFI1, rFI2, rFI3, rFJ, rFJ0, rFJ1, rFJ2, rFJ3]; rfl
    · simp (disch := first | assumption | omega) only [wkM, rI, rI1, rI0, rJ, rJ1, rJ0, rC, rC0, uI_2, uI_3, uJ_1, uJ_3, uC_1, uC_3, uT_1, uT_2, uT_3, rFI, rFI0, rFI1, rFI2, rFI3, rFJ, rFJ0, rFJ1, rFJ2, rFJ3]; rfl
    · simp (disch := first | assumption | omega) only [wkM, rI, rI1, rI0, rJ, rJ1, rJ0, rC, rC0, uI_2, uI_3, uJ_1, uJ_3, uC_1, uC_3, uT_1, uT_2, uT_3, rFI, rFI0, rFI1, rFI2, rFI3, rFJ, rFJ0, rFJ1, rFJ2, rFJ3]; rfl
    · rw [g9]; exact g49
  have hU : zU (dI rc t) (dJ rc t) Mr (wkM Mr (nI lim) hl) := by
    unfold wkM
    have hU0 : zU (dI rc t) (dJ rc t) Mr Mr := zU_r
    exact (by (try dsimp only [rpM, roM, rfM, plM, pyM, rsM, rgM, mkM, ntM, enA, enK, enN, enF, enZ, unR, unT]); repeat (first | with_reducible assumption | with_reducible refine zU_I ?_ (by unfold dI; omega) | with_reducible refine zU_J ?_ (by unfold dJ; omega) | with_reducible refine zU_K ?_ (fun j h1 h2 => by unfold dJ; omega) | with_reducible refine zU_F ?_ (fun j h1 h2 => by unfold dJ; omega)))
  have emb : (wkM Mr (nI lim) hl).1 261 (4 * x + y) = nI c := by
    rw [p1 _ (by decide), q1.2.2.2.2.1 x y h5 h6, h8]
  have fr : zFr 0 (fun _ => (x, y, c, 0)) (w2M M ta hl) (wkM Mr (nI lim) hl) := fun l hl => absurd hl (by omega)
  have kp : zKp rc 0 (fun _ => (x, y, c, 0)) (w2M M ta hl) (wkM Mr (nI lim) hl) := fun l hl => absurd hl (by omega)
  by_cases hr1 : rc = 1
  · have ken := r_enters_t (d := d) (L := L) (xs := xs) (w := w) (y := 0) (z := if 0 = 0 then -1 else (wkM Mr (nI lim) hl).1 296 (0 - 1)) (by rw [r38, hr1]; rfl) (r39 hr1) (q3 hr1) d50 (by omega) (show x < 6 by omega) h6 g48 (by omega) g49 (by omega) (Or.inl rfl) rfl
    rw [emb] at ken
    refine ⟨_, ken, (by (try dsimp only [rpM, roM, rfM, plM, pyM, rsM, rgM, mkM, ntM, enA, enK, enN, enF, enZ, unR, unT]); repeat (first | with_reducible assumption | with_reducible refine zU_I ?_ (by unfold dI; omega) | with_reducible refine zU_J ?_ (by unfold dJ; omega) | with_reducible refine zU_K ?_ (fun j h1 h2 => by unfold dJ; omega) | with_reducible refine zU_F ?_ (fun j h1 h2 => by unfold dJ; omega))), zSt_f st (ec_s (by omega) (fun z => absurd z (by omega)) (by omega)) (by (try dsimp only [puM, poM, rpM, roM, rfM, plM, pyM, boM, bsM, opM, seM, rsM, rgM, mkM, ntM, enA, enK, enN, enF, enZ, unR, unT, svM, unM]); repeat (first | with_reducible exact sR_r | with_reducible exact sR_toM (by omega) | with_reducible refine sR_I ?_ (by omega) | with_reducible refine sR_J ?_ (by omega) | with_reducible refine sR_C ?_ (by omega) | with_reducible refine sR_K ?_ (by omega) | with_reducible refine sR_F ?_ (by omega))) (by (try dsimp only [puM, poM, rpM, roM, rfM, plM, pyM, boM, bsM, opM, seM, rsM, rgM, mkM, ntM, enA, enK, enN, enF, enZ, unR, unT, svM, unM]); repeat (first | with_reducible exact sR_r | with_reducible exact sR_toM (by omega) | with_reducible refine sR_I ?_ (by omega) | with_reducible refine sR_J ?_ (by omega) | with_reducible refine sR_C ?_ (by omega) | with_reducible refine sR_K ?_ (by omega) | with_reducible refine sR_F ?_ (by omega))), zFr_f (zFr_et (b := 0) fr (by omega) sk rfl (fun l hl => rfl)) (by omega) (ec_o (fun z => absurd z (by omega)) (by omega)) sR_r, zSc_et (by omega) hta g9 g48 (by omega) sc, zKp_et (b := 0) hr1 (by omega) (fun z => absurd z (by omega)) hta (by omega) st (fun _ => ?_) kp rfl (fun l hl => rfl), ⟨fun i hi => ?_, fun i hi => ?_, fun _ => ⟨?_, fun i hi => ⟨?_, ?_⟩⟩⟩, zSk_et (b := 0) sk (by omega) hta, fun _ => ⟨fun k hk => absurd hk (by omega), ⟨?_, fun tc i x' c' a1 a2 a3 => ?_⟩, ⟨?_, fun i hi => ?_⟩, zFl_en (b := 0) (by omega) g48 (by omega) ⟨0, fun _ => 0, fun _ _ => 0, fun _ => 0, by omega, g48, ⟨fun k hk => absurd hk (by omega), fun z => absurd z (by omega), fun k hk => absurd hk (by omega)⟩, fun l hl => absurd hl (by omega), fun l hl => absurd hl (by omega), fun _ => by omega, fun z => absurd z (by omega)⟩ (fun _ => rfl) (fun z => absurd z (by omega)) rfl⟩⟩
    · rw [p1 _ (by decide), (q9 hr1).2.1, e0 _ (by omega), h17]
    · have := p2 263 (by decide)
      simp (disch := first | assumption | omega) only [enZ, enF, enK, enA, rI, rI1, rI0, rJ, rJ1, rJ0, rC, rC0, uI_2, uI_3, uJ_1, uJ_3, uC_1, uC_3, uT_1, uT_2, uT_3, rFI, rFI0, rFI1, rFI2, rFI3, rFJ, rFJ0, rFJ1, rFJ2, rFJ3, rK, rK0, rK1, rK2, Nat.zero_add, Nat.sub_zero, Nat.mul_zero, this]
    · have := p2 264 (by decide)
      simp (disch := first | assumption | omega) only [enZ, enF, enK, enA, rI, rI1, rI0, rJ, rJ1, rJ0, rC, rC0, uI_2, uI_3, uJ_1, uJ_3, uC_1, uC_3, uT_1, uT_2, uT_3, rFI, rFI0, rFI1, rFI2, rFI3, rFJ, rFJ0, rFJ1, rFJ2, rFJ3, rK, rK0, rK1, rK2, Nat.zero_add, Nat.sub_zero, Nat.mul_zero, this]
    · have := p1 285 (by decide)
      have h0 := (q9 hr1).2.1
      simp (disch := first | assumption | omega) only [enZ, enF, enK, enA, rI, rI1, rI0, rJ, rJ1, rJ0, rC, rC0, uI_2, uI_3, uJ_1, uJ_3, uC_1, uC_3, uT_1, uT_2, uT_3, rFI, rFI0, rFI1, rFI2, rFI3, rFJ, rFJ0, rFJ1, rFJ2, rFJ3, rK, rK0, rK1, rK2, this, h0]
    · have := p2 289 (by decide)
      have h0 := ((q9 hr1).2.2.2 i hi).1
      simp (disch := first | assumption | omega) only [enZ, enF, enK, enA, rI, rI1, rI0, rJ, rJ1, rJ0, rC, rC0, uI_2, uI_3, uJ_1, uJ_3, uC_1, uC_3, uT_1, uT_2, uT_3, rFI, rFI0, rFI1, rFI2, rFI3, rFJ, rFJ0, rFJ1, rFJ2, rFJ3, rK, rK0, rK1, rK2, Nat.zero_add, Nat.sub_zero, Nat.mul_zero, this, h0]
    · have := p2 290 (by decide)
      have h0 := ((q9 hr1).2.2.2 i hi).2
      simp (disch := first | assumption | omega) only [enZ, enF, enK, enA, rI, rI1, rI0, rJ, rJ1, rJ0, rC, rC0, uI_2, uI_3, uJ_1, uJ_3, uC_1, uC_3, uT_1, uT_2, uT_3, rFI, rFI0, rFI1, rFI2, rFI3, rFJ, rFJ0, rFJ1, rFJ2, rFJ3, rK, rK0, rK1, rK2, Nat.zero_add, Nat.sub_zero, Nat.mul_zero, this, h0]
    · have r := ec_s (M := w2M M ta hl) (ta := ta) (f := 0) (x := x) (y := y) (w := w) (v := -1) (b := 0) (g := 0) (lo := ta + 11) (hi := ta + 19) (by omega) (fun z => absurd z (by omega)) (by omega)
      rw [(r (ta + 11) (by omega) (by omega)).1, e0 _ (by omega), h15]
      have := p1 283 (by decide)
      have h0 := (q9 hr1).1
      simp (disch := first | assumption | omega) only [enZ, enF, enK, enA, rI, rI1, rI0, rJ, rJ1, rJ0, rC, rC0, uI_2, uI_3, uJ_1, uJ_3, uC_1, uC_3, uT_1, uT_2, uT_3, rFI, rFI0, rFI1, rFI2, rFI3, rFJ, rFJ0, rFJ1, rFJ2, rFJ3, rK, rK0, rK1, rK2, this, h0]
    · have r := ec_s (M := w2M M ta hl) (ta := ta) (f := 0) (x := x) (y := y) (w := w) (v := -1) (b := 0) (g := 0) (lo := ta + 11) (hi := ta + 19) (by omega) (fun z => absurd z (by omega)) (by omega)
      rw [(r (ta + 11) (by omega) (by omega)).1, e0 _ (by omega), h15] at a2
      have : tc = 0 := nI_ij (y := 0) (by omega) (by omega) a2.symm
      omega
    · have r := ec_s (M := w2M M ta hl) (ta := ta) (f := 0) (x := x) (y := y) (w := w) (v := -1) (b := 0) (g := 0) (lo := ta + 11) (hi := ta + 19) (by omega) (fun z => absurd z (by omega)) (by omega)
      rw [(r (ta + 15) (by omega) (by omega)).1, e0 _ (by omega), h17]
      have := p1 285 (by decide)
      have h0 := (q9 hr1).2.1
      simp (disch := first | assumption | omega) only [enZ, enF, enK, enA, rI, rI1, rI0, rJ, rJ1, rJ0, rC, rC0, uI_2, uI_3, uJ_1, uJ_3, uC_1, uC_3, uT_1, uT_2, uT_3, rFI, rFI0, rFI1, rFI2, rFI3, rFJ, rFJ0, rFJ1, rFJ2, rFJ3, rK, rK0, rK1, rK2, this, h0]
    · have r := ec_s (M := w2M M ta hl) (ta := ta) (f := 0) (x := x) (y := y) (w := w) (v := -1) (b := 0) (g := 0) (lo := ta + 11) (hi := ta + 19) (by omega) (fun z => absurd z (by omega)) (by omega)
      obtain ⟨k1, k2, k3⟩ := (q9 hr1).2.2.1 i hi
      rw [(r (ta + 16) (by omega) (by omega)).1, (r (ta + 17) (by omega) (by omega)).2, (r (ta + 18) (by omega) (by omega)).2, e0 _ (by omega), e1 _ (by omega), e1 _ (by omega), ← k1, ← k2, ← k3]
      have u1 := p1 286 (by decide)
      have u2 := p2 287 (by decide)
      have u3 := p2 288 (by decide)
      refine ⟨?_, ?_, ?_⟩
      · simp (disch := first | assumption | omega) only [enZ, enF, enK, enA, rI, rI1, rI0, rJ, rJ1, rJ0, rC, rC0, uI_2, uI_3, uJ_1, uJ_3, uC_1, uC_3, uT_1, uT_2, uT_3, rFI, rFI0, rFI1, rFI2, rFI3, rFJ, rFJ0, rFJ1, rFJ2, rFJ3, rK, rK0, rK1, rK2, u1]
      · simp (disch := first | assumption | omega) only [enZ, enF, enK, enA, rI, rI1, rI0, rJ, rJ1, rJ0, rC, rC0, uI_2, uI_3, uJ_1, uJ_3, uC_1, uC_3, uT_1, uT_2, uT_3, rFI, rFI0, rFI1, rFI2, rFI3, rFJ, rFJ0, rFJ1, rFJ2, rFJ3, rK, rK0, rK1, rK2, u2]
      · simp (disch := first | assumption | omega) only [enZ, enF, enK, enA, rI, rI1, rI0, rJ, rJ1, rJ0, rC, rC0, uI_2, uI_3, uJ_1, uJ_3, uC_1, uC_3, uT_1, uT_2, uT_3, rFI, rFI0, rFI1, rFI2, rFI3, rFJ, rFJ0, rFJ1, rFJ2, rFJ3, rK, rK0, rK1, rK2, u3]
  · have ken := r_enters_n (d := d) (L := L) (xs := xs) (w := w) (y := 0) (by rw [r38, show rc = 0 by omega]; rfl) d50 (by omega) (show x < 6 by omega) h6 g48 g49 (by omega) (Or.inl rfl)
    rw [emb] at ken
    refine ⟨_, ken, (by (try dsimp only [rpM, roM, rfM, plM, pyM, rsM, rgM, mkM, ntM, enA, enK, enN, enF, enZ, unR, unT]); repeat (first | with_reducible assumption | with_reducible refine zU_I ?_ (by unfold dI; omega) | with_reducible refine zU_J ?_ (by unfold dJ; omega) | with_reducible refine zU_K ?_ (fun j h1 h2 => by unfold dJ; omega) | with_reducible refine zU_F ?_ (fun j h1 h2 => by unfold dJ; omega))), zSt_f st (ec_s (by omega) (fun z => absurd z (by omega)) (by omega)) (by (try dsimp only [puM, poM, rpM, roM, rfM, plM, pyM, boM, bsM, opM, seM, rsM, rgM, mkM, ntM, enA, enK, enN, enF, enZ, unR, unT, svM, unM]); repeat (first | with_reducible exact sR_r | with_reducible exact sR_toM (by omega) | with_reducible refine sR_I ?_ (by omega) | with_reducible refine sR_J ?_ (by omega) | with_reducible refine sR_C ?_ (by omega) | with_reducible refine sR_K ?_ (by omega) | with_reducible refine sR_F ?_ (by omega))) (by (try dsimp only [puM, poM, rpM, roM, rfM, plM, pyM, boM, bsM, opM, seM, rsM, rgM, mkM, ntM, enA, enK, enN, enF, enZ, unR, unT, svM, unM]); repeat (first | with_reducible exact sR_r | with_reducible exact sR_toM (by omega) | with_reducible refine sR_I ?_ (by omega) | with_reducible refine sR_J ?_ (by omega) | with_reducible refine sR_C ?_ (by omega) | with_reducible refine sR_K ?_ (by omega) | with_reducible refine sR_F ?_ (by omega))), zFr_f (zFr_eu (b := 0) fr (by omega) sk rfl (fun l hl => rfl)) (by omega) (ec_o (fun z => absurd z (by omega)) (by omega)) sR_r, zSc_eu (by omega) hta g9 g48 (by omega) sc, zKp_eu (b := 0) hr1 (by omega) (fun z => absurd z (by omega)) hta (by omega) st (fun z => absurd z hr1) kp rfl (fun l hl => rfl), ⟨fun i hi => ?_, fun i hi => ?_, fun z => absurd z hr1⟩, zSk_eu (b := 0) sk (by omega) hta, fun z => absurd z hr1⟩
    · have := p2 263 (by decide)
      simp (disch := first | assumption | omega) only [enZ, enN, enA, rI, rI1, rI0, rJ, rJ1, rJ0, rC, rC0, uI_2, uI_3, uJ_1, uJ_3, uC_1, uC_3, uT_1, uT_2, uT_3, rFI, rFI0, rFI1, rFI2, rFI3, rFJ, rFJ0, rFJ1, rFJ2, rFJ3, rK, rK0, rK1, rK2, Nat.zero_add, Nat.sub_zero, Nat.mul_zero, this]
    · have := p2 264 (by decide)
      simp (disch := first | assumption | omega) only [enZ, enN, enA, rI, rI1, rI0, rJ, rJ1, rJ0, rC, rC0, uI_2, uI_3, uJ_1, uJ_3, uC_1, uC_3, uT_1, uT_2, uT_3, rFI, rFI0, rFI1, rFI2, rFI3, rFJ, rFJ0, rFJ1, rFJ2, rFJ3, rK, rK0, rK1, rK2, Nat.zero_add, Nat.sub_zero, Nat.mul_zero, this]
end WP
