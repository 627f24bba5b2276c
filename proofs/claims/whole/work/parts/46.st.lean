/-! a step begun; a step noted -/
section SN
variable {K : zK} {G : zG} {M M' Mc Mc' Mr Mr' M0 : ip_Mm} {n ta t rc m dp N lv S T fl lim p k q : Nat} {v hl : Int32} {w : Int64}
theorem bo_ta {f : Nat} (hf : f ≠ ta) (h8 : M.1 ta 8 = nI S) : (boM M ta f N lv p k q).1 ta 7 = nI (N + 1) ∧ (boM M ta f N lv p k q).1 ta 8 = nI (S + q) ∧ (boM M ta f N lv p k q).1 ta 9 = M.1 ta 9 := by
  have e1 : ta ≠ ta + 3 := by omega
  have e2 : ta ≠ ta + 4 := by omega
  have e3 : ta ≠ ta + 5 := by omega
  have e4 : ta ≠ ta + 6 := by omega
  have e5 : ta ≠ ta + 7 := by omega
  have e6 : ta ≠ ta + 8 := by omega
  have hf' : ta ≠ f := fun z => hf z.symm
  refine ⟨?_, ?_, ?_⟩
  · simp (disch := first | assumption | omega) only [boM, bsM, rI, rI1, rI0, rJ, rJ1, rJ0, rC, rC0, uI_2, uI_3, uJ_1, uJ_3, uC_1, uC_3, uT_1, uT_2, uT_3, rFI, rFI0, rFI1, rFI2, rFI3, rFJ, rFJ0, rFJ1, rFJ2, rFJ3]
  · simp (disch := first | assumption | omega) only [boM, bsM, rI, rI1, rI0, rJ, rJ1, rJ0, rC, rC0, uI_2, uI_3, uJ_1, uJ_3, uC_1, uC_3, uT_1, uT_2, uT_3, rFI, rFI0, rFI1, rFI2, rFI3, rFJ, rFJ0, rFJ1, rFJ2, rFJ3, h8, ar5]
  · simp (disch := first | assumption | omega) only [boM, bsM, rI, rI1, rI0, rJ, rJ1, rJ0, rC, rC0, uI_2, uI_3, uJ_1, uJ_3, uC_1, uC_3, uT_1, uT_2, uT_3, rFI, rFI0, rFI1, rFI2, rFI3, rFJ, rFJ0, rFJ1, rFJ2, rFJ3]
theorem zW_begin (hT : isTr ta) (hlv : lv < 6) (hw : zW K ta lim M0 (lv + 1) G N S N M) (hp : p < kSz K (gC G lv)) (hq : 1 ≤ q) (hS : S + q ≤ lim) : zW K ta lim M0 (lv + 1) G (N + 1) (S + q) N (boM M ta (73 + 2 * lv) N lv p k q) := by
  have ht := tr_om hT
  obtain ⟨hU, h2, ⟨s1, s2, s3, s4, g, s5, s6⟩, h4, h5⟩ := hw
  obtain ⟨b1, b2, b3⟩ := bo_ta (M := M) (N := N) (lv := lv) (p := p) (k := k) (q := q) (show 73 + 2 * lv ≠ ta by omega) s2
  refine ⟨(by (try dsimp only [puM, poM, boM, bsM, opM, seM, svM, unM]); repeat (first | with_reducible assumption | with_reducible refine zU_I ?_ (by unfold cI; omega) | with_reducible refine zU_J ?_ (by unfold cJ; omega) | with_reducible refine zU_C ?_ (fun j => by unfold cJ; omega))), zWf_p (zWf_f h2 (by omega) (by (try dsimp only [puM, poM, rpM, roM, rfM, plM, pyM, boM, bsM, opM, seM, rsM, rgM, mkM, ntM, enA, enK, enN, enF, enZ, unR, unT, svM, unM]); repeat (first | with_reducible exact sR_r | with_reducible exact sR_toM (by omega) | with_reducible refine sR_I ?_ (by omega) | with_reducible refine sR_J ?_ (by omega) | with_reducible refine sR_C ?_ (by omega) | with_reducible refine sR_K ?_ (by omega) | with_reducible refine sR_F ?_ (by omega)))) hp, ⟨b1, b2, hS, by omega, g, s5, b3.trans s6⟩, zTW_f h4 (by (try dsimp only [puM, poM, rpM, roM, rfM, plM, pyM, boM, bsM, opM, seM, rsM, rgM, mkM, ntM, enA, enK, enN, enF, enZ, unR, unT, svM, unM]); repeat (first | with_reducible exact sR_r | with_reducible exact sR_toM (by omega) | with_reducible refine sR_I ?_ (by omega) | with_reducible refine sR_J ?_ (by omega) | with_reducible refine sR_C ?_ (by omega) | with_reducible refine sR_K ?_ (by omega) | with_reducible refine sR_F ?_ (by omega))), ?_⟩
  have c2 : sR (ta + 15) (ta + 16) M (boM M ta (73 + 2 * lv) N lv p k q) := (by (try dsimp only [puM, poM, rpM, roM, rfM, plM, pyM, boM, bsM, opM, seM, rsM, rgM, mkM, ntM, enA, enK, enN, enF, enZ, unR, unT, svM, unM]); repeat (first | with_reducible exact sR_r | with_reducible exact sR_toM (by omega) | with_reducible refine sR_I ?_ (by omega) | with_reducible refine sR_J ?_ (by omega) | with_reducible refine sR_C ?_ (by omega) | with_reducible refine sR_K ?_ (by omega) | with_reducible refine sR_F ?_ (by omega)))
  have c1 : sR 50 51 M (boM M ta (73 + 2 * lv) N lv p k q) := (by (try dsimp only [puM, poM, rpM, roM, rfM, plM, pyM, boM, bsM, opM, seM, rsM, rgM, mkM, ntM, enA, enK, enN, enF, enZ, unR, unT, svM, unM]); repeat (first | with_reducible exact sR_r | with_reducible exact sR_toM (by omega) | with_reducible refine sR_I ?_ (by omega) | with_reducible refine sR_J ?_ (by omega) | with_reducible refine sR_C ?_ (by omega) | with_reducible refine sR_K ?_ (by omega) | with_reducible refine sR_F ?_ (by omega)))
  unfold zTl
  rw [(c2 (ta + 15) (by omega) (by omega)).1, (c1 50 (by omega) (by omega)).1]
  exact h5
theorem zSp_bo (hT : isTr ta) (hlv : lv < 6) (h : zSp ta t N Mc Mr) (hr : sR 277 279 Mr Mr') : zSp ta t N (boM Mc ta (73 + 2 * lv) N lv p k q) Mr' := by
  have ht := tr_om hT
  intro j hj
  obtain ⟨a1, a2, a3⟩ := h j hj
  have hj' : j ≠ N := by omega
  have c1 : sR (ta + 9) (ta + 11) Mc (boM Mc ta (73 + 2 * lv) N lv p k q) := (by (try dsimp only [puM, poM, rpM, roM, rfM, plM, pyM, boM, bsM, opM, seM, rsM, rgM, mkM, ntM, enA, enK, enN, enF, enZ, unR, unT, svM, unM]); repeat (first | with_reducible exact sR_r | with_reducible exact sR_toM (by omega) | with_reducible refine sR_I ?_ (by omega) | with_reducible refine sR_J ?_ (by omega) | with_reducible refine sR_C ?_ (by omega) | with_reducible refine sR_K ?_ (by omega) | with_reducible refine sR_F ?_ (by omega)))
  rw [(hr 277 (by omega) (by omega)).1, (hr 278 (by omega) (by omega)).2, (c1 (ta + 10) (by omega) (by omega)).2]
  have key : ∀ x, x < 7 → Mc.1 (ta + 3 + x) j = (boM Mc ta (73 + 2 * lv) N lv p k q).1 (ta + 3 + x) j := by
   intro x hx
   have f0 : ∀ y, y < 7 → 73 + 2 * lv ≠ ta + 3 + y := fun y hy => by omega
   match x, hx with
   | 0, _ => have := f0 0 (by omega); simp (disch := first | assumption | omega) only [boM, bsM, rI, rI1, rI0, rJ, rJ1, rJ0, rC, rC0, uI_2, uI_3, uJ_1, uJ_3, uC_1, uC_3, uT_1, uT_2, uT_3, rFI, rFI0, rFI1, rFI2, rFI3, rFJ, rFJ0, rFJ1, rFJ2, rFJ3, Nat.add_zero]
   | 1, _ => have := f0 1 (by omega); simp (disch := first | assumption | omega) only [boM, bsM, rI, rI1, rI0, rJ, rJ1, rJ0, rC, rC0, uI_2, uI_3, uJ_1, uJ_3, uC_1, uC_3, uT_1, uT_2, uT_3, rFI, rFI0, rFI1, rFI2, rFI3, rFJ, rFJ0, rFJ1, rFJ2, rFJ3, Nat.add_assoc, Nat.reduceAdd]
   | 2, _ => have := f0 2 (by omega); simp (disch := first | assumption | omega) only [boM, bsM, rI, rI1, rI0, rJ, rJ1, rJ0, rC, rC0, uI_2, uI_3, uJ_1, uJ_3, uC_1, uC_3, uT_1, uT_2, uT_3, rFI, rFI0, rFI1, rFI2, rFI3, rFJ, rFJ0, rFJ1, rFJ2, rFJ3, Nat.add_assoc, Nat.reduceAdd]
   | 3, _ => have := f0 3 (by omega); simp (disch := first | assumption | omega) only [boM, bsM, rI, rI1, rI0, rJ, rJ1, rJ0, rC, rC0, uI_2, uI_3, uJ_1, uJ_3, uC_1, uC_3, uT_1, uT_2, uT_3, rFI, rFI0, rFI1, rFI2, rFI3, rFJ, rFJ0, rFJ1, rFJ2, rFJ3, Nat.add_assoc, Nat.reduceAdd]
   | 4, _ => have := f0 4 (by omega); simp (disch := first | assumption | omega) only [boM, bsM, rI, rI1, rI0, rJ, rJ1, rJ0, rC, rC0, uI_2, uI_3, uJ_1, uJ_3, uC_1, uC_3, uT_1, uT_2, uT_3, rFI, rFI0, rFI1, rFI2, rFI3, rFJ, rFJ0, rFJ1, rFJ2, rFJ3, Nat.add_assoc, Nat.reduceAdd]
   | 5, _ => have := f0 5 (by omega); simp (disch := first | assumption | omega) only [boM, bsM, rI, rI1, rI0, rJ, rJ1, rJ0, rC, rC0, uI_2, uI_3, uJ_1, uJ_3, uC_1, uC_3, uT_1, uT_2, uT_3, rFI, rFI0, rFI1, rFI2, rFI3, rFJ, rFJ0, rFJ1, rFJ2, rFJ3, Nat.add_assoc, Nat.reduceAdd]
   | 6, _ => exact (congrFun (c1 (ta + 3 + 6) (by omega) (by omega)).1 j).symm
  exact ⟨fun x hx => (a1 x hx).trans (key x hx), a2, zRg_c a3 key⟩
theorem zR_begin (hT : isTr ta) (hlv : lv < 6) (hr : zR ta t rc lim hl M0 (lv + 1) (lv + 1) G N N S 0 Mc Mr) : zR ta t rc lim hl M0 (lv + 1) (lv + 1) G (N + 1) N (S + q) 0 (boM Mc ta (73 + 2 * lv) N lv p k q) (plM (pyM Mr S q N) lv p) := by
  have ht := tr_om hT
  obtain ⟨hU, h2, h3, ⟨s1, s2, s3, s4, s5, s6, s7, s8, s9, s10, g, s11, s12⟩, h5, h6, hS, h7⟩ := hr
  refine ⟨(by (try dsimp only [rpM, roM, rfM, plM, pyM, rsM, rgM, mkM, ntM, enA, enK, enN, enF, enZ, unR, unT]); repeat (first | with_reducible assumption | with_reducible refine zU_I ?_ (by unfold dI; omega) | with_reducible refine zU_J ?_ (by unfold dJ; omega) | with_reducible refine zU_K ?_ (fun j h1 h2 => by unfold dJ; omega) | with_reducible refine zU_F ?_ (fun j h1 h2 => by unfold dJ; omega))), zSt_f h2 (by (try dsimp only [puM, poM, rpM, roM, rfM, plM, pyM, boM, bsM, opM, seM, rsM, rgM, mkM, ntM, enA, enK, enN, enF, enZ, unR, unT, svM, unM]); repeat (first | with_reducible exact sR_r | with_reducible exact sR_toM (by omega) | with_reducible refine sR_I ?_ (by omega) | with_reducible refine sR_J ?_ (by omega) | with_reducible refine sR_C ?_ (by omega) | with_reducible refine sR_K ?_ (by omega) | with_reducible refine sR_F ?_ (by omega))) (by (try dsimp only [puM, poM, rpM, roM, rfM, plM, pyM, boM, bsM, opM, seM, rsM, rgM, mkM, ntM, enA, enK, enN, enF, enZ, unR, unT, svM, unM]); repeat (first | with_reducible exact sR_r | with_reducible exact sR_toM (by omega) | with_reducible refine sR_I ?_ (by omega) | with_reducible refine sR_J ?_ (by omega) | with_reducible refine sR_C ?_ (by omega) | with_reducible refine sR_K ?_ (by omega) | with_reducible refine sR_F ?_ (by omega))) (by (try dsimp only [puM, poM, rpM, roM, rfM, plM, pyM, boM, bsM, opM, seM, rsM, rgM, mkM, ntM, enA, enK, enN, enF, enZ, unR, unT, svM, unM]); repeat (first | with_reducible exact sR_r | with_reducible exact sR_toM (by omega) | with_reducible refine sR_I ?_ (by omega) | with_reducible refine sR_J ?_ (by omega) | with_reducible refine sR_C ?_ (by omega) | with_reducible refine sR_K ?_ (by omega) | with_reducible refine sR_F ?_ (by omega))), ?_, ?_, zKp_f h5 (by omega) (by (try dsimp only [puM, poM, rpM, roM, rfM, plM, pyM, boM, bsM, opM, seM, rsM, rgM, mkM, ntM, enA, enK, enN, enF, enZ, unR, unT, svM, unM]); repeat (first | with_reducible exact sR_r | with_reducible exact sR_toM (by omega) | with_reducible refine sR_I ?_ (by omega) | with_reducible refine sR_J ?_ (by omega) | with_reducible refine sR_C ?_ (by omega) | with_reducible refine sR_K ?_ (by omega) | with_reducible refine sR_F ?_ (by omega))) (by (try dsimp only [puM, poM, rpM, roM, rfM, plM, pyM, boM, bsM, opM, seM, rsM, rgM, mkM, ntM, enA, enK, enN, enF, enZ, unR, unT, svM, unM]); repeat (first | with_reducible exact sR_r | with_reducible exact sR_toM (by omega) | with_reducible refine sR_I ?_ (by omega) | with_reducible refine sR_J ?_ (by omega) | with_reducible refine sR_C ?_ (by omega) | with_reducible refine sR_K ?_ (by omega) | with_reducible refine sR_F ?_ (by omega))) (by (try dsimp only [puM, poM, rpM, roM, rfM, plM, pyM, boM, bsM, opM, seM, rsM, rgM, mkM, ntM, enA, enK, enN, enF, enZ, unR, unT, svM, unM]); repeat (first | with_reducible exact sR_r | with_reducible exact sR_toM (by omega) | with_reducible refine sR_I ?_ (by omega) | with_reducible refine sR_J ?_ (by omega) | with_reducible refine sR_C ?_ (by omega) | with_reducible refine sR_K ?_ (by omega) | with_reducible refine sR_F ?_ (by omega))) (by (try dsimp only [puM, poM, rpM, roM, rfM, plM, pyM, boM, bsM, opM, seM, rsM, rgM, mkM, ntM, enA, enK, enN, enF, enZ, unR, unT, svM, unM]); repeat (first | with_reducible exact sR_r | with_reducible exact sR_toM (by omega) | with_reducible refine sR_I ?_ (by omega) | with_reducible refine sR_J ?_ (by omega) | with_reducible refine sR_C ?_ (by omega) | with_reducible refine sR_K ?_ (by omega) | with_reducible refine sR_F ?_ (by omega))), zK0_f h6 (by (try dsimp only [puM, poM, rpM, roM, rfM, plM, pyM, boM, bsM, opM, seM, rsM, rgM, mkM, ntM, enA, enK, enN, enF, enZ, unR, unT, svM, unM]); repeat (first | with_reducible exact sR_r | with_reducible exact sR_toM (by omega) | with_reducible refine sR_I ?_ (by omega) | with_reducible refine sR_J ?_ (by omega) | with_reducible refine sR_C ?_ (by omega) | with_reducible refine sR_K ?_ (by omega) | with_reducible refine sR_F ?_ (by omega))), (fun l i a b => hS l i a b), fun z => ?_⟩
  · have a := zFr_f (Mc' := bsM Mc ta N (nI (lv + 1)) (Mc.1 (73 + 2 * lv) 2) (Mc.1 (73 + 2 * lv) 3) (nI p) (nI k) (nI q)) (Mr' := pyM Mr S q N) h3 (by omega) (by (try dsimp only [puM, poM, rpM, roM, rfM, plM, pyM, boM, bsM, opM, seM, rsM, rgM, mkM, ntM, enA, enK, enN, enF, enZ, unR, unT, svM, unM]); repeat (first | with_reducible exact sR_r | with_reducible exact sR_toM (by omega) | with_reducible refine sR_I ?_ (by omega) | with_reducible refine sR_J ?_ (by omega) | with_reducible refine sR_C ?_ (by omega) | with_reducible refine sR_K ?_ (by omega) | with_reducible refine sR_F ?_ (by omega))) (by (try dsimp only [puM, poM, rpM, roM, rfM, plM, pyM, boM, bsM, opM, seM, rsM, rgM, mkM, ntM, enA, enK, enN, enF, enZ, unR, unT, svM, unM]); repeat (first | with_reducible exact sR_r | with_reducible exact sR_toM (by omega) | with_reducible refine sR_I ?_ (by omega) | with_reducible refine sR_J ?_ (by omega) | with_reducible refine sR_C ?_ (by omega) | with_reducible refine sR_K ?_ (by omega) | with_reducible refine sR_F ?_ (by omega)))
    exact zFr_p (v := nI (p + 1)) a
  · have e9 : (boM Mc ta (73 + 2 * lv) N lv p k q).1 ta 9 = Mc.1 ta 9 := by
      have e0 : ta ≠ 73 + 2 * lv := by omega
      simp (disch := first | assumption | omega) only [boM, bsM, rI, rI1, rI0, rJ, rJ1, rJ0, rC, rC0, uI_2, uI_3, uJ_1, uJ_3, uC_1, uC_3, uT_1, uT_2, uT_3, rFI, rFI0, rFI1, rFI2, rFI3, rFJ, rFJ0, rFJ1, rFJ2, rFJ3]
    rw [e9]
    refine ⟨?_, fun z => ?_, ?_, ?_, ?_, ?_, ?_, ?_, ?_, ?_, g, by omega, ?_⟩
    · simp (disch := first | assumption | omega) only [plM, pyM, rI, rI1, rI0, rJ, rJ1, rJ0, rC, rC0, uI_2, uI_3, uJ_1, uJ_3, uC_1, uC_3, uT_1, uT_2, uT_3, rFI, rFI0, rFI1, rFI2, rFI3, rFJ, rFJ0, rFJ1, rFJ2, rFJ3, s1]
    · simp (disch := first | assumption | omega) only [plM, pyM, rI, rI1, rI0, rJ, rJ1, rJ0, rC, rC0, uI_2, uI_3, uJ_1, uJ_3, uC_1, uC_3, uT_1, uT_2, uT_3, rFI, rFI0, rFI1, rFI2, rFI3, rFJ, rFJ0, rFJ1, rFJ2, rFJ3, s2 z]
    · simp (disch := first | assumption | omega) only [plM, pyM, rI, rI1, rI0, rJ, rJ1, rJ0, rC, rC0, uI_2, uI_3, uJ_1, uJ_3, uC_1, uC_3, uT_1, uT_2, uT_3, rFI, rFI0, rFI1, rFI2, rFI3, rFJ, rFJ0, rFJ1, rFJ2, rFJ3, s3]
    · simp (disch := first | assumption | omega) only [plM, pyM, rI, rI1, rI0, rJ, rJ1, rJ0, rC, rC0, uI_2, uI_3, uJ_1, uJ_3, uC_1, uC_3, uT_1, uT_2, uT_3, rFI, rFI0, rFI1, rFI2, rFI3, rFJ, rFJ0, rFJ1, rFJ2, rFJ3, s4]
    · simp (disch := first | assumption | omega) only [plM, pyM, rI, rI1, rI0, rJ, rJ1, rJ0, rC, rC0, uI_2, uI_3, uJ_1, uJ_3, uC_1, uC_3, uT_1, uT_2, uT_3, rFI, rFI0, rFI1, rFI2, rFI3, rFJ, rFJ0, rFJ1, rFJ2, rFJ3, s5]
    · simp (disch := first | assumption | omega) only [plM, pyM, rI, rI1, rI0, rJ, rJ1, rJ0, rC, rC0, uI_2, uI_3, uJ_1, uJ_3, uC_1, uC_3, uT_1, uT_2, uT_3, rFI, rFI0, rFI1, rFI2, rFI3, rFJ, rFJ0, rFJ1, rFJ2, rFJ3]
    · simp (disch := first | assumption | omega) only [plM, pyM, rI, rI1, rI0, rJ, rJ1, rJ0, rC, rC0, uI_2, uI_3, uJ_1, uJ_3, uC_1, uC_3, uT_1, uT_2, uT_3, rFI, rFI0, rFI1, rFI2, rFI3, rFJ, rFJ0, rFJ1, rFJ2, rFJ3]
    · simp (disch := first | assumption | omega) only [plM, pyM, rI, rI1, rI0, rJ, rJ1, rJ0, rC, rC0, uI_2, uI_3, uJ_1, uJ_3, uC_1, uC_3, uT_1, uT_2, uT_3, rFI, rFI0, rFI1, rFI2, rFI3, rFJ, rFJ0, rFJ1, rFJ2, rFJ3, s8]
    · simp (disch := first | assumption | omega) only [plM, pyM, rI, rI1, rI0, rJ, rJ1, rJ0, rC, rC0, uI_2, uI_3, uJ_1, uJ_3, uC_1, uC_3, uT_1, uT_2, uT_3, rFI, rFI0, rFI1, rFI2, rFI3, rFJ, rFJ0, rFJ1, rFJ2, rFJ3, s9]
    · simp (disch := first | assumption | omega) only [plM, pyM, rI, rI1, rI0, rJ, rJ1, rJ0, rC, rC0, uI_2, uI_3, uJ_1, uJ_3, uC_1, uC_3, uT_1, uT_2, uT_3, rFI, rFI0, rFI1, rFI2, rFI3, rFJ, rFJ0, rFJ1, rFJ2, rFJ3, s10]
    · simp (disch := first | assumption | omega) only [plM, pyM, rI, rI1, rI0, rJ, rJ1, rJ0, rC, rC0, uI_2, uI_3, uJ_1, uJ_3, uC_1, uC_3, uT_1, uT_2, uT_3, rFI, rFI0, rFI1, rFI2, rFI3, rFJ, rFJ0, rFJ1, rFJ2, rFJ3, s12]
  · obtain ⟨a1, a2, a3, a4⟩ := h7 z
    exact ⟨zSp_bo hT hlv a1 (by (try dsimp only [puM, poM, rpM, roM, rfM, plM, pyM, boM, bsM, opM, seM, rsM, rgM, mkM, ntM, enA, enK, enN, enF, enZ, unR, unT, svM, unM]); repeat (first | with_reducible exact sR_r | with_reducible exact sR_toM (by omega) | with_reducible refine sR_I ?_ (by omega) | with_reducible refine sR_J ?_ (by omega) | with_reducible refine sR_C ?_ (by omega) | with_reducible refine sR_K ?_ (by omega) | with_reducible refine sR_F ?_ (by omega))), zTo_f a2 (by (try dsimp only [puM, poM, rpM, roM, rfM, plM, pyM, boM, bsM, opM, seM, rsM, rgM, mkM, ntM, enA, enK, enN, enF, enZ, unR, unT, svM, unM]); repeat (first | with_reducible exact sR_r | with_reducible exact sR_toM (by omega) | with_reducible refine sR_I ?_ (by omega) | with_reducible refine sR_J ?_ (by omega) | with_reducible refine sR_C ?_ (by omega) | with_reducible refine sR_K ?_ (by omega) | with_reducible refine sR_F ?_ (by omega))) (by (try dsimp only [puM, poM, rpM, roM, rfM, plM, pyM, boM, bsM, opM, seM, rsM, rgM, mkM, ntM, enA, enK, enN, enF, enZ, unR, unT, svM, unM]); repeat (first | with_reducible exact sR_r | with_reducible exact sR_toM (by omega) | with_reducible refine sR_I ?_ (by omega) | with_reducible refine sR_J ?_ (by omega) | with_reducible refine sR_C ?_ (by omega) | with_reducible refine sR_K ?_ (by omega) | with_reducible refine sR_F ?_ (by omega))), zTe_f a3 (by (try dsimp only [puM, poM, rpM, roM, rfM, plM, pyM, boM, bsM, opM, seM, rsM, rgM, mkM, ntM, enA, enK, enN, enF, enZ, unR, unT, svM, unM]); repeat (first | with_reducible exact sR_r | with_reducible exact sR_toM (by omega) | with_reducible refine sR_I ?_ (by omega) | with_reducible refine sR_J ?_ (by omega) | with_reducible refine sR_C ?_ (by omega) | with_reducible refine sR_K ?_ (by omega) | with_reducible refine sR_F ?_ (by omega))) (by (try dsimp only [puM, poM, rpM, roM, rfM, plM, pyM, boM, bsM, opM, seM, rsM, rgM, mkM, ntM, enA, enK, enN, enF, enZ, unR, unT, svM, unM]); repeat (first | with_reducible exact sR_r | with_reducible exact sR_toM (by omega) | with_reducible refine sR_I ?_ (by omega) | with_reducible refine sR_J ?_ (by omega) | with_reducible refine sR_C ?_ (by omega) | with_reducible refine sR_K ?_ (by omega) | with_reducible refine sR_F ?_ (by omega))), zFl_f a4 (by (try dsimp only [puM, poM, rpM, roM, rfM, plM, pyM, boM, bsM, opM, seM, rsM, rgM, mkM, ntM, enA, enK, enN, enF, enZ, unR, unT, svM, unM]); repeat (first | with_reducible exact sR_r | with_reducible exact sR_toM (by omega) | with_reducible refine sR_I ?_ (by omega) | with_reducible refine sR_J ?_ (by omega) | with_reducible refine sR_C ?_ (by omega) | with_reducible refine sR_K ?_ (by omega) | with_reducible refine sR_F ?_ (by omega))) (by (try dsimp only [puM, poM, rpM, roM, rfM, plM, pyM, boM, bsM, opM, seM, rsM, rgM, mkM, ntM, enA, enK, enN, enF, enZ, unR, unT, svM, unM]); repeat (first | with_reducible exact sR_r | with_reducible exact sR_toM (by omega) | with_reducible refine sR_I ?_ (by omega) | with_reducible refine sR_J ?_ (by omega) | with_reducible refine sR_C ?_ (by omega) | with_reducible refine sR_K ?_ (by omega) | with_reducible refine sR_F ?_ (by omega))) (by (try dsimp only [puM, poM, rpM, roM, rfM, plM, pyM, boM, bsM, opM, seM, rsM, rgM, mkM, ntM, enA, enK, enN, enF, enZ, unR, unT, svM, unM]); repeat (first | with_reducible exact sR_r | with_reducible exact sR_toM (by omega) | with_reducible refine sR_I ?_ (by omega) | with_reducible refine sR_J ?_ (by omega) | with_reducible refine sR_C ?_ (by omega) | with_reducible refine sR_K ?_ (by omega) | with_reducible refine sR_F ?_ (by omega))) (by simp (disch := first | assumption | omega) only [plM, pyM, rI, rI1, rI0, rJ, rJ1, rJ0, rC, rC0, uI_2, uI_3, uJ_1, uJ_3, uC_1, uC_3, uT_1, uT_2, uT_3, rFI, rFI0, rFI1, rFI2, rFI3, rFJ, rFJ0, rFJ1, rFJ2, rFJ3])⟩
/-- what the class has written of a step that is begun -/
def zBg (ta N lv x y p k q : Nat) (M : ip_Mm) : Prop := M.1 (ta + 3) N = nI (lv + 1) ∧ M.1 (ta + 4) N = nI x ∧ M.1 (ta + 5) N = nI y ∧ M.1 (ta + 6) N = nI p ∧ M.1 (ta + 7) N = nI k ∧ M.1 (ta + 8) N = nI q
theorem zBg_f {x y : Nat} (h : zBg ta N lv x y p k q M) (hc : sR (ta + 3) (ta + 11) M M') : zBg ta N lv x y p k q M' := by
  unfold zBg
  rw [(hc (ta + 3) (by omega) (by omega)).1, (hc (ta + 4) (by omega) (by omega)).1, (hc (ta + 5) (by omega) (by omega)).1, (hc (ta + 6) (by omega) (by omega)).1, (hc (ta + 7) (by omega) (by omega)).1, (hc (ta + 8) (by omega) (by omega)).1]
  exact h
theorem zBg_bo {x y : Nat} (hT : isTr ta) (hlv : lv < 6) (hx : M.1 (73 + 2 * lv) 2 = nI x) (hy : M.1 (73 + 2 * lv) 3 = nI y) : zBg ta N lv x y p k q (boM M ta (73 + 2 * lv) N lv p k q) := by
  have ht := tr_om hT
  have f0 : ∀ y, y < 7 → ta + 3 + y ≠ 73 + 2 * lv := fun y hy => by omega
  have g0 := f0 0 (by omega)
  have g1 := f0 1 (by omega)
  have g2 := f0 2 (by omega)
  have g3 := f0 3 (by omega)
  have g4 := f0 4 (by omega)
  have g5 := f0 5 (by omega)
  refine ⟨?_, ?_, ?_, ?_, ?_, ?_⟩
  · simp (disch := first | assumption | omega) only [boM, bsM, rI, rI1, rI0, rJ, rJ1, rJ0, rC, rC0, uI_2, uI_3, uJ_1, uJ_3, uC_1, uC_3, uT_1, uT_2, uT_3, rFI, rFI0, rFI1, rFI2, rFI3, rFJ, rFJ0, rFJ1, rFJ2, rFJ3]
  · simp (disch := first | assumption | omega) only [boM, bsM, rI, rI1, rI0, rJ, rJ1, rJ0, rC, rC0, uI_2, uI_3, uJ_1, uJ_3, uC_1, uC_3, uT_1, uT_2, uT_3, rFI, rFI0, rFI1, rFI2, rFI3, rFJ, rFJ0, rFJ1, rFJ2, rFJ3, hx]
  · simp (disch := first | assumption | omega) only [boM, bsM, rI, rI1, rI0, rJ, rJ1, rJ0, rC, rC0, uI_2, uI_3, uJ_1, uJ_3, uC_1, uC_3, uT_1, uT_2, uT_3, rFI, rFI0, rFI1, rFI2, rFI3, rFJ, rFJ0, rFJ1, rFJ2, rFJ3, hy]
  · simp (disch := first | assumption | omega) only [boM, bsM, rI, rI1, rI0, rJ, rJ1, rJ0, rC, rC0, uI_2, uI_3, uJ_1, uJ_3, uC_1, uC_3, uT_1, uT_2, uT_3, rFI, rFI0, rFI1, rFI2, rFI3, rFJ, rFJ0, rFJ1, rFJ2, rFJ3]
  · simp (disch := first | assumption | omega) only [boM, bsM, rI, rI1, rI0, rJ, rJ1, rJ0, rC, rC0, uI_2, uI_3, uJ_1, uJ_3, uC_1, uC_3, uT_1, uT_2, uT_3, rFI, rFI0, rFI1, rFI2, rFI3, rFJ, rFJ0, rFJ1, rFJ2, rFJ3]
  · simp (disch := first | assumption | omega) only [boM, bsM, rI, rI1, rI0, rJ, rJ1, rJ0, rC, rC0, uI_2, uI_3, uJ_1, uJ_3, uC_1, uC_3, uT_1, uT_2, uT_3, rFI, rFI0, rFI1, rFI2, rFI3, rFJ, rFJ0, rFJ1, rFJ2, rFJ3]
def esM (M : ip_Mm) (ta N : Nat) (x : Int32) (w : Int64) : ip_Mm := uJ (uI M (ta + 9) N x) (ta + 10) N (if x = 0 then w else 0)
theorem q_endStep {d L : Nat} {xs : Nat → Int32} {x : Int32} (h : isTr ta) (hh : M.1 ta 7 = nI (N + 1)) (hn : N < 100) : ip_call d mTr_endStep [.ref ta, .int x, .long w] (ip_hm L xs M) = some (none, ip_hm L xs (esM M ta N x w)) := by
  rw [k_endStep h hh (by omega) (by omega)]
  rfl
theorem zW_es {x : Int32} (hT : isTr ta) (hn : n ≤ 6) (hw : zW K ta lim M0 n G N S T M) : zW K ta lim M0 n G N S T (esM M ta m x w) := by
  have ht := tr_om hT
  obtain ⟨hU, h2, h3, h4, h5⟩ := hw
  have c2 : sR (ta + 15) (ta + 16) M (esM M ta m x w) := by unfold esM; exact (by (try dsimp only [puM, poM, rpM, roM, rfM, plM, pyM, boM, bsM, opM, seM, rsM, rgM, mkM, ntM, enA, enK, enN, enF, enZ, unR, unT, svM, unM]); repeat (first | with_reducible exact sR_r | with_reducible exact sR_toM (by omega) | with_reducible refine sR_I ?_ (by omega) | with_reducible refine sR_J ?_ (by omega) | with_reducible refine sR_C ?_ (by omega) | with_reducible refine sR_K ?_ (by omega) | with_reducible refine sR_F ?_ (by omega)))
  have c1 : sR 50 51 M (esM M ta m x w) := by unfold esM; exact (by (try dsimp only [puM, poM, rpM, roM, rfM, plM, pyM, boM, bsM, opM, seM, rsM, rgM, mkM, ntM, enA, enK, enN, enF, enZ, unR, unT, svM, unM]); repeat (first | with_reducible exact sR_r | with_reducible exact sR_toM (by omega) | with_reducible refine sR_I ?_ (by omega) | with_reducible refine sR_J ?_ (by omega) | with_reducible refine sR_C ?_ (by omega) | with_reducible refine sR_K ?_ (by omega) | with_reducible refine sR_F ?_ (by omega)))
  have c3 : sR ta (ta + 1) M (esM M ta m x w) := by unfold esM; exact (by (try dsimp only [puM, poM, rpM, roM, rfM, plM, pyM, boM, bsM, opM, seM, rsM, rgM, mkM, ntM, enA, enK, enN, enF, enZ, unR, unT, svM, unM]); repeat (first | with_reducible exact sR_r | with_reducible exact sR_toM (by omega) | with_reducible refine sR_I ?_ (by omega) | with_reducible refine sR_J ?_ (by omega) | with_reducible refine sR_C ?_ (by omega) | with_reducible refine sR_K ?_ (by omega) | with_reducible refine sR_F ?_ (by omega)))
  refine ⟨by unfold esM; exact (by (try dsimp only [puM, poM, boM, bsM, opM, seM, svM, unM]); repeat (first | with_reducible assumption | with_reducible refine zU_I ?_ (by unfold cI; omega) | with_reducible refine zU_J ?_ (by unfold cJ; omega) | with_reducible refine zU_C ?_ (fun j => by unfold cJ; omega))), zWf_f h2 hn (by unfold esM; exact (by (try dsimp only [puM, poM, rpM, roM, rfM, plM, pyM, boM, bsM, opM, seM, rsM, rgM, mkM, ntM, enA, enK, enN, enF, enZ, unR, unT, svM, unM]); repeat (first | with_reducible exact sR_r | with_reducible exact sR_toM (by omega) | with_reducible refine sR_I ?_ (by omega) | with_reducible refine sR_J ?_ (by omega) | with_reducible refine sR_C ?_ (by omega) | with_reducible refine sR_K ?_ (by omega) | with_reducible refine sR_F ?_ (by omega)))), ?_, zTW_f h4 (by unfold esM; exact (by (try dsimp only [puM, poM, rpM, roM, rfM, plM, pyM, boM, bsM, opM, seM, rsM, rgM, mkM, ntM, enA, enK, enN, enF, enZ, unR, unT, svM, unM]); repeat (first | with_reducible exact sR_r | with_reducible exact sR_toM (by omega) | with_reducible refine sR_I ?_ (by omega) | with_reducible refine sR_J ?_ (by omega) | with_reducible refine sR_C ?_ (by omega) | with_reducible refine sR_K ?_ (by omega) | with_reducible refine sR_F ?_ (by omega)))), ?_⟩
  · unfold zWs
    rw [(c3 ta (by omega) (by omega)).1]
    exact h3
  · unfold zTl
    rw [(c2 (ta + 15) (by omega) (by omega)).1, (c1 50 (by omega) (by omega)).1]
    exact h5
theorem zW_T {T' : Nat} (hw : zW K ta lim M0 n G N S T M) (hT : T ≤ T') : zW K ta lim M0 n G N S T' M := ⟨hw.1, hw.2.1, hw.2.2.1, zTW_m hw.2.2.2.1 hT, hw.2.2.2.2⟩
theorem zFl_note {b kd pr : Int32} (h : zFl t N (lv + 1) M) (hN : N < 100) (hlv : lv < 6) : zFl t (N + 1) (lv + 1) (ntM M t N lv b kd pr w) := by
  obtain ⟨g, de, ch, cu, g1, g2, ⟨f1, f2, f3⟩, c1, c2, m1, m2⟩ := h
  have r0 : sR 280 283 M (ntM M t N lv b kd pr w) := (by (try dsimp only [puM, poM, rpM, roM, rfM, plM, pyM, boM, bsM, opM, seM, rsM, rgM, mkM, ntM, enA, enK, enN, enF, enZ, unR, unT, svM, unM]); repeat (first | with_reducible exact sR_r | with_reducible exact sR_toM (by omega) | with_reducible refine sR_I ?_ (by omega) | with_reducible refine sR_J ?_ (by omega) | with_reducible refine sR_C ?_ (by omega) | with_reducible refine sR_K ?_ (by omega) | with_reducible refine sR_F ?_ (by omega)))
  have r1 : sR 291 293 M (ntM M t N lv b kd pr w) := (by (try dsimp only [puM, poM, rpM, roM, rfM, plM, pyM, boM, bsM, opM, seM, rsM, rgM, mkM, ntM, enA, enK, enN, enF, enZ, unR, unT, svM, unM]); repeat (first | with_reducible exact sR_r | with_reducible exact sR_toM (by omega) | with_reducible refine sR_I ?_ (by omega) | with_reducible refine sR_J ?_ (by omega) | with_reducible refine sR_C ?_ (by omega) | with_reducible refine sR_K ?_ (by omega) | with_reducible refine sR_F ?_ (by omega)))
  have r2 : sR 296 297 M (ntM M t N lv b kd pr w) := (by (try dsimp only [puM, poM, rpM, roM, rfM, plM, pyM, boM, bsM, opM, seM, rsM, rgM, mkM, ntM, enA, enK, enN, enF, enZ, unR, unT, svM, unM]); repeat (first | with_reducible exact sR_r | with_reducible exact sR_toM (by omega) | with_reducible refine sR_I ?_ (by omega) | with_reducible refine sR_J ?_ (by omega) | with_reducible refine sR_C ?_ (by omega) | with_reducible refine sR_K ?_ (by omega) | with_reducible refine sR_F ?_ (by omega)))
  have r3 : sR 256 257 M (ntM M t N lv b kd pr w) := (by (try dsimp only [puM, poM, rpM, roM, rfM, plM, pyM, boM, bsM, opM, seM, rsM, rgM, mkM, ntM, enA, enK, enN, enF, enZ, unR, unT, svM, unM]); repeat (first | with_reducible exact sR_r | with_reducible exact sR_toM (by omega) | with_reducible refine sR_I ?_ (by omega) | with_reducible refine sR_J ?_ (by omega) | with_reducible refine sR_C ?_ (by omega) | with_reducible refine sR_K ?_ (by omega) | with_reducible refine sR_F ?_ (by omega)))
  have e0 := (r0 280 (by omega) (by omega)).1
  have e1 := (r0 281 (by omega) (by omega)).1
  have e2 := (r0 282 (by omega) (by omega)).1
  have e3 := (r1 291 (by omega) (by omega)).1
  have e4 := (r1 292 (by omega) (by omega)).1
  have e5 := (r2 296 (by omega) (by omega)).1
  have e6 := (r3 256 (by omega) (by omega)).1
  have o7 : ∀ j x, j < N → x < 7 → (ntM M t N lv b kd pr w).1 277 (7 * (100 * t + j) + x) = M.1 277 (7 * (100 * t + j) + x) := by
    intro j x hj hx
    simp (disch := first | assumption | omega) only [ntM, rI, rI1, rI0, rJ, rJ1, rJ0, rC, rC0, uI_2, uI_3, uJ_1, uJ_3, uC_1, uC_3, uT_1, uT_2, uT_3, rFI, rFI0, rFI1, rFI2, rFI3, rFJ, rFJ0, rFJ1, rFJ2, rFJ3]
  have o9 : ∀ j, j < N → (ntM M t N lv b kd pr w).1 279 (100 * t + j) = M.1 279 (100 * t + j) := by
    intro j hj
    simp (disch := first | assumption | omega) only [ntM, rI, rI1, rI0, rJ, rJ1, rJ0, rC, rC0, uI_2, uI_3, uJ_1, uJ_3, uC_1, uC_3, uT_1, uT_2, uT_3, rFI, rFI0, rFI1, rFI2, rFI3, rFJ, rFJ0, rFJ1, rFJ2, rFJ3]
  have n0 : (ntM M t N lv b kd pr w).1 277 (7 * (100 * t + N)) = nI (lv + 1) := by simp (disch := first | assumption | omega) only [ntM, rI, rI1, rI0, rJ, rJ1, rJ0, rC, rC0, uI_2, uI_3, uJ_1, uJ_3, uC_1, uC_3, uT_1, uT_2, uT_3, rFI, rFI0, rFI1, rFI2, rFI3, rFJ, rFJ0, rFJ1, rFJ2, rFJ3]
  have n1 : (ntM M t N lv b kd pr w).1 277 (7 * (100 * t + N) + 1) = M.1 291 lv := by simp (disch := first | assumption | omega) only [ntM, rI, rI1, rI0, rJ, rJ1, rJ0, rC, rC0, uI_2, uI_3, uJ_1, uJ_3, uC_1, uC_3, uT_1, uT_2, uT_3, rFI, rFI0, rFI1, rFI2, rFI3, rFJ, rFJ0, rFJ1, rFJ2, rFJ3]
  have n2 : (ntM M t N lv b kd pr w).1 277 (7 * (100 * t + N) + 2) = M.1 292 lv := by simp (disch := first | assumption | omega) only [ntM, rI, rI1, rI0, rJ, rJ1, rJ0, rC, rC0, uI_2, uI_3, uJ_1, uJ_3, uC_1, uC_3, uT_1, uT_2, uT_3, rFI, rFI0, rFI1, rFI2, rFI3, rFJ, rFJ0, rFJ1, rFJ2, rFJ3]
  have n9 : (ntM M t N lv b kd pr w).1 279 (100 * t + N) = M.1 296 lv := by simp (disch := first | assumption | omega) only [ntM, rI, rI1, rI0, rJ, rJ1, rJ0, rC, rC0, uI_2, uI_3, uJ_1, uJ_3, uC_1, uC_3, uT_1, uT_2, uT_3, rFI, rFI0, rFI1, rFI2, rFI3, rFJ, rFJ0, rFJ1, rFJ2, rFJ3]
  refine ⟨g, fun j => if j = N then lv + 1 else de j, fun j => if j = N then cu else ch j, cu, g1, by rw [e6]; exact g2, ⟨fun j hj => ?_, fun _ => ?_, fun j hj => ?_⟩, ?_, ?_, fun z => absurd z (by omega), fun _ => ?_⟩
  · by_cases e : j = N
    · subst e
      obtain ⟨d1, d2, d3⟩ := c2 lv (by omega)
      show 1 ≤ (if j = j then lv + 1 else de j) ∧ _
      simp only [if_true, Nat.add_sub_cancel]
      refine ⟨by omega, by omega, n0, by rw [n9, d1], ?_, by rw [n1, e0, d2], by rw [n2, e1, d3]⟩
      unfold zCv
      rw [e2]
      exact c1
    · obtain ⟨d1, d2, d3, d4, d5, d6, d7⟩ := f1 j (by omega)
      simp only [if_neg e]
      refine ⟨d1, d2, (o7 j 0 (by omega) (by omega)).trans d3, (o9 j (by omega)).trans d4, ?_, by rw [o7 j 1 (by omega) (by omega), e0]; exact d6, by rw [o7 j 2 (by omega) (by omega), e1]; exact d7⟩
      unfold zCv
      rw [e2]
      exact d5
  · show (if 0 = N then lv + 1 else de 0) = 1
    by_cases e : 0 = N
    · rw [if_pos e]
      have := m1 e.symm
      omega
    · rw [if_neg e]
      exact f2 (by omega)
  · by_cases e : j + 1 = N
    · have hj' : j ≠ N := by omega
      simp only [if_pos e, if_neg hj']
      have := m2 (by omega)
      have e' : N - 1 = j := by omega
      rw [e'] at this
      exact this
    · have hj' : j ≠ N := by omega
      simp only [if_neg e, if_neg hj']
      exact f3 j (by omega)
  · unfold zCv
    rw [e2]
    exact c1
  · intro l hl
    rw [e5, e0, e1, e3, e4]
    exact c2 l hl
  · simp only [Nat.add_sub_cancel, if_true]
    exact ⟨by omega, fun l _ _ => trivial⟩
theorem zR_note_t {x y r : Nat} {w' : Int64} (hT : isTr ta) (hlv : lv < 6) (hn : n ≤ 6) (hN : N < 100) (hgx : gX G lv < 6) (hgm : gM G lv < 4) (hp20 : p < 20) (hk16 : k < 16) (hrc : rc = 1) (hr : zR ta t rc lim hl M0 n (lv + 1) G (N + 1) N S r Mc Mr) (hb : zBg ta N lv (gX G lv) (gM G lv) p k q Mc) (hr9 : r < 9) (hw : r = 0 → w = w') : zR ta t rc lim hl M0 n (lv + 1) G (N + 1) (N + 1) S r (esM Mc ta N (nI r) w) (ntM Mr t N lv (nI p) (nI k) (nI q) (if r = 0 then w' else 0)) := by
  have ht := tr_om hT
  obtain ⟨hU, h2, h3, h4, h5, h6, hS, h7⟩ := hr
  have r3 : sR 256 257 Mr (ntM Mr t N lv (nI p) (nI k) (nI q) (if r = 0 then w' else 0)) := (by (try dsimp only [puM, poM, rpM, roM, rfM, plM, pyM, boM, bsM, opM, seM, rsM, rgM, mkM, ntM, enA, enK, enN, enF, enZ, unR, unT, svM, unM]); repeat (first | with_reducible exact sR_r | with_reducible exact sR_toM (by omega) | with_reducible refine sR_I ?_ (by omega) | with_reducible refine sR_J ?_ (by omega) | with_reducible refine sR_C ?_ (by omega) | with_reducible refine sR_K ?_ (by omega) | with_reducible refine sR_F ?_ (by omega)))
  have c3 : sR ta (ta + 1) Mc (esM Mc ta N (nI r) w) := by unfold esM; exact (by (try dsimp only [puM, poM, rpM, roM, rfM, plM, pyM, boM, bsM, opM, seM, rsM, rgM, mkM, ntM, enA, enK, enN, enF, enZ, unR, unT, svM, unM]); repeat (first | with_reducible exact sR_r | with_reducible exact sR_toM (by omega) | with_reducible refine sR_I ?_ (by omega) | with_reducible refine sR_J ?_ (by omega) | with_reducible refine sR_C ?_ (by omega) | with_reducible refine sR_K ?_ (by omega) | with_reducible refine sR_F ?_ (by omega)))
  have c4 : sR 42 51 Mc (esM Mc ta N (nI r) w) := by unfold esM; exact (by (try dsimp only [puM, poM, rpM, roM, rfM, plM, pyM, boM, bsM, opM, seM, rsM, rgM, mkM, ntM, enA, enK, enN, enF, enZ, unR, unT, svM, unM]); repeat (first | with_reducible exact sR_r | with_reducible exact sR_toM (by omega) | with_reducible refine sR_I ?_ (by omega) | with_reducible refine sR_J ?_ (by omega) | with_reducible refine sR_C ?_ (by omega) | with_reducible refine sR_K ?_ (by omega) | with_reducible refine sR_F ?_ (by omega)))
  have c5 : sR 73 85 Mc (esM Mc ta N (nI r) w) := by unfold esM; exact (by (try dsimp only [puM, poM, rpM, roM, rfM, plM, pyM, boM, bsM, opM, seM, rsM, rgM, mkM, ntM, enA, enK, enN, enF, enZ, unR, unT, svM, unM]); repeat (first | with_reducible exact sR_r | with_reducible exact sR_toM (by omega) | with_reducible refine sR_I ?_ (by omega) | with_reducible refine sR_J ?_ (by omega) | with_reducible refine sR_C ?_ (by omega) | with_reducible refine sR_K ?_ (by omega) | with_reducible refine sR_F ?_ (by omega)))
  have c6 : sR (ta + 11) (ta + 19) Mc (esM Mc ta N (nI r) w) := by unfold esM; exact (by (try dsimp only [puM, poM, rpM, roM, rfM, plM, pyM, boM, bsM, opM, seM, rsM, rgM, mkM, ntM, enA, enK, enN, enF, enZ, unR, unT, svM, unM]); repeat (first | with_reducible exact sR_r | with_reducible exact sR_toM (by omega) | with_reducible refine sR_I ?_ (by omega) | with_reducible refine sR_J ?_ (by omega) | with_reducible refine sR_C ?_ (by omega) | with_reducible refine sR_K ?_ (by omega) | with_reducible refine sR_F ?_ (by omega)))
  refine ⟨(by (try dsimp only [rpM, roM, rfM, plM, pyM, rsM, rgM, mkM, ntM, enA, enK, enN, enF, enZ, unR, unT]); repeat (first | with_reducible assumption | with_reducible refine zU_I ?_ (by unfold dI; omega) | with_reducible refine zU_J ?_ (by unfold dJ; omega) | with_reducible refine zU_K ?_ (fun j h1 h2 => by unfold dJ; omega) | with_reducible refine zU_F ?_ (fun j h1 h2 => by unfold dJ; omega))), zSt_f h2 (fun c a b => c4 c (by omega) (by omega)) (by (try dsimp only [puM, poM, rpM, roM, rfM, plM, pyM, boM, bsM, opM, seM, rsM, rgM, mkM, ntM, enA, enK, enN, enF, enZ, unR, unT, svM, unM]); repeat (first | with_reducible exact sR_r | with_reducible exact sR_toM (by omega) | with_reducible refine sR_I ?_ (by omega) | with_reducible refine sR_J ?_ (by omega) | with_reducible refine sR_C ?_ (by omega) | with_reducible refine sR_K ?_ (by omega) | with_reducible refine sR_F ?_ (by omega))) (by (try dsimp only [puM, poM, rpM, roM, rfM, plM, pyM, boM, bsM, opM, seM, rsM, rgM, mkM, ntM, enA, enK, enN, enF, enZ, unR, unT, svM, unM]); repeat (first | with_reducible exact sR_r | with_reducible exact sR_toM (by omega) | with_reducible refine sR_I ?_ (by omega) | with_reducible refine sR_J ?_ (by omega) | with_reducible refine sR_C ?_ (by omega) | with_reducible refine sR_K ?_ (by omega) | with_reducible refine sR_F ?_ (by omega))), zFr_f h3 hn c5 (by (try dsimp only [puM, poM, rpM, roM, rfM, plM, pyM, boM, bsM, opM, seM, rsM, rgM, mkM, ntM, enA, enK, enN, enF, enZ, unR, unT, svM, unM]); repeat (first | with_reducible exact sR_r | with_reducible exact sR_toM (by omega) | with_reducible refine sR_I ?_ (by omega) | with_reducible refine sR_J ?_ (by omega) | with_reducible refine sR_C ?_ (by omega) | with_reducible refine sR_K ?_ (by omega) | with_reducible refine sR_F ?_ (by omega))), zSc_f h4 r3 c3, zKp_f h5 (by omega) (fun c a b => c4 c (by omega) (by omega)) (by (try dsimp only [puM, poM, rpM, roM, rfM, plM, pyM, boM, bsM, opM, seM, rsM, rgM, mkM, ntM, enA, enK, enN, enF, enZ, unR, unT, svM, unM]); repeat (first | with_reducible exact sR_r | with_reducible exact sR_toM (by omega) | with_reducible refine sR_I ?_ (by omega) | with_reducible refine sR_J ?_ (by omega) | with_reducible refine sR_C ?_ (by omega) | with_reducible refine sR_K ?_ (by omega) | with_reducible refine sR_F ?_ (by omega))) (by (try dsimp only [puM, poM, rpM, roM, rfM, plM, pyM, boM, bsM, opM, seM, rsM, rgM, mkM, ntM, enA, enK, enN, enF, enZ, unR, unT, svM, unM]); repeat (first | with_reducible exact sR_r | with_reducible exact sR_toM (by omega) | with_reducible refine sR_I ?_ (by omega) | with_reducible refine sR_J ?_ (by omega) | with_reducible refine sR_C ?_ (by omega) | with_reducible refine sR_K ?_ (by omega) | with_reducible refine sR_F ?_ (by omega))) (by (try dsimp only [puM, poM, rpM, roM, rfM, plM, pyM, boM, bsM, opM, seM, rsM, rgM, mkM, ntM, enA, enK, enN, enF, enZ, unR, unT, svM, unM]); repeat (first | with_reducible exact sR_r | with_reducible exact sR_toM (by omega) | with_reducible refine sR_I ?_ (by omega) | with_reducible refine sR_J ?_ (by omega) | with_reducible refine sR_C ?_ (by omega) | with_reducible refine sR_K ?_ (by omega) | with_reducible refine sR_F ?_ (by omega))), zK0_f h6 (by (try dsimp only [puM, poM, rpM, roM, rfM, plM, pyM, boM, bsM, opM, seM, rsM, rgM, mkM, ntM, enA, enK, enN, enF, enZ, unR, unT, svM, unM]); repeat (first | with_reducible exact sR_r | with_reducible exact sR_toM (by omega) | with_reducible refine sR_I ?_ (by omega) | with_reducible refine sR_J ?_ (by omega) | with_reducible refine sR_C ?_ (by omega) | with_reducible refine sR_K ?_ (by omega) | with_reducible refine sR_F ?_ (by omega))), zSk_f hS c5 (by (try dsimp only [puM, poM, rpM, roM, rfM, plM, pyM, boM, bsM, opM, seM, rsM, rgM, mkM, ntM, enA, enK, enN, enF, enZ, unR, unT, svM, unM]); repeat (first | with_reducible exact sR_r | with_reducible exact sR_toM (by omega) | with_reducible refine sR_I ?_ (by omega) | with_reducible refine sR_J ?_ (by omega) | with_reducible refine sR_C ?_ (by omega) | with_reducible refine sR_K ?_ (by omega) | with_reducible refine sR_F ?_ (by omega))), fun z => ?_⟩
  obtain ⟨a1, a2, a3, a4⟩ := h7 z
  refine ⟨fun j hj => ?_, zTo_f a2 (fun c a b => c6 c (by omega) (by omega)) (by (try dsimp only [puM, poM, rpM, roM, rfM, plM, pyM, boM, bsM, opM, seM, rsM, rgM, mkM, ntM, enA, enK, enN, enF, enZ, unR, unT, svM, unM]); repeat (first | with_reducible exact sR_r | with_reducible exact sR_toM (by omega) | with_reducible refine sR_I ?_ (by omega) | with_reducible refine sR_J ?_ (by omega) | with_reducible refine sR_C ?_ (by omega) | with_reducible refine sR_K ?_ (by omega) | with_reducible refine sR_F ?_ (by omega))), zTe_f a3 (fun c a b => c6 c (by omega) (by omega)) (by (try dsimp only [puM, poM, rpM, roM, rfM, plM, pyM, boM, bsM, opM, seM, rsM, rgM, mkM, ntM, enA, enK, enN, enF, enZ, unR, unT, svM, unM]); repeat (first | with_reducible exact sR_r | with_reducible exact sR_toM (by omega) | with_reducible refine sR_I ?_ (by omega) | with_reducible refine sR_J ?_ (by omega) | with_reducible refine sR_C ?_ (by omega) | with_reducible refine sR_K ?_ (by omega) | with_reducible refine sR_F ?_ (by omega))), zFl_note a4 hN hlv⟩
  by_cases e : j = N
  · subst e
    obtain ⟨k1, k2, -, -⟩ := h5 lv (by omega)
    obtain ⟨b0, b1, b2, b3, b4, b5⟩ := hb
    have s8 := h4.2.2.2.2.2.2.2.1
    refine ⟨fun x hx => ?_, ?_, ⟨lv + 1, by omega, ?_⟩, ⟨_, hgx, ?_⟩, ⟨_, hgm, ?_⟩, ⟨_, hp20, ?_⟩, ⟨_, hk16, ?_⟩, ⟨_, hr9, ?_⟩⟩
    · match x, hx with
      | 0, _ => simp (disch := first | assumption | omega) only [ntM, esM, rI, rI1, rI0, rJ, rJ1, rJ0, rC, rC0, uI_2, uI_3, uJ_1, uJ_3, uC_1, uC_3, uT_1, uT_2, uT_3, rFI, rFI0, rFI1, rFI2, rFI3, rFJ, rFJ0, rFJ1, rFJ2, rFJ3, Nat.add_zero, b0]
      | 1, _ => simp (disch := first | assumption | omega) only [ntM, esM, rI, rI1, rI0, rJ, rJ1, rJ0, rC, rC0, uI_2, uI_3, uJ_1, uJ_3, uC_1, uC_3, uT_1, uT_2, uT_3, rFI, rFI0, rFI1, rFI2, rFI3, rFJ, rFJ0, rFJ1, rFJ2, rFJ3, Nat.add_assoc, Nat.reduceAdd, k1, b1]
      | 2, _ => simp (disch := first | assumption | omega) only [ntM, esM, rI, rI1, rI0, rJ, rJ1, rJ0, rC, rC0, uI_2, uI_3, uJ_1, uJ_3, uC_1, uC_3, uT_1, uT_2, uT_3, rFI, rFI0, rFI1, rFI2, rFI3, rFJ, rFJ0, rFJ1, rFJ2, rFJ3, Nat.add_assoc, Nat.reduceAdd, k2, b2]
      | 3, _ => simp (disch := first | assumption | omega) only [ntM, esM, rI, rI1, rI0, rJ, rJ1, rJ0, rC, rC0, uI_2, uI_3, uJ_1, uJ_3, uC_1, uC_3, uT_1, uT_2, uT_3, rFI, rFI0, rFI1, rFI2, rFI3, rFJ, rFJ0, rFJ1, rFJ2, rFJ3, Nat.add_assoc, Nat.reduceAdd, b3]
      | 4, _ => simp (disch := first | assumption | omega) only [ntM, esM, rI, rI1, rI0, rJ, rJ1, rJ0, rC, rC0, uI_2, uI_3, uJ_1, uJ_3, uC_1, uC_3, uT_1, uT_2, uT_3, rFI, rFI0, rFI1, rFI2, rFI3, rFJ, rFJ0, rFJ1, rFJ2, rFJ3, Nat.add_assoc, Nat.reduceAdd, b4]
      | 5, _ => simp (disch := first | assumption | omega) only [ntM, esM, rI, rI1, rI0, rJ, rJ1, rJ0, rC, rC0, uI_2, uI_3, uJ_1, uJ_3, uC_1, uC_3, uT_1, uT_2, uT_3, rFI, rFI0, rFI1, rFI2, rFI3, rFJ, rFJ0, rFJ1, rFJ2, rFJ3, Nat.add_assoc, Nat.reduceAdd, b5]
      | 6, _ => simp (disch := first | assumption | omega) only [ntM, esM, rI, rI1, rI0, rJ, rJ1, rJ0, rC, rC0, uI_2, uI_3, uJ_1, uJ_3, uC_1, uC_3, uT_1, uT_2, uT_3, rFI, rFI0, rFI1, rFI2, rFI3, rFJ, rFJ0, rFJ1, rFJ2, rFJ3, Nat.add_assoc, Nat.reduceAdd, s8]
    · by_cases h0 : r = 0
      · subst h0
        have : w = w' := hw rfl
        subst this
        simp (disch := first | assumption | omega) only [ntM, esM, rI, rI1, rI0, rJ, rJ1, rJ0, rC, rC0, uI_2, uI_3, uJ_1, uJ_3, uC_1, uC_3, uT_1, uT_2, uT_3, rFI, rFI0, rFI1, rFI2, rFI3, rFJ, rFJ0, rFJ1, rFJ2, rFJ3]
        rfl
      · have h0' : ¬ nI r = 0 := nI_ne (y := 0) (by omega) (by omega) h0
        simp only [if_neg h0]
        simp (disch := first | assumption | omega) only [ntM, esM, rI, rI1, rI0, rJ, rJ1, rJ0, rC, rC0, uI_2, uI_3, uJ_1, uJ_3, uC_1, uC_3, uT_1, uT_2, uT_3, rFI, rFI0, rFI1, rFI2, rFI3, rFJ, rFJ0, rFJ1, rFJ2, rFJ3]
        rw [if_neg h0']
    · simp (disch := first | assumption | omega) only [esM, rI, rI1, rI0, rJ, rJ1, rJ0, rC, rC0, uI_2, uI_3, uJ_1, uJ_3, uC_1, uC_3, uT_1, uT_2, uT_3, rFI, rFI0, rFI1, rFI2, rFI3, rFJ, rFJ0, rFJ1, rFJ2, rFJ3, Nat.add_zero, b0]
    · simp (disch := first | assumption | omega) only [esM, rI, rI1, rI0, rJ, rJ1, rJ0, rC, rC0, uI_2, uI_3, uJ_1, uJ_3, uC_1, uC_3, uT_1, uT_2, uT_3, rFI, rFI0, rFI1, rFI2, rFI3, rFJ, rFJ0, rFJ1, rFJ2, rFJ3, Nat.add_assoc, Nat.reduceAdd, b1]
    · simp (disch := first | assumption | omega) only [esM, rI, rI1, rI0, rJ, rJ1, rJ0, rC, rC0, uI_2, uI_3, uJ_1, uJ_3, uC_1, uC_3, uT_1, uT_2, uT_3, rFI, rFI0, rFI1, rFI2, rFI3, rFJ, rFJ0, rFJ1, rFJ2, rFJ3, Nat.add_assoc, Nat.reduceAdd, b2]
    · simp (disch := first | assumption | omega) only [esM, rI, rI1, rI0, rJ, rJ1, rJ0, rC, rC0, uI_2, uI_3, uJ_1, uJ_3, uC_1, uC_3, uT_1, uT_2, uT_3, rFI, rFI0, rFI1, rFI2, rFI3, rFJ, rFJ0, rFJ1, rFJ2, rFJ3, Nat.add_assoc, Nat.reduceAdd, b3]
    · simp (disch := first | assumption | omega) only [esM, rI, rI1, rI0, rJ, rJ1, rJ0, rC, rC0, uI_2, uI_3, uJ_1, uJ_3, uC_1, uC_3, uT_1, uT_2, uT_3, rFI, rFI0, rFI1, rFI2, rFI3, rFJ, rFJ0, rFJ1, rFJ2, rFJ3, Nat.add_assoc, Nat.reduceAdd, b4]
    · simp (disch := first | assumption | omega) only [esM, rI, rI1, rI0, rJ, rJ1, rJ0, rC, rC0, uI_2, uI_3, uJ_1, uJ_3, uC_1, uC_3, uT_1, uT_2, uT_3, rFI, rFI0, rFI1, rFI2, rFI3, rFJ, rFJ0, rFJ1, rFJ2, rFJ3, Nat.add_assoc, Nat.reduceAdd]
  · obtain ⟨b1, b2, b3⟩ := a1 j (by omega)
    have e1 : ∀ x, x < 7 → Mc.1 (ta + 3 + x) j = (esM Mc ta N (nI r) w).1 (ta + 3 + x) j := by
      intro x hx
      unfold esM
      show _ = (uI Mc (ta + 9) N (nI r)).1 (ta + 3 + x) j
      by_cases e9 : ta + 3 + x = ta + 9
      · rw [e9, rI1 e]
      · rw [rI e9]
    refine ⟨fun x hx => ?_, ?_, zRg_c b3 e1⟩
    · rw [← e1 x hx, ← b1 x hx]
      simp (disch := first | assumption | omega) only [ntM, rI, rI1, rI0, rJ, rJ1, rJ0, rC, rC0, uI_2, uI_3, uJ_1, uJ_3, uC_1, uC_3, uT_1, uT_2, uT_3, rFI, rFI0, rFI1, rFI2, rFI3, rFJ, rFJ0, rFJ1, rFJ2, rFJ3]
    · simp (disch := first | assumption | omega) only [ntM, esM, rI, rI1, rI0, rJ, rJ1, rJ0, rC, rC0, uI_2, uI_3, uJ_1, uJ_3, uC_1, uC_3, uT_1, uT_2, uT_3, rFI, rFI0, rFI1, rFI2, rFI3, rFJ, rFJ0, rFJ1, rFJ2, rFJ3]
      exact b2
theorem zR_note_n {r : Nat} (hT : isTr ta) (hlv : lv < 6) (hn : n ≤ 6) (hrc : rc ≠ 1) (hr : zR ta t rc lim hl M0 n (lv + 1) G (N + 1) m S r Mc Mr) : zR ta t rc lim hl M0 n (lv + 1) G (N + 1) (N + 1) S r (esM Mc ta N v w) Mr := by
  have ht := tr_om hT
  obtain ⟨hU, h2, h3, h4, h5, h6, hS, h7⟩ := hr
  have c3 : sR ta (ta + 1) Mc (esM Mc ta N v w) := by unfold esM; exact (by (try dsimp only [puM, poM, rpM, roM, rfM, plM, pyM, boM, bsM, opM, seM, rsM, rgM, mkM, ntM, enA, enK, enN, enF, enZ, unR, unT, svM, unM]); repeat (first | with_reducible exact sR_r | with_reducible exact sR_toM (by omega) | with_reducible refine sR_I ?_ (by omega) | with_reducible refine sR_J ?_ (by omega) | with_reducible refine sR_C ?_ (by omega) | with_reducible refine sR_K ?_ (by omega) | with_reducible refine sR_F ?_ (by omega)))
  have c4 : sR 42 51 Mc (esM Mc ta N v w) := by unfold esM; exact (by (try dsimp only [puM, poM, rpM, roM, rfM, plM, pyM, boM, bsM, opM, seM, rsM, rgM, mkM, ntM, enA, enK, enN, enF, enZ, unR, unT, svM, unM]); repeat (first | with_reducible exact sR_r | with_reducible exact sR_toM (by omega) | with_reducible refine sR_I ?_ (by omega) | with_reducible refine sR_J ?_ (by omega) | with_reducible refine sR_C ?_ (by omega) | with_reducible refine sR_K ?_ (by omega) | with_reducible refine sR_F ?_ (by omega)))
  have c5 : sR 73 85 Mc (esM Mc ta N v w) := by unfold esM; exact (by (try dsimp only [puM, poM, rpM, roM, rfM, plM, pyM, boM, bsM, opM, seM, rsM, rgM, mkM, ntM, enA, enK, enN, enF, enZ, unR, unT, svM, unM]); repeat (first | with_reducible exact sR_r | with_reducible exact sR_toM (by omega) | with_reducible refine sR_I ?_ (by omega) | with_reducible refine sR_J ?_ (by omega) | with_reducible refine sR_C ?_ (by omega) | with_reducible refine sR_K ?_ (by omega) | with_reducible refine sR_F ?_ (by omega)))
  exact ⟨hU, zSt_f h2 (fun c a b => c4 c (by omega) (by omega)) sR_r sR_r, zFr_f h3 hn c5 sR_r, zSc_f h4 sR_r c3, zKp_f h5 (by omega) (fun c a b => c4 c (by omega) (by omega)) sR_r sR_r sR_r, h6, zSk_f hS c5 sR_r, fun z => absurd z hrc⟩
end SN
