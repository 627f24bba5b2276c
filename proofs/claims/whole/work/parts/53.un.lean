/-! a try undone -/
section UNP
variable {K : zK} {G G' : zG} {M Mc P C0 R0 : ip_Mm} {n ta t rc m f dp N S T fl lim : Nat} {hl v : Int32} {w : Int64}
def zKq (rc f : Nat) (Mc P : ip_Mm) : Prop := (∀ a c, a < 6 → c < 8 → P.2.1 300 (48 * f + (8 * a + c)) = Mc.2.1 (44 + (f - 1)) (a * 9 + c)) ∧ (∀ a, a < 6 → P.2.1 301 (6 * f + a) = Mc.2.1 (44 + (f - 1)) (a * 9 + 8)) ∧ (rc = 1 → P.1 304 f = Mc.1 50 (f - 1) ∧ ∀ a, a < 6 → P.2.1 302 (6 * f + a) = Mc.2.1 (44 + (f - 1)) (54 + a) ∧ P.2.1 303 (6 * f + a) = Mc.2.1 (44 + (f - 1)) (60 + a))
theorem zKq_f {P' : ip_Mm} (h : zKq rc f Mc P) (hr : sR 300 305 P P') : zKq rc f Mc P' := by
  unfold zKq
  rw [(hr 300 (by omega) (by omega)).2, (hr 301 (by omega) (by omega)).2, (hr 302 (by omega) (by omega)).2, (hr 303 (by omega) (by omega)).2, (hr 304 (by omega) (by omega)).1]
  exact h
theorem zW_undo {l : Nat} (hT : isTr ta) (hn : n ≤ 6) (hl : l < 6) (hw : zW K ta lim C0 n G N S T M) : zW K ta lim C0 n G N S T (unM M l ta) := by
  have ht := tr_om hT
  obtain ⟨hU, h2, h3, h4, h5⟩ := hw
  have c1 : sR 50 51 M (unM M l ta) := (by (try dsimp only [puM, poM, rpM, roM, rfM, plM, pyM, boM, bsM, opM, seM, rsM, rgM, mkM, ntM, enA, enK, enN, enF, enZ, unR, unT, svM, unM]); repeat (first | with_reducible exact sR_r | with_reducible exact sR_toM (by omega) | with_reducible refine sR_I ?_ (by omega) | with_reducible refine sR_J ?_ (by omega) | with_reducible refine sR_C ?_ (by omega) | with_reducible refine sR_K ?_ (by omega) | with_reducible refine sR_F ?_ (by omega)))
  have c3 : sR ta (ta + 1) M (unM M l ta) := (by (try dsimp only [puM, poM, rpM, roM, rfM, plM, pyM, boM, bsM, opM, seM, rsM, rgM, mkM, ntM, enA, enK, enN, enF, enZ, unR, unT, svM, unM]); repeat (first | with_reducible exact sR_r | with_reducible exact sR_toM (by omega) | with_reducible refine sR_I ?_ (by omega) | with_reducible refine sR_J ?_ (by omega) | with_reducible refine sR_C ?_ (by omega) | with_reducible refine sR_K ?_ (by omega) | with_reducible refine sR_F ?_ (by omega)))
  refine ⟨(by (try dsimp only [puM, poM, boM, bsM, opM, seM, svM, unM]); repeat (first | with_reducible assumption | with_reducible refine zU_I ?_ (by unfold cI; omega) | with_reducible refine zU_J ?_ (by unfold cJ; omega) | with_reducible refine zU_C ?_ (fun j => by unfold cJ; omega))), zWf_f h2 hn (by (try dsimp only [puM, poM, rpM, roM, rfM, plM, pyM, boM, bsM, opM, seM, rsM, rgM, mkM, ntM, enA, enK, enN, enF, enZ, unR, unT, svM, unM]); repeat (first | with_reducible exact sR_r | with_reducible exact sR_toM (by omega) | with_reducible refine sR_I ?_ (by omega) | with_reducible refine sR_J ?_ (by omega) | with_reducible refine sR_C ?_ (by omega) | with_reducible refine sR_K ?_ (by omega) | with_reducible refine sR_F ?_ (by omega))), ?_, zTW_f h4 (by (try dsimp only [puM, poM, rpM, roM, rfM, plM, pyM, boM, bsM, opM, seM, rsM, rgM, mkM, ntM, enA, enK, enN, enF, enZ, unR, unT, svM, unM]); repeat (first | with_reducible exact sR_r | with_reducible exact sR_toM (by omega) | with_reducible refine sR_I ?_ (by omega) | with_reducible refine sR_J ?_ (by omega) | with_reducible refine sR_C ?_ (by omega) | with_reducible refine sR_K ?_ (by omega) | with_reducible refine sR_F ?_ (by omega))), ⟨?_, ?_⟩⟩
  · unfold zWs
    rw [(c3 ta (by omega) (by omega)).1]
    exact h3
  · have e : (unM M l ta).1 (ta + 15) 3 = M.1 50 l := by simp (disch := first | assumption | omega) only [unM, rI, rI1, rI0, rJ, rJ1, rJ0, rC, rC0, uI_2, uI_3, uJ_1, uJ_3, uC_1, uC_3, uT_1, uT_2, uT_3, rFI, rFI0, rFI1, rFI2, rFI3, rFJ, rFJ0, rFJ1, rFJ2, rFJ3]
    rw [e]
    exact h5.2 l hl
  · rw [(c1 50 (by omega) (by omega)).1]
    exact h5.2
theorem un42 {l i : Nat} (hi : i < 66) : (unM M l ta).2.1 42 i = M.2.1 (44 + l) i := by
  simp (disch := first | assumption | omega) only [unM, rI, rI1, rI0, rJ, rJ1, rJ0, rC, rC0, uI_2, uI_3, uJ_1, uJ_3, uC_1, uC_3, uT_1, uT_2, uT_3, rFI, rFI0, rFI1, rFI2, rFI3, rFJ, rFJ0, rFJ1, rFJ2, rFJ3, if_pos hi]
theorem zR_undo_t (hT : isTr ta) (hn : n ≤ 6) (hd : dp ≤ 6) (hf : f < 6) (hrc : rc = 1) (hk : zKq rc f Mc P) (hr : zR ta t rc lim hl R0 n dp G N m S fl Mc P) : zR ta t rc lim hl R0 n dp G N m S fl (unM Mc (f - 1) ta) (unT P f t) := by
  have ht := tr_om hT
  obtain ⟨hU, h2, h3, h4, h5, h6, hS, h7⟩ := hr
  obtain ⟨k1, k2, k3⟩ := hk
  obtain ⟨a1, a2, a3, a4⟩ := h7 hrc
  have c1 : sR 44 51 Mc (unM Mc (f - 1) ta) := (by (try dsimp only [puM, poM, rpM, roM, rfM, plM, pyM, boM, bsM, opM, seM, rsM, rgM, mkM, ntM, enA, enK, enN, enF, enZ, unR, unT, svM, unM]); repeat (first | with_reducible exact sR_r | with_reducible exact sR_toM (by omega) | with_reducible refine sR_I ?_ (by omega) | with_reducible refine sR_J ?_ (by omega) | with_reducible refine sR_C ?_ (by omega) | with_reducible refine sR_K ?_ (by omega) | with_reducible refine sR_F ?_ (by omega)))
  have c2 : sR 73 85 Mc (unM Mc (f - 1) ta) := (by (try dsimp only [puM, poM, rpM, roM, rfM, plM, pyM, boM, bsM, opM, seM, rsM, rgM, mkM, ntM, enA, enK, enN, enF, enZ, unR, unT, svM, unM]); repeat (first | with_reducible exact sR_r | with_reducible exact sR_toM (by omega) | with_reducible refine sR_I ?_ (by omega) | with_reducible refine sR_J ?_ (by omega) | with_reducible refine sR_C ?_ (by omega) | with_reducible refine sR_K ?_ (by omega) | with_reducible refine sR_F ?_ (by omega)))
  have c3 : sR ta (ta + 15) Mc (unM Mc (f - 1) ta) := (by (try dsimp only [puM, poM, rpM, roM, rfM, plM, pyM, boM, bsM, opM, seM, rsM, rgM, mkM, ntM, enA, enK, enN, enF, enZ, unR, unT, svM, unM]); repeat (first | with_reducible exact sR_r | with_reducible exact sR_toM (by omega) | with_reducible refine sR_I ?_ (by omega) | with_reducible refine sR_J ?_ (by omega) | with_reducible refine sR_C ?_ (by omega) | with_reducible refine sR_K ?_ (by omega) | with_reducible refine sR_F ?_ (by omega)))
  have c4 : sR (ta + 16) (ta + 19) Mc (unM Mc (f - 1) ta) := (by (try dsimp only [puM, poM, rpM, roM, rfM, plM, pyM, boM, bsM, opM, seM, rsM, rgM, mkM, ntM, enA, enK, enN, enF, enZ, unR, unT, svM, unM]); repeat (first | with_reducible exact sR_r | with_reducible exact sR_toM (by omega) | with_reducible refine sR_I ?_ (by omega) | with_reducible refine sR_J ?_ (by omega) | with_reducible refine sR_C ?_ (by omega) | with_reducible refine sR_K ?_ (by omega) | with_reducible refine sR_F ?_ (by omega)))
  have r1 : sR 256 263 P (unT P f t) := (by (try dsimp only [puM, poM, rpM, roM, rfM, plM, pyM, boM, bsM, opM, seM, rsM, rgM, mkM, ntM, enA, enK, enN, enF, enZ, unR, unT, svM, unM]); repeat (first | with_reducible exact sR_r | with_reducible exact sR_toM (by omega) | with_reducible refine sR_I ?_ (by omega) | with_reducible refine sR_J ?_ (by omega) | with_reducible refine sR_C ?_ (by omega) | with_reducible refine sR_K ?_ (by omega) | with_reducible refine sR_F ?_ (by omega)))
  have r2 : sR 291 305 P (unT P f t) := (by (try dsimp only [puM, poM, rpM, roM, rfM, plM, pyM, boM, bsM, opM, seM, rsM, rgM, mkM, ntM, enA, enK, enN, enF, enZ, unR, unT, svM, unM]); repeat (first | with_reducible exact sR_r | with_reducible exact sR_toM (by omega) | with_reducible refine sR_I ?_ (by omega) | with_reducible refine sR_J ?_ (by omega) | with_reducible refine sR_C ?_ (by omega) | with_reducible refine sR_K ?_ (by omega) | with_reducible refine sR_F ?_ (by omega)))
  have r3 : sR 277 285 P (unT P f t) := (by (try dsimp only [puM, poM, rpM, roM, rfM, plM, pyM, boM, bsM, opM, seM, rsM, rgM, mkM, ntM, enA, enK, enN, enF, enZ, unR, unT, svM, unM]); repeat (first | with_reducible exact sR_r | with_reducible exact sR_toM (by omega) | with_reducible refine sR_I ?_ (by omega) | with_reducible refine sR_J ?_ (by omega) | with_reducible refine sR_C ?_ (by omega) | with_reducible refine sR_K ?_ (by omega) | with_reducible refine sR_F ?_ (by omega)))
  have r4 : sR 286 289 P (unT P f t) := (by (try dsimp only [puM, poM, rpM, roM, rfM, plM, pyM, boM, bsM, opM, seM, rsM, rgM, mkM, ntM, enA, enK, enN, enF, enZ, unR, unT, svM, unM]); repeat (first | with_reducible exact sR_r | with_reducible exact sR_toM (by omega) | with_reducible refine sR_I ?_ (by omega) | with_reducible refine sR_J ?_ (by omega) | with_reducible refine sR_C ?_ (by omega) | with_reducible refine sR_K ?_ (by omega) | with_reducible refine sR_F ?_ (by omega)))
  refine ⟨(by (try dsimp only [rpM, roM, rfM, plM, pyM, rsM, rgM, mkM, ntM, enA, enK, enN, enF, enZ, unR, unT]); repeat (first | with_reducible assumption | with_reducible refine zU_I ?_ (by unfold dI; omega) | with_reducible refine zU_J ?_ (by unfold dJ; omega) | with_reducible refine zU_K ?_ (fun j h1 h2 => by unfold dJ; omega) | with_reducible refine zU_F ?_ (fun j h1 h2 => by unfold dJ; omega))), ⟨fun a c ha hc => ?_, fun a ha => ?_, fun z a ha => ⟨?_, ?_⟩⟩, zFr_f h3 hn c2 (fun c a b => r2 c (by omega) (by omega)), zSc_f h4 (fun c a b => r1 c (by omega) (by omega)) (fun c a b => c3 c (by omega) (by omega)), zKp_f h5 hd c1 (fun c a b => r2 c (by omega) (by omega)) (fun c a b => r2 c (by omega) (by omega)) (fun c a b => r2 c (by omega) (by omega)), zK0_f h6 (fun c a b => r2 c (by omega) (by omega)), zSk_f hS c2 (fun c a b => r2 c (by omega) (by omega)), fun z => ⟨zSp_f a1 (fun c a b => c3 c (by omega) (by omega)) (fun c a b => r3 c (by omega) (by omega)), zTo_f a2 (fun c a b => c3 c (by omega) (by omega)) (fun c a b => r3 c (by omega) (by omega)), ⟨?_, fun i hi => ?_⟩, zFl_f a4 (fun c a b => r3 c (by omega) (by omega)) (fun c a b => r2 c (by omega) (by omega)) (fun c a b => r2 c (by omega) (by omega)) (by rw [(r1 256 (by omega) (by omega)).1])⟩⟩
  · rw [un42 (by omega), ← k1 a c ha hc]
    simp (disch := first | assumption | omega) only [unT, unR, rI, rI1, rI0, rJ, rJ1, rJ0, rC, rC0, uI_2, uI_3, uJ_1, uJ_3, uC_1, uC_3, uT_1, uT_2, uT_3, rFI, rFI0, rFI1, rFI2, rFI3, rFJ, rFJ0, rFJ1, rFJ2, rFJ3, rK, rK0, rK1, rK2, Nat.sub_zero]
  · rw [un42 (by omega), ← k2 a ha]
    simp (disch := first | assumption | omega) only [unT, unR, rI, rI1, rI0, rJ, rJ1, rJ0, rC, rC0, uI_2, uI_3, uJ_1, uJ_3, uC_1, uC_3, uT_1, uT_2, uT_3, rFI, rFI0, rFI1, rFI2, rFI3, rFJ, rFJ0, rFJ1, rFJ2, rFJ3, rK, rK0, rK1, rK2, Nat.sub_zero]
  · rw [un42 (by omega), ← ((k3 z).2 a ha).1]
    simp (disch := first | assumption | omega) only [unT, unR, rI, rI1, rI0, rJ, rJ1, rJ0, rC, rC0, uI_2, uI_3, uJ_1, uJ_3, uC_1, uC_3, uT_1, uT_2, uT_3, rFI, rFI0, rFI1, rFI2, rFI3, rFJ, rFJ0, rFJ1, rFJ2, rFJ3, rK, rK0, rK1, rK2, Nat.add_sub_cancel_left]
  · rw [un42 (by omega), ← ((k3 z).2 a ha).2]
    simp (disch := first | assumption | omega) only [unT, unR, rI, rI1, rI0, rJ, rJ1, rJ0, rC, rC0, uI_2, uI_3, uJ_1, uJ_3, uC_1, uC_3, uT_1, uT_2, uT_3, rFI, rFI0, rFI1, rFI2, rFI3, rFJ, rFJ0, rFJ1, rFJ2, rFJ3, rK, rK0, rK1, rK2, Nat.add_sub_cancel_left]
  · have q := (k3 z).1
    simp (disch := first | assumption | omega) only [unT, unR, unM, rI, rI1, rI0, rJ, rJ1, rJ0, rC, rC0, uI_2, uI_3, uJ_1, uJ_3, uC_1, uC_3, uT_1, uT_2, uT_3, rFI, rFI0, rFI1, rFI2, rFI3, rFJ, rFJ0, rFJ1, rFJ2, rFJ3, rK, rK0, rK1, rK2, q]
  · rw [(r4 286 (by omega) (by omega)).1, (r4 287 (by omega) (by omega)).2, (r4 288 (by omega) (by omega)).2, (c4 (ta + 16) (by omega) (by omega)).1, (c4 (ta + 17) (by omega) (by omega)).2, (c4 (ta + 18) (by omega) (by omega)).2]
    exact a3.2 i hi
theorem zR_undo_n (hT : isTr ta) (hn : n ≤ 6) (hd : dp ≤ 6) (hf : f < 6) (hrc : rc ≠ 1) (hk : zKq rc f Mc P) (hr : zR ta t rc lim hl R0 n dp G N m S fl Mc P) : zR ta t rc lim hl R0 n dp G N m S fl (unM Mc (f - 1) ta) (unR P f) := by
  have ht := tr_om hT
  obtain ⟨hU, h2, h3, h4, h5, h6, hS, h7⟩ := hr
  obtain ⟨k1, k2, k3⟩ := hk
  have c1 : sR 44 51 Mc (unM Mc (f - 1) ta) := (by (try dsimp only [puM, poM, rpM, roM, rfM, plM, pyM, boM, bsM, opM, seM, rsM, rgM, mkM, ntM, enA, enK, enN, enF, enZ, unR, unT, svM, unM]); repeat (first | with_reducible exact sR_r | with_reducible exact sR_toM (by omega) | with_reducible refine sR_I ?_ (by omega) | with_reducible refine sR_J ?_ (by omega) | with_reducible refine sR_C ?_ (by omega) | with_reducible refine sR_K ?_ (by omega) | with_reducible refine sR_F ?_ (by omega)))
  have c2 : sR 73 85 Mc (unM Mc (f - 1) ta) := (by (try dsimp only [puM, poM, rpM, roM, rfM, plM, pyM, boM, bsM, opM, seM, rsM, rgM, mkM, ntM, enA, enK, enN, enF, enZ, unR, unT, svM, unM]); repeat (first | with_reducible exact sR_r | with_reducible exact sR_toM (by omega) | with_reducible refine sR_I ?_ (by omega) | with_reducible refine sR_J ?_ (by omega) | with_reducible refine sR_C ?_ (by omega) | with_reducible refine sR_K ?_ (by omega) | with_reducible refine sR_F ?_ (by omega)))
  have c3 : sR ta (ta + 15) Mc (unM Mc (f - 1) ta) := (by (try dsimp only [puM, poM, rpM, roM, rfM, plM, pyM, boM, bsM, opM, seM, rsM, rgM, mkM, ntM, enA, enK, enN, enF, enZ, unR, unT, svM, unM]); repeat (first | with_reducible exact sR_r | with_reducible exact sR_toM (by omega) | with_reducible refine sR_I ?_ (by omega) | with_reducible refine sR_J ?_ (by omega) | with_reducible refine sR_C ?_ (by omega) | with_reducible refine sR_K ?_ (by omega) | with_reducible refine sR_F ?_ (by omega)))
  have r1 : sR 256 263 P (unR P f) := (by (try dsimp only [puM, poM, rpM, roM, rfM, plM, pyM, boM, bsM, opM, seM, rsM, rgM, mkM, ntM, enA, enK, enN, enF, enZ, unR, unT, svM, unM]); repeat (first | with_reducible exact sR_r | with_reducible exact sR_toM (by omega) | with_reducible refine sR_I ?_ (by omega) | with_reducible refine sR_J ?_ (by omega) | with_reducible refine sR_C ?_ (by omega) | with_reducible refine sR_K ?_ (by omega) | with_reducible refine sR_F ?_ (by omega)))
  have r2 : sR 291 305 P (unR P f) := (by (try dsimp only [puM, poM, rpM, roM, rfM, plM, pyM, boM, bsM, opM, seM, rsM, rgM, mkM, ntM, enA, enK, enN, enF, enZ, unR, unT, svM, unM]); repeat (first | with_reducible exact sR_r | with_reducible exact sR_toM (by omega) | with_reducible refine sR_I ?_ (by omega) | with_reducible refine sR_J ?_ (by omega) | with_reducible refine sR_C ?_ (by omega) | with_reducible refine sR_K ?_ (by omega) | with_reducible refine sR_F ?_ (by omega)))
  refine ⟨(by (try dsimp only [rpM, roM, rfM, plM, pyM, rsM, rgM, mkM, ntM, enA, enK, enN, enF, enZ, unR, unT]); repeat (first | with_reducible assumption | with_reducible refine zU_I ?_ (by unfold dI; omega) | with_reducible refine zU_J ?_ (by unfold dJ; omega) | with_reducible refine zU_K ?_ (fun j h1 h2 => by unfold dJ; omega) | with_reducible refine zU_F ?_ (fun j h1 h2 => by unfold dJ; omega))), ⟨fun a c ha hc => ?_, fun a ha => ?_, fun z => absurd z hrc⟩, zFr_f h3 hn c2 (fun c a b => r2 c (by omega) (by omega)), zSc_f h4 (fun c a b => r1 c (by omega) (by omega)) (fun c a b => c3 c (by omega) (by omega)), zKp_f h5 hd c1 (fun c a b => r2 c (by omega) (by omega)) (fun c a b => r2 c (by omega) (by omega)) (fun c a b => r2 c (by omega) (by omega)), zK0_f h6 (fun c a b => r2 c (by omega) (by omega)), zSk_f hS c2 (fun c a b => r2 c (by omega) (by omega)), fun z => absurd z hrc⟩
  · rw [un42 (by omega), ← k1 a c ha hc]
    simp (disch := first | assumption | omega) only [unR, rI, rI1, rI0, rJ, rJ1, rJ0, rC, rC0, uI_2, uI_3, uJ_1, uJ_3, uC_1, uC_3, uT_1, uT_2, uT_3, rFI, rFI0, rFI1, rFI2, rFI3, rFJ, rFJ0, rFJ1, rFJ2, rFJ3, rK, rK0, rK1, rK2, Nat.sub_zero]
  · rw [un42 (by omega), ← k2 a ha]
    simp (disch := first | assumption | omega) only [unR, rI, rI1, rI0, rJ, rJ1, rJ0, rC, rC0, uI_2, uI_3, uJ_1, uJ_3, uC_1, uC_3, uT_1, uT_2, uT_3, rFI, rFI0, rFI1, rFI2, rFI3, rFJ, rFJ0, rFJ1, rFJ2, rFJ3, rK, rK0, rK1, rK2, Nat.sub_zero]
end UNP
/-! the plain steps -/
def pn (k : Nat) : Nat := if k = 3 then 2 else if k = 2 ∨ k = 4 ∨ k = 5 ∨ k = 6 ∨ k = 7 ∨ k = 9 ∨ k = 10 then 1 else 0
theorem k16 {k : Nat} (h : k < 16) : k = 0 ∨ k = 1 ∨ k = 2 ∨ k = 3 ∨ k = 4 ∨ k = 5 ∨ k = 6 ∨ k = 7 ∨ k = 8 ∨ k = 9 ∨ k = 10 ∨ k = 11 ∨ k = 12 ∨ k = 13 ∨ k = 14 ∨ k = 15 := by omega
theorem pp_n {k : Nat} (h : k < 16) : ip_pp k = nI (pn k) := by
  rcases k16 h with rfl | rfl | rfl | rfl | rfl | rfl | rfl | rfl | rfl | rfl | rfl | rfl | rfl | rfl | rfl | rfl <;> rfl
section PL
variable {d L : Nat} {xs : Nat → Int32} {K : zK} {ta t rc lim : Nat} {hl : Int32} {C0 R0 : ip_Mm} {lv : Nat} {G : zG} {N m S T k c h p q : Nat} {a w : Int64} {Mc Mc1 : ip_Mm}
theorem ap_all (hE : zE K ta lim hl C0) (hlv : lv < 6) (hc : c < 8) (hcl : c = gC G lv) (hs0 : 0 < kSz K c) (hw : zW K ta lim C0 (lv + 1) G N S T Mc) (hT9 : T < 100) (hh : Mc.1 (73 + 2 * lv) 1 = nI h) (h12 : h ≤ 12) (hk : k < 16) (h6 : k ≠ 6) (h7 : k ≠ 7) (h10 : k ≠ 10) (hp : pn k ≤ h) : zAP d L xs K ta lim hl C0 lv G N m S T k c a Mc := by
  have hT := hE.2.1
  rcases k16 hk with rfl | rfl | rfl | rfl | rfl | rfl | rfl | rfl | rfl | rfl | rfl | rfl | rfl | rfl | rfl | rfl
  · exact ap_0 hT hlv hc hw hh h12
  · exact ap_1 hE hlv hc hw hT9 hh h12
  · exact ap_2 hE hlv hc hw hT9 hh h12 hp
  · exact ap_3 hE hlv hc hw hh h12 hp
  · exact ap_4 hE hlv hc hcl hs0 hw hh h12 hp
  · exact ap_5 hE hlv hc hw hh h12 hp
  · exact absurd rfl h6
  · exact absurd rfl h7
  · exact ap_8 hT hlv hc hw hh h12
  · exact ap_9 hE hlv hc hw hh h12 hp
  · exact absurd rfl h10
  · exact ap_11 hT hlv hc hw hh h12
  · exact ap_12 hT hlv hc hw hh h12
  · exact ap_13 hT hlv hc hw hh h12
  · exact ap_14 hT hlv hc hw hh h12
  · exact ap_15 hE hlv hc hw hh h12
theorem ax_all (hlv : lv < 6) (hT : isTr ta) (hh : Mc.1 (73 + 2 * lv) 1 = nI h) (hk : k < 16) (h6 : k ≠ 6) (h7 : k ≠ 7) (h10 : k ≠ 10) (hp : h < pn k) : zAR L xs K ta lim hl lv G N m S k c a Mc Mc 2 := by
  refine ax hlv hT hh ?_
  unfold pn at hp
  split at hp
  · right; omega
  · split at hp
    · left; omega
    · omega
/-- a step's end: noted by both -/
theorem nt_all {n r N : Nat} {Mr1 : ip_Mm} {w' : Int64} (hK : zKR K R0) (hT : isTr ta) (hrc : rc ≤ 1) (ht8 : rc = 1 → t < 8) (hlv : lv < 6) (hn : n ≤ 6) (hN : N < 100) (hgx : gX G lv < 6) (hgm : gM G lv < 4) (hc : c < 8) (hp : p < 20) (hk : kKd K c p = k) (hk6 : k < 16) (hq : kPc K k = q) (hr9 : r < 9) (hb : zBg ta N lv (gX G lv) (gM G lv) p k q Mc1) (hw : r = 0 → w = w') (hr : zR ta t rc lim hl R0 n (lv + 1) G (N + 1) N S r Mc1 Mr1) : ∃ Mr2, (∀ d, ip_call d mR_notes [.ref 256, .int (nI lv), .int (nI (20 * c + p)), .int (nI p), .long w'] (ip_hm L xs Mr1) = some (none, ip_hm L xs Mr2)) ∧ zR ta t rc lim hl R0 n (lv + 1) G (N + 1) (N + 1) S r (esM Mc1 ta N (nI r) w) Mr2 ∧ (rc = 1 → Mr2.1 277 (7 * (100 * t + N)) = nI (lv + 1)) ∧ sR 280 400 Mr1 Mr2 ∧ Mr2.2.1 256 = Mr1.2.1 256 ∧ Mr2.1 256 = Mr1.1 256 := by
  by_cases hr1 : rc = 1
  · have e1 := hr.2.2.2.1
    have ek := zD_op hK hr.1 hc hp
    rw [hk] at ek
    have eq := zD_pc hK hr.1 hk6
    rw [hq] at eq
    have kn := fun d => r_notes (d := d) (L := L) (xs := xs) (w := w') (b := nI p) (q := 20 * c + p) (show lv < 7 by omega) (by rw [e1.1, hr1]; rfl) (e1.2.1 hr1) (ht8 hr1) e1.2.2.2.2.2.2.1 hN (by omega) ek.1 hk6 (zS_fl hr) hr9
    rw [eq] at kn
    refine ⟨_, kn, zR_note_t (x := 0) (y := 0) hT hlv hn hN hgx hgm hp hk6 hr1 hr hb hr9 hw, fun _ => ?_, (by (try dsimp only [puM, poM, rpM, roM, rfM, plM, pyM, boM, bsM, opM, seM, rsM, rgM, mkM, ntM, enA, enK, enN, enF, enZ, unR, unT, svM, unM]); repeat (first | with_reducible exact sR_r | with_reducible exact sR_toM (by omega) | with_reducible refine sR_I ?_ (by omega) | with_reducible refine sR_J ?_ (by omega) | with_reducible refine sR_C ?_ (by omega) | with_reducible refine sR_K ?_ (by omega) | with_reducible refine sR_F ?_ (by omega))), ?_, ?_⟩
    · simp (disch := first | assumption | omega) only [ntM, rI, rI1, rI0, rJ, rJ1, rJ0, rC, rC0, uI_2, uI_3, uJ_1, uJ_3, uC_1, uC_3, uT_1, uT_2, uT_3, rFI, rFI0, rFI1, rFI2, rFI3, rFJ, rFJ0, rFJ1, rFJ2, rFJ3]
    · simp (disch := first | assumption | omega) only [ntM, rI, rI1, rI0, rJ, rJ1, rJ0, rC, rC0, uI_2, uI_3, uJ_1, uJ_3, uC_1, uC_3, uT_1, uT_2, uT_3, rFI, rFI0, rFI1, rFI2, rFI3, rFJ, rFJ0, rFJ1, rFJ2, rFJ3]
    · simp (disch := first | assumption | omega) only [ntM, rI, rI1, rI0, rJ, rJ1, rJ0, rC, rC0, uI_2, uI_3, uJ_1, uJ_3, uC_1, uC_3, uT_1, uT_2, uT_3, rFI, rFI0, rFI1, rFI2, rFI3, rFJ, rFJ0, rFJ1, rFJ2, rFJ3]
  · exact ⟨Mr1, fun d => r_notes_n (by rw [hr.2.2.2.1.1, show rc = 0 by omega]; rfl), zR_note_n hT hlv hn hr1 hr, fun z => absurd z hr1, sR_r, rfl, rfl⟩
end PL
