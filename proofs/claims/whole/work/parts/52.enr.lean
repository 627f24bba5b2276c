/-! a frame entered: flames; the whole -/
section ER
variable {K : zK} {G G' : zG} {M Mc P C0 R0 : ip_Mm} {n ta t rc m f N S T fl lim x y c b g gg : Nat} {hl v zz : Int32} {w : Int64}
theorem zFl_en (hf : f < 6) (hgg : P.1 256 48 = nI gg) (hg1 : gg ≤ 100) (h : zFl t m f P) (h0 : m = 0 → f = 0) (h1 : 0 < m → P.1 277 (7 * (100 * t + (m - 1))) = nI f) (hz : zz = if f = 0 then -1 else P.1 296 (f - 1)) : zFl t m (f + 1) (enZ (enF (enK (enA P f (nI x) (nI y) (nI c) w (nI b)) f t) t gg (nI x) (nI y) zz) f gg g) := by
  obtain ⟨g', de, ch, cu, g1, g2, ⟨f1, f2, f3⟩, c1, c2, m1, m2⟩ := h
  have eg : g' = gg := nI_ij (by omega) (by omega) (g2.symm.trans hgg)
  subst eg
  have r7 : (enZ (enF (enK (enA P f (nI x) (nI y) (nI c) w (nI b)) f t) t g' (nI x) (nI y) zz) f g' g).1 277 = P.1 277 := by simp (disch := first | assumption | omega) only [enZ, enF, enK, enA, rI, rI1, rI0, rJ, rJ1, rJ0, rC, rC0, uI_2, uI_3, uJ_1, uJ_3, uC_1, uC_3, uT_1, uT_2, uT_3, rFI, rFI0, rFI1, rFI2, rFI3, rFJ, rFJ0, rFJ1, rFJ2, rFJ3, rK, rK2]
  have r9 : (enZ (enF (enK (enA P f (nI x) (nI y) (nI c) w (nI b)) f t) t g' (nI x) (nI y) zz) f g' g).1 279 = P.1 279 := by simp (disch := first | assumption | omega) only [enZ, enF, enK, enA, rI, rI1, rI0, rJ, rJ1, rJ0, rC, rC0, uI_2, uI_3, uJ_1, uJ_3, uC_1, uC_3, uT_1, uT_2, uT_3, rFI, rFI0, rFI1, rFI2, rFI3, rFJ, rFJ0, rFJ1, rFJ2, rFJ3, rK, rK2]
  have o0 : ∀ j, j < g' → (enZ (enF (enK (enA P f (nI x) (nI y) (nI c) w (nI b)) f t) t g' (nI x) (nI y) zz) f g' g).1 280 (101 * t + j) = P.1 280 (101 * t + j) := fun j hj => by simp (disch := first | assumption | omega) only [enZ, enF, enK, enA, rI, rI1, rI0, rJ, rJ1, rJ0, rC, rC0, uI_2, uI_3, uJ_1, uJ_3, uC_1, uC_3, uT_1, uT_2, uT_3, rFI, rFI0, rFI1, rFI2, rFI3, rFJ, rFJ0, rFJ1, rFJ2, rFJ3, rK, rK2]
  have o1 : ∀ j, j < g' → (enZ (enF (enK (enA P f (nI x) (nI y) (nI c) w (nI b)) f t) t g' (nI x) (nI y) zz) f g' g).1 281 (101 * t + j) = P.1 281 (101 * t + j) := fun j hj => by simp (disch := first | assumption | omega) only [enZ, enF, enK, enA, rI, rI1, rI0, rJ, rJ1, rJ0, rC, rC0, uI_2, uI_3, uJ_1, uJ_3, uC_1, uC_3, uT_1, uT_2, uT_3, rFI, rFI0, rFI1, rFI2, rFI3, rFJ, rFJ0, rFJ1, rFJ2, rFJ3, rK, rK2]
  have o2 : ∀ j, j < g' → (enZ (enF (enK (enA P f (nI x) (nI y) (nI c) w (nI b)) f t) t g' (nI x) (nI y) zz) f g' g).1 282 (101 * t + j) = P.1 282 (101 * t + j) := fun j hj => by simp (disch := first | assumption | omega) only [enZ, enF, enK, enA, rI, rI1, rI0, rJ, rJ1, rJ0, rC, rC0, uI_2, uI_3, uJ_1, uJ_3, uC_1, uC_3, uT_1, uT_2, uT_3, rFI, rFI0, rFI1, rFI2, rFI3, rFJ, rFJ0, rFJ1, rFJ2, rFJ3, rK, rK2]
  have n0 : (enZ (enF (enK (enA P f (nI x) (nI y) (nI c) w (nI b)) f t) t g' (nI x) (nI y) zz) f g' g).1 280 (101 * t + g') = nI x := by simp (disch := first | assumption | omega) only [enZ, enF, enK, enA, rI, rI1, rI0, rJ, rJ1, rJ0, rC, rC0, uI_2, uI_3, uJ_1, uJ_3, uC_1, uC_3, uT_1, uT_2, uT_3, rFI, rFI0, rFI1, rFI2, rFI3, rFJ, rFJ0, rFJ1, rFJ2, rFJ3, rK, rK2]
  have n1 : (enZ (enF (enK (enA P f (nI x) (nI y) (nI c) w (nI b)) f t) t g' (nI x) (nI y) zz) f g' g).1 281 (101 * t + g') = nI y := by simp (disch := first | assumption | omega) only [enZ, enF, enK, enA, rI, rI1, rI0, rJ, rJ1, rJ0, rC, rC0, uI_2, uI_3, uJ_1, uJ_3, uC_1, uC_3, uT_1, uT_2, uT_3, rFI, rFI0, rFI1, rFI2, rFI3, rFJ, rFJ0, rFJ1, rFJ2, rFJ3, rK, rK2]
  have n2 : (enZ (enF (enK (enA P f (nI x) (nI y) (nI c) w (nI b)) f t) t g' (nI x) (nI y) zz) f g' g).1 282 (101 * t + g') = zz := by simp (disch := first | assumption | omega) only [enZ, enF, enK, enA, rI, rI1, rI0, rJ, rJ1, rJ0, rC, rC0, uI_2, uI_3, uJ_1, uJ_3, uC_1, uC_3, uT_1, uT_2, uT_3, rFI, rFI0, rFI1, rFI2, rFI3, rFJ, rFJ0, rFJ1, rFJ2, rFJ3, rK, rK2]
  have n6 : (enZ (enF (enK (enA P f (nI x) (nI y) (nI c) w (nI b)) f t) t g' (nI x) (nI y) zz) f g' g).1 296 f = nI g' := by
    have q : P.1 256 48 = nI g' := g2
    simp (disch := first | assumption | omega) only [enZ, enF, enK, enA, rI, rI1, rI0, rJ, rJ1, rJ0, rC, rC0, uI_2, uI_3, uJ_1, uJ_3, uC_1, uC_3, uT_1, uT_2, uT_3, rFI, rFI0, rFI1, rFI2, rFI3, rFJ, rFJ0, rFJ1, rFJ2, rFJ3, rK, rK2, q]
  have n91 : (enZ (enF (enK (enA P f (nI x) (nI y) (nI c) w (nI b)) f t) t g' (nI x) (nI y) zz) f g' g).1 291 f = nI x := by simp (disch := first | assumption | omega) only [enZ, enF, enK, enA, rI, rI1, rI0, rJ, rJ1, rJ0, rC, rC0, uI_2, uI_3, uJ_1, uJ_3, uC_1, uC_3, uT_1, uT_2, uT_3, rFI, rFI0, rFI1, rFI2, rFI3, rFJ, rFJ0, rFJ1, rFJ2, rFJ3, rK, rK2]
  have n92 : (enZ (enF (enK (enA P f (nI x) (nI y) (nI c) w (nI b)) f t) t g' (nI x) (nI y) zz) f g' g).1 292 f = nI y := by simp (disch := first | assumption | omega) only [enZ, enF, enK, enA, rI, rI1, rI0, rJ, rJ1, rJ0, rC, rC0, uI_2, uI_3, uJ_1, uJ_3, uC_1, uC_3, uT_1, uT_2, uT_3, rFI, rFI0, rFI1, rFI2, rFI3, rFJ, rFJ0, rFJ1, rFJ2, rFJ3, rK, rK2]
  have o6 : ∀ l, l ≠ f → (enZ (enF (enK (enA P f (nI x) (nI y) (nI c) w (nI b)) f t) t g' (nI x) (nI y) zz) f g' g).1 296 l = P.1 296 l ∧ (enZ (enF (enK (enA P f (nI x) (nI y) (nI c) w (nI b)) f t) t g' (nI x) (nI y) zz) f g' g).1 291 l = P.1 291 l ∧ (enZ (enF (enK (enA P f (nI x) (nI y) (nI c) w (nI b)) f t) t g' (nI x) (nI y) zz) f g' g).1 292 l = P.1 292 l := fun l hl => by
    refine ⟨?_, ?_, ?_⟩
    · simp (disch := first | assumption | omega) only [enZ, enF, enK, enA, rI, rI1, rI0, rJ, rJ1, rJ0, rC, rC0, uI_2, uI_3, uJ_1, uJ_3, uC_1, uC_3, uT_1, uT_2, uT_3, rFI, rFI0, rFI1, rFI2, rFI3, rFJ, rFJ0, rFJ1, rFJ2, rFJ3, rK, rK2]
    · simp (disch := first | assumption | omega) only [enZ, enF, enK, enA, rI, rI1, rI0, rJ, rJ1, rJ0, rC, rC0, uI_2, uI_3, uJ_1, uJ_3, uC_1, uC_3, uT_1, uT_2, uT_3, rFI, rFI0, rFI1, rFI2, rFI3, rFJ, rFJ0, rFJ1, rFJ2, rFJ3, rK, rK2]
    · simp (disch := first | assumption | omega) only [enZ, enF, enK, enA, rI, rI1, rI0, rJ, rJ1, rJ0, rC, rC0, uI_2, uI_3, uJ_1, uJ_3, uC_1, uC_3, uT_1, uT_2, uT_3, rFI, rFI0, rFI1, rFI2, rFI3, rFJ, rFJ0, rFJ1, rFJ2, rFJ3, rK, rK2]
  have n48 : (enZ (enF (enK (enA P f (nI x) (nI y) (nI c) w (nI b)) f t) t g' (nI x) (nI y) zz) f g' g).1 256 48 = nI (g' + 1) := by simp (disch := first | assumption | omega) only [enZ, enF, enK, enA, rI, rI1, rI0, rJ, rJ1, rJ0, rC, rC0, uI_2, uI_3, uJ_1, uJ_3, uC_1, uC_3, uT_1, uT_2, uT_3, rFI, rFI0, rFI1, rFI2, rFI3, rFJ, rFJ0, rFJ1, rFJ2, rFJ3, rK, rK2]
  have cv : ∀ n c', zCv t g' n P c' → zCv t (g' + 1) n (enZ (enF (enK (enA P f (nI x) (nI y) (nI c) w (nI b)) f t) t g' (nI x) (nI y) zz) f g' g) c' := fun n c' hc l hl => by
    obtain ⟨k1, k2⟩ := hc l hl
    exact ⟨by omega, (o2 _ k1).trans k2⟩
  refine ⟨g' + 1, de, ch, fun l => if l = f then g' else cu l, by omega, n48, ⟨fun k hk => ?_, f2, f3⟩, fun l hl => ?_, fun l hl => ?_, fun z => by have := h0 z; omega, fun z => ?_⟩
  · obtain ⟨d1, d2, d3, d4, d5, d6, d7⟩ := f1 k hk
    have := (d5 (de k - 1) (by omega)).1
    rw [r7, r9, o0 _ this, o1 _ this]
    exact ⟨d1, d2, d3, d4, cv _ _ d5, d6, d7⟩
  · by_cases e : l = f
    · subst e
      simp only [if_true]
      refine ⟨by omega, n2.trans (hz.trans ?_)⟩
      by_cases e0 : l = 0
      · rw [if_pos e0, if_pos e0]
      · have ne : l - 1 ≠ l := by omega
        rw [if_neg e0, if_neg e0, if_neg ne]
        exact (c2 (l - 1) (by omega)).1
    · obtain ⟨k1, k2⟩ := c1 l (by omega)
      simp only [if_neg e]
      refine ⟨by omega, (o2 _ k1).trans (k2.trans ?_)⟩
      by_cases e0 : l = 0
      · rw [if_pos e0, if_pos e0]
      · have ne : l - 1 ≠ f := by omega
        rw [if_neg e0, if_neg e0, if_neg ne]
  · by_cases e : l = f
    · subst e
      simp only [if_true]
      rw [n6, n0, n1, n91, n92]
      exact ⟨rfl, rfl, rfl⟩
    · obtain ⟨k1, k2, k3⟩ := c2 l (by omega)
      have := (c1 l (by omega)).1
      obtain ⟨p1, p2, p3⟩ := o6 l e
      simp only [if_neg e]
      rw [p1, p2, p3, o0 _ this, o1 _ this]
      exact ⟨k1, k2, k3⟩
  · obtain ⟨d1, d2, d3, -⟩ := f1 (m - 1) (by omega)
    have ed : de (m - 1) = f := nI_ij (by omega) (by omega) (d3.symm.trans (h1 z))
    obtain ⟨e1, e2⟩ := m2 z
    refine ⟨by omega, fun l hl1 hl2 => ?_⟩
    have ne : l ≠ f := by omega
    simp only [if_neg ne]
    exact e2 l hl1 (by omega)
theorem zR_enter_t (hT : isTr ta) (hf : f < 6) (hf0 : 0 < f) (hrc : rc = 1) (ht8 : t < 8) (hg : Mc.1 ta 9 = nI g) (hgg : P.1 256 48 = nI gg) (hN : gg ≤ N) (hN1 : N ≤ 100) (hm : 0 < m) (hb : b ≤ 1) (hde : P.1 277 (7 * (100 * t + (m - 1))) = nI f) (hz : zz = if f = 0 then -1 else P.1 296 (f - 1)) (hG : G' f = (x, y, c, b)) (e : ∀ l, l < f → G' l = G l) (hr : zR ta t rc lim hl R0 f f G N m S fl Mc P) : zR ta t rc lim hl R0 (f + 1) (f + 1) G' N m S fl (ecM Mc ta f x y w v b g) (enZ (enF (enK (enA P f (nI x) (nI y) (nI c) w (nI b)) f t) t gg (nI x) (nI y) zz) f gg g) := by
  have ht := tr_om hT
  have hta : ta = 52 ∨ 88 ≤ ta := by omega
  obtain ⟨hU, h2, h3, h4, h5, h6, hS, h7⟩ := hr
  obtain ⟨a1, a2, a3, a4⟩ := h7 hrc
  exact ⟨(by (try dsimp only [rpM, roM, rfM, plM, pyM, rsM, rgM, mkM, ntM, enA, enK, enN, enF, enZ, unR, unT]); repeat (first | with_reducible assumption | with_reducible refine zU_I ?_ (by unfold dI; omega) | with_reducible refine zU_J ?_ (by unfold dJ; omega) | with_reducible refine zU_K ?_ (fun j h1 h2 => by unfold dJ; omega) | with_reducible refine zU_F ?_ (fun j h1 h2 => by unfold dJ; omega))), zSt_f h2 (ec_s (by omega) (fun _ => by omega) (by omega)) (by (try dsimp only [puM, poM, rpM, roM, rfM, plM, pyM, boM, bsM, opM, seM, rsM, rgM, mkM, ntM, enA, enK, enN, enF, enZ, unR, unT, svM, unM]); repeat (first | with_reducible exact sR_r | with_reducible exact sR_toM (by omega) | with_reducible refine sR_I ?_ (by omega) | with_reducible refine sR_J ?_ (by omega) | with_reducible refine sR_C ?_ (by omega) | with_reducible refine sR_K ?_ (by omega) | with_reducible refine sR_F ?_ (by omega))) (by (try dsimp only [puM, poM, rpM, roM, rfM, plM, pyM, boM, bsM, opM, seM, rsM, rgM, mkM, ntM, enA, enK, enN, enF, enZ, unR, unT, svM, unM]); repeat (first | with_reducible exact sR_r | with_reducible exact sR_toM (by omega) | with_reducible refine sR_I ?_ (by omega) | with_reducible refine sR_J ?_ (by omega) | with_reducible refine sR_C ?_ (by omega) | with_reducible refine sR_K ?_ (by omega) | with_reducible refine sR_F ?_ (by omega))), zFr_f (zFr_et h3 hf hS hG e) (by omega) (ec_o (fun _ => by omega) (by omega)) sR_r, zSc_et hf hta hg hgg hN h4, zKp_et hrc hf (fun _ => hf0) hta hb h2 (fun _ => a3.1) h5 hG e, zK0_et h6 hf0, zSk_et hS hf hta, fun _ => ⟨zSp_f a1 (ec_s (by omega) (fun _ => by omega) (by omega)) (by (try dsimp only [puM, poM, rpM, roM, rfM, plM, pyM, boM, bsM, opM, seM, rsM, rgM, mkM, ntM, enA, enK, enN, enF, enZ, unR, unT, svM, unM]); repeat (first | with_reducible exact sR_r | with_reducible exact sR_toM (by omega) | with_reducible refine sR_I ?_ (by omega) | with_reducible refine sR_J ?_ (by omega) | with_reducible refine sR_C ?_ (by omega) | with_reducible refine sR_K ?_ (by omega) | with_reducible refine sR_F ?_ (by omega))), zTo_f a2 (ec_s (by omega) (fun _ => by omega) (by omega)) (by (try dsimp only [puM, poM, rpM, roM, rfM, plM, pyM, boM, bsM, opM, seM, rsM, rgM, mkM, ntM, enA, enK, enN, enF, enZ, unR, unT, svM, unM]); repeat (first | with_reducible exact sR_r | with_reducible exact sR_toM (by omega) | with_reducible refine sR_I ?_ (by omega) | with_reducible refine sR_J ?_ (by omega) | with_reducible refine sR_C ?_ (by omega) | with_reducible refine sR_K ?_ (by omega) | with_reducible refine sR_F ?_ (by omega))), zTe_f a3 (ec_s (by omega) (fun _ => by omega) (by omega)) (by (try dsimp only [puM, poM, rpM, roM, rfM, plM, pyM, boM, bsM, opM, seM, rsM, rgM, mkM, ntM, enA, enK, enN, enF, enZ, unR, unT, svM, unM]); repeat (first | with_reducible exact sR_r | with_reducible exact sR_toM (by omega) | with_reducible refine sR_I ?_ (by omega) | with_reducible refine sR_J ?_ (by omega) | with_reducible refine sR_C ?_ (by omega) | with_reducible refine sR_K ?_ (by omega) | with_reducible refine sR_F ?_ (by omega))), zFl_en hf hgg (by omega) a4 (fun z => absurd z (by omega)) (fun _ => hde) hz⟩⟩
theorem zR_enter_n (hT : isTr ta) (hf : f < 6) (hf0 : 0 < f) (hrc : rc ≠ 1) (hg : Mc.1 ta 9 = nI g) (hgg : P.1 256 48 = nI gg) (hN : gg ≤ N) (hb : b ≤ 1) (hG : G' f = (x, y, c, b)) (e : ∀ l, l < f → G' l = G l) (hr : zR ta t rc lim hl R0 f f G N m S fl Mc P) : zR ta t rc lim hl R0 (f + 1) (f + 1) G' N m S fl (ecM Mc ta f x y w v b g) (enZ (enN (enA P f (nI x) (nI y) (nI c) w (nI b)) f) f gg g) := by
  have ht := tr_om hT
  have hta : ta = 52 ∨ 88 ≤ ta := by omega
  obtain ⟨hU, h2, h3, h4, h5, h6, hS, h7⟩ := hr
  exact ⟨(by (try dsimp only [rpM, roM, rfM, plM, pyM, rsM, rgM, mkM, ntM, enA, enK, enN, enF, enZ, unR, unT]); repeat (first | with_reducible assumption | with_reducible refine zU_I ?_ (by unfold dI; omega) | with_reducible refine zU_J ?_ (by unfold dJ; omega) | with_reducible refine zU_K ?_ (fun j h1 h2 => by unfold dJ; omega) | with_reducible refine zU_F ?_ (fun j h1 h2 => by unfold dJ; omega))), zSt_f h2 (ec_s (by omega) (fun _ => by omega) (by omega)) (by (try dsimp only [puM, poM, rpM, roM, rfM, plM, pyM, boM, bsM, opM, seM, rsM, rgM, mkM, ntM, enA, enK, enN, enF, enZ, unR, unT, svM, unM]); repeat (first | with_reducible exact sR_r | with_reducible exact sR_toM (by omega) | with_reducible refine sR_I ?_ (by omega) | with_reducible refine sR_J ?_ (by omega) | with_reducible refine sR_C ?_ (by omega) | with_reducible refine sR_K ?_ (by omega) | with_reducible refine sR_F ?_ (by omega))) (by (try dsimp only [puM, poM, rpM, roM, rfM, plM, pyM, boM, bsM, opM, seM, rsM, rgM, mkM, ntM, enA, enK, enN, enF, enZ, unR, unT, svM, unM]); repeat (first | with_reducible exact sR_r | with_reducible exact sR_toM (by omega) | with_reducible refine sR_I ?_ (by omega) | with_reducible refine sR_J ?_ (by omega) | with_reducible refine sR_C ?_ (by omega) | with_reducible refine sR_K ?_ (by omega) | with_reducible refine sR_F ?_ (by omega))), zFr_f (zFr_eu h3 hf hS hG e) (by omega) (ec_o (fun _ => by omega) (by omega)) sR_r, zSc_eu hf hta hg hgg hN h4, zKp_eu hrc hf (fun _ => hf0) hta hb h2 (fun z => absurd z hrc) h5 hG e, zK0_eu h6 hf0, zSk_eu hS hf hta, fun z => absurd z hrc⟩
end ER
