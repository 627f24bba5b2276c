/-! a frame entered, class and reference -/
def ecM (M : ip_Mm) (ta f x y : Nat) (w : Int64) (v : Int32) (b g : Nat) : ip_Mm := dpM (if b = 1 then svM (opM M (73 + 2 * f) (nI x) (nI y) w v) (f - 1) ta else opM M (73 + 2 * f) (nI x) (nI y) w v) ta f g
section EC
variable {K : zK} {G G' : zG} {M Mc P C0 R0 : ip_Mm} {n ta t rc m f N S T fl lim x y c b g gg : Nat} {hl v zz : Int32} {w : Int64}
theorem ec_s {lo hi : Nat} (h1 : 73 + 2 * f < lo ∨ hi ≤ 73 + 2 * f) (h2 : b = 1 → (44 + (f - 1) < lo ∨ hi ≤ 44 + (f - 1)) ∧ (50 < lo ∨ hi ≤ 50)) (h3 : ta < lo ∨ hi ≤ ta) : sR lo hi M (ecM M ta f x y w v b g) := by
  unfold ecM dpM
  refine sR_I ?_ h3
  by_cases hb : b = 1
  · rw [if_pos hb]
    unfold svM
    refine sR_I (sR_C ?_ (h2 hb).1) (h2 hb).2
    unfold opM
    exact sR_J (sR_I (sR_J (sR_I (sR_I (sR_I (sR_I sR_r h1) h1) h1) h1) h1) h1) h1
  · rw [if_neg hb]
    unfold opM
    exact sR_J (sR_I (sR_J (sR_I (sR_I (sR_I (sR_I sR_r h1) h1) h1) h1) h1) h1) h1
theorem ec_o {lo hi : Nat} (h2 : b = 1 → (44 + (f - 1) < lo ∨ hi ≤ 44 + (f - 1)) ∧ (50 < lo ∨ hi ≤ 50)) (h3 : ta < lo ∨ hi ≤ ta) : sR lo hi (opM M (73 + 2 * f) (nI x) (nI y) w v) (ecM M ta f x y w v b g) := by
  unfold ecM dpM
  refine sR_I ?_ h3
  by_cases hb : b = 1
  · rw [if_pos hb]
    unfold svM
    exact sR_I (sR_C sR_r (h2 hb).1) (h2 hb).2
  · rw [if_neg hb]
    exact sR_r
theorem ec_ta (hf : f < 6) (hta : ta = 52 ∨ 88 ≤ ta) {j : Nat} : (ecM M ta f x y w v b g).1 ta j = if j = 9 then nI (if g < f + 1 then f + 1 else g) else M.1 ta j := by
  unfold ecM dpM
  by_cases hj : j = 9
  · rw [if_pos hj, hj, rI0]
  · rw [if_neg hj, rI1 hj]
    by_cases hb : b = 1
    · rw [if_pos hb]
      simp (disch := first | assumption | omega) only [svM, opM, rI, rI1, rI0, rJ, rJ1, rJ0, rC, rC0, uI_2, uI_3, uJ_1, uJ_3, uC_1, uC_3, uT_1, uT_2, uT_3, rFI, rFI0, rFI1, rFI2, rFI3, rFJ, rFJ0, rFJ1, rFJ2, rFJ3]
    · rw [if_neg hb]
      simp (disch := first | assumption | omega) only [opM, rI, rI1, rI0, rJ, rJ1, rJ0, rC, rC0, uI_2, uI_3, uJ_1, uJ_3, uC_1, uC_3, uT_1, uT_2, uT_3, rFI, rFI0, rFI1, rFI2, rFI3, rFJ, rFJ0, rFJ1, rFJ2, rFJ3]
theorem zW_enter (hT : isTr ta) (hf : f < 6) (hw : zW K ta lim C0 f G N S T M) (hg : M.1 ta 9 = nI g) (hg6 : g ≤ 6) (hx : x < kNa K) (hy : y < 4) (hc : c < kNp K) (hb : b ≤ 1) (hG : G' f = (x, y, c, b)) (hv : v = if f = 0 then -1 else nI (gX G (f - 1))) (e : ∀ l, l < f → G' l = G l) : zW K ta lim C0 (f + 1) G' N S T (ecM M ta f x y w v b g) := by
  have ht := tr_om hT
  have hta : ta = 52 ∨ 88 ≤ ta := by omega
  obtain ⟨hU, h2, ⟨s1, s2, s3, s4, g', s5, s6⟩, h4, h5⟩ := hw
  refine ⟨?_, zWf_f (zWf_op h2 hf hx hy hc hb hG hv e) (by omega) (ec_o (fun _ => by omega) (by omega)), ⟨?_, ?_, s3, s4, (if g < f + 1 then f + 1 else g), by split <;> omega, ?_⟩, zTW_f h4 (ec_s (by omega) (fun _ => by omega) (by omega)), ⟨?_, fun l hl => ?_⟩⟩
  · unfold ecM dpM
    refine zU_I ?_ (by unfold cI; omega)
    by_cases hb1 : b = 1
    · rw [if_pos hb1]
      exact (by (try dsimp only [puM, poM, boM, bsM, opM, seM, svM, unM]); repeat (first | with_reducible assumption | with_reducible refine zU_I ?_ (by unfold cI; omega) | with_reducible refine zU_J ?_ (by unfold cJ; omega) | with_reducible refine zU_C ?_ (fun j => by unfold cJ; omega)))
    · rw [if_neg hb1]
      exact (by (try dsimp only [puM, poM, boM, bsM, opM, seM, svM, unM]); repeat (first | with_reducible assumption | with_reducible refine zU_I ?_ (by unfold cI; omega) | with_reducible refine zU_J ?_ (by unfold cJ; omega) | with_reducible refine zU_C ?_ (fun j => by unfold cJ; omega)))
  · rw [ec_ta hf hta, if_neg (by decide)]; exact s1
  · rw [ec_ta hf hta, if_neg (by decide)]; exact s2
  · rw [ec_ta hf hta, if_pos rfl]
  · have r := ec_s (M := M) (ta := ta) (f := f) (x := x) (y := y) (w := w) (v := v) (b := b) (g := g) (lo := ta + 15) (hi := ta + 16) (by omega) (fun _ => by omega) (by omega)
    rw [(r (ta + 15) (by omega) (by omega)).1]
    exact h5.1
  · by_cases hb1 : b = 1
    · have e50 : (ecM M ta f x y w v b g).1 50 l = if l = f - 1 then M.1 (ta + 15) 3 else M.1 50 l := by
        unfold ecM dpM
        rw [if_pos hb1]
        by_cases hl1 : l = f - 1
        · rw [if_pos hl1, hl1]
          simp (disch := first | assumption | omega) only [svM, opM, rI, rI1, rI0, rJ, rJ1, rJ0, rC, rC0, uI_2, uI_3, uJ_1, uJ_3, uC_1, uC_3, uT_1, uT_2, uT_3, rFI, rFI0, rFI1, rFI2, rFI3, rFJ, rFJ0, rFJ1, rFJ2, rFJ3]
        · rw [if_neg hl1]
          simp (disch := first | assumption | omega) only [svM, opM, rI, rI1, rI0, rJ, rJ1, rJ0, rC, rC0, uI_2, uI_3, uJ_1, uJ_3, uC_1, uC_3, uT_1, uT_2, uT_3, rFI, rFI0, rFI1, rFI2, rFI3, rFJ, rFJ0, rFJ1, rFJ2, rFJ3]
      rw [e50]
      split
      · exact h5.1
      · exact h5.2 l hl
    · have r := ec_s (M := M) (ta := ta) (f := f) (x := x) (y := y) (w := w) (v := v) (b := b) (g := g) (lo := 50) (hi := 51) (by omega) (fun z => absurd z hb1) (by omega)
      rw [(r 50 (by omega) (by omega)).1]
      exact h5.2 l hl
theorem zFr_et (h : zFr f G Mc P) (hf : f < 6) (hS : zSk Mc P) (hG : G' f = (x, y, c, b)) (e : ∀ l, l < f → G' l = G l) : zFr (f + 1) G' (opM Mc (73 + 2 * f) (nI x) (nI y) w v) (enZ (enF (enK (enA P f (nI x) (nI y) (nI c) w (nI b)) f t) t gg (nI x) (nI y) zz) f gg g) := by
  intro l hl
  by_cases h1 : l = f
  · subst h1
    unfold gX gM gC
    rw [hG]
    refine ⟨?_, ?_, ?_, ?_, ?_, ?_, fun i hi => ?_⟩
    · simp (disch := first | assumption | omega) only [enZ, enF, enK, enA, rI, rI1, rI0, rJ, rJ1, rJ0, rC, rC0, uI_2, uI_3, uJ_1, uJ_3, uC_1, uC_3, uT_1, uT_2, uT_3, rFI, rFI0, rFI1, rFI2, rFI3, rFJ, rFJ0, rFJ1, rFJ2, rFJ3, rK, rK2]
    · simp (disch := first | assumption | omega) only [enZ, enF, enK, enA, rI, rI1, rI0, rJ, rJ1, rJ0, rC, rC0, uI_2, uI_3, uJ_1, uJ_3, uC_1, uC_3, uT_1, uT_2, uT_3, rFI, rFI0, rFI1, rFI2, rFI3, rFJ, rFJ0, rFJ1, rFJ2, rFJ3, rK, rK2]
    · simp (disch := first | assumption | omega) only [enZ, enF, enK, enA, rI, rI1, rI0, rJ, rJ1, rJ0, rC, rC0, uI_2, uI_3, uJ_1, uJ_3, uC_1, uC_3, uT_1, uT_2, uT_3, rFI, rFI0, rFI1, rFI2, rFI3, rFJ, rFJ0, rFJ1, rFJ2, rFJ3, rK, rK2]
    · simp (disch := first | assumption | omega) only [enZ, enF, enK, enA, opM, rI, rI1, rI0, rJ, rJ1, rJ0, rC, rC0, uI_2, uI_3, uJ_1, uJ_3, uC_1, uC_3, uT_1, uT_2, uT_3, rFI, rFI0, rFI1, rFI2, rFI3, rFJ, rFJ0, rFJ1, rFJ2, rFJ3, rK, rK2]
    · simp (disch := first | assumption | omega) only [enZ, enF, enK, enA, opM, rI, rI1, rI0, rJ, rJ1, rJ0, rC, rC0, uI_2, uI_3, uJ_1, uJ_3, uC_1, uC_3, uT_1, uT_2, uT_3, rFI, rFI0, rFI1, rFI2, rFI3, rFJ, rFJ0, rFJ1, rFJ2, rFJ3, rK, rK2]
    · simp (disch := first | assumption | omega) only [enZ, enF, enK, enA, opM, rI, rI1, rI0, rJ, rJ1, rJ0, rC, rC0, uI_2, uI_3, uJ_1, uJ_3, uC_1, uC_3, uT_1, uT_2, uT_3, rFI, rFI0, rFI1, rFI2, rFI3, rFJ, rFJ0, rFJ1, rFJ2, rFJ3, rK, rK2]
    · have := hS l i hf hi
      simp (disch := first | assumption | omega) only [enZ, enF, enK, enA, opM, rI, rI1, rI0, rJ, rJ1, rJ0, rC, rC0, uI_2, uI_3, uJ_1, uJ_3, uC_1, uC_3, uT_1, uT_2, uT_3, rFI, rFI0, rFI1, rFI2, rFI3, rFJ, rFJ0, rFJ1, rFJ2, rFJ3, rK, rK2, this]
  · obtain ⟨a1, a2, a3, a4, a5, a6, a7⟩ := zFr_cg h e l (by omega)
    have ne : 73 + 2 * l ≠ 73 + 2 * f := by omega
    have ne2 : 73 + 2 * l + 1 ≠ 73 + 2 * f := by omega
    refine ⟨?_, ?_, ?_, ?_, ?_, ?_, fun i hi => ?_⟩
    · simp (disch := first | assumption | omega) only [enZ, enF, enK, enA, rI, rI1, rI0, rJ, rJ1, rJ0, rC, rC0, uI_2, uI_3, uJ_1, uJ_3, uC_1, uC_3, uT_1, uT_2, uT_3, rFI, rFI0, rFI1, rFI2, rFI3, rFJ, rFJ0, rFJ1, rFJ2, rFJ3, rK, rK2, a1]
    · simp (disch := first | assumption | omega) only [enZ, enF, enK, enA, rI, rI1, rI0, rJ, rJ1, rJ0, rC, rC0, uI_2, uI_3, uJ_1, uJ_3, uC_1, uC_3, uT_1, uT_2, uT_3, rFI, rFI0, rFI1, rFI2, rFI3, rFJ, rFJ0, rFJ1, rFJ2, rFJ3, rK, rK2, a2]
    · simp (disch := first | assumption | omega) only [enZ, enF, enK, enA, rI, rI1, rI0, rJ, rJ1, rJ0, rC, rC0, uI_2, uI_3, uJ_1, uJ_3, uC_1, uC_3, uT_1, uT_2, uT_3, rFI, rFI0, rFI1, rFI2, rFI3, rFJ, rFJ0, rFJ1, rFJ2, rFJ3, rK, rK2, a3]
    · simp (disch := first | assumption | omega) only [enZ, enF, enK, enA, opM, rI, rI1, rI0, rJ, rJ1, rJ0, rC, rC0, uI_2, uI_3, uJ_1, uJ_3, uC_1, uC_3, uT_1, uT_2, uT_3, rFI, rFI0, rFI1, rFI2, rFI3, rFJ, rFJ0, rFJ1, rFJ2, rFJ3, rK, rK2, a4]
    · simp (disch := first | assumption | omega) only [enZ, enF, enK, enA, opM, rI, rI1, rI0, rJ, rJ1, rJ0, rC, rC0, uI_2, uI_3, uJ_1, uJ_3, uC_1, uC_3, uT_1, uT_2, uT_3, rFI, rFI0, rFI1, rFI2, rFI3, rFJ, rFJ0, rFJ1, rFJ2, rFJ3, rK, rK2, a5]
    · simp (disch := first | assumption | omega) only [enZ, enF, enK, enA, opM, rI, rI1, rI0, rJ, rJ1, rJ0, rC, rC0, uI_2, uI_3, uJ_1, uJ_3, uC_1, uC_3, uT_1, uT_2, uT_3, rFI, rFI0, rFI1, rFI2, rFI3, rFJ, rFJ0, rFJ1, rFJ2, rFJ3, rK, rK2, a6]
    · have := a7 i hi
      simp (disch := first | assumption | omega) only [enZ, enF, enK, enA, opM, rI, rI1, rI0, rJ, rJ1, rJ0, rC, rC0, uI_2, uI_3, uJ_1, uJ_3, uC_1, uC_3, uT_1, uT_2, uT_3, rFI, rFI0, rFI1, rFI2, rFI3, rFJ, rFJ0, rFJ1, rFJ2, rFJ3, rK, rK2, this]
theorem zSk_et (hS : zSk Mc P) (hf : f < 6) (hta : ta = 52 ∨ 88 ≤ ta) : zSk (ecM Mc ta f x y w v b g) (enZ (enF (enK (enA P f (nI x) (nI y) (nI c) w (nI b)) f t) t gg (nI x) (nI y) zz) f gg g) := by
  have h1 : zSk (opM Mc (73 + 2 * f) (nI x) (nI y) w v) (enZ (enF (enK (enA P f (nI x) (nI y) (nI c) w (nI b)) f t) t gg (nI x) (nI y) zz) f gg g) := by
    intro l i hl hi
    have ne2 : 73 + 2 * l + 1 ≠ 73 + 2 * f := by omega
    have := hS l i hl hi
    simp (disch := first | assumption | omega) only [enZ, enF, enK, enA, opM, rI, rI1, rI0, rJ, rJ1, rJ0, rC, rC0, uI_2, uI_3, uJ_1, uJ_3, uC_1, uC_3, uT_1, uT_2, uT_3, rFI, rFI0, rFI1, rFI2, rFI3, rFJ, rFJ0, rFJ1, rFJ2, rFJ3, rK, rK2, this]
  exact zSk_f h1 (ec_o (fun _ => by omega) (by omega)) sR_r
theorem zSc_et (hf : f < 6) (hta : ta = 52 ∨ 88 ≤ ta) (hg : Mc.1 ta 9 = nI g) (hgg : P.1 256 48 = nI gg) (hN : gg ≤ N) (h : zSc rc t lim f N S fl hl (Mc.1 ta 9) P) : zSc rc t lim (f + 1) N S fl hl ((ecM Mc ta f x y w v b g).1 ta 9) (enZ (enF (enK (enA P f (nI x) (nI y) (nI c) w (nI b)) f t) t gg (nI x) (nI y) zz) f gg g) := by
  obtain ⟨s1, s2, s3, s4, s5, s6, s7, s8, s9, s10, -⟩ := h
  rw [ec_ta hf hta, if_pos rfl]
  refine ⟨?_, fun z => ?_, ?_, ?_, ?_, ?_, ?_, ?_, ?_, ?_, gg + 1, by omega, ?_⟩
  · simp (disch := first | assumption | omega) only [enZ, enF, enK, enA, rI, rI1, rI0, rJ, rJ1, rJ0, rC, rC0, uI_2, uI_3, uJ_1, uJ_3, uC_1, uC_3, uT_1, uT_2, uT_3, rFI, rFI0, rFI1, rFI2, rFI3, rFJ, rFJ0, rFJ1, rFJ2, rFJ3, rK, rK2, s1]
  · have := s2 z
    simp (disch := first | assumption | omega) only [enZ, enF, enK, enA, rI, rI1, rI0, rJ, rJ1, rJ0, rC, rC0, uI_2, uI_3, uJ_1, uJ_3, uC_1, uC_3, uT_1, uT_2, uT_3, rFI, rFI0, rFI1, rFI2, rFI3, rFJ, rFJ0, rFJ1, rFJ2, rFJ3, rK, rK2, this]
  · simp (disch := first | assumption | omega) only [enZ, enF, enK, enA, rI, rI1, rI0, rJ, rJ1, rJ0, rC, rC0, uI_2, uI_3, uJ_1, uJ_3, uC_1, uC_3, uT_1, uT_2, uT_3, rFI, rFI0, rFI1, rFI2, rFI3, rFJ, rFJ0, rFJ1, rFJ2, rFJ3, rK, rK2, s3]
  · simp (disch := first | assumption | omega) only [enZ, enF, enK, enA, rI, rI1, rI0, rJ, rJ1, rJ0, rC, rC0, uI_2, uI_3, uJ_1, uJ_3, uC_1, uC_3, uT_1, uT_2, uT_3, rFI, rFI0, rFI1, rFI2, rFI3, rFJ, rFJ0, rFJ1, rFJ2, rFJ3, rK, rK2, s4]
  · simp (disch := first | assumption | omega) only [enZ, enF, enK, enA, rI, rI1, rI0, rJ, rJ1, rJ0, rC, rC0, uI_2, uI_3, uJ_1, uJ_3, uC_1, uC_3, uT_1, uT_2, uT_3, rFI, rFI0, rFI1, rFI2, rFI3, rFJ, rFJ0, rFJ1, rFJ2, rFJ3, rK, rK2, s5]
  · simp (disch := first | assumption | omega) only [enZ, enF, enK, enA, rI, rI1, rI0, rJ, rJ1, rJ0, rC, rC0, uI_2, uI_3, uJ_1, uJ_3, uC_1, uC_3, uT_1, uT_2, uT_3, rFI, rFI0, rFI1, rFI2, rFI3, rFJ, rFJ0, rFJ1, rFJ2, rFJ3, rK, rK2, s6]
  · simp (disch := first | assumption | omega) only [enZ, enF, enK, enA, rI, rI1, rI0, rJ, rJ1, rJ0, rC, rC0, uI_2, uI_3, uJ_1, uJ_3, uC_1, uC_3, uT_1, uT_2, uT_3, rFI, rFI0, rFI1, rFI2, rFI3, rFJ, rFJ0, rFJ1, rFJ2, rFJ3, rK, rK2, s7]
  · simp (disch := first | assumption | omega) only [enZ, enF, enK, enA, rI, rI1, rI0, rJ, rJ1, rJ0, rC, rC0, uI_2, uI_3, uJ_1, uJ_3, uC_1, uC_3, uT_1, uT_2, uT_3, rFI, rFI0, rFI1, rFI2, rFI3, rFJ, rFJ0, rFJ1, rFJ2, rFJ3, rK, rK2, s8]
  · simp (disch := first | assumption | omega) only [enZ, enF, enK, enA, rI, rI1, rI0, rJ, rJ1, rJ0, rC, rC0, uI_2, uI_3, uJ_1, uJ_3, uC_1, uC_3, uT_1, uT_2, uT_3, rFI, rFI0, rFI1, rFI2, rFI3, rFJ, rFJ0, rFJ1, rFJ2, rFJ3, rK, rK2]
  · simp (disch := first | assumption | omega) only [enZ, enF, enK, enA, rI, rI1, rI0, rJ, rJ1, rJ0, rC, rC0, uI_2, uI_3, uJ_1, uJ_3, uC_1, uC_3, uT_1, uT_2, uT_3, rFI, rFI0, rFI1, rFI2, rFI3, rFJ, rFJ0, rFJ1, rFJ2, rFJ3, rK, rK2]
  · simp (disch := first | assumption | omega) only [enZ, enF, enK, enA, rI, rI1, rI0, rJ, rJ1, rJ0, rC, rC0, uI_2, uI_3, uJ_1, uJ_3, uC_1, uC_3, uT_1, uT_2, uT_3, rFI, rFI0, rFI1, rFI2, rFI3, rFJ, rFJ0, rFJ1, rFJ2, rFJ3, rK, rK2]
theorem zKp_et (hrc : rc = 1) (hf : f < 6) (hf0 : b = 1 → 0 < f) (hta : ta = 52 ∨ 88 ≤ ta) (hb : b ≤ 1) (hs : zSt rc t Mc P) (hte : rc = 1 → P.1 285 t = Mc.1 (ta + 15) 3) (h : zKp rc f G Mc P) (hG : G' f = (x, y, c, b)) (e : ∀ l, l < f → G' l = G l) : zKp rc (f + 1) G' (ecM Mc ta f x y w v b g) (enZ (enF (enK (enA P f (nI x) (nI y) (nI c) w (nI b)) f t) t gg (nI x) (nI y) zz) f gg g) := by
  intro l hl
  by_cases h1 : l = f
  · subst h1
    unfold gX gM gY
    rw [hG]
    refine ⟨?_, ?_, ?_, fun hb1 => ⟨hf0 hb1, fun a c' ha hc' => ?_, fun a ha => ?_, fun z => ⟨?_, fun a ha => ⟨?_, ?_⟩⟩⟩⟩
    · simp (disch := first | assumption | omega) only [enZ, enF, enK, enA, rI, rI1, rI0, rJ, rJ1, rJ0, rC, rC0, uI_2, uI_3, uJ_1, uJ_3, uC_1, uC_3, uT_1, uT_2, uT_3, rFI, rFI0, rFI1, rFI2, rFI3, rFJ, rFJ0, rFJ1, rFJ2, rFJ3, rK, rK2]
    · simp (disch := first | assumption | omega) only [enZ, enF, enK, enA, rI, rI1, rI0, rJ, rJ1, rJ0, rC, rC0, uI_2, uI_3, uJ_1, uJ_3, uC_1, uC_3, uT_1, uT_2, uT_3, rFI, rFI0, rFI1, rFI2, rFI3, rFJ, rFJ0, rFJ1, rFJ2, rFJ3, rK, rK2]
    · simp (disch := first | assumption | omega) only [enZ, enF, enK, enA, rI, rI1, rI0, rJ, rJ1, rJ0, rC, rC0, uI_2, uI_3, uJ_1, uJ_3, uC_1, uC_3, uT_1, uT_2, uT_3, rFI, rFI0, rFI1, rFI2, rFI3, rFJ, rFJ0, rFJ1, rFJ2, rFJ3, rK, rK2]
    · have hb2 : b = 1 := hb1
      have q := hs.1 a c' ha hc'
      have i6 : a * 9 + c' < 66 := by omega
      unfold ecM dpM
      rw [if_pos hb2]
      simp (disch := first | assumption | omega) only [enZ, enF, enK, enA, svM, opM, rI, rI1, rI0, rJ, rJ1, rJ0, rC, rC0, uI_2, uI_3, uJ_1, uJ_3, uC_1, uC_3, uT_1, uT_2, uT_3, rFI, rFI0, rFI1, rFI2, rFI3, rFJ, rFJ0, rFJ1, rFJ2, rFJ3, rK, rK0, rK1, rK2, if_pos i6, Nat.add_sub_cancel_left, Nat.zero_add, q]
    · have hb2 : b = 1 := hb1
      have q := hs.2.1 a ha
      have i6 : a * 9 + 8 < 66 := by omega
      unfold ecM dpM
      rw [if_pos hb2]
      simp (disch := first | assumption | omega) only [enZ, enF, enK, enA, svM, opM, rI, rI1, rI0, rJ, rJ1, rJ0, rC, rC0, uI_2, uI_3, uJ_1, uJ_3, uC_1, uC_3, uT_1, uT_2, uT_3, rFI, rFI0, rFI1, rFI2, rFI3, rFJ, rFJ0, rFJ1, rFJ2, rFJ3, rK, rK0, rK1, rK2, if_pos i6, Nat.add_sub_cancel_left, Nat.zero_add, q]
    · have hb2 : b = 1 := hb1
      have q := hte z
      unfold ecM dpM
      rw [if_pos hb2]
      simp (disch := first | assumption | omega) only [enZ, enF, enK, enA, svM, opM, rI, rI1, rI0, rJ, rJ1, rJ0, rC, rC0, uI_2, uI_3, uJ_1, uJ_3, uC_1, uC_3, uT_1, uT_2, uT_3, rFI, rFI0, rFI1, rFI2, rFI3, rFJ, rFJ0, rFJ1, rFJ2, rFJ3, rK, rK0, rK1, rK2, q]
    · have hb2 : b = 1 := hb1
      have q := (hs.2.2 z a ha).1
      have i6 : 54 + a < 66 := by omega
      unfold ecM dpM
      rw [if_pos hb2]
      simp (disch := first | assumption | omega) only [enZ, enF, enK, enA, svM, opM, rI, rI1, rI0, rJ, rJ1, rJ0, rC, rC0, uI_2, uI_3, uJ_1, uJ_3, uC_1, uC_3, uT_1, uT_2, uT_3, rFI, rFI0, rFI1, rFI2, rFI3, rFJ, rFJ0, rFJ1, rFJ2, rFJ3, rK, rK0, rK1, rK2, if_pos i6, Nat.add_sub_cancel_left, Nat.zero_add, q]
    · have hb2 : b = 1 := hb1
      have q := (hs.2.2 z a ha).2
      have i6 : 60 + a < 66 := by omega
      unfold ecM dpM
      rw [if_pos hb2]
      simp (disch := first | assumption | omega) only [enZ, enF, enK, enA, svM, opM, rI, rI1, rI0, rJ, rJ1, rJ0, rC, rC0, uI_2, uI_3, uJ_1, uJ_3, uC_1, uC_3, uT_1, uT_2, uT_3, rFI, rFI0, rFI1, rFI2, rFI3, rFJ, rFJ0, rFJ1, rFJ2, rFJ3, rK, rK0, rK1, rK2, if_pos i6, Nat.add_sub_cancel_left, Nat.zero_add, q]
  · obtain ⟨a1, a2, a3, a4⟩ := zKp_cg h e l (by omega)
    refine ⟨?_, ?_, ?_, fun hz => ?_⟩
    · simp (disch := first | assumption | omega) only [enZ, enF, enK, enA, rI, rI1, rI0, rJ, rJ1, rJ0, rC, rC0, uI_2, uI_3, uJ_1, uJ_3, uC_1, uC_3, uT_1, uT_2, uT_3, rFI, rFI0, rFI1, rFI2, rFI3, rFJ, rFJ0, rFJ1, rFJ2, rFJ3, rK, rK2, a1]
    · simp (disch := first | assumption | omega) only [enZ, enF, enK, enA, rI, rI1, rI0, rJ, rJ1, rJ0, rC, rC0, uI_2, uI_3, uJ_1, uJ_3, uC_1, uC_3, uT_1, uT_2, uT_3, rFI, rFI0, rFI1, rFI2, rFI3, rFJ, rFJ0, rFJ1, rFJ2, rFJ3, rK, rK2, a2]
    · simp (disch := first | assumption | omega) only [enZ, enF, enK, enA, rI, rI1, rI0, rJ, rJ1, rJ0, rC, rC0, uI_2, uI_3, uJ_1, uJ_3, uC_1, uC_3, uT_1, uT_2, uT_3, rFI, rFI0, rFI1, rFI2, rFI3, rFJ, rFJ0, rFJ1, rFJ2, rFJ3, rK, rK2, a3]
    · obtain ⟨b0, b1, b2, b3⟩ := a4 hz
      have r1 : (ecM Mc ta f x y w v b g).2.1 (44 + (l - 1)) = Mc.2.1 (44 + (l - 1)) := (ec_s (lo := 44 + (l - 1)) (hi := 44 + (l - 1) + 1) (by omega) (fun _ => by omega) (by omega) (44 + (l - 1)) (by omega) (by omega)).2
      have r2 : (ecM Mc ta f x y w v b g).1 50 (l - 1) = Mc.1 50 (l - 1) := by
        unfold ecM dpM
        by_cases hb1 : b = 1
        · rw [if_pos hb1]
          have := hf0 hb1
          simp (disch := first | assumption | omega) only [svM, opM, rI, rI1, rI0, rJ, rJ1, rJ0, rC, rC0, uI_2, uI_3, uJ_1, uJ_3, uC_1, uC_3, uT_1, uT_2, uT_3, rFI, rFI0, rFI1, rFI2, rFI3, rFJ, rFJ0, rFJ1, rFJ2, rFJ3]
        · rw [if_neg hb1]
          simp (disch := first | assumption | omega) only [opM, rI, rI1, rI0, rJ, rJ1, rJ0, rC, rC0, uI_2, uI_3, uJ_1, uJ_3, uC_1, uC_3, uT_1, uT_2, uT_3, rFI, rFI0, rFI1, rFI2, rFI3, rFJ, rFJ0, rFJ1, rFJ2, rFJ3]
      rw [r1, r2]
      refine ⟨b0, fun a c' ha hc' => ?_, fun a ha => ?_, fun z => ⟨?_, fun a ha => ⟨?_, ?_⟩⟩⟩
      · rw [← b1 a c' ha hc']
        simp (disch := first | assumption | omega) only [enZ, enF, enK, enA, rI, rI1, rI0, rJ, rJ1, rJ0, rC, rC0, uI_2, uI_3, uJ_1, uJ_3, uC_1, uC_3, uT_1, uT_2, uT_3, rFI, rFI0, rFI1, rFI2, rFI3, rFJ, rFJ0, rFJ1, rFJ2, rFJ3, rK, rK1, rK2]
      · rw [← b2 a ha]
        simp (disch := first | assumption | omega) only [enZ, enF, enK, enA, rI, rI1, rI0, rJ, rJ1, rJ0, rC, rC0, uI_2, uI_3, uJ_1, uJ_3, uC_1, uC_3, uT_1, uT_2, uT_3, rFI, rFI0, rFI1, rFI2, rFI3, rFJ, rFJ0, rFJ1, rFJ2, rFJ3, rK, rK1, rK2]
      · rw [← (b3 z).1]
        simp (disch := first | assumption | omega) only [enZ, enF, enK, enA, rI, rI1, rI0, rJ, rJ1, rJ0, rC, rC0, uI_2, uI_3, uJ_1, uJ_3, uC_1, uC_3, uT_1, uT_2, uT_3, rFI, rFI0, rFI1, rFI2, rFI3, rFJ, rFJ0, rFJ1, rFJ2, rFJ3, rK, rK1, rK2]
      · rw [← ((b3 z).2 a ha).1]
        simp (disch := first | assumption | omega) only [enZ, enF, enK, enA, rI, rI1, rI0, rJ, rJ1, rJ0, rC, rC0, uI_2, uI_3, uJ_1, uJ_3, uC_1, uC_3, uT_1, uT_2, uT_3, rFI, rFI0, rFI1, rFI2, rFI3, rFJ, rFJ0, rFJ1, rFJ2, rFJ3, rK, rK1, rK2]
      · rw [← ((b3 z).2 a ha).2]
        simp (disch := first | assumption | omega) only [enZ, enF, enK, enA, rI, rI1, rI0, rJ, rJ1, rJ0, rC, rC0, uI_2, uI_3, uJ_1, uJ_3, uC_1, uC_3, uT_1, uT_2, uT_3, rFI, rFI0, rFI1, rFI2, rFI3, rFJ, rFJ0, rFJ1, rFJ2, rFJ3, rK, rK1, rK2]
theorem zK0_et (h : zK0 rc R0 P) (hf : 0 < f) : zK0 rc R0 (enZ (enF (enK (enA P f (nI x) (nI y) (nI c) w (nI b)) f t) t gg (nI x) (nI y) zz) f gg g) := by
  obtain ⟨a1, a2, a3⟩ := h
  refine ⟨fun i hi => ?_, fun i hi => ?_, fun z => ⟨?_, fun i hi => ⟨?_, ?_⟩⟩⟩
  · rw [← a1 i hi]
    simp (disch := first | assumption | omega) only [enZ, enF, enK, enA, rI, rI1, rI0, rJ, rJ1, rJ0, rC, rC0, uI_2, uI_3, uJ_1, uJ_3, uC_1, uC_3, uT_1, uT_2, uT_3, rFI, rFI0, rFI1, rFI2, rFI3, rFJ, rFJ0, rFJ1, rFJ2, rFJ3, rK, rK1, rK2]
  · rw [← a2 i hi]
    simp (disch := first | assumption | omega) only [enZ, enF, enK, enA, rI, rI1, rI0, rJ, rJ1, rJ0, rC, rC0, uI_2, uI_3, uJ_1, uJ_3, uC_1, uC_3, uT_1, uT_2, uT_3, rFI, rFI0, rFI1, rFI2, rFI3, rFJ, rFJ0, rFJ1, rFJ2, rFJ3, rK, rK1, rK2]
  · rw [← (a3 z).1]
    simp (disch := first | assumption | omega) only [enZ, enF, enK, enA, rI, rI1, rI0, rJ, rJ1, rJ0, rC, rC0, uI_2, uI_3, uJ_1, uJ_3, uC_1, uC_3, uT_1, uT_2, uT_3, rFI, rFI0, rFI1, rFI2, rFI3, rFJ, rFJ0, rFJ1, rFJ2, rFJ3, rK, rK1, rK2]
  · rw [← ((a3 z).2 i hi).1]
    simp (disch := first | assumption | omega) only [enZ, enF, enK, enA, rI, rI1, rI0, rJ, rJ1, rJ0, rC, rC0, uI_2, uI_3, uJ_1, uJ_3, uC_1, uC_3, uT_1, uT_2, uT_3, rFI, rFI0, rFI1, rFI2, rFI3, rFJ, rFJ0, rFJ1, rFJ2, rFJ3, rK, rK1, rK2]
  · rw [← ((a3 z).2 i hi).2]
    simp (disch := first | assumption | omega) only [enZ, enF, enK, enA, rI, rI1, rI0, rJ, rJ1, rJ0, rC, rC0, uI_2, uI_3, uJ_1, uJ_3, uC_1, uC_3, uT_1, uT_2, uT_3, rFI, rFI0, rFI1, rFI2, rFI3, rFJ, rFJ0, rFJ1, rFJ2, rFJ3, rK, rK1, rK2]
theorem zFr_eu (h : zFr f G Mc P) (hf : f < 6) (hS : zSk Mc P) (hG : G' f = (x, y, c, b)) (e : ∀ l, l < f → G' l = G l) : zFr (f + 1) G' (opM Mc (73 + 2 * f) (nI x) (nI y) w v) (enZ (enN (enA P f (nI x) (nI y) (nI c) w (nI b)) f) f gg g) := by
  intro l hl
  by_cases h1 : l = f
  · subst h1
    unfold gX gM gC
    rw [hG]
    refine ⟨?_, ?_, ?_, ?_, ?_, ?_, fun i hi => ?_⟩
    · simp (disch := first | assumption | omega) only [enZ, enN, enA, rI, rI1, rI0, rJ, rJ1, rJ0, rC, rC0, uI_2, uI_3, uJ_1, uJ_3, uC_1, uC_3, uT_1, uT_2, uT_3, rFI, rFI0, rFI1, rFI2, rFI3, rFJ, rFJ0, rFJ1, rFJ2, rFJ3, rK, rK2]
    · simp (disch := first | assumption | omega) only [enZ, enN, enA, rI, rI1, rI0, rJ, rJ1, rJ0, rC, rC0, uI_2, uI_3, uJ_1, uJ_3, uC_1, uC_3, uT_1, uT_2, uT_3, rFI, rFI0, rFI1, rFI2, rFI3, rFJ, rFJ0, rFJ1, rFJ2, rFJ3, rK, rK2]
    · simp (disch := first | assumption | omega) only [enZ, enN, enA, rI, rI1, rI0, rJ, rJ1, rJ0, rC, rC0, uI_2, uI_3, uJ_1, uJ_3, uC_1, uC_3, uT_1, uT_2, uT_3, rFI, rFI0, rFI1, rFI2, rFI3, rFJ, rFJ0, rFJ1, rFJ2, rFJ3, rK, rK2]
    · simp (disch := first | assumption | omega) only [enZ, enN, enA, opM, rI, rI1, rI0, rJ, rJ1, rJ0, rC, rC0, uI_2, uI_3, uJ_1, uJ_3, uC_1, uC_3, uT_1, uT_2, uT_3, rFI, rFI0, rFI1, rFI2, rFI3, rFJ, rFJ0, rFJ1, rFJ2, rFJ3, rK, rK2]
    · simp (disch := first | assumption | omega) only [enZ, enN, enA, opM, rI, rI1, rI0, rJ, rJ1, rJ0, rC, rC0, uI_2, uI_3, uJ_1, uJ_3, uC_1, uC_3, uT_1, uT_2, uT_3, rFI, rFI0, rFI1, rFI2, rFI3, rFJ, rFJ0, rFJ1, rFJ2, rFJ3, rK, rK2]
    · simp (disch := first | assumption | omega) only [enZ, enN, enA, opM, rI, rI1, rI0, rJ, rJ1, rJ0, rC, rC0, uI_2, uI_3, uJ_1, uJ_3, uC_1, uC_3, uT_1, uT_2, uT_3, rFI, rFI0, rFI1, rFI2, rFI3, rFJ, rFJ0, rFJ1, rFJ2, rFJ3, rK, rK2]
    · have := hS l i hf hi
      simp (disch := first | assumption | omega) only [enZ, enN, enA, opM, rI, rI1, rI0, rJ, rJ1, rJ0, rC, rC0, uI_2, uI_3, uJ_1, uJ_3, uC_1, uC_3, uT_1, uT_2, uT_3, rFI, rFI0, rFI1, rFI2, rFI3, rFJ, rFJ0, rFJ1, rFJ2, rFJ3, rK, rK2, this]
  · obtain ⟨a1, a2, a3, a4, a5, a6, a7⟩ := zFr_cg h e l (by omega)
    have ne : 73 + 2 * l ≠ 73 + 2 * f := by omega
    have ne2 : 73 + 2 * l + 1 ≠ 73 + 2 * f := by omega
    refine ⟨?_, ?_, ?_, ?_, ?_, ?_, fun i hi => ?_⟩
    · simp (disch := first | assumption | omega) only [enZ, enN, enA, rI, rI1, rI0, rJ, rJ1, rJ0, rC, rC0, uI_2, uI_3, uJ_1, uJ_3, uC_1, uC_3, uT_1, uT_2, uT_3, rFI, rFI0, rFI1, rFI2, rFI3, rFJ, rFJ0, rFJ1, rFJ2, rFJ3, rK, rK2, a1]
    · simp (disch := first | assumption | omega) only [enZ, enN, enA, rI, rI1, rI0, rJ, rJ1, rJ0, rC, rC0, uI_2, uI_3, uJ_1, uJ_3, uC_1, uC_3, uT_1, uT_2, uT_3, rFI, rFI0, rFI1, rFI2, rFI3, rFJ, rFJ0, rFJ1, rFJ2, rFJ3, rK, rK2, a2]
    · simp (disch := first | assumption | omega) only [enZ, enN, enA, rI, rI1, rI0, rJ, rJ1, rJ0, rC, rC0, uI_2, uI_3, uJ_1, uJ_3, uC_1, uC_3, uT_1, uT_2, uT_3, rFI, rFI0, rFI1, rFI2, rFI3, rFJ, rFJ0, rFJ1, rFJ2, rFJ3, rK, rK2, a3]
    · simp (disch := first | assumption | omega) only [enZ, enN, enA, opM, rI, rI1, rI0, rJ, rJ1, rJ0, rC, rC0, uI_2, uI_3, uJ_1, uJ_3, uC_1, uC_3, uT_1, uT_2, uT_3, rFI, rFI0, rFI1, rFI2, rFI3, rFJ, rFJ0, rFJ1, rFJ2, rFJ3, rK, rK2, a4]
    · simp (disch := first | assumption | omega) only [enZ, enN, enA, opM, rI, rI1, rI0, rJ, rJ1, rJ0, rC, rC0, uI_2, uI_3, uJ_1, uJ_3, uC_1, uC_3, uT_1, uT_2, uT_3, rFI, rFI0, rFI1, rFI2, rFI3, rFJ, rFJ0, rFJ1, rFJ2, rFJ3, rK, rK2, a5]
    · simp (disch := first | assumption | omega) only [enZ, enN, enA, opM, rI, rI1, rI0, rJ, rJ1, rJ0, rC, rC0, uI_2, uI_3, uJ_1, uJ_3, uC_1, uC_3, uT_1, uT_2, uT_3, rFI, rFI0, rFI1, rFI2, rFI3, rFJ, rFJ0, rFJ1, rFJ2, rFJ3, rK, rK2, a6]
    · have := a7 i hi
      simp (disch := first | assumption | omega) only [enZ, enN, enA, opM, rI, rI1, rI0, rJ, rJ1, rJ0, rC, rC0, uI_2, uI_3, uJ_1, uJ_3, uC_1, uC_3, uT_1, uT_2, uT_3, rFI, rFI0, rFI1, rFI2, rFI3, rFJ, rFJ0, rFJ1, rFJ2, rFJ3, rK, rK2, this]
theorem zSk_eu (hS : zSk Mc P) (hf : f < 6) (hta : ta = 52 ∨ 88 ≤ ta) : zSk (ecM Mc ta f x y w v b g) (enZ (enN (enA P f (nI x) (nI y) (nI c) w (nI b)) f) f gg g) := by
  have h1 : zSk (opM Mc (73 + 2 * f) (nI x) (nI y) w v) (enZ (enN (enA P f (nI x) (nI y) (nI c) w (nI b)) f) f gg g) := by
    intro l i hl hi
    have ne2 : 73 + 2 * l + 1 ≠ 73 + 2 * f := by omega
    have := hS l i hl hi
    simp (disch := first | assumption | omega) only [enZ, enN, enA, opM, rI, rI1, rI0, rJ, rJ1, rJ0, rC, rC0, uI_2, uI_3, uJ_1, uJ_3, uC_1, uC_3, uT_1, uT_2, uT_3, rFI, rFI0, rFI1, rFI2, rFI3, rFJ, rFJ0, rFJ1, rFJ2, rFJ3, rK, rK2, this]
  exact zSk_f h1 (ec_o (fun _ => by omega) (by omega)) sR_r
theorem zSc_eu (hf : f < 6) (hta : ta = 52 ∨ 88 ≤ ta) (hg : Mc.1 ta 9 = nI g) (hgg : P.1 256 48 = nI gg) (hN : gg ≤ N) (h : zSc rc t lim f N S fl hl (Mc.1 ta 9) P) : zSc rc t lim (f + 1) N S fl hl ((ecM Mc ta f x y w v b g).1 ta 9) (enZ (enN (enA P f (nI x) (nI y) (nI c) w (nI b)) f) f gg g) := by
  obtain ⟨s1, s2, s3, s4, s5, s6, s7, s8, s9, s10, -⟩ := h
  rw [ec_ta hf hta, if_pos rfl]
  refine ⟨?_, fun z => ?_, ?_, ?_, ?_, ?_, ?_, ?_, ?_, ?_, gg + 1, by omega, ?_⟩
  · simp (disch := first | assumption | omega) only [enZ, enN, enA, rI, rI1, rI0, rJ, rJ1, rJ0, rC, rC0, uI_2, uI_3, uJ_1, uJ_3, uC_1, uC_3, uT_1, uT_2, uT_3, rFI, rFI0, rFI1, rFI2, rFI3, rFJ, rFJ0, rFJ1, rFJ2, rFJ3, rK, rK2, s1]
  · have := s2 z
    simp (disch := first | assumption | omega) only [enZ, enN, enA, rI, rI1, rI0, rJ, rJ1, rJ0, rC, rC0, uI_2, uI_3, uJ_1, uJ_3, uC_1, uC_3, uT_1, uT_2, uT_3, rFI, rFI0, rFI1, rFI2, rFI3, rFJ, rFJ0, rFJ1, rFJ2, rFJ3, rK, rK2, this]
  · simp (disch := first | assumption | omega) only [enZ, enN, enA, rI, rI1, rI0, rJ, rJ1, rJ0, rC, rC0, uI_2, uI_3, uJ_1, uJ_3, uC_1, uC_3, uT_1, uT_2, uT_3, rFI, rFI0, rFI1, rFI2, rFI3, rFJ, rFJ0, rFJ1, rFJ2, rFJ3, rK, rK2, s3]
  · simp (disch := first | assumption | omega) only [enZ, enN, enA, rI, rI1, rI0, rJ, rJ1, rJ0, rC, rC0, uI_2, uI_3, uJ_1, uJ_3, uC_1, uC_3, uT_1, uT_2, uT_3, rFI, rFI0, rFI1, rFI2, rFI3, rFJ, rFJ0, rFJ1, rFJ2, rFJ3, rK, rK2, s4]
  · simp (disch := first | assumption | omega) only [enZ, enN, enA, rI, rI1, rI0, rJ, rJ1, rJ0, rC, rC0, uI_2, uI_3, uJ_1, uJ_3, uC_1, uC_3, uT_1, uT_2, uT_3, rFI, rFI0, rFI1, rFI2, rFI3, rFJ, rFJ0, rFJ1, rFJ2, rFJ3, rK, rK2, s5]
  · simp (disch := first | assumption | omega) only [enZ, enN, enA, rI, rI1, rI0, rJ, rJ1, rJ0, rC, rC0, uI_2, uI_3, uJ_1, uJ_3, uC_1, uC_3, uT_1, uT_2, uT_3, rFI, rFI0, rFI1, rFI2, rFI3, rFJ, rFJ0, rFJ1, rFJ2, rFJ3, rK, rK2, s6]
  · simp (disch := first | assumption | omega) only [enZ, enN, enA, rI, rI1, rI0, rJ, rJ1, rJ0, rC, rC0, uI_2, uI_3, uJ_1, uJ_3, uC_1, uC_3, uT_1, uT_2, uT_3, rFI, rFI0, rFI1, rFI2, rFI3, rFJ, rFJ0, rFJ1, rFJ2, rFJ3, rK, rK2, s7]
  · simp (disch := first | assumption | omega) only [enZ, enN, enA, rI, rI1, rI0, rJ, rJ1, rJ0, rC, rC0, uI_2, uI_3, uJ_1, uJ_3, uC_1, uC_3, uT_1, uT_2, uT_3, rFI, rFI0, rFI1, rFI2, rFI3, rFJ, rFJ0, rFJ1, rFJ2, rFJ3, rK, rK2, s8]
  · simp (disch := first | assumption | omega) only [enZ, enN, enA, rI, rI1, rI0, rJ, rJ1, rJ0, rC, rC0, uI_2, uI_3, uJ_1, uJ_3, uC_1, uC_3, uT_1, uT_2, uT_3, rFI, rFI0, rFI1, rFI2, rFI3, rFJ, rFJ0, rFJ1, rFJ2, rFJ3, rK, rK2]
  · simp (disch := first | assumption | omega) only [enZ, enN, enA, rI, rI1, rI0, rJ, rJ1, rJ0, rC, rC0, uI_2, uI_3, uJ_1, uJ_3, uC_1, uC_3, uT_1, uT_2, uT_3, rFI, rFI0, rFI1, rFI2, rFI3, rFJ, rFJ0, rFJ1, rFJ2, rFJ3, rK, rK2]
  · simp (disch := first | assumption | omega) only [enZ, enN, enA, rI, rI1, rI0, rJ, rJ1, rJ0, rC, rC0, uI_2, uI_3, uJ_1, uJ_3, uC_1, uC_3, uT_1, uT_2, uT_3, rFI, rFI0, rFI1, rFI2, rFI3, rFJ, rFJ0, rFJ1, rFJ2, rFJ3, rK, rK2]
theorem zKp_eu (hrc : rc ≠ 1) (hf : f < 6) (hf0 : b = 1 → 0 < f) (hta : ta = 52 ∨ 88 ≤ ta) (hb : b ≤ 1) (hs : zSt rc t Mc P) (hte : rc = 1 → P.1 285 t = Mc.1 (ta + 15) 3) (h : zKp rc f G Mc P) (hG : G' f = (x, y, c, b)) (e : ∀ l, l < f → G' l = G l) : zKp rc (f + 1) G' (ecM Mc ta f x y w v b g) (enZ (enN (enA P f (nI x) (nI y) (nI c) w (nI b)) f) f gg g) := by
  intro l hl
  by_cases h1 : l = f
  · subst h1
    unfold gX gM gY
    rw [hG]
    refine ⟨?_, ?_, ?_, fun hb1 => ⟨hf0 hb1, fun a c' ha hc' => ?_, fun a ha => ?_, fun z => ⟨?_, fun a ha => ⟨?_, ?_⟩⟩⟩⟩
    · simp (disch := first | assumption | omega) only [enZ, enN, enA, rI, rI1, rI0, rJ, rJ1, rJ0, rC, rC0, uI_2, uI_3, uJ_1, uJ_3, uC_1, uC_3, uT_1, uT_2, uT_3, rFI, rFI0, rFI1, rFI2, rFI3, rFJ, rFJ0, rFJ1, rFJ2, rFJ3, rK, rK2]
    · simp (disch := first | assumption | omega) only [enZ, enN, enA, rI, rI1, rI0, rJ, rJ1, rJ0, rC, rC0, uI_2, uI_3, uJ_1, uJ_3, uC_1, uC_3, uT_1, uT_2, uT_3, rFI, rFI0, rFI1, rFI2, rFI3, rFJ, rFJ0, rFJ1, rFJ2, rFJ3, rK, rK2]
    · simp (disch := first | assumption | omega) only [enZ, enN, enA, rI, rI1, rI0, rJ, rJ1, rJ0, rC, rC0, uI_2, uI_3, uJ_1, uJ_3, uC_1, uC_3, uT_1, uT_2, uT_3, rFI, rFI0, rFI1, rFI2, rFI3, rFJ, rFJ0, rFJ1, rFJ2, rFJ3, rK, rK2]
    · have hb2 : b = 1 := hb1
      have q := hs.1 a c' ha hc'
      have i6 : a * 9 + c' < 66 := by omega
      unfold ecM dpM
      rw [if_pos hb2]
      simp (disch := first | assumption | omega) only [enZ, enN, enA, svM, opM, rI, rI1, rI0, rJ, rJ1, rJ0, rC, rC0, uI_2, uI_3, uJ_1, uJ_3, uC_1, uC_3, uT_1, uT_2, uT_3, rFI, rFI0, rFI1, rFI2, rFI3, rFJ, rFJ0, rFJ1, rFJ2, rFJ3, rK, rK0, rK1, rK2, if_pos i6, Nat.add_sub_cancel_left, Nat.zero_add, q]
    · have hb2 : b = 1 := hb1
      have q := hs.2.1 a ha
      have i6 : a * 9 + 8 < 66 := by omega
      unfold ecM dpM
      rw [if_pos hb2]
      simp (disch := first | assumption | omega) only [enZ, enN, enA, svM, opM, rI, rI1, rI0, rJ, rJ1, rJ0, rC, rC0, uI_2, uI_3, uJ_1, uJ_3, uC_1, uC_3, uT_1, uT_2, uT_3, rFI, rFI0, rFI1, rFI2, rFI3, rFJ, rFJ0, rFJ1, rFJ2, rFJ3, rK, rK0, rK1, rK2, if_pos i6, Nat.add_sub_cancel_left, Nat.zero_add, q]
    · have hb2 : b = 1 := hb1
      have q := hte z
      unfold ecM dpM
      rw [if_pos hb2]
      exact absurd z hrc
    · have hb2 : b = 1 := hb1
      have q := (hs.2.2 z a ha).1
      have i6 : 54 + a < 66 := by omega
      unfold ecM dpM
      rw [if_pos hb2]
      exact absurd z hrc
    · have hb2 : b = 1 := hb1
      have q := (hs.2.2 z a ha).2
      have i6 : 60 + a < 66 := by omega
      unfold ecM dpM
      rw [if_pos hb2]
      exact absurd z hrc
  · obtain ⟨a1, a2, a3, a4⟩ := zKp_cg h e l (by omega)
    refine ⟨?_, ?_, ?_, fun hz => ?_⟩
    · simp (disch := first | assumption | omega) only [enZ, enN, enA, rI, rI1, rI0, rJ, rJ1, rJ0, rC, rC0, uI_2, uI_3, uJ_1, uJ_3, uC_1, uC_3, uT_1, uT_2, uT_3, rFI, rFI0, rFI1, rFI2, rFI3, rFJ, rFJ0, rFJ1, rFJ2, rFJ3, rK, rK2, a1]
    · simp (disch := first | assumption | omega) only [enZ, enN, enA, rI, rI1, rI0, rJ, rJ1, rJ0, rC, rC0, uI_2, uI_3, uJ_1, uJ_3, uC_1, uC_3, uT_1, uT_2, uT_3, rFI, rFI0, rFI1, rFI2, rFI3, rFJ, rFJ0, rFJ1, rFJ2, rFJ3, rK, rK2, a2]
    · simp (disch := first | assumption | omega) only [enZ, enN, enA, rI, rI1, rI0, rJ, rJ1, rJ0, rC, rC0, uI_2, uI_3, uJ_1, uJ_3, uC_1, uC_3, uT_1, uT_2, uT_3, rFI, rFI0, rFI1, rFI2, rFI3, rFJ, rFJ0, rFJ1, rFJ2, rFJ3, rK, rK2, a3]
    · obtain ⟨b0, b1, b2, b3⟩ := a4 hz
      have r1 : (ecM Mc ta f x y w v b g).2.1 (44 + (l - 1)) = Mc.2.1 (44 + (l - 1)) := (ec_s (lo := 44 + (l - 1)) (hi := 44 + (l - 1) + 1) (by omega) (fun _ => by omega) (by omega) (44 + (l - 1)) (by omega) (by omega)).2
      have r2 : (ecM Mc ta f x y w v b g).1 50 (l - 1) = Mc.1 50 (l - 1) := by
        unfold ecM dpM
        by_cases hb1 : b = 1
        · rw [if_pos hb1]
          have := hf0 hb1
          simp (disch := first | assumption | omega) only [svM, opM, rI, rI1, rI0, rJ, rJ1, rJ0, rC, rC0, uI_2, uI_3, uJ_1, uJ_3, uC_1, uC_3, uT_1, uT_2, uT_3, rFI, rFI0, rFI1, rFI2, rFI3, rFJ, rFJ0, rFJ1, rFJ2, rFJ3]
        · rw [if_neg hb1]
          simp (disch := first | assumption | omega) only [opM, rI, rI1, rI0, rJ, rJ1, rJ0, rC, rC0, uI_2, uI_3, uJ_1, uJ_3, uC_1, uC_3, uT_1, uT_2, uT_3, rFI, rFI0, rFI1, rFI2, rFI3, rFJ, rFJ0, rFJ1, rFJ2, rFJ3]
      rw [r1, r2]
      refine ⟨b0, fun a c' ha hc' => ?_, fun a ha => ?_, fun z => ⟨?_, fun a ha => ⟨?_, ?_⟩⟩⟩
      · rw [← b1 a c' ha hc']
        simp (disch := first | assumption | omega) only [enZ, enN, enA, rI, rI1, rI0, rJ, rJ1, rJ0, rC, rC0, uI_2, uI_3, uJ_1, uJ_3, uC_1, uC_3, uT_1, uT_2, uT_3, rFI, rFI0, rFI1, rFI2, rFI3, rFJ, rFJ0, rFJ1, rFJ2, rFJ3, rK, rK1, rK2]
      · rw [← b2 a ha]
        simp (disch := first | assumption | omega) only [enZ, enN, enA, rI, rI1, rI0, rJ, rJ1, rJ0, rC, rC0, uI_2, uI_3, uJ_1, uJ_3, uC_1, uC_3, uT_1, uT_2, uT_3, rFI, rFI0, rFI1, rFI2, rFI3, rFJ, rFJ0, rFJ1, rFJ2, rFJ3, rK, rK1, rK2]
      · rw [← (b3 z).1]
        simp (disch := first | assumption | omega) only [enZ, enN, enA, rI, rI1, rI0, rJ, rJ1, rJ0, rC, rC0, uI_2, uI_3, uJ_1, uJ_3, uC_1, uC_3, uT_1, uT_2, uT_3, rFI, rFI0, rFI1, rFI2, rFI3, rFJ, rFJ0, rFJ1, rFJ2, rFJ3, rK, rK1, rK2]
      · exact absurd z hrc
      · exact absurd z hrc
theorem zK0_eu (h : zK0 rc R0 P) (hf : 0 < f) : zK0 rc R0 (enZ (enN (enA P f (nI x) (nI y) (nI c) w (nI b)) f) f gg g) := by
  obtain ⟨a1, a2, a3⟩ := h
  refine ⟨fun i hi => ?_, fun i hi => ?_, fun z => ⟨?_, fun i hi => ⟨?_, ?_⟩⟩⟩
  · rw [← a1 i hi]
    simp (disch := first | assumption | omega) only [enZ, enN, enA, rI, rI1, rI0, rJ, rJ1, rJ0, rC, rC0, uI_2, uI_3, uJ_1, uJ_3, uC_1, uC_3, uT_1, uT_2, uT_3, rFI, rFI0, rFI1, rFI2, rFI3, rFJ, rFJ0, rFJ1, rFJ2, rFJ3, rK, rK1, rK2]
  · rw [← a2 i hi]
    simp (disch := first | assumption | omega) only [enZ, enN, enA, rI, rI1, rI0, rJ, rJ1, rJ0, rC, rC0, uI_2, uI_3, uJ_1, uJ_3, uC_1, uC_3, uT_1, uT_2, uT_3, rFI, rFI0, rFI1, rFI2, rFI3, rFJ, rFJ0, rFJ1, rFJ2, rFJ3, rK, rK1, rK2]
  · rw [← (a3 z).1]
    simp (disch := first | assumption | omega) only [enZ, enN, enA, rI, rI1, rI0, rJ, rJ1, rJ0, rC, rC0, uI_2, uI_3, uJ_1, uJ_3, uC_1, uC_3, uT_1, uT_2, uT_3, rFI, rFI0, rFI1, rFI2, rFI3, rFJ, rFJ0, rFJ1, rFJ2, rFJ3, rK, rK1, rK2]
  · rw [← ((a3 z).2 i hi).1]
    simp (disch := first | assumption | omega) only [enZ, enN, enA, rI, rI1, rI0, rJ, rJ1, rJ0, rC, rC0, uI_2, uI_3, uJ_1, uJ_3, uC_1, uC_3, uT_1, uT_2, uT_3, rFI, rFI0, rFI1, rFI2, rFI3, rFJ, rFJ0, rFJ1, rFJ2, rFJ3, rK, rK1, rK2]
  · rw [← ((a3 z).2 i hi).2]
    simp (disch := first | assumption | omega) only [enZ, enN, enA, rI, rI1, rI0, rJ, rJ1, rJ0, rC, rC0, uI_2, uI_3, uJ_1, uJ_3, uC_1, uC_3, uT_1, uT_2, uT_3, rFI, rFI0, rFI1, rFI2, rFI3, rFJ, rFJ0, rFJ1, rFJ2, rFJ3, rK, rK1, rK2]
end EC
