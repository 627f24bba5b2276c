/-! both walks: the whole -/
section WQ
variable {L : Nat} {xs : Nat → Int32} {K : zK} {ta lim x y c : Nat} {hl : Int32} {M : ip_Mm}
def weM (Mc : ip_Mm) (ta r : Nat) : ip_Mm := if r = 0 then ewM Mc ta (Mc.2.1 73 7) else ebM Mc ta (nI r) (Mc.2.1 41 8)
theorem walk_pair (d e : Nat) (hc : zQc K ta lim x y c M) : ∃ r Mc N S, (r ≤ 8 ∧ (r = 8 → nI N = hl)) ∧ ip_call (d + 40) mWa_walk [.ref 41, .ref ta, .int hl] (ip_hm L xs M) = some (none, ip_hm L xs (weM Mc ta r)) ∧ zW K ta lim (w0M M ta hl) 0 (fun _ => (x, y, c, 0)) N S N Mc ∧ ∀ t rc Mr, zQr K ta t rc M Mr → ∃ Mr', ip_call (e + 5) mR_walk [.ref 256, .int (nI x), .int (nI y), .long (M.2.1 ta 2), .int (nI lim), .int hl] (ip_hm L xs Mr) = some (none, ip_hm L xs Mr') ∧ (r ≠ 8 → zR ta t rc lim hl Mr 0 0 (fun _ => (x, y, c, 0)) N N S r Mc Mr' ∧ (r = 0 → Mr'.2.1 256 47 = Mc.2.1 73 7) ∧ (r = 5 → Mr'.2.1 256 46 = Mc.2.1 41 8)) ∧ (r = 8 → zU (dI rc t) (dJ rc t) Mr Mr' ∧ zSt rc t Mc Mr' ∧ zSk Mc Mr') := by
  obtain ⟨h1, h2, h3, h4, h5, h6, h7, h8, h9, h10, h11, h12, h13, h14, h15, h16, h17, h18⟩ := id hc
  have ht := tr_om h2
  have hE := w0_E (hl := hl) hc
  have n6 := h1.2.1
  have n1 : ta ≠ 41 := by omega
  have e0 : ∀ e, e ≠ 41 → (w2M M ta hl).1 e = M.1 e := fun e he => by simp (disch := first | assumption | omega) only [w2M, w0M, rI, rI1, rI0, rJ, rJ1, rJ0, rC, rC0, uI_2, uI_3, uJ_1, uJ_3, uC_1, uC_3, uT_1, uT_2, uT_3, rFI, rFI0, rFI1, rFI2, rFI3, rFJ, rFJ0, rFJ1, rFJ2, rFJ3, rK2]
  have g9 : (w2M M ta hl).1 ta 9 = nI 0 := by rw [e0 ta n1]; exact h14
  have w1 := zW_enter (G' := fun _ => (x, y, c, 0)) (w := M.2.1 ta 2) (v := -1) (b := 0) h2 (show 0 < 6 by omega) (w2_W (hl := hl) (G := fun _ => (x, y, c, 0)) hc) g9 (by omega) h5 h6 h7 (by omega) rfl rfl (fun l hl => rfl)
  obtain ⟨r, Mc, N, S, i1, i2, i3, i4, i5⟩ := walkT (L := L) (xs := xs) (p0 := nI x) (p1 := nI y) (p2 := M.2.1 ta 2) (p3 := nI lim) (p4 := hl) e hE 101 0 0 (some (.int (nI c))) none (fun _ => (x, y, c, 0)) 0 0 _ (d + 39) (by omega) w1 (by omega) (by omega) (by omega)
  have i1a := i1.1
  have eM : ecM (w2M M ta hl) ta 0 x y (M.2.1 ta 2) (-1) 0 0 = dpM (opM (w2M M ta hl) 73 (nI x) (nI y) (M.2.1 ta 2) (-1)) ta 0 0 := by
    unfold ecM
    rw [if_neg (by decide)]
  have hcls : ip_call (d + 39) mWa_walkFrame [.ref 41, .int 0] (ip_hm L xs (opM (w2M M ta hl) 73 (M.1 ta 0) (M.1 ta 1) (M.2.1 ta 2) (-1))) = some (some (.int (nI r)), ip_hm L xs Mc) := by
    rw [h9, h10]
    rw [eM] at w1 i2
    have j1 := zC_na hE w1.1
    have j2 := zC_np hE w1.1
    have j3 := zC_mb hE w1.1 h5 h6
    obtain ⟨-, -, -, -, k1, k2, -⟩ := w1.2.1 0 (by omega)
    have t4 : (opM (w2M M ta hl) 73 (nI x) (nI y) (M.2.1 ta 2) (-1)).2.2 = ta := (show (dpM (opM (w2M M ta hl) 73 (nI x) (nI y) (M.2.1 ta 2) (-1)) ta 0 0).2.2 = ta from zC_tr hE w1.1)
    rw [dp_1 (by omega)] at j1 j2 j3 k1 k2
    have g4 : (opM (w2M M ta hl) 73 (nI x) (nI y) (M.2.1 ta 2) (-1)).1 ta 9 = nI 0 := by
      have n3 : ta ≠ 73 := by omega
      simp (disch := first | assumption | omega) only [opM, rI, rI1, rI0, rJ, rJ1, rJ0, rC, rC0, uI_2, uI_3, uJ_1, uJ_3, uC_1, uC_3, uT_1, uT_2, uT_3, rFI, rFI0, rFI1, rFI2, rFI3, rFJ, rFJ0, rFJ1, rFJ2, rFJ3, g9]
    have kf := wf_in (d := d + 37) (L := L) (xs := xs) (lv := 0) (show 0 < 6 by omega) h2 t4 j1 n6 j2 h1.1 k1 h5 k2 h6 (j3.trans h8) h7 g4 (by omega)
    exact kf.trans i2
  refine ⟨r, Mc, N, S, i1, ?_, i4, fun t rc Mr hq => ?_⟩
  · unfold weM
    by_cases r0 : r = 0
    · subst r0
      rw [if_pos rfl]
      exact k_walk_0 (d := d + 38) h2 hcls
    · rw [if_neg r0]
      exact k_walk_b (d := d + 38) h2 (nI_ne (y := 0) (by omega) (by omega) r0) hcls
  · obtain ⟨Q, en, zr⟩ := wk_r (L := L) (xs := xs) (hl := hl) hc hq (M.2.1 ta 2) (e + 3)
    have kw := r_walk (d := e + 4) (p0 := nI x) (p1 := nI y) (p2 := M.2.1 ta 2) (p3 := nI lim) (p4 := hl) en
    obtain ⟨a0, a8, a7⟩ := i5 t rc Mr none Q hq.1 hq.2.1 hq.2.2.1 zr
    by_cases r8 : r = 8
    · obtain ⟨Mr1, y1, y2, y3, y4⟩ := a8 r8
      exact ⟨Mr1, kw.trans y1, fun z => absurd r8 z, fun _ => ⟨y2, y3, y4⟩⟩
    · by_cases r0 : r = 0
      · obtain ⟨Mr1, y1, y2⟩ := a0 r0
        have d1 := y1.2.2.2.1.2.2.2.2.2.2.2.2.1
        obtain ⟨z', ez⟩ := y2 _ (fun d' => r_leaves0 d1)
        refine ⟨_, (kw.trans ez).trans (hd_end (by simp (disch := first | assumption | omega) only [rI, rI1, rI0, rJ, rJ1, rJ0, rC, rC0, uI_2, uI_3, uJ_1, uJ_3, uC_1, uC_3, uT_1, uT_2, uT_3, rFI, rFI0, rFI1, rFI2, rFI3, rFJ, rFJ0, rFJ1, rFJ2, rFJ3]; rfl)), fun _ => ⟨?_, fun _ => rJ0, fun z => absurd z (by omega)⟩, fun z => absurd z r8⟩
        rw [r0]
        exact zR_46 (by omega) (by omega) (zR_leave h2 (by omega) (by omega) y1) (Or.inr rfl)
      · obtain ⟨Mr1, z', y1, y2, y3⟩ := a7 r0 r8
        have d1 := y2.2.2.2.1.2.2.2.2.2.2.2.2.1
        have f1 := zS_fl y2
        have s4 := y2.2.2.2.1.2.2.2.1
        have ef := hd_fail (d := e + 4) (p0 := nI x) (p1 := nI y) (p2 := M.2.1 ta 2) (p3 := nI lim) (p4 := hl) (z := z') d1 (by omega) s4 f1 (by omega) (by omega) (r_fails_0 (L := L) (xs := xs) d1)
        exact ⟨_, ((kw.trans y1).trans ef).trans (hd_end rI0), fun _ => ⟨zR_leave h2 (by omega) (by omega) y2, fun z => absurd z r0, fun z => y3 z⟩, fun z => absurd z r8⟩
end WQ
