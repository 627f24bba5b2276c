/-! the steps that are no calls -/
section SP
variable {d L : Nat} {xs : Nat → Int32} {K : zK} {ta t rc lim : Nat} {hl : Int32} {C0 R0 : ip_Mm} {lv : Nat} {G : zG} {N m S T k c h p q : Nat} {a w : Int64} {Mc Mc1 M : ip_Mm}
theorem uI_self {a k : Nat} : uI M a k (M.1 a k) = M := by
  refine Prod.ext (funext fun e => funext fun i => ?_) rfl
  show (if e = a ∧ i = k then M.1 a k else M.1 e i) = M.1 e i
  by_cases h1 : e = a ∧ i = k
  · rw [if_pos h1, h1.1, h1.2]
  · rw [if_neg h1]
theorem py_1 {c j : Nat} (h : c ≠ 256) : (pyM M S q N).1 c j = M.1 c j := by unfold pyM; rw [rI h, rI h]
theorem zR_beg0 {Mr : ip_Mm} (hT : isTr ta) (hlv : lv < 6) (hr : zR ta t rc lim hl R0 (lv + 1) (lv + 1) G N N S 0 Mc Mr) : zR ta t rc lim hl R0 lv (lv + 1) G (N + 1) N (S + q) 0 (boM Mc ta (73 + 2 * lv) N lv p k q) (pyM Mr S q N) := by
  have h1 := zR_d4 (v := (pyM Mr S q N).1 294 lv) hT hlv (by omega) (zR_dn (zR_begin (p := p) (k := k) (q := q) hT hlv hr)) (Nat.le_refl lv)
  unfold plM at h1
  rw [uI_uI, uI_self] at h1
  exact h1
/-- what a step that is no call, or fails, gives -/
def zSR (d L : Nat) (xs : Nat → Int32) (K : zK) (ta lim : Nat) (hl : Int32) (C0 : ip_Mm) (lv : Nat) (G : zG) (N S q : Nat) (Mc : ip_Mm) (r : Nat) (Mc2 : ip_Mm) : Prop :=
  r < 8 ∧ ip_call (d + 4) mWa_walkOp [.ref 41, .ref (73 + 2 * lv), .ref (7 + 4 * gC G lv), .int (nI lv)] (ip_hm L xs Mc) = some (some (.int (nI r)), ip_hm L xs Mc2) ∧ zW K ta lim C0 (if r = 0 then lv + 1 else lv) G (N + 1) (S + q) (N + 1) Mc2 ∧ ∀ t rc R0 d Mr, zKR K R0 → rc ≤ 1 → (rc = 1 → t < 8) → zR ta t rc lim hl R0 (lv + 1) (lv + 1) G N N S 0 Mc Mr → ∃ Mr2, ip_call (d + 4) mR_begins [.ref 256, .int (nI lv)] (ip_hm L xs Mr) = some (none, ip_hm L xs Mr2) ∧ zR ta t rc lim hl R0 (if r = 0 then lv + 1 else lv) (lv + 1) G (N + 1) (N + 1) (S + q) r Mc2 Mr2 ∧ (r = 5 → Mr2.2.1 256 46 = Mc2.2.1 41 8)
theorem bo_h (hT : isTr ta) (hlv : lv < 6) (hh : Mc.1 (73 + 2 * lv) 1 = nI h) : (boM Mc ta (73 + 2 * lv) N lv p k q).1 (73 + 2 * lv) 1 = nI h := by
  have ht := tr_om hT
  simp (disch := first | assumption | omega) only [boM, bsM, rI, rI1, rI0, rJ, rJ1, rJ0, rC, rC0, uI_2, uI_3, uJ_1, uJ_3, uC_1, uC_3, uT_1, uT_2, uT_3, rFI, rFI0, rFI1, rFI2, rFI3, rFJ, rFJ0, rFJ1, rFJ2, rFJ3, hh]
theorem st_plain (hE : zE K ta lim hl C0) (hlv : lv < 6) (hw : zW K ta lim C0 (lv + 1) G N S N Mc) (hp : Mc.1 (73 + 2 * lv) 6 = nI p) (hps : p < kSz K (gC G lv)) (hk : kKd K (gC G lv) p = k) (hq : kPc K k = q) (hS : S + q ≤ lim) (hh : ¬ nI N = hl) (h6 : k ≠ 6) (h7 : k ≠ 7) (h10 : k ≠ 10) : ∃ r Mc2, zSR d L xs K ta lim hl C0 lv G N S q Mc r Mc2 := by
  have hT := hE.2.1
  have ht := tr_om hT
  have n41 : (41 : Nat) ≠ ta + 10 := by omega
  have hl1 := hE.2.2.1
  obtain ⟨fx, fm, fc, fy, ex, em, ef, ⟨h, h12, eh⟩, -, er⟩ := hw.2.1 lv (by omega)
  have hnp := hE.1.1
  have c8 : gC G lv < 8 := by omega
  have s20 := hE.1.2.2.1 (gC G lv)
  have k6 : k < 16 := by rw [← hk]; exact hE.1.2.2.2.1 _ _
  have q1 := hE.1.2.2.2.2.1 k
  rw [hq] at q1
  obtain ⟨o1, o2, o3⟩ := zC_op hE hw.1 c8 (show p < 20 by omega)
  rw [hk] at o1
  have o4 := zC_pc hE hw.1 k6
  rw [hq] at o4
  obtain ⟨w1, w2, w3, w4, w5⟩ := hw.2.2.1
  have hwb := zW_begin (k := k) hT hlv hw hps q1.1 hS
  have hhb := bo_h (N := N) (p := p) (k := k) (q := q) hT hlv eh
  have hbg := zBg_bo (N := N) (p := p) (k := k) (q := q) hT hlv ex em
  have hp16 := pp_n k6
  have p12 : pn k ≤ 2 := by unfold pn; split; omega; split <;> omega
  -- what the reference needs
  have rf : ∀ t rc R0 Mr, zKR K R0 → zR ta t rc lim hl R0 (lv + 1) (lv + 1) G N N S 0 Mc Mr → Mr.1 293 lv = nI (gC G lv) ∧ Mr.1 294 lv = nI p ∧ Mr.1 258 (20 * gC G lv + p) = nI k ∧ Mr.2.1 259 (20 * gC G lv + p) = kOa K (gC G lv) p ∧ Mr.1 262 k = nI q ∧ Mr.1 256 43 = nI S ∧ Mr.1 256 42 = nI lim ∧ ¬ Mr.1 256 44 = Mr.1 256 40 ∧ Mr.1 256 44 = nI N := by
    intro t rc R0 Mr hK hr
    obtain ⟨b1, b2, b3, b4, -⟩ := hr.2.2.1 lv (by omega)
    obtain ⟨d1, d2, d3⟩ := zD_op hK hr.1 c8 (show p < 20 by omega)
    rw [hk] at d1
    have d4 := zD_pc hK hr.1 k6
    rw [hq] at d4
    obtain ⟨-, -, s3, -, s5, s6, s7, -⟩ := hr.2.2.2.1
    exact ⟨b3, b4.trans hp, d1, d2, d4, s6, s5, by rw [s7, s3]; exact hh, s7⟩
  by_cases hx : h < pn k
  · have hlt : nI h < ip_pp k := by rw [hp16]; exact (nI_ltI (by omega) (by omega)).mpr hx
    have kt := k_top (d := d + 3) (L := L) (xs := xs) (isFr_l hlv) hhb h12
    have ke := q_endStep (d := d + 3) (L := L) (xs := xs) (x := 2) (w := (if 0 < h then (boM Mc ta (73 + 2 * lv) N lv p k q).2.1 (73 + 2 * lv + 1) (h - 1) else 0)) hT hwb.2.2.1.1 (by omega)
    refine ⟨2, _, by omega, wo_index (isFr_l hlv) (isPr_l c8) hT (zC_tr hE hw.1) hp (by omega) o1 k6 o4 q1.2 w1 w2 (zC_lm hE hw.1) (by omega) hl1 hS (by rw [zC_hl hE hw.1]; exact hh) h6 h7 hhb hlt kt ke, zW_T (zW_es hT (by show lv ≤ 6; omega) (zW_dn hwb)) (by omega), fun t rc R0 d Mr hK hrc ht8 hr => ?_⟩
    obtain ⟨b3, b4, d1, d2, d4, s6, s5, s4, s7⟩ := rf t rc R0 Mr hK hr
    obtain ⟨Mr1, e1, z1, z2, z3⟩ := ax_all (K := K) (L := L) (xs := xs) (c := gC G lv) (a := kOa K (gC G lv) p) hlv hT hhb k6 h6 h7 h10 hx t rc R0 d (pyM Mr S q N) p hK hrc ht8 (by rw [py_1 (by decide)]; exact b4) (by omega) (by rw [py_1 (by decide)]; exact d1) d2 (zR_begin (k := k) hT hlv hr)
    obtain ⟨h', t1, t2⟩ := z3 (by omega)
    obtain ⟨Mr2, n1, n2, n3, n4, n5, n6⟩ := nt_all (L := L) (xs := xs) (w := (if 0 < h then (boM Mc ta (73 + 2 * lv) N lv p k q).2.1 (73 + 2 * lv + 1) (h - 1) else 0)) (w' := (if 0 < h' then Mr1.2.1 299 (12 * lv + (h' - 1)) else 0)) hK hT hrc ht8 hlv (show lv ≤ 6 by omega) (show N < 100 by omega) (Nat.lt_of_lt_of_le fx hE.1.2.1) fm c8 (show p < 20 by omega) hk k6 hq (show 2 < 9 by omega) hbg (fun z => absurd z (by omega)) z1
    exact ⟨Mr2, bg_plain (by omega) b3 c8 b4 (by omega) d1 k6 d4 q1.2 s6 s5 hl1 hS s4 s7 h6 h7 h10 e1 (r_top (by omega) t2 t1) (n1 _), n2, fun z => absurd z (by omega)⟩
  · have hlt : ip_pp k ≤ nI h := by rw [hp16]; exact (nI_leI (by omega) (by omega)).mpr (by omega)
    obtain ⟨r, Mc1, r8, ea, wa, ha, sa, ra⟩ := ap_all (d := d) (L := L) (xs := xs) (a := kOa K (gC G lv) p) (m := N) hE hlv c8 rfl (by omega) hwb (by omega) hhb h12 k6 h6 h7 h10 (by omega)
    have hh1 : ∃ h', h' ≤ 12 ∧ Mc1.1 (73 + 2 * lv) 1 = nI h' := by
      by_cases r0 : r = 0
      · rw [if_pos r0] at wa
        exact (wa.2.1 lv (by omega)).2.2.2.2.2.2.2.1
      · exact ha r0
    obtain ⟨h1, u1, u2⟩ := hh1
    have kt := k_top (d := d + 3) (L := L) (xs := xs) (isFr_l hlv) u2 u1
    have ke := q_endStep (d := d + 3) (L := L) (xs := xs) (x := nI r) (w := (if 0 < h1 then Mc1.2.1 (73 + 2 * lv + 1) (h1 - 1) else 0)) hT wa.2.2.1.1 (by omega)
    refine ⟨r, _, r8, wo_act (isFr_l hlv) (isPr_l c8) hT (zC_tr hE hw.1) hp (by omega) o1 k6 o4 q1.2 w1 w2 (zC_lm hE hw.1) (by omega) hl1 hS (by rw [zC_hl hE hw.1]; exact hh) h6 h7 hhb hlt (by rw [o2]; exact ea) (zC_tr hE wa.1) kt ke, zW_es hT (by split <;> omega) wa, fun t rc R0 d Mr hK hrc ht8 hr => ?_⟩
    obtain ⟨b3, b4, d1, d2, d4, s6, s5, s4, s7⟩ := rf t rc R0 Mr hK hr
    obtain ⟨Mr1, e1, z1, z2, z3⟩ := ra t rc R0 d (pyM Mr S q N) p hK hrc ht8 (by rw [py_1 (by decide)]; exact b4) (by omega) (by rw [py_1 (by decide)]; exact d1) d2 (zR_begin (k := k) hT hlv hr)
    have hh2 : ∃ h', h' ≤ 12 ∧ Mr1.1 298 lv = nI h' ∧ (r = 0 → (if 0 < h1 then Mc1.2.1 (73 + 2 * lv + 1) (h1 - 1) else 0) = (if 0 < h' then Mr1.2.1 299 (12 * lv + (h' - 1)) else 0)) := by
      by_cases r0 : r = 0
      · rw [if_pos r0] at z1
        obtain ⟨-, -, -, -, -, y6, y7⟩ := z1.2.2.1 lv (by omega)
        refine ⟨h1, u1, y6.trans u2, fun _ => ?_⟩
        by_cases hp0 : 0 < h1
        · rw [if_pos hp0, if_pos hp0, y7 (h1 - 1) (by omega)]
        · rw [if_neg hp0, if_neg hp0]
      · obtain ⟨h', t1, t2⟩ := z3 r0
        exact ⟨h', t1, t2, fun z => absurd z r0⟩
    obtain ⟨h', t1, t2, t3⟩ := hh2
    obtain ⟨Mr2, n1, n2, n3, n4, n5, n6⟩ := nt_all (L := L) (xs := xs) (w := (if 0 < h1 then Mc1.2.1 (73 + 2 * lv + 1) (h1 - 1) else 0)) (w' := (if 0 < h' then Mr1.2.1 299 (12 * lv + (h' - 1)) else 0)) hK hT hrc ht8 hlv (show (if r = 0 then lv + 1 else lv) ≤ 6 by split <;> omega) (show N < 100 by omega) (Nat.lt_of_lt_of_le fx hE.1.2.1) fm c8 (show p < 20 by omega) hk k6 hq (show r < 9 by omega) (zBg_f hbg sa) t3 z1
    refine ⟨Mr2, bg_plain (by omega) b3 c8 b4 (by omega) d1 k6 d4 q1.2 s6 s5 hl1 hS s4 s7 h6 h7 h10 e1 (r_top (by omega) t2 t1) (n1 _), n2, fun z => ?_⟩
    rw [n5, z2 z]
    unfold esM
    rw [rJ n41]
    rfl
theorem st_ret (hE : zE K ta lim hl C0) (hlv : lv < 6) (hw : zW K ta lim C0 (lv + 1) G N S N Mc) (hp : Mc.1 (73 + 2 * lv) 6 = nI p) (hps : p < kSz K (gC G lv)) (hk : kKd K (gC G lv) p = 10) (hq : kPc K 10 = q) (hS : S + q ≤ lim) (hh : ¬ nI N = hl) : (∃ r Mc2, r ≠ 0 ∧ zSR d L xs K ta lim hl C0 lv G N S q Mc r Mc2) ∨ ∃ Mc2, ip_call (d + 4) mWa_walkOp [.ref 41, .ref (73 + 2 * lv), .ref (7 + 4 * gC G lv), .int (nI lv)] (ip_hm L xs Mc) = some (some (.int 0), ip_hm L xs Mc2) ∧ Mc2.1 (73 + 2 * lv) 6 = nI (kSz K (gC G lv)) ∧ zW K ta lim C0 lv G (N + 1) (S + q) (N + 1) Mc2 ∧ ∀ t rc R0 d Mr, zKR K R0 → rc ≤ 1 → (rc = 1 → t < 8) → zR ta t rc lim hl R0 (lv + 1) (lv + 1) G N N S 0 Mc Mr → ∃ Mr1, zR ta t rc lim hl R0 lv (lv + 1) G (N + 1) (N + 1) (S + q) 0 Mc2 Mr1 ∧ ∀ Mr2, (∀ d', ip_call (d' + 1) mR_leaves [.ref 256, .long (Mc2.2.1 (73 + 2 * lv) 7)] (ip_hm L xs Mr1) = some (none, ip_hm L xs Mr2)) → ip_call (d + 4) mR_begins [.ref 256, .int (nI lv)] (ip_hm L xs Mr) = some (none, ip_hm L xs Mr2) := by
  have hT := hE.2.1
  have ht := tr_om hT
  have hl1 := hE.2.2.1
  obtain ⟨fx, fm, fc, fy, ex, em, ef, ⟨h, h12, eh⟩, -, er⟩ := hw.2.1 lv (by omega)
  have hnp := hE.1.1
  have c8 : gC G lv < 8 := by omega
  have s20 := hE.1.2.2.1 (gC G lv)
  have k6 : (10 : Nat) < 16 := by omega
  have q1 := hE.1.2.2.2.2.1 10
  rw [hq] at q1
  obtain ⟨o1, o2, o3⟩ := zC_op hE hw.1 c8 (show p < 20 by omega)
  rw [hk] at o1
  have o4 := zC_pc hE hw.1 k6
  rw [hq] at o4
  obtain ⟨w1, w2, w3, w4, w5⟩ := hw.2.2.1
  have hwb := zW_begin (k := 10) hT hlv hw hps q1.1 hS
  have hhb := bo_h (N := N) (p := p) (k := 10) (q := q) hT hlv eh
  have hbg := zBg_bo (N := N) (p := p) (k := 10) (q := q) hT hlv ex em
  have hsz := zC_sz hE hwb.1 c8
  have rf : ∀ t rc R0 Mr, zKR K R0 → zR ta t rc lim hl R0 (lv + 1) (lv + 1) G N N S 0 Mc Mr → Mr.1 293 lv = nI (gC G lv) ∧ Mr.1 294 lv = nI p ∧ Mr.1 258 (20 * gC G lv + p) = nI 10 ∧ Mr.1 262 10 = nI q ∧ Mr.1 256 43 = nI S ∧ Mr.1 256 42 = nI lim ∧ ¬ Mr.1 256 44 = Mr.1 256 40 ∧ Mr.1 256 44 = nI N ∧ (pyM Mr S q N).1 298 lv = nI h ∧ (pyM Mr S q N).1 256 45 = 0 := by
    intro t rc R0 Mr hK hr
    obtain ⟨b1, b2, b3, b4, -, b6, -⟩ := hr.2.2.1 lv (by omega)
    obtain ⟨d1, d2, d3⟩ := zD_op hK hr.1 c8 (show p < 20 by omega)
    rw [hk] at d1
    have d4 := zD_pc hK hr.1 k6
    rw [hq] at d4
    obtain ⟨-, -, s3, -, s5, s6, s7, s8, -⟩ := hr.2.2.2.1
    refine ⟨b3, b4.trans hp, d1, d4, s6, s5, by rw [s7, s3]; exact hh, s7, ?_, ?_⟩
    · rw [py_1 (by decide)]; exact b6.trans eh
    · have : Mr.1 256 45 = 0 := s8
      simp (disch := first | assumption | omega) only [pyM, rI, rI1, rI0, rJ, rJ1, rJ0, rC, rC0, uI_2, uI_3, uJ_1, uJ_3, uC_1, uC_3, uT_1, uT_2, uT_3, rFI, rFI0, rFI1, rFI2, rFI3, rFJ, rFJ0, rFJ1, rFJ2, rFJ3, this]
  by_cases h0 : h = 0
  · subst h0
    left
    have hlt : nI 0 < ip_pp 10 := by decide
    have kt := k_top (d := d + 3) (L := L) (xs := xs) (isFr_l hlv) hhb h12
    have ke := q_endStep (d := d + 3) (L := L) (xs := xs) (x := 2) (w := (if 0 < 0 then (boM Mc ta (73 + 2 * lv) N lv p 10 q).2.1 (73 + 2 * lv + 1) (0 - 1) else 0)) hT hwb.2.2.1.1 (by omega)
    refine ⟨2, _, by omega, by omega, wo_index (isFr_l hlv) (isPr_l c8) hT (zC_tr hE hw.1) hp (by omega) o1 k6 o4 q1.2 w1 w2 (zC_lm hE hw.1) (by omega) hl1 hS (by rw [zC_hl hE hw.1]; exact hh) (by decide) (by decide) hhb hlt kt ke, zW_T (zW_es hT (by show lv ≤ 6; omega) (zW_dn hwb)) (by omega), fun t rc R0 d Mr hK hrc ht8 hr => ?_⟩
    obtain ⟨b3, b4, d1, d4, s6, s5, s4, s7, y1, y2⟩ := rf t rc R0 Mr hK hr
    have z1 : zR ta t rc lim hl R0 lv (lv + 1) G (N + 1) N (S + q) 2 (boM Mc ta (73 + 2 * lv) N lv p 10 q) (rfM (pyM Mr S q N) (nI 2)) := zR_fl (by omega) (by omega) (zR_beg0 hT hlv hr)
    obtain ⟨Mr2, n1, n2, n3, n4, n5, n6⟩ := nt_all (L := L) (xs := xs) (w := (if 0 < 0 then (boM Mc ta (73 + 2 * lv) N lv p 10 q).2.1 (73 + 2 * lv + 1) (0 - 1) else 0)) (w' := (if 0 < 0 then (rfM (pyM Mr S q N) (nI 2)).2.1 299 (12 * lv + (0 - 1)) else 0)) hK hT hrc ht8 hlv (show lv ≤ 6 by omega) (show N < 100 by omega) (Nat.lt_of_lt_of_le fx hE.1.2.1) fm c8 (show p < 20 by omega) hk k6 hq (show 2 < 9 by omega) hbg (fun z => absurd z (by omega)) z1
    have th : (rfM (pyM Mr S q N) (nI 2)).1 298 lv = nI 0 := by simp (disch := first | assumption | omega) only [rfM, rI, rI1, rI0, rJ, rJ1, rJ0, rC, rC0, uI_2, uI_3, uJ_1, uJ_3, uC_1, uC_3, uT_1, uT_2, uT_3, rFI, rFI0, rFI1, rFI2, rFI3, rFJ, rFJ0, rFJ1, rFJ2, rFJ3, y1]
    exact ⟨Mr2, bg_ret_f (by omega) b3 c8 b4 (by omega) d1 d4 q1.2 s6 s5 hl1 hS s4 s7 (r_pop0 (by omega) y2 y1) (r_top (by omega) th (by omega)) (n1 _) (zS_fl n2), n2, fun z => absurd z (by omega)⟩
  · right
    have hlt : ip_pp 10 ≤ nI h := (nI_leI (a := 1) (b := h) (by omega) (by omega)).mpr (by omega)
    have ka := a_10 (d := d) (L := L) (xs := xs) (a := kOa K (gC G lv) p) (isFr_l hlv) (isPr_l c8) (k_end (d := d + 1) (z := (boM Mc ta (73 + 2 * lv) N lv p 10 q).1 (7 + 4 * gC G lv) 3) (isFr_l hlv) hhb h12 (by omega))
    rw [hsz] at ka
    have we : zW K ta lim C0 lv G (N + 1) (S + q) N (uI (uJ (uI (boM Mc ta (73 + 2 * lv) N lv p 10 q) (73 + 2 * lv) 1 (nI (h - 1))) (73 + 2 * lv) 7 ((boM Mc ta (73 + 2 * lv) N lv p 10 q).2.1 (73 + 2 * lv + 1) (h - 1))) (73 + 2 * lv) 6 (nI (kSz K (gC G lv)))) := zW_d hT hlv (zW_dJ hT hlv (zW_d hT hlv (zW_dn hwb) (Nat.le_refl lv)) (Nat.le_refl lv)) (Nat.le_refl lv)
    have u2 : (uI (uJ (uI (boM Mc ta (73 + 2 * lv) N lv p 10 q) (73 + 2 * lv) 1 (nI (h - 1))) (73 + 2 * lv) 7 ((boM Mc ta (73 + 2 * lv) N lv p 10 q).2.1 (73 + 2 * lv + 1) (h - 1))) (73 + 2 * lv) 6 (nI (kSz K (gC G lv)))).1 (73 + 2 * lv) 1 = nI (h - 1) := by simp (disch := first | assumption | omega) only [rI, rI1, rI0, rJ, rJ1, rJ0, rC, rC0, uI_2, uI_3, uJ_1, uJ_3, uC_1, uC_3, uT_1, uT_2, uT_3, rFI, rFI0, rFI1, rFI2, rFI3, rFJ, rFJ0, rFJ1, rFJ2, rFJ3]
    have kt := k_top (d := d + 3) (L := L) (xs := xs) (isFr_l hlv) u2 (by omega)
    have ke := q_endStep (d := d + 3) (L := L) (xs := xs) (x := 0) (w := (if 0 < h - 1 then (uI (uJ (uI (boM Mc ta (73 + 2 * lv) N lv p 10 q) (73 + 2 * lv) 1 (nI (h - 1))) (73 + 2 * lv) 7 ((boM Mc ta (73 + 2 * lv) N lv p 10 q).2.1 (73 + 2 * lv + 1) (h - 1))) (73 + 2 * lv) 6 (nI (kSz K (gC G lv)))).2.1 (73 + 2 * lv + 1) (h - 1 - 1) else 0)) hT we.2.2.1.1 (by omega)
    refine ⟨_, wo_act (isFr_l hlv) (isPr_l c8) hT (zC_tr hE hw.1) hp (by omega) o1 k6 o4 q1.2 w1 w2 (zC_lm hE hw.1) (by omega) hl1 hS (by rw [zC_hl hE hw.1]; exact hh) (by decide) (by decide) hhb hlt (by rw [o2]; exact ka) (zC_tr hE we.1) kt ke, ?_, zW_T (zW_es hT (by omega) we) (by omega), fun t rc R0 d Mr hK hrc ht8 hr => ?_⟩
    · simp (disch := first | assumption | omega) only [esM, rI, rI1, rI0, rJ, rJ1, rJ0, rC, rC0, uI_2, uI_3, uJ_1, uJ_3, uC_1, uC_3, uT_1, uT_2, uT_3, rFI, rFI0, rFI1, rFI2, rFI3, rFJ, rFJ0, rFJ1, rFJ2, rFJ3]
    · obtain ⟨b3, b4, d1, d4, s6, s5, s4, s7, y1, y2⟩ := rf t rc R0 Mr hK hr
      have z1 : zR ta t rc lim hl R0 lv (lv + 1) G (N + 1) N (S + q) 0 (uI (uJ (uI (boM Mc ta (73 + 2 * lv) N lv p 10 q) (73 + 2 * lv) 1 (nI (h - 1))) (73 + 2 * lv) 7 ((boM Mc ta (73 + 2 * lv) N lv p 10 q).2.1 (73 + 2 * lv + 1) (h - 1))) (73 + 2 * lv) 6 (nI (kSz K (gC G lv)))) (roM (pyM Mr S q N) lv h) := zR_dc hT hlv (by omega) (zR_dcJ hT hlv (by omega) (zR_dc hT hlv (by omega) (zR_d8 hT hlv (by omega) (zR_beg0 hT hlv hr) (Nat.le_refl lv)) (Nat.le_refl lv)) (Nat.le_refl lv)) (Nat.le_refl lv)
      have th : (roM (pyM Mr S q N) lv h).1 298 lv = nI (h - 1) := by simp (disch := first | assumption | omega) only [roM, rI, rI1, rI0, rJ, rJ1, rJ0, rC, rC0, uI_2, uI_3, uJ_1, uJ_3, uC_1, uC_3, uT_1, uT_2, uT_3, rFI, rFI0, rFI1, rFI2, rFI3, rFJ, rFJ0, rFJ1, rFJ2, rFJ3]
      obtain ⟨-, -, -, -, -, -, x7⟩ := hr.2.2.1 lv (by omega)
      have vt : (if 0 < h - 1 then (uI (uJ (uI (boM Mc ta (73 + 2 * lv) N lv p 10 q) (73 + 2 * lv) 1 (nI (h - 1))) (73 + 2 * lv) 7 ((boM Mc ta (73 + 2 * lv) N lv p 10 q).2.1 (73 + 2 * lv + 1) (h - 1))) (73 + 2 * lv) 6 (nI (kSz K (gC G lv)))).2.1 (73 + 2 * lv + 1) (h - 1 - 1) else 0) = (if 0 < h - 1 then (roM (pyM Mr S q N) lv h).2.1 299 (12 * lv + (h - 1 - 1)) else 0) := by
        by_cases hz : 0 < h - 1
        · rw [if_pos hz, if_pos hz]
          have x8 := x7 (h - 1 - 1) (by omega)
          have ne : 73 + 2 * lv + 1 ≠ 73 + 2 * lv := by omega
          simp (disch := first | assumption | omega) only [boM, bsM, roM, pyM, rI, rI1, rI0, rJ, rJ1, rJ0, rC, rC0, uI_2, uI_3, uJ_1, uJ_3, uC_1, uC_3, uT_1, uT_2, uT_3, rFI, rFI0, rFI1, rFI2, rFI3, rFJ, rFJ0, rFJ1, rFJ2, rFJ3]
          exact x8.symm
        · rw [if_neg hz, if_neg hz]
      obtain ⟨Mr2, n1, n2, n3, n4, n5, n6⟩ := nt_all (L := L) (xs := xs) hK hT hrc ht8 hlv (show lv ≤ 6 by omega) (show N < 100 by omega) (Nat.lt_of_lt_of_le fx hE.1.2.1) fm c8 (show p < 20 by omega) hk k6 hq (show 0 < 9 by omega) (zBg_f hbg (M' := uI (uJ (uI (boM Mc ta (73 + 2 * lv) N lv p 10 q) (73 + 2 * lv) 1 (nI (h - 1))) (73 + 2 * lv) 7 ((boM Mc ta (73 + 2 * lv) N lv p 10 q).2.1 (73 + 2 * lv + 1) (h - 1))) (73 + 2 * lv) 6 (nI (kSz K (gC G lv)))) (sR_I (sR_J (sR_I sR_r (by omega)) (by omega)) (by omega))) (fun _ => vt) z1
      refine ⟨Mr2, n2, fun M3 hlv3 => ?_⟩
      have ev : (esM (uI (uJ (uI (boM Mc ta (73 + 2 * lv) N lv p 10 q) (73 + 2 * lv) 1 (nI (h - 1))) (73 + 2 * lv) 7 ((boM Mc ta (73 + 2 * lv) N lv p 10 q).2.1 (73 + 2 * lv + 1) (h - 1))) (73 + 2 * lv) 6 (nI (kSz K (gC G lv)))) ta N 0 (if 0 < h - 1 then (uI (uJ (uI (boM Mc ta (73 + 2 * lv) N lv p 10 q) (73 + 2 * lv) 1 (nI (h - 1))) (73 + 2 * lv) 7 ((boM Mc ta (73 + 2 * lv) N lv p 10 q).2.1 (73 + 2 * lv + 1) (h - 1))) (73 + 2 * lv) 6 (nI (kSz K (gC G lv)))).2.1 (73 + 2 * lv + 1) (h - 1 - 1) else 0)).2.1 (73 + 2 * lv) 7 = (pyM Mr S q N).2.1 299 (12 * lv + (h - 1)) := by
        have x8 := x7 (h - 1) (by omega)
        unfold esM
        rw [rJ (by omega)]
        show (uJ (uI (boM Mc ta (73 + 2 * lv) N lv p 10 q) (73 + 2 * lv) 1 (nI (h - 1))) (73 + 2 * lv) 7 ((boM Mc ta (73 + 2 * lv) N lv p 10 q).2.1 (73 + 2 * lv + 1) (h - 1))).2.1 (73 + 2 * lv) 7 = _
        rw [rJ0]
        exact x8.symm
      rw [ev] at hlv3
      exact bg_ret_t (by omega) b3 c8 b4 (by omega) d1 d4 q1.2 s6 s5 hl1 hS s4 s7 (r_pop (by omega) y2 y1 (by omega) h12) (r_top (by omega) th (by omega)) (n1 _) (zS_fl n2) (hlv3 _)
end SP
