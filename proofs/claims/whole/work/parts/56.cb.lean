/-! the steps that enter -/
section CB
variable {d L : Nat} {xs : Nat → Int32} {K : zK} {ta t rc lim : Nat} {hl : Int32} {C0 R0 : ip_Mm} {lv : Nat} {G : zG} {N m S T k h p q x y c b : Nat} {Mc : ip_Mm} {yy : Int32}
theorem dp_1 {M : ip_Mm} {f g e : Nat} (h : e ≠ ta) : (dpM M ta f g).1 e = M.1 e := by unfold dpM; rw [rI h]
theorem st_en (hE : zE K ta lim hl C0) (hlv : lv < 5) (hw : zW K ta lim C0 (lv + 1) G N S N Mc) (hp : Mc.1 (73 + 2 * lv) 6 = nI p) (hps : p < kSz K (gC G lv)) (hk : kKd K (gC G lv) p = k) (hq : kPc K k = q) (hS : S + q ≤ lim) (hh : ¬ nI N = hl) (hb : (k = 6 ∧ b = 0 ∧ yy = 0) ∨ (k = 7 ∧ b = 1 ∧ yy = 1)) (eh : Mc.1 (73 + 2 * lv) 1 = nI h) (h12 : h ≤ 12) (h0 : 0 < h) (hm : zMay K (kOa K (gC G lv) p) (kOb K (gC G lv) p) x y c) : ∃ Mi, zW K ta lim C0 (lv + 2) (fun l => if l = lv + 1 then (x, y, c, b) else G l) (N + 1) (S + q) (N + 1) Mi ∧ (∀ (r s : Int32) (M5 M' : ip_Mm), lpC (d + 2) L xs (lv + 1) (some (.int (nI c))) c 0 none Mi = some (some (.int r), ip_hm L xs M5) → (if r = 0 then ip_call (d + 2) mFr_push [.ref (73 + 2 * lv), .long (M5.2.1 (73 + 2 * (lv + 1)) 7)] (ip_hm L xs M5) = some (some (.int s), ip_hm L xs M') else if yy = 0 ∨ r = 6 ∨ r = 8 then s = r ∧ M' = M5 else ip_call (d + 2) mFr_push [.ref (73 + 2 * lv), .long (-r).toInt64] (ip_hm L xs (unM M5 lv ta)) = some (some (.int s), ip_hm L xs M')) → M5.2.2 = ta → ip_call (d + 4) mWa_walkOp [.ref 41, .ref (73 + 2 * lv), .ref (7 + 4 * gC G lv), .int (nI lv)] (ip_hm L xs Mc) = some (some (.int s), ip_hm L xs M')) ∧ ∀ t rc R0 d Mr, zKR K R0 → rc ≤ 1 → (rc = 1 → t < 8) → zR ta t rc lim hl R0 (lv + 1) (lv + 1) G N N S 0 Mc Mr → ∃ Mr5, ip_call (d + 4) mR_begins [.ref 256, .int (nI lv)] (ip_hm L xs Mr) = some (none, ip_hm L xs Mr5) ∧ zR ta t rc lim hl R0 (lv + 2) (lv + 2) (fun l => if l = lv + 1 then (x, y, c, b) else G l) (N + 1) (N + 1) (S + q) 0 Mi Mr5 := by
  have hT := hE.2.1
  have ht := tr_om hT
  have hl1 := hE.2.2.1
  have n6 := hE.1.2.1
  have hlv6 : lv < 6 := by omega
  obtain ⟨fx, fm, fc, fy, ex, em, ef, -, -, er⟩ := hw.2.1 lv (by omega)
  have hnp := hE.1.1
  have c8 : gC G lv < 8 := by omega
  have s20 := hE.1.2.2.1 (gC G lv)
  have hk67 : k = 6 ∨ k = 7 := by omega
  have hb1 : b ≤ 1 := by omega
  have k6 : k < 16 := by omega
  have q1 := hE.1.2.2.2.2.1 k
  rw [hq] at q1
  obtain ⟨o1, o2, o3⟩ := zC_op hE hw.1 c8 (show p < 20 by omega)
  rw [hk] at o1
  have o4 := zC_pc hE hw.1 k6
  rw [hq] at o4
  obtain ⟨w1, w2, w3, w4, w5⟩ := hw.2.2.1
  have hwb := zW_begin (k := k) hT hlv6 hw hps q1.1 hS
  have hhb := bo_h (N := N) (p := p) (k := k) (q := q) hT hlv6 eh
  have hbg := zBg_bo (N := N) (p := p) (k := k) (q := q) hT hlv6 ex em
  have o3b := (zC_op hE hwb.1 c8 (show p < 20 by omega)).2.2
  have hAb := zC_na hE hwb.1
  obtain ⟨m1, m2, m3, m4, m5, m6⟩ := hm
  have hwp : zW K ta lim C0 (lv + 1) G (N + 1) (S + q) N (poM (boM Mc ta (73 + 2 * lv) N lv p k q) (73 + 2 * lv) h) := zW_h hT hlv6 hwb (by omega)
  have hbp : zBg ta N lv (gX G lv) (gM G lv) p k q (poM (boM Mc ta (73 + 2 * lv) N lv p k q) (73 + 2 * lv) h) := zBg_f hbg (by unfold poM; exact sR_I sR_r (by omega))
  have kp := q_pop (d := d + 2) (L := L) (xs := xs) (isFr_l hlv6) hhb h12 h0
  have kpo := k_programOf_t (d := d + 1) (L := L) (xs := xs) hAb n6 m1 m2
  rw [zC_mb hE hwb.1 m1 m2, m6] at kpo
  have kl := k_lookWithin (d := d + 1) (L := L) (xs := xs) hlv6 hhb h0 h12 kpo
  have nm : ¬ nI c = -1 := by
    have : c < 8 := by omega
    intro z
    have : (nI c).toInt = (-1 : Int32).toInt := by rw [z]
    rw [nI_toInt (by omega)] at this
    have e2 : (-1 : Int32).toInt = -1 := by decide
    omega
  rw [if_neg nm, if_neg (show ¬ lv = 5 by omega), ← m4, ← m5] at kl
  have ke := q_endStep (d := d + 2) (L := L) (xs := xs) (x := 0) (w := (boM Mc ta (73 + 2 * lv) N lv p k q).2.1 (73 + 2 * lv + 1) (h - 1)) hT hwp.2.2.1.1 (show N < 100 by omega)
  have hw2 : zW K ta lim C0 (lv + 1) G (N + 1) (S + q) (N + 1) (esM (poM (boM Mc ta (73 + 2 * lv) N lv p k q) (73 + 2 * lv) h) ta N 0 ((boM Mc ta (73 + 2 * lv) N lv p k q).2.1 (73 + 2 * lv + 1) (h - 1))) := zW_T (zW_es hT (by omega) hwp) (by omega)
  generalize hw0 : (boM Mc ta (73 + 2 * lv) N lv p k q).2.1 (73 + 2 * lv + 1) (h - 1) = w0 at *
  generalize hM2 : esM (poM (boM Mc ta (73 + 2 * lv) N lv p k q) (73 + 2 * lv) h) ta N 0 w0 = M2 at *
  obtain ⟨g, g6, g9⟩ := hw2.2.2.1.2.2.2.2
  have e2 := (hw2.2.1 lv (by omega)).2.2.2.2.1
  have hG : ∀ l, l < lv + 1 → (fun l => if l = lv + 1 then (x, y, c, b) else G l) l = G l := fun l hl => if_neg (by omega)
  have hG1 : (fun l => if l = lv + 1 then (x, y, c, b) else G l) (lv + 1) = (x, y, c, b) := if_pos rfl
  have wi5 := zW_enter (f := lv + 1) (w := w0) (v := nI (gX G lv)) hT (by omega) hw2 g9 g6 m1 m2 m3 hb1 hG1 (by rw [if_neg (by omega)]; rfl) hG
  refine ⟨_, wi5, fun r s M5 M' hlp h5 g5 => ?_, fun t rc R0 d Mr hK hrc ht8 hr => ?_⟩
  · have eM4 : ecM M2 ta (lv + 1) x y w0 (nI (gX G lv)) b g = dpM (if yy = 1 then svM (opM M2 (73 + 2 * (lv + 1)) (kOa K (gC G lv) p).toInt32 (kOb K (gC G lv) p) w0 (M2.1 (73 + 2 * lv) 2)) lv ta else opM M2 (73 + 2 * (lv + 1)) (kOa K (gC G lv) p).toInt32 (kOb K (gC G lv) p) w0 (M2.1 (73 + 2 * lv) 2)) ta (lv + 1) g := by
      rw [m4, m5, lN_i32, e2]
      unfold ecM
      rcases hb with ⟨-, rfl, rfl⟩ | ⟨-, rfl, rfl⟩
      · rw [if_neg (by decide), if_neg (by decide)]
      · rw [if_pos rfl, if_pos rfl]
        rfl
    rw [eM4] at hlp wi5
    generalize hM4 : (if yy = 1 then svM (opM M2 (73 + 2 * (lv + 1)) (kOa K (gC G lv) p).toInt32 (kOb K (gC G lv) p) w0 (M2.1 (73 + 2 * lv) 2)) lv ta else opM M2 (73 + 2 * (lv + 1)) (kOa K (gC G lv) p).toInt32 (kOb K (gC G lv) p) w0 (M2.1 (73 + 2 * lv) 2)) = M4 at *
    have i1 := zC_na hE wi5.1
    have i2 := zC_np hE wi5.1
    have i3 := zC_mb hE wi5.1 m1 m2
    obtain ⟨-, -, -, -, j1, j2, -⟩ := wi5.2.1 (lv + 1) (by omega)
    have j1' : (dpM M4 ta (lv + 1) g).1 (73 + 2 * (lv + 1)) 2 = nI x := by rw [j1]; unfold gX; rw [hG1]
    have j2' : (dpM M4 ta (lv + 1) g).1 (73 + 2 * (lv + 1)) 3 = nI y := by rw [j2]; unfold gM; rw [hG1]
    rw [dp_1 (by omega)] at i1 i2 i3 j1' j2'
    have g4 : M4.1 ta 9 = nI g := by
      rw [← hM4]
      split
      · simp (disch := first | assumption | omega) only [svM, opM, rI, rI1, rI0, rJ, rJ1, rJ0, rC, rC0, uI_2, uI_3, uJ_1, uJ_3, uC_1, uC_3, uT_1, uT_2, uT_3, rFI, rFI0, rFI1, rFI2, rFI3, rFJ, rFJ0, rFJ1, rFJ2, rFJ3, g9]
      · simp (disch := first | assumption | omega) only [opM, rI, rI1, rI0, rJ, rJ1, rJ0, rC, rC0, uI_2, uI_3, uJ_1, uJ_3, uC_1, uC_3, uT_1, uT_2, uT_3, rFI, rFI0, rFI1, rFI2, rFI3, rFJ, rFJ0, rFJ1, rFJ2, rFJ3, g9]
    have t4 : M4.2.2 = ta := (show (dpM M4 ta (lv + 1) g).2.2 = ta from zC_tr hE wi5.1)
    have kf := wf_in (d := d) (L := L) (xs := xs) (show lv + 1 < 6 by omega) hT t4 i1 n6 i2 hnp j1' m1 j2' m2 (i3.trans m6) m3 g4 g6
    rw [hlp] at kf
    have kw := ww_in (d := d + 1) (a := kOa K (gC G lv) p) (b := kOb K (gC G lv) p) (y := yy) hlv hT kl kp (zC_tr hE hwp.1) ke (zC_tr hE hw2.1) (by rcases hb with ⟨-, -, rfl⟩ | ⟨-, -, rfl⟩; exact Or.inl rfl; exact Or.inr rfl) rfl hM4.symm kf h5 g5
    have ey : (if k = 7 then (1 : Int32) else 0) = yy := by
      rcases hb with ⟨rfl, -, rfl⟩ | ⟨rfl, -, rfl⟩
      · rfl
      · rfl
    exact wo_call (isFr_l hlv6) (isPr_l c8) hT (zC_tr hE hw.1) hp (by omega) o1 hk67 o4 q1.2 w1 w2 (zC_lm hE hw.1) (by omega) hl1 hS (by rw [zC_hl hE hw.1]; exact hh) o3b (by rw [o2, ey]; exact kw)
  · obtain ⟨b1, b2, b3, b4, -, b6, -⟩ := hr.2.2.1 lv (by omega)
    obtain ⟨d1, d2, d3⟩ := zD_op hK hr.1 c8 (show p < 20 by omega)
    rw [hk] at d1
    have d4 := zD_pc hK hr.1 k6
    rw [hq] at d4
    obtain ⟨-, -, s3, -, s5, s6, s7, s8, -, -, gg, s11, s12⟩ := id hr.2.2.2.1
    have hz := zR_begin (p := p) (k := k) (q := q) hT hlv6 hr
    obtain ⟨-, -, -, -, -, x6, x7⟩ := hz.2.2.1 lv (by omega)
    have pop := r_pop (d := d + 3) (L := L) (xs := xs) (show lv < 7 by omega) (zS_fl hz) (x6.trans hhb) h0 h12
    rw [x7 (h - 1) (by omega), hw0] at pop
    have z0 : zR ta t rc lim hl R0 (lv + 1) (lv + 1) G (N + 1) N (S + q) 0 (poM (boM Mc ta (73 + 2 * lv) N lv p k q) (73 + 2 * lv) h) (roM (plM (pyM Mr S q N) lv p) lv h) := zR_h hT hlv6 (by omega) hz
    obtain ⟨u1, u2, u3⟩ := zD_op hK z0.1 c8 (show p < 20 by omega)
    have dd := z0.2.2.2.1.2.2.2.2.2.2.2.2.1
    have kis := r_isWalked_t (d := d + 1) (L := L) (xs := xs) (l := lv) (zD_na hK z0.1) n6 (zS_fl z0) (show 20 * gC G lv + p < 160 by omega) m1 m2 (by rw [u2, m4]) (by rw [u3, m5]) (by rw [zD_mb hK z0.1 m1 m2, m6]) (by omega) dd (by omega)
    obtain ⟨Mr2, n1, n2, n3, n4, n5, n7⟩ := nt_all (L := L) (xs := xs) (w := w0) (w' := w0) hK hT hrc ht8 hlv6 (show lv + 1 ≤ 6 by omega) (show N < 100 by omega) (Nat.lt_of_lt_of_le fx hE.1.2.1) fm c8 (show p < 20 by omega) hk k6 hq (show 0 < 9 by omega) hbp (fun z => rfl) z0
    have n2' : zR ta t rc lim hl R0 (lv + 1) (lv + 1) G (N + 1) (N + 1) (S + q) 0 M2 Mr2 := by rw [← hM2]; exact n2
    obtain ⟨v1, v2, v3⟩ := zD_op hK n2'.1 c8 (show p < 20 by omega)
    have g48 : Mr2.1 256 48 = nI gg := by
      rw [n7]
      simp (disch := first | assumption | omega) only [roM, plM, pyM, rI, rI1, rI0, rJ, rJ1, rJ0, rC, rC0, uI_2, uI_3, uJ_1, uJ_3, uC_1, uC_3, uT_1, uT_2, uT_3, rFI, rFI0, rFI1, rFI2, rFI3, rFJ, rFJ0, rFJ1, rFJ2, rFJ3, s12]
    have g49 : Mr2.1 256 49 = nI g := n2'.2.2.2.1.2.2.2.2.2.2.2.2.2.1.trans g9
    have g50 := n2'.2.2.2.1.2.2.2.2.2.2.2.2.1
    have emb : Mr2.1 261 (4 * x + y) = nI c := by rw [zD_mb hK n2'.1 m1 m2, m6]
    have ey : (if k = 7 then (1 : Int32) else 0) = nI b := by
      rcases hb with ⟨rfl, rfl, -⟩ | ⟨rfl, rfl, -⟩
      · rfl
      · rfl
    have hy01 : nI b = 0 ∨ nI b = 1 := by
      rcases hb with ⟨-, rfl, -⟩ | ⟨-, rfl, -⟩
      · exact Or.inl rfl
      · exact Or.inr rfl
    by_cases hr1 : rc = 1
    · have ken := r_enters_t (d := d + 2) (L := L) (xs := xs) (w := w0) (y := nI b) (z := if lv + 1 = 0 then -1 else Mr2.1 296 (lv + 1 - 1)) (by rw [n2'.2.2.2.1.1, hr1]; rfl) (n2'.2.2.2.1.2.1 hr1) (ht8 hr1) g50 (by omega) (show x < 6 by omega) m2 g48 (by omega) g49 g6 hy01 rfl
      rw [emb] at ken
      refine ⟨_, bg_call_t (by omega) b3 c8 (b4.trans hp) (by omega) d1 hk67 d4 q1.2 s6 s5 hl1 hS (by rw [s7, s3]; exact hh) s7 pop kis (n1 _) (v2.trans m4) (v3.trans m5) (by rw [lN_i32, ey]; exact ken), ?_⟩
      exact zR_enter_t hT (by omega) (by omega) hr1 (ht8 hr1) g9 g48 s11 (by omega) (by omega) hb1 (n3 hr1) rfl hG1 hG n2'
    · have ken := r_enters_n (d := d + 2) (L := L) (xs := xs) (w := w0) (y := nI b) (by rw [n2'.2.2.2.1.1, show rc = 0 by omega]; rfl) g50 (by omega) (show x < 6 by omega) m2 g48 g49 g6 hy01
      rw [emb] at ken
      refine ⟨_, bg_call_t (by omega) b3 c8 (b4.trans hp) (by omega) d1 hk67 d4 q1.2 s6 s5 hl1 hS (by rw [s7, s3]; exact hh) s7 pop kis (n1 _) (v2.trans m4) (v3.trans m5) (by rw [lN_i32, ey]; exact ken), ?_⟩
      exact zR_enter_n hT (by omega) (by omega) hr1 g9 g48 s11 hb1 hG1 hG n2'
end CB
