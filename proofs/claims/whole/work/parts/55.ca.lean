/-! the steps that call -/
section CA
variable {d L : Nat} {xs : Nat → Int32} {K : zK} {ta t rc lim : Nat} {hl : Int32} {C0 R0 : ip_Mm} {lv : Nat} {G : zG} {N m S T k h p q : Nat} {Mc : ip_Mm}
/-- a member that may be walked -/
def zMay (K : zK) (a : Int64) (o : Int32) (x y c : Nat) : Prop := x < kNa K ∧ y < 4 ∧ c < kNp K ∧ a = lN x ∧ o = nI y ∧ kMb K x y = nI c
theorem may_not {a : Int64} {o : Int32} (hK : zKO K) (h : ¬ ∃ x y c, zMay K a o x y c) : ¬ wj a (kNa K) ∨ ¬ wi o 4 ∨ ∃ i j, i < kNa K ∧ j < 4 ∧ a = lN i ∧ o = nI j ∧ kMb K i j = -1 := by
  by_cases h1 : wj a (kNa K)
  · by_cases h2 : wi o 4
    · obtain ⟨i, hi, e1⟩ := h1
      obtain ⟨j, hj, e2⟩ := h2
      rcases hK.2.2.2.2.2 i j hi hj with e | ⟨c, hc, e⟩
      · exact Or.inr (Or.inr ⟨i, j, hi, hj, e1, e2, e⟩)
      · exact absurd ⟨i, j, c, hi, hj, hc, e1, e2, e⟩ h
    · exact Or.inr (Or.inl h2)
  · exact Or.inl h1
theorem st_cb (hE : zE K ta lim hl C0) (hlv : lv < 6) (hw : zW K ta lim C0 (lv + 1) G N S N Mc) (hp : Mc.1 (73 + 2 * lv) 6 = nI p) (hps : p < kSz K (gC G lv)) (hk : kKd K (gC G lv) p = k) (hq : kPc K k = q) (hS : S + q ≤ lim) (hh : ¬ nI N = hl) (hk67 : k = 6 ∨ k = 7) (eh : Mc.1 (73 + 2 * lv) 1 = nI h) (h12 : h ≤ 12) (hbad : ¬ (0 < h ∧ lv < 5 ∧ ∃ x y c, zMay K (kOa K (gC G lv) p) (kOb K (gC G lv) p) x y c)) : ∃ r Mc2, r ≠ 0 ∧ zSR d L xs K ta lim hl C0 lv G N S q Mc r Mc2 := by
  have hT := hE.2.1
  have ht := tr_om hT
  have hl1 := hE.2.2.1
  have n6 := hE.1.2.1
  obtain ⟨fx, fm, fc, fy, ex, em, ef, -, -, er⟩ := hw.2.1 lv (by omega)
  have hnp := hE.1.1
  have c8 : gC G lv < 8 := by omega
  have s20 := hE.1.2.2.1 (gC G lv)
  have k6 : k < 16 := by omega
  have q1 := hE.1.2.2.2.2.1 k
  rw [hq] at q1
  obtain ⟨o1, o2, o3⟩ := zC_op hE hw.1 c8 (show p < 20 by omega)
  rw [hk] at o1
  have o4 := zC_pc hE hw.1 k6
  rw [hq] at o4
  obtain ⟨w1, w2, w3, w4, w5⟩ := hw.2.2.1
  have hwb := zW_begin (k := k) hT hlv hw hps q1.1 hS
  have hhb := bo_h (N := N) (p := p) (k := k) (q := q) hT hlv eh
  have hbg := zBg_bo (N := N) (p := p) (k := k) (q := q) hT hlv ex em
  have o3b := (zC_op hE hwb.1 c8 (show p < 20 by omega)).2.2
  have hAb := zC_na hE hwb.1
  have rf : ∀ t rc R0 Mr, zKR K R0 → zR ta t rc lim hl R0 (lv + 1) (lv + 1) G N N S 0 Mc Mr → Mr.1 293 lv = nI (gC G lv) ∧ Mr.1 294 lv = nI p ∧ Mr.1 258 (20 * gC G lv + p) = nI k ∧ Mr.1 262 k = nI q ∧ Mr.1 256 43 = nI S ∧ Mr.1 256 42 = nI lim ∧ ¬ Mr.1 256 44 = Mr.1 256 40 ∧ Mr.1 256 44 = nI N := by
    intro t rc R0 Mr hK hr
    obtain ⟨b1, b2, b3, b4, -, b6, -⟩ := hr.2.2.1 lv (by omega)
    obtain ⟨d1, d2, d3⟩ := zD_op hK hr.1 c8 (show p < 20 by omega)
    rw [hk] at d1
    have d4 := zD_pc hK hr.1 k6
    rw [hq] at d4
    obtain ⟨-, -, s3, -, s5, s6, s7, s8, -⟩ := hr.2.2.2.1
    exact ⟨b3, b4.trans hp, d1, d4, s6, s5, by rw [s7, s3]; exact hh, s7⟩
  by_cases h0 : h = 0
  · subst h0
    have kp := k_pop (d := d + 2) (L := L) (xs := xs) (isFr_l hlv) hhb h12
    rw [if_neg (by omega)] at kp
    have ke := q_endStep (d := d + 2) (L := L) (xs := xs) (x := 2) (w := 0) hT hwb.2.2.1.1 (by omega)
    have kw := ww_own (y := if k = 7 then 1 else 0) (a := kOa K (gC G lv) p) (b := kOb K (gC G lv) p) hlv hT (k_lookWithin_2 hlv hhb) (by decide) kp (zC_tr hE hwb.1) ke
    refine ⟨2, _, by omega, by omega, wo_call (isFr_l hlv) (isPr_l c8) hT (zC_tr hE hw.1) hp (by omega) o1 hk67 o4 q1.2 w1 w2 (zC_lm hE hw.1) (by omega) hl1 hS (by rw [zC_hl hE hw.1]; exact hh) o3b (by rw [o2]; exact kw), zW_T (zW_es hT (by show lv ≤ 6; omega) (zW_dn hwb)) (by omega), fun t rc R0 d Mr hK hrc ht8 hr => ?_⟩
    obtain ⟨b3, b4, d1, d4, s6, s5, s4, s7⟩ := rf t rc R0 Mr hK hr
    have hz := zR_begin (p := p) (k := k) (q := q) hT hlv hr
    have z1 := zR_bad (r := 2) hlv (show lv + 1 ≤ 6 by omega) hz
    have y1 : (plM (pyM Mr S q N) lv p).1 298 lv = 0 := ((hz.2.2.1 lv (by omega)).2.2.2.2.2.1).trans hhb
    obtain ⟨Mr2, n1, n2, -⟩ := nt_all (L := L) (xs := xs) (w := 0) (w' := 0) hK hT hrc ht8 hlv (show lv ≤ 6 by omega) (show N < 100 by omega) (Nat.lt_of_lt_of_le fx hE.1.2.1) fm c8 (show p < 20 by omega) hk k6 hq (show 2 < 9 by omega) hbg (fun z => absurd z (by omega)) z1
    exact ⟨Mr2, bg_call_f (m := 0) (by omega) b3 c8 b4 (by omega) d1 hk67 d4 q1.2 s6 s5 hl1 hS s4 s7 (r_pop0 (by omega) (zS_fl hz) y1) (r_isWalked_f (zS_fl z1)) (n1 _), n2, fun z => absurd z (by omega)⟩
  · have hwp : zW K ta lim C0 lv G (N + 1) (S + q) N (poM (boM Mc ta (73 + 2 * lv) N lv p k q) (73 + 2 * lv) h) := zW_d hT hlv (zW_dn hwb) (Nat.le_refl lv)
    have hbp : zBg ta N lv (gX G lv) (gM G lv) p k q (poM (boM Mc ta (73 + 2 * lv) N lv p k q) (73 + 2 * lv) h) := zBg_f hbg (by unfold poM; exact sR_I sR_r (by omega))
    have kp := q_pop (d := d + 2) (L := L) (xs := xs) (isFr_l hlv) hhb h12 (by omega)
    have zp : ∀ t rc R0 Mr, zR ta t rc lim hl R0 (lv + 1) (lv + 1) G N N S 0 Mc Mr → zR ta t rc lim hl R0 lv (lv + 1) G (N + 1) N (S + q) 0 (poM (boM Mc ta (73 + 2 * lv) N lv p k q) (73 + 2 * lv) h) (roM (plM (pyM Mr S q N) lv p) lv h) := fun t rc R0 Mr hr => zR_dn (zR_h hT hlv (by omega) (zR_begin hT hlv hr))
    have pop : ∀ t rc R0 d Mr, zR ta t rc lim hl R0 (lv + 1) (lv + 1) G N N S 0 Mc Mr → ip_call (d + 3) mR_pop [.ref 256, .int (nI lv)] (ip_hm L xs (plM (pyM Mr S q N) lv p)) = some (some (.long ((boM Mc ta (73 + 2 * lv) N lv p k q).2.1 (73 + 2 * lv + 1) (h - 1))), ip_hm L xs (roM (plM (pyM Mr S q N) lv p) lv h)) := fun t rc R0 d Mr hr => by
      have hz := zR_begin (p := p) (k := k) (q := q) hT hlv hr
      obtain ⟨-, -, -, -, -, x6, x7⟩ := hz.2.2.1 lv (by omega)
      rw [← x7 (h - 1) (by omega)]
      exact r_pop (by omega) (zS_fl hz) (x6.trans hhb) (by omega) h12
    by_cases hm : ∃ x y c, zMay K (kOa K (gC G lv) p) (kOb K (gC G lv) p) x y c
    · have l5 : lv = 5 := by
        by_cases h5 : lv < 5
        · exact absurd ⟨by omega, h5, hm⟩ hbad
        · omega
      obtain ⟨x, y, c, m1, m2, m3, m4, m5, m6⟩ := hm
      have kpo := k_programOf_t (d := d + 1) (L := L) (xs := xs) hAb n6 m1 m2
      rw [zC_mb hE hwb.1 m1 m2, m6] at kpo
      have kl := k_lookWithin (d := d + 1) (L := L) (xs := xs) hlv hhb (by omega) h12 kpo
      have nm : ¬ nI c = -1 := by
        have : c < 8 := by omega
        intro z
        have : (nI c).toInt = (-1 : Int32).toInt := by rw [z]
        rw [nI_toInt (by omega)] at this
        have e2 : (-1 : Int32).toInt = -1 := by decide
        omega
      rw [if_neg nm, if_pos l5, ← m4, ← m5] at kl
      have ke := q_endStep (d := d + 2) (L := L) (xs := xs) (x := 7) (w := (boM Mc ta (73 + 2 * lv) N lv p k q).2.1 (73 + 2 * lv + 1) (h - 1)) hT hwp.2.2.1.1 (by omega)
      have kw := ww_own (y := if k = 7 then 1 else 0) hlv hT kl (by decide) kp (zC_tr hE hwp.1) ke
      refine ⟨7, _, by omega, by omega, wo_call (isFr_l hlv) (isPr_l c8) hT (zC_tr hE hw.1) hp (by omega) o1 hk67 o4 q1.2 w1 w2 (zC_lm hE hw.1) (by omega) hl1 hS (by rw [zC_hl hE hw.1]; exact hh) o3b (by rw [o2]; exact kw), zW_T (zW_es hT (by show lv ≤ 6; omega) hwp) (by omega), fun t rc R0 d Mr hK hrc ht8 hr => ?_⟩
      obtain ⟨b3, b4, d1, d4, s6, s5, s4, s7⟩ := rf t rc R0 Mr hK hr
      have z0 := zp t rc R0 Mr hr
      have z1 := zR_fl (r := 7) (show lv ≤ 6 by omega) (show lv + 1 ≤ 6 by omega) z0
      obtain ⟨u1, u2, u3⟩ := zD_op hK z0.1 c8 (show p < 20 by omega)
      have dd := z0.2.2.2.1.2.2.2.2.2.2.2.2.1
      rw [show lv + 1 = 6 by omega] at dd
      obtain ⟨Mr2, n1, n2, -⟩ := nt_all (L := L) (xs := xs) (w := (boM Mc ta (73 + 2 * lv) N lv p k q).2.1 (73 + 2 * lv + 1) (h - 1)) (w' := (boM Mc ta (73 + 2 * lv) N lv p k q).2.1 (73 + 2 * lv + 1) (h - 1)) hK hT hrc ht8 hlv (show lv ≤ 6 by omega) (show N < 100 by omega) (Nat.lt_of_lt_of_le fx hE.1.2.1) fm c8 (show p < 20 by omega) hk k6 hq (show 7 < 9 by omega) hbp (fun z => rfl) z1
      exact ⟨Mr2, bg_call_f (m := 0) (by omega) b3 c8 b4 (by omega) d1 hk67 d4 q1.2 s6 s5 hl1 hS s4 s7 (pop t rc R0 d Mr hr) (r_isWalked_7 (zD_na hK z0.1) n6 (zS_fl z0) (by omega) m1 m2 (by rw [u2, m4]) (by rw [u3, m5]) (by rw [zD_mb hK z0.1 m1 m2, m6]) (by omega) dd) (n1 _), n2, fun z => absurd z (by omega)⟩
    · have mn := may_not hE.1 hm
      have kpo : ip_call (d + 1) mCo_programOf [.ref 3, .long (kOa K (gC G lv) p), .int (kOb K (gC G lv) p)] (ip_hm L xs (boM Mc ta (73 + 2 * lv) N lv p k q)) = some (some (.int (-1)), ip_hm L xs (boM Mc ta (73 + 2 * lv) N lv p k q)) := by
        by_cases hwi : wj (kOa K (gC G lv) p) (kNa K) ∧ wi (kOb K (gC G lv) p) 4
        · rcases mn with e | e | ⟨i, j, m1, m2, m4, m5, m6⟩
          · exact absurd hwi.1 e
          · exact absurd hwi.2 e
          · rw [m4, m5, k_programOf_t hAb n6 m1 m2, zC_mb hE hwb.1 m1 m2, m6]
        · exact k_programOf_f hAb n6 hwi
      have kl := k_lookWithin (d := d + 1) (L := L) (xs := xs) hlv hhb (by omega) h12 kpo
      rw [if_pos rfl] at kl
      have ke := q_endStep (d := d + 2) (L := L) (xs := xs) (x := 1) (w := (boM Mc ta (73 + 2 * lv) N lv p k q).2.1 (73 + 2 * lv + 1) (h - 1)) hT hwp.2.2.1.1 (by omega)
      have kw := ww_own (y := if k = 7 then 1 else 0) hlv hT kl (by decide) kp (zC_tr hE hwp.1) ke
      refine ⟨1, _, by omega, by omega, wo_call (isFr_l hlv) (isPr_l c8) hT (zC_tr hE hw.1) hp (by omega) o1 hk67 o4 q1.2 w1 w2 (zC_lm hE hw.1) (by omega) hl1 hS (by rw [zC_hl hE hw.1]; exact hh) o3b (by rw [o2]; exact kw), zW_T (zW_es hT (by show lv ≤ 6; omega) hwp) (by omega), fun t rc R0 d Mr hK hrc ht8 hr => ?_⟩
      obtain ⟨b3, b4, d1, d4, s6, s5, s4, s7⟩ := rf t rc R0 Mr hK hr
      have z0 := zp t rc R0 Mr hr
      have z1 := zR_fl (r := 1) (show lv ≤ 6 by omega) (show lv + 1 ≤ 6 by omega) z0
      obtain ⟨u1, u2, u3⟩ := zD_op hK z0.1 c8 (show p < 20 by omega)
      have mn' : ¬ wj (kOa K (gC G lv) p) (kNa K) ∨ ¬ wi (kOb K (gC G lv) p) 4 ∨ ∃ i j, i < kNa K ∧ j < 4 ∧ kOa K (gC G lv) p = lN i ∧ kOb K (gC G lv) p = nI j ∧ (roM (plM (pyM Mr S q N) lv p) lv h).1 261 (4 * i + j) = -1 := by
        rcases mn with e | e | ⟨i, j, m1, m2, m4, m5, m6⟩
        · exact Or.inl e
        · exact Or.inr (Or.inl e)
        · exact Or.inr (Or.inr ⟨i, j, m1, m2, m4, m5, by rw [zD_mb hK z0.1 m1 m2, m6]⟩)
      obtain ⟨Mr2, n1, n2, -⟩ := nt_all (L := L) (xs := xs) (w := (boM Mc ta (73 + 2 * lv) N lv p k q).2.1 (73 + 2 * lv + 1) (h - 1)) (w' := (boM Mc ta (73 + 2 * lv) N lv p k q).2.1 (73 + 2 * lv + 1) (h - 1)) hK hT hrc ht8 hlv (show lv ≤ 6 by omega) (show N < 100 by omega) (Nat.lt_of_lt_of_le fx hE.1.2.1) fm c8 (show p < 20 by omega) hk k6 hq (show 1 < 9 by omega) hbp (fun z => rfl) z1
      exact ⟨Mr2, bg_call_f (m := 0) (by omega) b3 c8 b4 (by omega) d1 hk67 d4 q1.2 s6 s5 hl1 hS s4 s7 (pop t rc R0 d Mr hr) (r_isWalked_1 (zD_na hK z0.1) n6 (zS_fl z0) (by omega) u2 u3 mn') (n1 _), n2, fun z => absurd z (by omega)⟩
end CA
