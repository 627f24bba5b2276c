/-! a walk, class and reference -/
section TI
variable {L : Nat} {xs : Nat → Int32} {K : zK} {ta t rc lim : Nat} {hl : Int32} {C0 R0 : ip_Mm} {G : zG} {p0 p1 p3 p4 : Int32} {p2 : Int64}
def zPost (e L : Nat) (xs : Nat → Int32) (p0 p1 : Int32) (p2 : Int64) (p3 p4 : Int32) (ta t rc lim : Nat) (hl : Int32) (R0 : ip_Mm) (lv : Nat) (G : zG) (N S r : Nat) (Mc : ip_Mm) (z : Option Value) (Mr : ip_Mm) : Prop :=
  (r = 0 → ∃ Mr1, zR ta t rc lim hl R0 lv (lv + 1) G N N S 0 Mc Mr1 ∧ ∀ Mr2, (∀ d', ip_call (d' + 1) mR_leaves [.ref 256, .long (Mc.2.1 (73 + 2 * lv) 7)] (ip_hm L xs Mr1) = some (none, ip_hm L xs Mr2)) → ∃ z', hdR (e + 5) L xs p0 p1 p2 p3 p4 z Mr = hdR (e + 5) L xs p0 p1 p2 p3 p4 z' Mr2) ∧
  (r = 8 → ∃ Mr1, hdR (e + 5) L xs p0 p1 p2 p3 p4 z Mr = some (none, ip_hm L xs Mr1) ∧ zU (dI rc t) (dJ rc t) R0 Mr1 ∧ zSt rc t Mc Mr1 ∧ zSk Mc Mr1) ∧
  (r ≠ 0 → r ≠ 8 → ∃ Mr1 z', hdR (e + 5) L xs p0 p1 p2 p3 p4 z Mr = hdR (e + 5) L xs p0 p1 p2 p3 p4 z' Mr1 ∧ zR ta t rc lim hl R0 lv (lv + 1) G N N S r Mc Mr1 ∧ (r = 5 → Mr1.2.1 256 46 = Mc.2.1 41 8))
theorem zPost_t {e lv N S r : Nat} {Mc Mr Mr1 : ip_Mm} {z z1 : Option Value} (h : hdR (e + 5) L xs p0 p1 p2 p3 p4 z Mr = hdR (e + 5) L xs p0 p1 p2 p3 p4 z1 Mr1) (hp : zPost e L xs p0 p1 p2 p3 p4 ta t rc lim hl R0 lv G N S r Mc z1 Mr1) : zPost e L xs p0 p1 p2 p3 p4 ta t rc lim hl R0 lv G N S r Mc z Mr := by
  unfold zPost
  rw [h]
  exact hp
theorem hd_spent {d : Nat} : ∀ (f : Nat) (M : ip_Mm) (z : Option Value), M.1 256 50 = nI (f + 1) → f < 6 → M.1 256 41 = 0 → M.1 256 45 = nI 6 → hdR (d + 1) L xs p0 p1 p2 p3 p4 z M = some (none, ip_hm L xs (uI M 256 50 0)) := by
  intro f
  induction f with
  | zero =>
    intro M z h1 h2 h3 h4
    rw [hd_fail h1 h2 h3 h4 (by omega) (by omega) (r_fails_0 h1)]
    exact hd_end rI0
  | succ f ih =>
    intro M z h1 h2 h3 h4
    rw [hd_fail h1 h2 h3 h4 (by omega) (by omega) (r_fails_n (f := f) (by omega) h1 (Or.inr h4))]
    rw [ih _ _ rI0 (by omega) (by rw [rI1 (by decide)]; exact h3) (by rw [rI1 (by decide)]; exact h4), uI_uI]
theorem undo_all {n dp f N m S fl : Nat} {Mc P : ip_Mm} (hT : isTr ta) (hrc : rc ≤ 1) (ht8 : rc = 1 → t < 8) (hn : n ≤ 6) (hd : dp ≤ 6) (hf : f < 6) (hk : zKq rc f Mc P) (hr : zR ta t rc lim hl R0 n dp G N m S fl Mc P) : ∃ M2, (∀ d, ip_call d mR_undoes [.ref 256, .int (nI f)] (ip_hm L xs P) = some (none, ip_hm L xs M2)) ∧ zR ta t rc lim hl R0 n dp G N m S fl (unM Mc (f - 1) ta) M2 := by
  by_cases hr1 : rc = 1
  · exact ⟨_, fun d => r_undoes_t (by omega) (ht8 hr1) (by rw [hr.2.2.2.1.1, hr1]; rfl) (hr.2.2.2.1.2.1 hr1), zR_undo_t hT hn hd hf hr1 hk hr⟩
  · exact ⟨_, fun d => r_undoes_n (by omega) (by rw [hr.2.2.2.1.1, show rc = 0 by omega]; rfl), zR_undo_n hT hn hd hf hr1 hk hr⟩
theorem walkT (e : Nat) (hE : zE K ta lim hl C0) : ∀ (j lv turn : Nat) (num z0 : Option Value) (G : zG) (N S : Nat) (Mc : ip_Mm) (D : Nat), lv < 6 → zW K ta lim C0 (lv + 1) G N S N Mc → lim - S < j → turn + (lim - S) ≤ 100 → 4 * (6 - lv) + 6 ≤ D → ∃ r Mc' N' S', (r ≤ 8 ∧ (r = 8 → nI N' = hl)) ∧ lpC D L xs lv num (gC G lv) turn z0 Mc = some (some (.int (nI r)), ip_hm L xs Mc') ∧ S ≤ S' ∧ zW K ta lim C0 lv G N' S' N' Mc' ∧ ∀ t rc R0 z Mr, zKR K R0 → rc ≤ 1 → (rc = 1 → t < 8) → zR ta t rc lim hl R0 (lv + 1) (lv + 1) G N N S 0 Mc Mr → zPost e L xs p0 p1 p2 p3 p4 ta t rc lim hl R0 lv G N' S' r Mc' z Mr := by
  intro j
  induction j with
  | zero => intro lv turn num z0 G N S Mc D h1 h2 h3; omega
  | succ j ih =>
    intro lv turn num z0 G N S Mc D hlv hw hj htu hD
    obtain ⟨d, rfl⟩ : ∃ d, D = d + 5 := ⟨D - 5, by omega⟩
    have hT := hE.2.1
    have ht := tr_om hT
    have hl1 := hE.2.2.1
    have hnp := hE.1.1
    obtain ⟨fx, fm, fc, fy, ex, em, ef, ⟨h, h12, eh⟩, ⟨p, hp1, hp⟩, er⟩ := hw.2.1 lv (by omega)
    have c8 : gC G lv < 8 := by omega
    have s20 := hE.1.2.2.1 (gC G lv)
    have hsz := zC_sz hE hw.1 c8
    obtain ⟨w1, w2, w3, w4, w5⟩ := hw.2.2.1
    by_cases hps : p < kSz K (gC G lv)
    · obtain ⟨k, hk⟩ : ∃ k, kKd K (gC G lv) p = k := ⟨_, rfl⟩
      obtain ⟨q, hq⟩ : ∃ q, kPc K k = q := ⟨_, rfl⟩
      have k6 : k < 16 := by rw [← hk]; exact hE.1.2.2.2.1 _ _
      have q1 := hE.1.2.2.2.2.1 k
      rw [hq] at q1
      obtain ⟨o1, o2, o3⟩ := zC_op hE hw.1 c8 (show p < 20 by omega)
      rw [hk] at o1
      have o4 := zC_pc hE hw.1 k6
      rw [hq] at o4
      have rf : ∀ t rc R0 Mr, zKR K R0 → zR ta t rc lim hl R0 (lv + 1) (lv + 1) G N N S 0 Mc Mr → Mr.1 293 lv = nI (gC G lv) ∧ Mr.1 294 lv = nI p ∧ Mr.1 258 (20 * gC G lv + p) = nI k ∧ Mr.1 262 k = nI q ∧ Mr.1 256 43 = nI S ∧ Mr.1 256 42 = nI lim ∧ Mr.1 256 44 = nI N ∧ Mr.1 256 40 = hl := by
        intro t rc R0 Mr hK hr
        obtain ⟨b1, b2, b3, b4, -, b6, -⟩ := hr.2.2.1 lv (by omega)
        obtain ⟨d1, d2, d3⟩ := zD_op hK hr.1 c8 (show p < 20 by omega)
        rw [hk] at d1
        have d4 := zD_pc hK hr.1 k6
        rw [hq] at d4
        obtain ⟨-, -, s3, -, s5, s6, s7, s8, -⟩ := hr.2.2.2.1
        exact ⟨b3, b4.trans hp, d1, d4, s6, s5, s7, s3⟩
      have hbg : ∀ t rc R0 z Mr Mr2, zKR K R0 → zR ta t rc lim hl R0 (lv + 1) (lv + 1) G N N S 0 Mc Mr → ip_call (e + 4) mR_begins [.ref 256, .int (nI lv)] (ip_hm L xs Mr) = some (none, ip_hm L xs Mr2) → hdR (e + 5) L xs p0 p1 p2 p3 p4 z Mr = hdR (e + 5) L xs p0 p1 p2 p3 p4 (some (.int (nI lv))) Mr2 := by
        intro t rc R0 z Mr Mr2 hK hr eb
        obtain ⟨b3, b4, -⟩ := rf t rc R0 Mr hK hr
        obtain ⟨-, -, -, s4, -, -, -, s8, s9, -⟩ := hr.2.2.2.1
        exact hd_begin s9 hlv s4 s8 b3 c8 (zD_sz hK hr.1 c8) s20 b4 hps eb
      -- a step that ends in a failure, or in a plain way
      have hstep : ∀ r Mc2, S + q ≤ lim → zSR d L xs K ta lim hl C0 lv G N S q Mc r Mc2 → ∃ r Mc' N' S', (r ≤ 8 ∧ (r = 8 → nI N' = hl)) ∧ lpC (d + 5) L xs lv num (gC G lv) turn z0 Mc = some (some (.int (nI r)), ip_hm L xs Mc') ∧ S ≤ S' ∧ zW K ta lim C0 lv G N' S' N' Mc' ∧ ∀ t rc R0 z Mr, zKR K R0 → rc ≤ 1 → (rc = 1 → t < 8) → zR ta t rc lim hl R0 (lv + 1) (lv + 1) G N N S 0 Mc Mr → zPost e L xs p0 p1 p2 p3 p4 ta t rc lim hl R0 lv G N' S' r Mc' z Mr := by
        intro r Mc2 hS hz
        obtain ⟨r8, ew, wz, rr⟩ := hz
        by_cases r0 : r = 0
        · subst r0
          rw [if_pos rfl] at wz
          obtain ⟨r', Mc', N', S', i1, i2, i3, i4, i5⟩ := ih lv (turn + 1) num (some (.int 0)) G (N + 1) (S + q) Mc2 (d + 5) hlv wz (by omega) (by omega) hD
          refine ⟨r', Mc', N', S', i1, (lc_go hlv c8 (by omega) hp hsz hps s20 ew).trans i2, by omega, i4, fun t rc R0 z Mr hK hrc ht8 hr => ?_⟩
          obtain ⟨Mr2, eb, zr, -⟩ := rr t rc R0 e Mr hK hrc ht8 hr
          rw [if_pos rfl] at zr
          exact zPost_t (hbg t rc R0 z Mr Mr2 hK hr eb) (i5 t rc R0 _ Mr2 hK hrc ht8 zr)
        · rw [if_neg r0] at wz
          refine ⟨r, Mc2, N + 1, S + q, ⟨by omega, fun x => absurd x (by omega)⟩, lc_bad hlv c8 (by omega) hp hsz hps s20 ew (nI_ne (y := 0) (by omega) (by omega) r0), by omega, wz, fun t rc R0 z Mr hK hrc ht8 hr => ?_⟩
          obtain ⟨Mr2, eb, zr, z5⟩ := rr t rc R0 e Mr hK hrc ht8 hr
          rw [if_neg r0] at zr
          exact ⟨fun x => absurd x r0, fun x => absurd x (by omega), fun _ _ => ⟨Mr2, _, hbg t rc R0 z Mr Mr2 hK hr eb, zr, z5⟩⟩
      by_cases hh : nI N = hl
      · refine ⟨8, Mc, N, S, ⟨by omega, fun _ => hh⟩, lc_bad hlv c8 (by omega) hp hsz hps s20 (wo_halt (isFr_l hlv) (isPr_l c8) hT (zC_tr hE hw.1) hp (by omega) o1 k6 o4 (by rw [w1, hh, zC_hl hE hw.1])) (by decide), by omega, zW_dn hw, fun t rc R0 z Mr hK hrc ht8 hr => ⟨fun x => absurd x (by omega), fun _ => ?_, fun _ x => absurd rfl x⟩⟩
        obtain ⟨b3, b4, d1, d4, s6, s5, s7, s3⟩ := rf t rc R0 Mr hK hr
        obtain ⟨-, -, -, s4, -, -, -, s8, s9, -⟩ := id hr.2.2.2.1
        have hU := hr.1
        by_cases hsp : lim < S + q
        · have eb := bg_spent (d := e + 4) (L := L) (xs := xs) (show lv < 7 by omega) b3 c8 b4 (by omega) d1 k6 d4 q1.2 s6 s5 hl1 (by omega) hsp
          have hs := hd_spent (d := e + 4) (L := L) (xs := xs) (p0 := p0) (p1 := p1) (p2 := p2) (p3 := p3) (p4 := p4) lv (rfM Mr 6) (some (.int (nI lv))) (by simp (disch := first | assumption | omega) only [rfM, rI, rI1, rI0, rJ, rJ1, rJ0, rC, rC0, uI_2, uI_3, uJ_1, uJ_3, uC_1, uC_3, uT_1, uT_2, uT_3, rFI, rFI0, rFI1, rFI2, rFI3, rFJ, rFJ0, rFJ1, rFJ2, rFJ3, s9]) hlv (by simp (disch := first | assumption | omega) only [rfM, rI, rI1, rI0, rJ, rJ1, rJ0, rC, rC0, uI_2, uI_3, uJ_1, uJ_3, uC_1, uC_3, uT_1, uT_2, uT_3, rFI, rFI0, rFI1, rFI2, rFI3, rFJ, rFJ0, rFJ1, rFJ2, rFJ3, s4]) (by simp (disch := first | assumption | omega) only [rfM, rI, rI1, rI0, rJ, rJ1, rJ0, rC, rC0, uI_2, uI_3, uJ_1, uJ_3, uC_1, uC_3, uT_1, uT_2, uT_3, rFI, rFI0, rFI1, rFI2, rFI3, rFJ, rFJ0, rFJ1, rFJ2, rFJ3]; rfl)
          exact ⟨_, (hbg t rc R0 z Mr _ hK hr eb).trans hs, (by (try dsimp only [rpM, roM, rfM, plM, pyM, rsM, rgM, mkM, ntM, enA, enK, enN, enF, enZ, unR, unT]); repeat (first | with_reducible assumption | with_reducible refine zU_I ?_ (by unfold dI; omega) | with_reducible refine zU_J ?_ (by unfold dJ; omega) | with_reducible refine zU_K ?_ (fun j h1 h2 => by unfold dJ; omega) | with_reducible refine zU_F ?_ (fun j h1 h2 => by unfold dJ; omega))), zSt_f hr.2.1 (by (try dsimp only [puM, poM, rpM, roM, rfM, plM, pyM, boM, bsM, opM, seM, rsM, rgM, mkM, ntM, enA, enK, enN, enF, enZ, unR, unT, svM, unM]); repeat (first | with_reducible exact sR_r | with_reducible exact sR_toM (by omega) | with_reducible refine sR_I ?_ (by omega) | with_reducible refine sR_J ?_ (by omega) | with_reducible refine sR_C ?_ (by omega) | with_reducible refine sR_K ?_ (by omega) | with_reducible refine sR_F ?_ (by omega))) (by (try dsimp only [puM, poM, rpM, roM, rfM, plM, pyM, boM, bsM, opM, seM, rsM, rgM, mkM, ntM, enA, enK, enN, enF, enZ, unR, unT, svM, unM]); repeat (first | with_reducible exact sR_r | with_reducible exact sR_toM (by omega) | with_reducible refine sR_I ?_ (by omega) | with_reducible refine sR_J ?_ (by omega) | with_reducible refine sR_C ?_ (by omega) | with_reducible refine sR_K ?_ (by omega) | with_reducible refine sR_F ?_ (by omega))) (by (try dsimp only [puM, poM, rpM, roM, rfM, plM, pyM, boM, bsM, opM, seM, rsM, rgM, mkM, ntM, enA, enK, enN, enF, enZ, unR, unT, svM, unM]); repeat (first | with_reducible exact sR_r | with_reducible exact sR_toM (by omega) | with_reducible refine sR_I ?_ (by omega) | with_reducible refine sR_J ?_ (by omega) | with_reducible refine sR_C ?_ (by omega) | with_reducible refine sR_K ?_ (by omega) | with_reducible refine sR_F ?_ (by omega))), hr.2.2.2.2.2.2.1⟩
        · have eb := bg_stop (d := e + 4) (L := L) (xs := xs) (show lv < 7 by omega) b3 c8 b4 (by omega) d1 k6 d4 q1.2 s6 s5 hl1 (by omega) (by rw [s7, s3, hh])
          exact ⟨_, (hbg t rc R0 z Mr _ hK hr eb).trans (hd_stop (f := lv) (by simp (disch := first | assumption | omega) only [rI, rI1, rI0, rJ, rJ1, rJ0, rC, rC0, uI_2, uI_3, uJ_1, uJ_3, uC_1, uC_3, uT_1, uT_2, uT_3, rFI, rFI0, rFI1, rFI2, rFI3, rFJ, rFJ0, rFJ1, rFJ2, rFJ3, s9]) hlv rI0), (by (try dsimp only [rpM, roM, rfM, plM, pyM, rsM, rgM, mkM, ntM, enA, enK, enN, enF, enZ, unR, unT]); repeat (first | with_reducible assumption | with_reducible refine zU_I ?_ (by unfold dI; omega) | with_reducible refine zU_J ?_ (by unfold dJ; omega) | with_reducible refine zU_K ?_ (fun j h1 h2 => by unfold dJ; omega) | with_reducible refine zU_F ?_ (fun j h1 h2 => by unfold dJ; omega))), zSt_f hr.2.1 (by (try dsimp only [puM, poM, rpM, roM, rfM, plM, pyM, boM, bsM, opM, seM, rsM, rgM, mkM, ntM, enA, enK, enN, enF, enZ, unR, unT, svM, unM]); repeat (first | with_reducible exact sR_r | with_reducible exact sR_toM (by omega) | with_reducible refine sR_I ?_ (by omega) | with_reducible refine sR_J ?_ (by omega) | with_reducible refine sR_C ?_ (by omega) | with_reducible refine sR_K ?_ (by omega) | with_reducible refine sR_F ?_ (by omega))) (by (try dsimp only [puM, poM, rpM, roM, rfM, plM, pyM, boM, bsM, opM, seM, rsM, rgM, mkM, ntM, enA, enK, enN, enF, enZ, unR, unT, svM, unM]); repeat (first | with_reducible exact sR_r | with_reducible exact sR_toM (by omega) | with_reducible refine sR_I ?_ (by omega) | with_reducible refine sR_J ?_ (by omega) | with_reducible refine sR_C ?_ (by omega) | with_reducible refine sR_K ?_ (by omega) | with_reducible refine sR_F ?_ (by omega))) (by (try dsimp only [puM, poM, rpM, roM, rfM, plM, pyM, boM, bsM, opM, seM, rsM, rgM, mkM, ntM, enA, enK, enN, enF, enZ, unR, unT, svM, unM]); repeat (first | with_reducible exact sR_r | with_reducible exact sR_toM (by omega) | with_reducible refine sR_I ?_ (by omega) | with_reducible refine sR_J ?_ (by omega) | with_reducible refine sR_C ?_ (by omega) | with_reducible refine sR_K ?_ (by omega) | with_reducible refine sR_F ?_ (by omega))), hr.2.2.2.2.2.2.1⟩
      · by_cases hsp : lim < S + q
        · refine ⟨6, Mc, N, S, ⟨by omega, fun x => absurd x (by omega)⟩, lc_bad hlv c8 (by omega) hp hsz hps s20 (wo_spent (d := d + 3) (isFr_l hlv) (isPr_l c8) hT (zC_tr hE hw.1) hp (by omega) o1 k6 o4 q1.2 w1 w2 (zC_lm hE hw.1) (by omega) (by omega) hl1 hsp (by rw [zC_hl hE hw.1]; exact hh)) (by decide), by omega, zW_dn hw, fun t rc R0 z Mr hK hrc ht8 hr => ⟨fun x => absurd x (by omega), fun x => absurd x (by omega), fun _ _ => ?_⟩⟩
          obtain ⟨b3, b4, d1, d4, s6, s5, s7, s3⟩ := rf t rc R0 Mr hK hr
          have eb := bg_spent (d := e + 4) (L := L) (xs := xs) (show lv < 7 by omega) b3 c8 b4 (by omega) d1 k6 d4 q1.2 s6 s5 hl1 (by omega) hsp
          exact ⟨_, _, hbg t rc R0 z Mr _ hK hr eb, zR_bad (r := 6) hlv (by omega) hr, fun x => absurd x (by omega)⟩
        · have hS : S + q ≤ lim := by omega
          by_cases h10 : k = 10
          · subst h10
            rcases st_ret (d := d) (L := L) (xs := xs) hE hlv hw hp hps hk hq hS hh with ⟨r, Mc2, r0, hz⟩ | ⟨Mc2, ew, e6, wz, rr⟩
            · exact hstep r Mc2 hS hz
            · refine ⟨0, Mc2, N + 1, S + q, ⟨by omega, fun x => absurd x (by omega)⟩, (lc_go hlv c8 (by omega) hp hsz hps s20 ew).trans (lc_end hlv c8 (by omega) e6 (zC_sz hE wz.1 c8) (Nat.le_refl _) s20), by omega, wz, fun t rc R0 z Mr hK hrc ht8 hr => ⟨fun _ => ?_, fun x => absurd x (by omega), fun x => absurd rfl x⟩⟩
              obtain ⟨Mr1, z1, z2⟩ := rr t rc R0 e Mr hK hrc ht8 hr
              exact ⟨Mr1, z1, fun Mr2 hl2 => ⟨_, hbg t rc R0 z Mr Mr2 hK hr (z2 Mr2 hl2)⟩⟩
          · by_cases h67 : k = 6 ∨ k = 7
            · by_cases hgood : 0 < h ∧ lv < 5 ∧ ∃ x y c, zMay K (kOa K (gC G lv) p) (kOb K (gC G lv) p) x y c
              · obtain ⟨h0, h5, x, y, c, hm⟩ := hgood
                obtain ⟨b, yy, hb⟩ : ∃ (b : Nat) (yy : Int32), (k = 6 ∧ b = 0 ∧ yy = 0) ∨ (k = 7 ∧ b = 1 ∧ yy = 1) := by
                  rcases h67 with h | h
                  · exact ⟨0, 0, Or.inl ⟨h, rfl, rfl⟩⟩
                  · exact ⟨1, 1, Or.inr ⟨h, rfl, rfl⟩⟩
                obtain ⟨Mi, wi, hcls, hre⟩ := st_en (d := d) (L := L) (xs := xs) hE h5 hw hp hps hk hq hS hh hb eh h12 h0 hm
                have hG : ∀ l, l < lv + 1 → G l = (fun l => if l = lv + 1 then (x, y, c, b) else G l) l := fun l hl => (if_neg (by omega)).symm
                generalize hG' : (fun l => if l = lv + 1 then (x, y, c, b) else G l) = G' at *
                have eg : gC G' (lv + 1) = c := by rw [← hG']; show (if lv + 1 = lv + 1 then (x, y, c, b) else G (lv + 1)).2.2.1 = c; rw [if_pos rfl]
                have egy : gY G' (lv + 1) = b := by rw [← hG']; show (if lv + 1 = lv + 1 then (x, y, c, b) else G (lv + 1)).2.2.2 = b; rw [if_pos rfl]
                obtain ⟨r1, M5, N5, S5, i1, i2, i3, w5', post5⟩ := ih (lv + 1) 0 (some (.int (nI c))) none G' (N + 1) (S + q) Mi (d + 2) (by omega) wi (by omega) (by omega) (by omega)
                rw [eg] at i2
                have i1a := i1.1
                have w6 : zW K ta lim C0 (lv + 1) G N5 S5 N5 M5 := zW_cg w5' hG
                obtain ⟨h6, h612, eh6⟩ := (w6.2.1 lv (by omega)).2.2.2.2.2.2.2.1
                have ws6 := w6.2.2.1.2.2.1
                by_cases r0 : r1 = 0
                · subst r0
                  by_cases hp12 : h6 < 12
                  · have ew := hcls 0 0 M5 _ i2 (by rw [if_pos rfl]; exact q_push (isFr_l hlv) eh6 hp12) (zC_tr hE w6.1)
                    obtain ⟨r', Mc', N', S', j1, j2, j3, j4, j5⟩ := ih lv (turn + 1) num (some (.int 0)) G N5 S5 _ (d + 5) hlv (zW_push (w := M5.2.1 (73 + 2 * (lv + 1)) 7) hT hlv w6 hp12) (by omega) (by omega) hD
                    refine ⟨r', Mc', N', S', j1, (lc_go hlv c8 (by omega) hp hsz hps s20 ew).trans j2, by omega, j4, fun t rc R0 z Mr hK hrc ht8 hr => ?_⟩
                    obtain ⟨Mr5, eb, zr5⟩ := hre t rc R0 e Mr hK hrc ht8 hr
                    obtain ⟨Mr1, y1, y2⟩ := (post5 t rc R0 (some (.int (nI lv))) Mr5 hK hrc ht8 zr5).1 rfl
                    have d1 := y1.2.2.2.1.2.2.2.2.2.2.2.2.1
                    have q6 := (y1.2.2.1 lv (by omega)).2.2.2.2.2.1.trans eh6
                    obtain ⟨z', ez⟩ := y2 _ (fun d' => r_leaves (by omega) d1 q6 hp12)
                    have zr : zR ta t rc lim hl R0 (lv + 1) (lv + 1) G N5 N5 S5 0 (puM M5 (73 + 2 * lv) h6 (M5.2.1 (73 + 2 * (lv + 1)) 7)) (rpM (uI Mr1 256 50 (nI (lv + 1))) lv h6 (M5.2.1 (73 + 2 * (lv + 1)) 7)) := zR_push hT hlv (by omega) (zR_cg (zR_leave hT (by omega) (by omega) y1) hG hG) hp12
                    exact zPost_t ((hbg t rc R0 z Mr Mr5 hK hr eb).trans ez) (j5 t rc R0 _ _ hK hrc ht8 zr)
                  · have e12 : h6 = 12 := by omega
                    subst e12
                    have ew := hcls 0 2 M5 M5 i2 (by rw [if_pos rfl]; exact q_push12 (isFr_l hlv) eh6) (zC_tr hE w6.1)
                    refine ⟨2, M5, N5, S5, ⟨by omega, fun x => absurd x (by omega)⟩, lc_bad hlv c8 (by omega) hp hsz hps s20 ew (by decide), by omega, zW_dn w6, fun t rc R0 z Mr hK hrc ht8 hr => ⟨fun x => absurd x (by omega), fun x => absurd x (by omega), fun _ _ => ?_⟩⟩
                    obtain ⟨Mr5, eb, zr5⟩ := hre t rc R0 e Mr hK hrc ht8 hr
                    obtain ⟨Mr1, y1, y2⟩ := (post5 t rc R0 (some (.int (nI lv))) Mr5 hK hrc ht8 zr5).1 rfl
                    have d1 := y1.2.2.2.1.2.2.2.2.2.2.2.2.1
                    have q6 := (y1.2.2.1 lv (by omega)).2.2.2.2.2.1.trans eh6
                    obtain ⟨z', ez⟩ := y2 _ (fun d' => r_leaves12 (by omega) d1 q6)
                    exact ⟨_, z', (hbg t rc R0 z Mr Mr5 hK hr eb).trans ez, zR_bad (r := 2) hlv (by omega) (zR_cg (zR_leave hT (by omega) (by omega) y1) hG hG), fun x => absurd x (by omega)⟩
                · have r0' : ¬ nI r1 = 0 := nI_ne (y := 0) (by omega) (by omega) r0
                  by_cases hpass : yy = 0 ∨ nI r1 = 6 ∨ nI r1 = 8
                  · have ew := hcls (nI r1) (nI r1) M5 M5 i2 (by rw [if_neg r0', if_pos hpass]; exact ⟨rfl, rfl⟩) (zC_tr hE w6.1)
                    refine ⟨r1, M5, N5, S5, i1, lc_bad hlv c8 (by omega) hp hsz hps s20 ew r0', by omega, zW_dn w6, fun t rc R0 z Mr hK hrc ht8 hr => ?_⟩
                    obtain ⟨Mr5, eb, zr5⟩ := hre t rc R0 e Mr hK hrc ht8 hr
                    obtain ⟨-, a8, a7⟩ := post5 t rc R0 (some (.int (nI lv))) Mr5 hK hrc ht8 zr5
                    refine ⟨fun x => absurd x r0, fun x => ?_, fun _ x8 => ?_⟩
                    · obtain ⟨Mr1, y1, y2, y3, y4⟩ := a8 x
                      exact ⟨Mr1, (hbg t rc R0 z Mr Mr5 hK hr eb).trans y1, y2, y3, y4⟩
                    · obtain ⟨Mr1, z', y1, y2, y3⟩ := a7 r0 x8
                      have d1 := y2.2.2.2.1.2.2.2.2.2.2.2.2.1
                      have f1 := zS_fl y2
                      have s4 := y2.2.2.2.1.2.2.2.1
                      have ty := (y2.2.2.2.2.1 (lv + 1) (by omega)).2.2.1
                      rw [egy] at ty
                      have hn : Mr1.1 297 (lv + 1) = 0 ∨ Mr1.1 256 45 = 6 := by
                        rcases hpass with x | x | x
                        · left
                          rcases hb with ⟨-, b0, -⟩ | ⟨-, -, y1'⟩
                          · rw [ty, b0]; rfl
                          · rw [y1'] at x; exact absurd x (by decide)
                        · right; rw [f1, x]
                        · exact absurd (nI_ij (y := 8) (by omega) (by omega) x) x8
                      have ef := hd_fail (d := e + 4) (p0 := p0) (p1 := p1) (p2 := p2) (p3 := p3) (p4 := p4) (z := z') (show Mr1.1 256 50 = nI (lv + 1 + 1) from d1) (by omega) s4 f1 (by omega) (by omega) (r_fails_n (L := L) (xs := xs) (f := lv) hlv d1 hn)
                      refine ⟨_, _, ((hbg t rc R0 z Mr Mr5 hK hr eb).trans y1).trans ef, zR_dn (zR_cg (zR_leave hT (by omega) (by omega) y2) hG hG), fun x5 => y3 x5⟩
                  · have hy1 : yy = 1 := by
                      rcases hb with ⟨-, -, y0⟩ | ⟨-, -, y1'⟩
                      · exact absurd (Or.inl y0) hpass
                      · exact y1'
                    have hb1 : b = 1 := by
                      rcases hb with ⟨-, -, y0⟩ | ⟨-, b1, -⟩
                      · exact absurd (Or.inl y0) hpass
                      · exact b1
                    have n6 : r1 ≠ 6 := fun x => hpass (Or.inr (Or.inl (by rw [x]; rfl)))
                    have n8 : r1 ≠ 8 := fun x => hpass (Or.inr (Or.inr (by rw [x]; rfl)))
                    have w7 : zW K ta lim C0 (lv + 1) G N5 S5 N5 (unM M5 lv ta) := zW_undo hT (by omega) (by omega) w6
                    have eh7 : (unM M5 lv ta).1 (73 + 2 * lv) 1 = nI h6 := by
                      have rr : sR 73 85 M5 (unM M5 lv ta) := (by (try dsimp only [puM, poM, rpM, roM, rfM, plM, pyM, boM, bsM, opM, seM, rsM, rgM, mkM, ntM, enA, enK, enN, enF, enZ, unR, unT, svM, unM]); repeat (first | with_reducible exact sR_r | with_reducible exact sR_toM (by omega) | with_reducible refine sR_I ?_ (by omega) | with_reducible refine sR_J ?_ (by omega) | with_reducible refine sR_C ?_ (by omega) | with_reducible refine sR_K ?_ (by omega) | with_reducible refine sR_F ?_ (by omega)))
                      rw [(rr (73 + 2 * lv) (by omega) (by omega)).1]
                      exact eh6
                    -- the reference: fails within a try
                    have href : ∀ t rc R0 z Mr, zKR K R0 → rc ≤ 1 → (rc = 1 → t < 8) → zR ta t rc lim hl R0 (lv + 1) (lv + 1) G N N S 0 Mc Mr → ∃ P z', zR ta t rc lim hl R0 (lv + 1) (lv + 1) G N5 N5 S5 0 (unM M5 lv ta) P ∧ ∀ P', (∀ d', ip_call d' mR_push [.ref 256, .int (nI lv), .long (-(nI r1)).toInt64] (ip_hm L xs P) = some (none, ip_hm L xs P')) → hdR (e + 5) L xs p0 p1 p2 p3 p4 z Mr = hdR (e + 5) L xs p0 p1 p2 p3 p4 z' P' := by
                      intro t rc R0 z Mr hK hrc ht8 hr
                      obtain ⟨Mr5, eb, zr5⟩ := hre t rc R0 e Mr hK hrc ht8 hr
                      obtain ⟨Mr1, z', y1, y2, y3⟩ := (post5 t rc R0 (some (.int (nI lv))) Mr5 hK hrc ht8 zr5).2.2 r0 n8
                      have d1 := y2.2.2.2.1.2.2.2.2.2.2.2.2.1
                      have f1 := zS_fl y2
                      have s4 := y2.2.2.2.1.2.2.2.1
                      obtain ⟨-, -, ty, kp⟩ := y2.2.2.2.2.1 (lv + 1) (by omega)
                      rw [egy] at ty kp
                      obtain ⟨-, kq1, kq2, kq3⟩ := kp hb1
                      have kq : zKq rc (lv + 1) M5 (uI Mr1 256 50 (nI (lv + 1))) := ⟨kq1, kq2, kq3⟩
                      have zl := zR_leave hT (by omega) (show lv + 1 < 6 by omega) y2
                      obtain ⟨M2, u1, u2⟩ := undo_all (L := L) (xs := xs) hT hrc ht8 (show lv + 1 ≤ 6 by omega) (show lv + 1 ≤ 6 by omega) (show lv + 1 < 6 by omega) kq zl
                      have d2 := u2.2.2.2.1.2.2.2.2.2.2.2.2.1
                      refine ⟨uJ (uI M2 256 45 0) 256 46 0, some (.int (nI (lv + 1))), zR_cg (zR_46 (by omega) (by omega) (zR_fl (r := 0) (by omega) (by omega) u2) (Or.inl rfl)) hG hG, fun P' hP => ?_⟩
                      exact ((hbg t rc R0 z Mr Mr5 hK hr eb).trans y1).trans (hd_fail (d := e + 4) (show Mr1.1 256 50 = nI (lv + 1 + 1) from d1) (by omega) s4 f1 (by omega) (by omega) (r_fails_t (L := L) (xs := xs) hlv d1 (by rw [ty, hb1]; rfl) f1 (by omega) n6 (u1 _) d2 (hP _)))
                    by_cases hp12 : h6 < 12
                    · have ew := hcls (nI r1) 0 M5 _ i2 (by rw [if_neg r0', if_neg hpass]; exact q_push (isFr_l hlv) eh7 hp12) (zC_tr hE w6.1)
                      obtain ⟨r', Mc', N', S', j1, j2, j3, j4, j5⟩ := ih lv (turn + 1) num (some (.int 0)) G N5 S5 _ (d + 5) hlv (zW_push (w := (-(nI r1)).toInt64) hT hlv w7 hp12) (by omega) (by omega) hD
                      refine ⟨r', Mc', N', S', j1, (lc_go hlv c8 (by omega) hp hsz hps s20 ew).trans j2, by omega, j4, fun t rc R0 z Mr hK hrc ht8 hr => ?_⟩
                      obtain ⟨P, z', y1, y2⟩ := href t rc R0 z Mr hK hrc ht8 hr
                      have q6 := (y1.2.2.1 lv (by omega)).2.2.2.2.2.1.trans eh7
                      exact zPost_t (y2 _ (fun d' => r_push (by omega) q6 hp12)) (j5 t rc R0 _ _ hK hrc ht8 (zR_push hT hlv (by omega) y1 hp12))
                    · have e12 : h6 = 12 := by omega
                      subst e12
                      have ew := hcls (nI r1) 2 M5 _ i2 (by rw [if_neg r0', if_neg hpass]; exact q_push12 (isFr_l hlv) eh7) (zC_tr hE w6.1)
                      refine ⟨2, _, N5, S5, ⟨by omega, fun x => absurd x (by omega)⟩, lc_bad hlv c8 (by omega) hp hsz hps s20 ew (by decide), by omega, zW_dn w7, fun t rc R0 z Mr hK hrc ht8 hr => ⟨fun x => absurd x (by omega), fun x => absurd x (by omega), fun _ _ => ?_⟩⟩
                      obtain ⟨P, z', y1, y2⟩ := href t rc R0 z Mr hK hrc ht8 hr
                      have q6 := (y1.2.2.1 lv (by omega)).2.2.2.2.2.1.trans eh7
                      exact ⟨_, z', y2 _ (fun d' => r_push12 (by omega) q6), zR_bad (r := 2) hlv (by omega) y1, fun x => absurd x (by omega)⟩
              · obtain ⟨r, Mc2, r0, hz⟩ := st_cb (d := d) (L := L) (xs := xs) hE hlv hw hp hps hk hq hS hh h67 eh h12 hgood
                exact hstep r Mc2 hS hz
            · obtain ⟨r, Mc2, hz⟩ := st_plain (d := d) (L := L) (xs := xs) hE hlv hw hp hps hk hq hS hh (fun x => h67 (Or.inl x)) (fun x => h67 (Or.inr x)) h10
              exact hstep r Mc2 hS hz
    · refine ⟨0, Mc, N, S, ⟨by omega, fun x => absurd x (by omega)⟩, lc_end hlv c8 (by omega) hp hsz (by omega) (by omega), Nat.le_refl _, zW_dn hw, fun t rc R0 z Mr hK hrc ht8 hr => ⟨fun _ => ⟨Mr, zR_dn hr, fun Mr2 hl2 => ?_⟩, fun x => absurd x (by omega), fun x => absurd rfl x⟩⟩
      rw [er] at hl2
      obtain ⟨b1, b2, b3, b4, -⟩ := hr.2.2.1 lv (by omega)
      obtain ⟨-, -, -, s4, -, -, -, s8, s9, -⟩ := id hr.2.2.2.1
      exact ⟨_, hd_leave (d := e + 4) s9 hlv s4 s8 b3 c8 (zD_sz hK hr.1 c8) s20 (by rw [b4, hp, show p = kSz K (gC G lv) by omega]) (hl2 (e + 3))⟩
end TI
