/-! the acts, class and reference side by side -/
section SK
variable {K : zK} {M C0 R0 Mr : ip_Mm} {ta t rc lim p i k a m : Nat} {hl : Int32}
theorem zC_np (hE : zE K ta lim hl C0) (hU : zU (cI ta) (cJ ta) C0 M) : M.1 3 3 = nI (kNp K) := by
  have ht := tr_om hE.2.1
  rw [hU.1 3 3 (by unfold cI; omega)]; exact hE.2.2.2.1.1
theorem zC_na (hE : zE K ta lim hl C0) (hU : zU (cI ta) (cJ ta) C0 M) : M.1 3 4 = nI (kNa K) := by
  have ht := tr_om hE.2.1
  rw [hU.1 3 4 (by unfold cI; omega)]; exact hE.2.2.2.1.2.1
theorem zC_sz (hE : zE K ta lim hl C0) (hU : zU (cI ta) (cJ ta) C0 M) (hp : p < 8) : M.1 (7 + 4 * p) 3 = nI (kSz K p) := by
  have ht := tr_om hE.2.1
  rw [hU.1 (7 + 4 * p) 3 (by unfold cI; omega)]; exact hE.2.2.2.1.2.2.1 p hp
theorem zC_op (hE : zE K ta lim hl C0) (hU : zU (cI ta) (cJ ta) C0 M) (hp : p < 8) (hi : i < 20) : M.1 (7 + 4 * p + 1) i = nI (kKd K p i) ∧ M.2.1 (7 + 4 * p + 2) i = kOa K p i ∧ M.1 (7 + 4 * p + 3) i = kOb K p i := by
  have ht := tr_om hE.2.1
  rw [hU.1 (7 + 4 * p + 1) i (by unfold cI; omega), hU.2.1 (7 + 4 * p + 2) i (by unfold cJ; omega), hU.1 (7 + 4 * p + 3) i (by unfold cI; omega)]; exact hE.2.2.2.1.2.2.2.1 p i hp hi
theorem zC_mb (hE : zE K ta lim hl C0) (hU : zU (cI ta) (cJ ta) C0 M) (ha : a < kNa K) (hm : m < 4) : M.1 5 (a * 4 + m) = kMb K a m := by
  have ht := tr_om hE.2.1
  rw [hU.1 5 (a * 4 + m) (by unfold cI; omega)]; exact hE.2.2.2.1.2.2.2.2.1 a m ha hm
theorem zC_pc (hE : zE K ta lim hl C0) (hU : zU (cI ta) (cJ ta) C0 M) (hk : k < 16) : M.1 6 k = nI (kPc K k) := by
  have ht := tr_om hE.2.1
  rw [hU.1 6 k (by unfold cI; omega)]; exact hE.2.2.2.1.2.2.2.2.2 k hk
theorem zC_lm (hE : zE K ta lim hl C0) (hU : zU (cI ta) (cJ ta) C0 M) : M.1 ta 3 = nI lim := by
  have ht := tr_om hE.2.1
  rw [hU.1 ta 3 (by unfold cI; omega)]; exact hE.2.2.2.2.1
theorem zC_hl (hE : zE K ta lim hl C0) (hU : zU (cI ta) (cJ ta) C0 M) : M.1 41 7 = hl := by
  have ht := tr_om hE.2.1
  rw [hU.1 41 7 (by unfold cI; omega)]; exact hE.2.2.2.2.2.1
theorem zC_tr (hE : zE K ta lim hl C0) (hU : zU (cI ta) (cJ ta) C0 M) : M.2.2 = ta := hU.2.2.trans hE.2.2.2.2.2.2
theorem zD_na (hK : zKR K R0) (hU : zU (dI rc t) (dJ rc t) R0 M) : M.1 256 5 = nI (kNa K) := by
  rw [hU.1 256 5 (by unfold dI; omega)]; exact hK.2.1
theorem zD_sz (hK : zKR K R0) (hU : zU (dI rc t) (dJ rc t) R0 M) (hp : p < 8) : M.1 257 p = nI (kSz K p) := by
  rw [hU.1 257 p (by unfold dI; omega)]; exact hK.2.2.1 p hp
theorem zD_op (hK : zKR K R0) (hU : zU (dI rc t) (dJ rc t) R0 M) (hp : p < 8) (hi : i < 20) : M.1 258 (20 * p + i) = nI (kKd K p i) ∧ M.2.1 259 (20 * p + i) = kOa K p i ∧ M.1 260 (20 * p + i) = kOb K p i := by
  rw [hU.1 258 _ (by unfold dI; omega), hU.2.1 259 _ (by unfold dJ; omega), hU.1 260 _ (by unfold dI; omega)]; exact hK.2.2.2.1 p i hp hi
theorem zD_mb (hK : zKR K R0) (hU : zU (dI rc t) (dJ rc t) R0 M) (ha : a < kNa K) (hm : m < 4) : M.1 261 (4 * a + m) = kMb K a m := by
  rw [hU.1 261 _ (by unfold dI; omega)]; exact hK.2.2.2.2.1 a m ha hm
theorem zD_pc (hK : zKR K R0) (hU : zU (dI rc t) (dJ rc t) R0 M) (hk : k < 16) : M.1 262 k = nI (kPc K k) := by
  rw [hU.1 262 k (by unfold dI; omega)]; exact hK.2.2.2.2.2 k hk
end SK
def zAR (L : Nat) (xs : Nat → Int32) (K : zK) (ta lim : Nat) (hl : Int32) (lv : Nat) (G : zG) (N m S k c : Nat) (a : Int64) (Mc Mc1 : ip_Mm) (r : Nat) : Prop :=
  ∀ t rc R0 d Mr p, zKR K R0 → rc ≤ 1 → (rc = 1 → t < 8) → Mr.1 294 lv = nI p → 20 * c + p < 160 → Mr.1 258 (20 * c + p) = nI k → Mr.2.1 259 (20 * c + p) = a → zR ta t rc lim hl R0 (lv + 1) (lv + 1) G N m S 0 Mc (plM Mr lv p) → ∃ Mr1, ip_call (d + 3) mR_does [.ref 256, .int (nI lv), .int (nI (20 * c + p))] (ip_hm L xs Mr) = some (none, ip_hm L xs Mr1) ∧ zR ta t rc lim hl R0 (if r = 0 then lv + 1 else lv) (lv + 1) G N m S r Mc1 Mr1 ∧ (r = 5 → Mr1.2.1 256 46 = Mc1.2.1 41 8) ∧ (r ≠ 0 → ∃ h', h' ≤ 12 ∧ Mr1.1 298 lv = nI h')
def zAP (d L : Nat) (xs : Nat → Int32) (K : zK) (ta lim : Nat) (hl : Int32) (C0 : ip_Mm) (lv : Nat) (G : zG) (N m S T k c : Nat) (a : Int64) (Mc : ip_Mm) : Prop :=
  ∃ r Mc1, r < 8 ∧ ip_call (d + 3) mWa_act [.ref 41, .ref (73 + 2 * lv), .ref (7 + 4 * c), .int (nI k), .long a] (ip_hm L xs Mc) = some (some (.int (nI r)), ip_hm L xs Mc1) ∧ zW K ta lim C0 (if r = 0 then lv + 1 else lv) G N S (T + 1) Mc1 ∧ (r ≠ 0 → ∃ h', h' ≤ 12 ∧ Mc1.1 (73 + 2 * lv) 1 = nI h') ∧ sR (ta + 3) (ta + 11) Mc Mc1 ∧ zAR L xs K ta lim hl lv G N m S k c a Mc Mc1 r
section AP
variable {d L : Nat} {xs : Nat → Int32} {K : zK} {ta t rc lim : Nat} {hl : Int32} {C0 R0 : ip_Mm} {lv : Nat} {G : zG} {N m S T k c h : Nat} {a w : Int64} {Mc Mc1 : ip_Mm}
theorem pl_1 {Mr : ip_Mm} {p : Nat} {c j : Nat} (h : c ≠ 294) : (plM Mr lv p).1 c j = Mr.1 c j := by unfold plM; rw [rI h]
theorem zS_fl {n dp fl : Nat} {Mr : ip_Mm} (h : zR ta t rc lim hl R0 n dp G N m S fl Mc Mr) : Mr.1 256 45 = nI fl := h.2.2.2.1.2.2.2.2.2.2.2.1
/-- what a failure in the act leaves -/
theorem zR_bad {r dp : Nat} {Mr : ip_Mm} (hlv : lv < 6) (hd : dp ≤ 6) (h : zR ta t rc lim hl R0 (lv + 1) dp G N m S 0 Mc Mr) : zR ta t rc lim hl R0 lv dp G N m S r Mc (rfM Mr (nI r)) := zR_fl (by omega) hd (zR_dn h)
theorem ap_push (hT : isTr ta) (hlv : lv < 6) (hw : zW K ta lim C0 (lv + 1) G N S T Mc) (hh : Mc.1 (73 + 2 * lv) 1 = nI h) (h12 : h ≤ 12)
  (hA0 : h < 12 → ip_call (d + 3) mWa_act [.ref 41, .ref (73 + 2 * lv), .ref (7 + 4 * c), .int (nI k), .long a] (ip_hm L xs Mc) = some (some (.int 0), ip_hm L xs (puM Mc (73 + 2 * lv) h w)))
  (hA1 : h = 12 → ip_call (d + 3) mWa_act [.ref 41, .ref (73 + 2 * lv), .ref (7 + 4 * c), .int (nI k), .long a] (ip_hm L xs Mc) = some (some (.int 2), ip_hm L xs Mc))
  (hD : ∀ t rc R0 d Mr p M', zKR K R0 → Mr.1 294 lv = nI p → 20 * c + p < 160 → Mr.1 258 (20 * c + p) = nI k → Mr.2.1 259 (20 * c + p) = a → zR ta t rc lim hl R0 (lv + 1) (lv + 1) G N m S 0 Mc (plM Mr lv p) → ip_call (d + 2) mR_push [.ref 256, .int (nI lv), .long w] (ip_hm L xs (plM Mr lv p)) = some (none, ip_hm L xs M') → ip_call (d + 3) mR_does [.ref 256, .int (nI lv), .int (nI (20 * c + p))] (ip_hm L xs Mr) = some (none, ip_hm L xs M')) : zAP d L xs K ta lim hl C0 lv G N m S T k c a Mc := by
  have ht := tr_om hT
  by_cases h1 : h < 12
  · refine ⟨0, _, by omega, hA0 h1, zW_T (zW_push hT hlv hw h1) (by omega), (fun z => absurd rfl z), (by (try dsimp only [puM, poM, rpM, roM, rfM, plM, pyM, boM, bsM, opM, seM, rsM, rgM, mkM, ntM, enA, enK, enN, enF, enZ, unR, unT, svM, unM]); repeat (first | with_reducible exact sR_r | with_reducible exact sR_toM (by omega) | with_reducible refine sR_I ?_ (by omega) | with_reducible refine sR_J ?_ (by omega) | with_reducible refine sR_C ?_ (by omega) | with_reducible refine sR_K ?_ (by omega) | with_reducible refine sR_F ?_ (by omega))), fun t rc R0 d Mr p hK hrc ht8 e1 e2 e3 e4 hz => ?_⟩
    have hh' : (plM Mr lv p).1 298 lv = nI h := by
      rw [(hz.2.2.1 lv (by omega)).2.2.2.2.2.1]; exact hh
    exact ⟨_, hD t rc R0 d Mr p _ hK e1 e2 e3 e4 hz (r_push (by omega) hh' h1), zR_push hT hlv (by omega) hz h1, fun z => absurd z (by omega), fun z => absurd rfl z⟩
  · have h2 : h = 12 := by omega
    refine ⟨2, Mc, by omega, hA1 h2, zW_T (zW_dn hw) (by omega), (fun _ => ⟨h, h12, hh⟩), sR_r, fun t rc R0 d Mr p hK hrc ht8 e1 e2 e3 e4 hz => ?_⟩
    have hh' : (plM Mr lv p).1 298 lv = nI 12 := by
      rw [(hz.2.2.1 lv (by omega)).2.2.2.2.2.1, hh, h2]
    exact ⟨_, hD t rc R0 d Mr p _ hK e1 e2 e3 e4 hz (r_push12 (by omega) hh'), zR_bad hlv (by omega) hz, fun z => absurd z (by omega), fun _ => ⟨h, by omega, by have hP : (plM Mr lv p).1 298 lv = nI h := (hz.2.2.1 lv (by omega)).2.2.2.2.2.1.trans hh; simp (disch := first | assumption | omega) only [rfM, roM, rI, rI1, rI0, rJ, rJ1, rJ0, rC, rC0, uI_2, uI_3, uJ_1, uJ_3, uC_1, uC_3, uT_1, uT_2, uT_3, rFI, rFI0, rFI1, rFI2, rFI3, rFJ, rFJ0, rFJ1, rFJ2, rFJ3, hP]⟩⟩
theorem ap_0 (hT : isTr ta) (hlv : lv < 6) (hc : c < 8) (hw : zW K ta lim C0 (lv + 1) G N S T Mc) (hh : Mc.1 (73 + 2 * lv) 1 = nI h) (h12 : h ≤ 12) : zAP d L xs K ta lim hl C0 lv G N m S T 0 c a Mc :=
  ap_push (w := a) hT hlv hw hh h12 (fun h1 => a_0 (isFr_l hlv) (isPr_l hc) (q_push (isFr_l hlv) hh h1)) (fun h2 => a_0 (isFr_l hlv) (isPr_l hc) (q_push12 (isFr_l hlv) (by rw [hh, h2]))) (fun t rc R0 d Mr p M' hK e1 e2 e3 e4 hz e => d_0 (by omega) e1 e2 e3 e4 e)
theorem ap_8 (hT : isTr ta) (hlv : lv < 6) (hc : c < 8) (hw : zW K ta lim C0 (lv + 1) G N S T Mc) (hh : Mc.1 (73 + 2 * lv) 1 = nI h) (h12 : h ≤ 12) : zAP d L xs K ta lim hl C0 lv G N m S T 8 c a Mc :=
  ap_push (w := Mc.2.1 (73 + 2 * lv) 5) hT hlv hw hh h12 (fun h1 => a_8 (isFr_l hlv) (isPr_l hc) (q_push (isFr_l hlv) hh h1)) (fun h2 => a_8 (isFr_l hlv) (isPr_l hc) (q_push12 (isFr_l hlv) (by rw [hh, h2]))) (fun t rc R0 d Mr p M' hK e1 e2 e3 e4 hz e => d_8 (by omega) e1 e2 e3 e4 (by
    have := (hz.2.2.1 lv (by omega)).2.2.2.2.1
    rw [show Mr.2.1 295 lv = Mc.2.1 (73 + 2 * lv) 5 from this]
    exact e))
theorem ap_13 (hT : isTr ta) (hlv : lv < 6) (hc : c < 8) (hw : zW K ta lim C0 (lv + 1) G N S T Mc) (hh : Mc.1 (73 + 2 * lv) 1 = nI h) (h12 : h ≤ 12) : zAP d L xs K ta lim hl C0 lv G N m S T 13 c a Mc :=
  ap_push (w := (Mc.1 (73 + 2 * lv) 2).toInt64) hT hlv hw hh h12 (fun h1 => a_13 (isFr_l hlv) (isPr_l hc) (q_push (isFr_l hlv) hh h1)) (fun h2 => a_13 (isFr_l hlv) (isPr_l hc) (q_push12 (isFr_l hlv) (by rw [hh, h2]))) (fun t rc R0 d Mr p M' hK e1 e2 e3 e4 hz e => d_13 (by omega) e1 e2 e3 e4 (by
    have := (hz.2.2.1 lv (by omega)).1
    rw [pl_1 (by decide)] at this
    rw [this]
    rw [(hw.2.1 lv (by omega)).2.2.2.2.1] at e
    exact e))
theorem ap_14 (hT : isTr ta) (hlv : lv < 6) (hc : c < 8) (hw : zW K ta lim C0 (lv + 1) G N S T Mc) (hh : Mc.1 (73 + 2 * lv) 1 = nI h) (h12 : h ≤ 12) : zAP d L xs K ta lim hl C0 lv G N m S T 14 c a Mc :=
  ap_push (w := (Mc.1 (73 + 2 * lv) 4).toInt64) hT hlv hw hh h12 (fun h1 => a_14 (isFr_l hlv) (isPr_l hc) (q_push (isFr_l hlv) hh h1)) (fun h2 => a_14 (isFr_l hlv) (isPr_l hc) (q_push12 (isFr_l hlv) (by rw [hh, h2]))) (fun t rc R0 d Mr p M' hK e1 e2 e3 e4 hz e => d_14 (by omega) e1 e2 e3 e4 (by
    rw [(hw.2.1 lv (by omega)).2.2.2.2.2.2.1] at e
    by_cases h0 : lv = 0
    · rw [if_pos h0] at e ⊢
      exact e
    · have := (hz.2.2.1 (lv - 1) (by omega)).1
      rw [pl_1 (by decide)] at this
      rw [if_neg h0] at e ⊢
      rw [this]
      exact e))
theorem ap_12 (hT : isTr ta) (hlv : lv < 6) (hc : c < 8) (hw : zW K ta lim C0 (lv + 1) G N S T Mc) (hh : Mc.1 (73 + 2 * lv) 1 = nI h) (h12 : h ≤ 12) : zAP d L xs K ta lim hl C0 lv G N m S T 12 c a Mc := by
  by_cases ha : wj a h
  · obtain ⟨j, hj, rfl⟩ := ha
    refine ap_push (w := Mc.2.1 (73 + 2 * lv + 1) (h - 1 - j)) hT hlv hw hh h12 (fun h1 => a_12 (isFr_l hlv) (isPr_l hc) ?_) (fun h2 => a_12 (isFr_l hlv) (isPr_l hc) ?_) (fun t rc R0 d Mr p M' hK e1 e2 e3 e4 hz e => ?_)
    · rw [k_pushCopy_t (isFr_l hlv) hh h12 hj, if_pos h1]
      rfl
    · rw [k_pushCopy_t (isFr_l hlv) hh h12 hj, if_neg (by omega)]
    · have q1 := (hz.2.2.1 lv (by omega)).2.2.2.2.2.1
      rw [pl_1 (by decide)] at q1
      have q2 := (hz.2.2.1 lv (by omega)).2.2.2.2.2.2 (h - 1 - j) (by omega)
      refine d_12_t (by omega) e1 e2 e3 e4 (q1.trans hh) h12 hj ?_
      rw [show Mr.2.1 299 (12 * lv + (h - 1 - j)) = Mc.2.1 (73 + 2 * lv + 1) (h - 1 - j) from q2]
      exact e
  · refine ⟨2, Mc, by omega, a_12 (isFr_l hlv) (isPr_l hc) (k_pushCopy_f (isFr_l hlv) hh h12 ha), zW_T (zW_dn hw) (by omega), (fun _ => ⟨h, h12, hh⟩), sR_r, fun t rc R0 d Mr p hK hrc ht8 e1 e2 e3 e4 hz => ?_⟩
    have q1 := (hz.2.2.1 lv (by omega)).2.2.2.2.2.1
    rw [pl_1 (by decide)] at q1
    by_cases h0 : h = 0
    · subst h0
      exact ⟨_, d_12_e (by omega) e1 e2 e3 e4 (q1.trans hh), zR_bad hlv (by omega) hz, fun z => absurd z (by omega), fun _ => ⟨0, by omega, by have hP : (plM Mr lv p).1 298 lv = nI 0 := (hz.2.2.1 lv (by omega)).2.2.2.2.2.1.trans hh; simp (disch := first | assumption | omega) only [rfM, roM, rI, rI1, rI0, rJ, rJ1, rJ0, rC, rC0, uI_2, uI_3, uJ_1, uJ_3, uC_1, uC_3, uT_1, uT_2, uT_3, rFI, rFI0, rFI1, rFI2, rFI3, rFJ, rFJ0, rFJ1, rFJ2, rFJ3, hP]⟩⟩
    · exact ⟨_, d_12_f (by omega) e1 e2 e3 e4 (q1.trans hh) (by omega) h12 ha, zR_bad hlv (by omega) hz, fun z => absurd z (by omega), fun _ => ⟨h, by omega, by have hP : (plM Mr lv p).1 298 lv = nI h := (hz.2.2.1 lv (by omega)).2.2.2.2.2.1.trans hh; simp (disch := first | assumption | omega) only [rfM, roM, rI, rI1, rI0, rJ, rJ1, rJ0, rC, rC0, uI_2, uI_3, uJ_1, uJ_3, uC_1, uC_3, uT_1, uT_2, uT_3, rFI, rFI0, rFI1, rFI2, rFI3, rFJ, rFJ0, rFJ1, rFJ2, rFJ3, hP]⟩⟩
theorem ap_15 (hE : zE K ta lim hl C0) (hlv : lv < 6) (hc : c < 8) (hw : zW K ta lim C0 (lv + 1) G N S T Mc) (hh : Mc.1 (73 + 2 * lv) 1 = nI h) (h12 : h ≤ 12) : zAP d L xs K ta lim hl C0 lv G N m S T 15 c a Mc := by
  have hT := hE.2.1
  have ht := tr_om hT
  have n6 : kNa K ≤ 6 := hE.1.2.1
  have hA := zC_na hE hw.1
  by_cases ha : wj a (kNa K)
  · obtain ⟨y, hy, rfl⟩ := ha
    refine ap_push (w := Mc.2.1 42 (y * 9 + 8)) hT hlv hw hh h12 (fun h1 => a_15 (isFr_l hlv) (isPr_l hc) (k_pushFunds_t hA n6 (isFr_l hlv) hh h1 hy)) (fun h2 => a_15 (isFr_l hlv) (isPr_l hc) (k_pushFunds_12 hA n6 (isFr_l hlv) (by rw [hh, h2]) hy)) (fun t rc R0 d Mr p M' hK e1 e2 e3 e4 hz e => ?_)
    have q0 := zD_na hK hz.1
    rw [pl_1 (by decide)] at q0
    have q2 := hz.2.1.2.1 y (by omega)
    refine d_15_t q0 n6 (by omega) e1 e2 e3 e4 hy ?_
    rw [show Mr.2.1 264 y = Mc.2.1 42 (y * 9 + 8) from q2]
    exact e
  · refine ⟨1, Mc, by omega, a_15 (isFr_l hlv) (isPr_l hc) (k_pushFunds_f hA n6 ha), zW_T (zW_dn hw) (by omega), (fun _ => ⟨h, h12, hh⟩), sR_r, fun t rc R0 d Mr p hK hrc ht8 e1 e2 e3 e4 hz => ?_⟩
    have q0 := zD_na hK hz.1
    rw [pl_1 (by decide)] at q0
    exact ⟨_, d_15_f q0 n6 (by omega) e1 e2 e3 e4 ha, zR_bad hlv (by omega) hz, fun z => absurd z (by omega), fun _ => ⟨h, by omega, by have hP : (plM Mr lv p).1 298 lv = nI h := (hz.2.2.1 lv (by omega)).2.2.2.2.2.1.trans hh; simp (disch := first | assumption | omega) only [rfM, roM, rI, rI1, rI0, rJ, rJ1, rJ0, rC, rC0, uI_2, uI_3, uJ_1, uJ_3, uC_1, uC_3, uT_1, uT_2, uT_3, rFI, rFI0, rFI1, rFI2, rFI3, rFJ, rFJ0, rFJ1, rFJ2, rFJ3, hP]⟩⟩
theorem ap_11 (hT : isTr ta) (hlv : lv < 6) (hc : c < 8) (hw : zW K ta lim C0 (lv + 1) G N S T Mc) (hh : Mc.1 (73 + 2 * lv) 1 = nI h) (h12 : h ≤ 12) : zAP d L xs K ta lim hl C0 lv G N m S T 11 c a Mc := by
  have ht := tr_om hT
  refine ⟨5, _, by omega, a_11 (isFr_l hlv) (isPr_l hc) k_failWith, zW_T (zW_41 hT (by show lv ≤ 6; omega) (zW_dn hw)) (by omega), (fun _ => ⟨h, h12, hh⟩), (by (try dsimp only [puM, poM, rpM, roM, rfM, plM, pyM, boM, bsM, opM, seM, rsM, rgM, mkM, ntM, enA, enK, enN, enF, enZ, unR, unT, svM, unM]); repeat (first | with_reducible exact sR_r | with_reducible exact sR_toM (by omega) | with_reducible refine sR_I ?_ (by omega) | with_reducible refine sR_J ?_ (by omega) | with_reducible refine sR_C ?_ (by omega) | with_reducible refine sR_K ?_ (by omega) | with_reducible refine sR_F ?_ (by omega))), fun t rc R0 d Mr p hK hrc ht8 e1 e2 e3 e4 hz => ?_⟩
  exact ⟨_, d_11 (by omega) e1 e2 e3 e4, zR_41 hT (by show lv ≤ 6; omega) (by omega) (zR_46 (by show lv ≤ 6; omega) (by omega) (zR_bad hlv (by omega) hz) (Or.inl rfl)), fun _ => by rw [rJ0, rJ0], fun _ => ⟨h, by omega, by have hP : (plM Mr lv p).1 298 lv = nI h := (hz.2.2.1 lv (by omega)).2.2.2.2.2.1.trans hh; simp (disch := first | assumption | omega) only [rfM, roM, rI, rI1, rI0, rJ, rJ1, rJ0, rC, rC0, uI_2, uI_3, uJ_1, uJ_3, uC_1, uC_3, uT_1, uT_2, uT_3, rFI, rFI0, rFI1, rFI2, rFI3, rFJ, rFJ0, rFJ1, rFJ2, rFJ3, hP]⟩⟩
theorem ap_4 (hE : zE K ta lim hl C0) (hlv : lv < 6) (hc : c < 8) (hcl : c = gC G lv) (hs0 : 0 < kSz K c) (hw : zW K ta lim C0 (lv + 1) G N S T Mc) (hh : Mc.1 (73 + 2 * lv) 1 = nI h) (h12 : h ≤ 12) (h0 : 0 < h) : zAP d L xs K ta lim hl C0 lv G N m S T 4 c a Mc := by
  have hT := hE.2.1
  have ht := tr_om hT
  have hz20 := hE.1.2.2.1 c
  have hsz := zC_sz hE hw.1 hc
  by_cases hv : Mc.2.1 (73 + 2 * lv + 1) (h - 1) = 0
  · refine ⟨0, _, by omega, a_4 (isFr_l hlv) (isPr_l hc) (k_jump_0 (isFr_l hlv) hh h12 h0 hv), zW_T (zW_h hT hlv hw (by omega)) (by omega), (fun z => absurd rfl z), (by (try dsimp only [puM, poM, rpM, roM, rfM, plM, pyM, boM, bsM, opM, seM, rsM, rgM, mkM, ntM, enA, enK, enN, enF, enZ, unR, unT, svM, unM]); repeat (first | with_reducible exact sR_r | with_reducible exact sR_toM (by omega) | with_reducible refine sR_I ?_ (by omega) | with_reducible refine sR_J ?_ (by omega) | with_reducible refine sR_C ?_ (by omega) | with_reducible refine sR_K ?_ (by omega) | with_reducible refine sR_F ?_ (by omega))), fun t rc R0 d Mr p hK hrc ht8 e1 e2 e3 e4 hz => ?_⟩
    obtain ⟨q1, q2, q3, q4, q5, q6, q7⟩ := hz.2.2.1 lv (by omega)
    rw [pl_1 (by decide)] at q6
    have q8 := q7 (h - 1) (by omega)
    have f0 := zS_fl hz
    rw [pl_1 (by decide)] at f0
    exact ⟨_, d_4_0 (by omega) f0 e1 e2 e3 e4 (q6.trans hh) h0 h12 (q8.trans hv), zR_h hT hlv (by omega) hz, fun z => absurd z (by omega), fun z => absurd rfl z⟩
  · by_cases ha : wj a (kSz K c)
    · obtain ⟨j, hj, rfl⟩ := ha
      refine ⟨0, _, by omega, a_4 (isFr_l hlv) (isPr_l hc) (by rw [hsz]; exact k_jump_t (isFr_l hlv) hh h12 h0 hv (by omega) hj), zW_T (zW_p hT hlv (zW_h hT hlv hw (by omega)) (by rw [← hcl]; omega)) (by omega), (fun z => absurd rfl z), (by (try dsimp only [puM, poM, rpM, roM, rfM, plM, pyM, boM, bsM, opM, seM, rsM, rgM, mkM, ntM, enA, enK, enN, enF, enZ, unR, unT, svM, unM]); repeat (first | with_reducible exact sR_r | with_reducible exact sR_toM (by omega) | with_reducible refine sR_I ?_ (by omega) | with_reducible refine sR_J ?_ (by omega) | with_reducible refine sR_C ?_ (by omega) | with_reducible refine sR_K ?_ (by omega) | with_reducible refine sR_F ?_ (by omega))), fun t rc R0 d Mr p hK hrc ht8 e1 e2 e3 e4 hz => ?_⟩
      obtain ⟨q1, q2, q3, q4, q5, q6, q7⟩ := hz.2.2.1 lv (by omega)
      rw [pl_1 (by decide)] at q6 q3
      have q8 := q7 (h - 1) (by omega)
      have f0 := zS_fl hz
      rw [pl_1 (by decide)] at f0
      have z0 := zD_sz hK hz.1 hc
      rw [pl_1 (by decide)] at z0
      exact ⟨_, d_4_t (by omega) f0 e1 e2 e3 e4 (q6.trans hh) h0 h12 (fun z => hv (q8.symm.trans z)) (by rw [q3, hcl]) hc z0 hz20 hj, zR_p hT hlv (by omega) (zR_fl (r := 0) (by show lv + 1 ≤ 6; omega) (by omega) (zR_h hT hlv (by omega) hz)), fun z => absurd z (by omega), fun z => absurd rfl z⟩
    · refine ⟨2, _, by omega, a_4 (isFr_l hlv) (isPr_l hc) (by rw [hsz]; exact k_jump_f (isFr_l hlv) hh h12 h0 hv (by omega) ha), zW_T (zW_d hT hlv (zW_dn hw) (by show lv ≤ lv; omega)) (by omega), (fun _ => ⟨_, by omega, rI0⟩), (by (try dsimp only [puM, poM, rpM, roM, rfM, plM, pyM, boM, bsM, opM, seM, rsM, rgM, mkM, ntM, enA, enK, enN, enF, enZ, unR, unT, svM, unM]); repeat (first | with_reducible exact sR_r | with_reducible exact sR_toM (by omega) | with_reducible refine sR_I ?_ (by omega) | with_reducible refine sR_J ?_ (by omega) | with_reducible refine sR_C ?_ (by omega) | with_reducible refine sR_K ?_ (by omega) | with_reducible refine sR_F ?_ (by omega))), fun t rc R0 d Mr p hK hrc ht8 e1 e2 e3 e4 hz => ?_⟩
      obtain ⟨q1, q2, q3, q4, q5, q6, q7⟩ := hz.2.2.1 lv (by omega)
      rw [pl_1 (by decide)] at q6 q3
      have q8 := q7 (h - 1) (by omega)
      have f0 := zS_fl hz
      rw [pl_1 (by decide)] at f0
      have z0 := zD_sz hK hz.1 hc
      rw [pl_1 (by decide)] at z0
      exact ⟨_, d_4_f (by omega) f0 e1 e2 e3 e4 (q6.trans hh) h0 h12 (fun z => hv (q8.symm.trans z)) (by rw [q3, hcl]) hc z0 hs0 hz20 ha, zR_dc hT hlv (by omega) (zR_d4 hT hlv (by omega) (zR_fl (r := 2) (by show lv ≤ 6; omega) (by omega) (zR_d8 hT hlv (by omega) (zR_dn hz) (by show lv ≤ lv; omega))) (by show lv ≤ lv; omega)) (by show lv ≤ lv; omega), fun z => absurd z (by omega), fun _ => ⟨(h - 1), by omega, by have hP : (plM Mr lv p).1 298 lv = nI h := (hz.2.2.1 lv (by omega)).2.2.2.2.2.1.trans hh; simp (disch := first | assumption | omega) only [rfM, roM, rI, rI1, rI0, rJ, rJ1, rJ0, rC, rC0, uI_2, uI_3, uJ_1, uJ_3, uC_1, uC_3, uT_1, uT_2, uT_3, rFI, rFI0, rFI1, rFI2, rFI3, rFJ, rFJ0, rFJ1, rFJ2, rFJ3, hP]⟩⟩
end AP
