/-! what the links say, by the tables' words -/
def ip_lfC (x : Nat × Nat × Nat × Nat × Nat) : Bool := match ip_cl[x.2.2.1]? with
  | none => false
  | some r => decide (x.2.2.2.1 < r.2.2) && decide (tables_1[x.2.2.2.2]? = some (.fieldLink (ip_own x.1) x.2.1 (r.2.1 x.2.2.2.1).1 (r.2.1 x.2.2.2.1).2.1 (r.2.1 x.2.2.2.1).2.2.1))
theorem ip_lfA : ip_lfL.all ip_lfC = true := by decide +kernel
theorem mem_ws {i : Nat} {w : Cond} (h : tables_1[i]? = some w) (hg : goodWord w = true) : w ∈ ip_ws := List.mem_filter.mpr ⟨List.mem_append_right _ (List.mem_of_getElem? h), hg⟩
theorem lf_ok {cn idx ci k : Nat} (h : ip_lf cn idx = some (ci, k)) : ∃ r, ip_cl[ci]? = some r ∧ k < r.2.2 ∧ Cond.fieldLink (ip_own cn) idx (r.2.1 k).1 (r.2.1 k).2.1 (r.2.1 k).2.2.1 ∈ ip_ws := by
  unfold ip_lf at h
  obtain ⟨x, h1, h2⟩ := Option.map_eq_some_iff.mp h
  have hm := List.mem_of_find?_eq_some h1
  have hc := List.find?_some h1
  simp only [Bool.and_eq_true, beq_iff_eq] at hc
  obtain ⟨rfl, rfl⟩ := hc
  obtain ⟨rfl, rfl⟩ := Prod.mk.inj h2
  have ha := List.all_eq_true.mp ip_lfA x hm
  unfold ip_lfC at ha
  split at ha
  · cases ha
  · rename_i r hr
    simp only [Bool.and_eq_true, decide_eq_true_eq] at ha
    exact ⟨r, hr, ha.1, mem_ws ha.2 rfl⟩
def ip_lcC (x : Nat × Nat × Int64 × Nat) : Bool := decide (tables_1[x.2.2.2]? = some (.constantLong (ip_own x.1) x.2.1 x.2.2.1))
theorem ip_lcA : ip_lcL.all ip_lcC = true := by decide +kernel
theorem lc_ok {cn idx : Nat} {v : Int64} (h : ip_lc cn idx = some v) : Cond.constantLong (ip_own cn) idx v ∈ ip_ws := by
  unfold ip_lc at h
  obtain ⟨x, h1, rfl⟩ := Option.map_eq_some_iff.mp h
  have hm := List.mem_of_find?_eq_some h1
  have hc := List.find?_some h1
  simp only [Bool.and_eq_true, beq_iff_eq] at hc
  obtain ⟨rfl, rfl⟩ := hc
  have ha := List.all_eq_true.mp ip_lcA x hm
  exact mem_ws (of_decide_eq_true ha) rfl
def ip_lnC (x : Nat × Nat × Nat × Nat) : Bool := decide (x.2.2.1 < 10) && decide (tables_1[x.2.2.2]? = some (.classLink (ip_own x.1) x.2.1 (ip_own x.2.2.1)))
theorem ip_lnA : ip_lnL.all ip_lnC = true := by decide +kernel
theorem ln_ok {cn idx ci : Nat} (h : ip_ln cn idx = some ci) : ci < 10 ∧ Cond.classLink (ip_own cn) idx (ip_own ci) ∈ ip_ws := by
  unfold ip_ln at h
  obtain ⟨x, h1, rfl⟩ := Option.map_eq_some_iff.mp h
  have hm := List.mem_of_find?_eq_some h1
  have hc := List.find?_some h1
  simp only [Bool.and_eq_true, beq_iff_eq] at hc
  obtain ⟨rfl, rfl⟩ := hc
  have ha := List.all_eq_true.mp ip_lnA x hm
  simp only [ip_lnC, Bool.and_eq_true, decide_eq_true_eq] at ha
  exact ⟨ha.1, mem_ws ha.2 rfl⟩
def ip_laC (x : Nat × Nat × Nat × Nat) : Bool := match ip_te x.2.2.1 with
  | none => false
  | some ci => decide (tables_1[x.2.2.2]? = some (.classLink (ip_own x.1) x.2.1 (ip_own ci)))
theorem ip_laA : ip_laL.all ip_laC = true := by decide +kernel
theorem la_ok {cn idx t : Nat} (h : ip_la cn idx = some t) : ∃ ci, ip_te t = some ci ∧ Cond.classLink (ip_own cn) idx (ip_own ci) ∈ ip_ws := by
  unfold ip_la at h
  obtain ⟨x, h1, rfl⟩ := Option.map_eq_some_iff.mp h
  have hm := List.mem_of_find?_eq_some h1
  have hc := List.find?_some h1
  simp only [Bool.and_eq_true, beq_iff_eq] at hc
  obtain ⟨rfl, rfl⟩ := hc
  have ha := List.all_eq_true.mp ip_laA x hm
  unfold ip_laC at ha
  split at ha
  · cases ha
  · rename_i ci hci
    exact ⟨ci, hci, mem_ws (of_decide_eq_true ha) rfl⟩
theorem cw_0 : ∀ w ∈ u_ws RX0 TX0 5, w ∈ ip_ws := by
  have h1 : u_ws RX0 TX0 5 = [76, 78, 80, 82, 84].filterMap (fun i => tables_1[i]?) := by decide +kernel
  have h2 : (u_ws RX0 TX0 5).all goodWord = true := by decide +kernel
  intro w hw
  have hg := List.all_eq_true.mp h2 w hw
  rw [h1] at hw
  obtain ⟨i, -, hi⟩ := List.mem_filterMap.mp hw
  exact mem_ws hi hg
theorem cw_1 : ∀ w ∈ u_ws RX1 TX1 8, w ∈ ip_ws := by
  have h1 : u_ws RX1 TX1 8 = [241, 243, 245, 247, 249, 251, 253, 255].filterMap (fun i => tables_1[i]?) := by decide +kernel
  have h2 : (u_ws RX1 TX1 8).all goodWord = true := by decide +kernel
  intro w hw
  have hg := List.all_eq_true.mp h2 w hw
  rw [h1] at hw
  obtain ⟨i, -, hi⟩ := List.mem_filterMap.mp hw
  exact mem_ws hi hg
theorem cw_2 : ∀ w ∈ u_ws RX2 TX2 3, w ∈ ip_ws := by
  have h1 : u_ws RX2 TX2 3 = [302, 304, 306].filterMap (fun i => tables_1[i]?) := by decide +kernel
  have h2 : (u_ws RX2 TX2 3).all goodWord = true := by decide +kernel
  intro w hw
  have hg := List.all_eq_true.mp h2 w hw
  rw [h1] at hw
  obtain ⟨i, -, hi⟩ := List.mem_filterMap.mp hw
  exact mem_ws hi hg
theorem cw_3 : ∀ w ∈ u_ws RX3 TX3 4, w ∈ ip_ws := by
  have h1 : u_ws RX3 TX3 4 = [50, 52, 54, 56].filterMap (fun i => tables_1[i]?) := by decide +kernel
  have h2 : (u_ws RX3 TX3 4).all goodWord = true := by decide +kernel
  intro w hw
  have hg := List.all_eq_true.mp h2 w hw
  rw [h1] at hw
  obtain ⟨i, -, hi⟩ := List.mem_filterMap.mp hw
  exact mem_ws hi hg
theorem cw_4 : ∀ w ∈ u_ws RX4 TX4 4, w ∈ ip_ws := by
  have h1 : u_ws RX4 TX4 4 = [138, 140, 142, 144].filterMap (fun i => tables_1[i]?) := by decide +kernel
  have h2 : (u_ws RX4 TX4 4).all goodWord = true := by decide +kernel
  intro w hw
  have hg := List.all_eq_true.mp h2 w hw
  rw [h1] at hw
  obtain ⟨i, -, hi⟩ := List.mem_filterMap.mp hw
  exact mem_ws hi hg
theorem cw_5 : ∀ w ∈ u_ws RX5 TX5 4, w ∈ ip_ws := by
  have h1 : u_ws RX5 TX5 4 = [114, 116, 118, 120].filterMap (fun i => tables_1[i]?) := by decide +kernel
  have h2 : (u_ws RX5 TX5 4).all goodWord = true := by decide +kernel
  intro w hw
  have hg := List.all_eq_true.mp h2 w hw
  rw [h1] at hw
  obtain ⟨i, -, hi⟩ := List.mem_filterMap.mp hw
  exact mem_ws hi hg
theorem cw_6 : ∀ w ∈ u_ws RX6 TX6 17, w ∈ ip_ws := by
  have h1 : u_ws RX6 TX6 17 = [183, 185, 187, 189, 191, 193, 195, 197, 199, 201, 203, 205, 207, 209, 211, 213, 215].filterMap (fun i => tables_1[i]?) := by decide +kernel
  have h2 : (u_ws RX6 TX6 17).all goodWord = true := by decide +kernel
  intro w hw
  have hg := List.all_eq_true.mp h2 w hw
  rw [h1] at hw
  obtain ⟨i, -, hi⟩ := List.mem_filterMap.mp hw
  exact mem_ws hi hg
theorem cw_7 : ∀ w ∈ u_ws RX7 TX7 9, w ∈ ip_ws := by
  have h1 : u_ws RX7 TX7 9 = [270, 272, 274, 276, 278, 280, 282, 284, 286].filterMap (fun i => tables_1[i]?) := by decide +kernel
  have h2 : (u_ws RX7 TX7 9).all goodWord = true := by decide +kernel
  intro w hw
  have hg := List.all_eq_true.mp h2 w hw
  rw [h1] at hw
  obtain ⟨i, -, hi⟩ := List.mem_filterMap.mp hw
  exact mem_ws hi hg
theorem cw_8 : ∀ w ∈ u_ws RX8 TX8 7, w ∈ ip_ws := by
  have h1 : u_ws RX8 TX8 7 = [318, 320, 322, 324, 326, 328, 330].filterMap (fun i => tables_1[i]?) := by decide +kernel
  have h2 : (u_ws RX8 TX8 7).all goodWord = true := by decide +kernel
  intro w hw
  have hg := List.all_eq_true.mp h2 w hw
  rw [h1] at hw
  obtain ⟨i, -, hi⟩ := List.mem_filterMap.mp hw
  exact mem_ws hi hg
theorem cw_9 : ∀ w ∈ u_ws RX9 TX9 70, w ∈ ip_ws := by
  have h1 : u_ws RX9 TX9 70 = [764, 766, 768, 770, 772, 774, 776, 778, 780, 782, 784, 786, 788, 790, 792, 794, 796, 798, 800, 802, 804, 806, 808, 810, 812, 814, 816, 818, 820, 822, 824, 826, 828, 830, 832, 834, 836, 838, 840, 842, 844, 846, 848, 850, 852, 854, 856, 858, 860, 862, 864, 866, 868, 870, 872, 874, 876, 878, 880, 882, 884, 886, 888, 890, 892, 894, 896, 898, 900, 902].filterMap (fun i => tables_1[i]?) := by decide +kernel
  have h2 : (u_ws RX9 TX9 70).all goodWord = true := by decide +kernel
  intro w hw
  have hg := List.all_eq_true.mp h2 w hw
  rw [h1] at hw
  obtain ⟨i, -, hi⟩ := List.mem_filterMap.mp hw
  exact mem_ws hi hg
theorem cl_ok {ci : Nat} {r : vw_C} (h : ip_cl[ci]? = some r) : (∀ k, k < r.2.2 → parseFieldDescriptor (r.2.1 k).2.2.1 = some (ip_ty ci k)) ∧ (∀ a, a < r.2.2 → ∀ b, b < r.2.2 → a ≠ b → (r.2.1 a).2.1 ≠ (r.2.1 b).2.1) ∧ (∀ w ∈ u_ws r.1 r.2.1 r.2.2, w ∈ ip_ws) ∧ r.2.1 = ip_T ci ∧ Cond.instantiable r.1 r.2.2 ∈ ip_ws ∧ Cond.initialized r.1 ∈ ip_ws ∧ r.1 = ip_own ci ∧ (∀ fs, ip_df[ci]? = some fs → fs.length = r.2.2 ∧ ∀ j, j < r.2.2 → defaultValue (ip_ty ci j) = vp_V fs j) ∧ (∀ k, k < r.2.2 → (r.2.1 k).1 = r.1) := by
  match ci, h with
  | 0, h =>
    cases h
    refine ⟨tyX0_ok, nmX0, cw_0, rfl, mem_ws (i := 29) (by decide +kernel) rfl, mem_ws (i := 3) (by decide +kernel) rfl, rfl, fun fs hf => ?_, by decide +kernel⟩
    cases hf
    exact ⟨rfl, by decide +kernel⟩
  | 1, h =>
    cases h
    refine ⟨tyX1_ok, nmX1, cw_1, rfl, mem_ws (i := 218) (by decide +kernel) rfl, mem_ws (i := 9) (by decide +kernel) rfl, rfl, fun fs hf => ?_, by decide +kernel⟩
    cases hf
    exact ⟨rfl, by decide +kernel⟩
  | 2, h =>
    cases h
    refine ⟨tyX2_ok, nmX2, cw_2, rfl, mem_ws (i := 292) (by decide +kernel) rfl, mem_ws (i := 10) (by decide +kernel) rfl, rfl, fun fs hf => ?_, by decide +kernel⟩
    cases hf
    exact ⟨rfl, by decide +kernel⟩
  | 3, h =>
    cases h
    refine ⟨tyX3_ok, nmX3, cw_3, rfl, mem_ws (i := 36) (by decide +kernel) rfl, mem_ws (i := 4) (by decide +kernel) rfl, rfl, fun fs hf => ?_, by decide +kernel⟩
    cases hf
    exact ⟨rfl, by decide +kernel⟩
  | 4, h =>
    cases h
    refine ⟨tyX4_ok, nmX4, cw_4, rfl, mem_ws (i := 124) (by decide +kernel) rfl, mem_ws (i := 8) (by decide +kernel) rfl, rfl, fun fs hf => ?_, by decide +kernel⟩
    cases hf
    exact ⟨rfl, by decide +kernel⟩
  | 5, h =>
    cases h
    refine ⟨tyX5_ok, nmX5, cw_5, rfl, mem_ws (i := 100) (by decide +kernel) rfl, mem_ws (i := 7) (by decide +kernel) rfl, rfl, fun fs hf => ?_, by decide +kernel⟩
    cases hf
    exact ⟨rfl, by decide +kernel⟩
  | 6, h =>
    cases h
    refine ⟨tyX6_ok, nmX6, cw_6, rfl, mem_ws (i := 92) (by decide +kernel) rfl, mem_ws (i := 6) (by decide +kernel) rfl, rfl, fun fs hf => ?_, by decide +kernel⟩
    cases hf
    exact ⟨rfl, by decide +kernel⟩
  | 7, h =>
    cases h
    refine ⟨tyX7_ok, nmX7, cw_7, rfl, mem_ws (i := 23) (by decide +kernel) rfl, mem_ws (i := 2) (by decide +kernel) rfl, rfl, fun fs hf => ?_, by decide +kernel⟩
    cases hf
    exact ⟨rfl, by decide +kernel⟩
  | 8, h =>
    cases h
    refine ⟨tyX8_ok, nmX8, cw_8, rfl, mem_ws (i := 15) (by decide +kernel) rfl, mem_ws (i := 1) (by decide +kernel) rfl, rfl, fun fs hf => ?_, by decide +kernel⟩
    cases hf
    exact ⟨rfl, by decide +kernel⟩
  | 9, h =>
    cases h
    refine ⟨tyX9_ok, nmX9, cw_9, rfl, mem_ws (i := 689) (by decide +kernel) rfl, mem_ws (i := 11) (by decide +kernel) rfl, rfl, fun fs hf => ?_, by decide +kernel⟩
    cases hf
    exact ⟨rfl, by decide +kernel⟩
  | n + 10, h => simp [ip_cl] at h
section SND2
variable {p : Program} {l : Launch} {e : Env} {R : Room} {s : State} {mid : MethodId} {args : Array Value} {below : List Frame} {meth : Method} {c : Code} {Q : State → Prop} {G : Heap} {b zp L0 : Nat} {xs : Nat → Int32} {D : va_G} {ca : Nat → ClassId} {h0 s0 : Nat} {q : ip_I} {d pc len : Nat} {L L' : ip_L} {st st' : List Value} {hp hp' : ip_H} {pc' : Nat}
theorem ad_own {base a : Nat} (h : 2 ≤ a) : ip_ad base b zp a = base + (a - 2) := by
  unfold ip_ad
  rw [if_neg (by omega), if_neg (by omega)]
theorem one_P {cl : List vw_C} {x : Nat × va_E} {H : Heap} (h : va_at D cl x H) : va_P D cl [x] H := fun k y hk => by
  cases k with
  | zero => cases hk; exact h
  | succ k => cases hk
theorem rep_own {H : Heap} {a : Nat} {x : ip_C} (hR : ip_rep G b zp L0 xs D ca hp H) (hx : hp.2.2 a = some x) (h9 : ∀ y, x = .inl (9, y) → False) : 2 ≤ a ∧ ip_ok x ∧ va_at D ip_cl ((ip_ad G.size b zp) a, ip_e (ip_ad G.size b zp) ca x) H := by
  rcases (hR.2.2.2 a x hx).2 with ⟨-, e⟩ | ⟨-, e⟩ | ⟨h1, h2, h3⟩
  · exact (h9 _ e).elim
  · exact (h9 _ e).elim
  · exact ⟨h1, h2, by rw [ad_own h1]; exact h3⟩
theorem rep_set {H H1 : Heap} {a : Nat} {x y : ip_C} (hR : ip_rep G b zp L0 xs D ca hp H) (hx : hp.2.2 a = some x) (h2 : 2 ≤ a) (hok : ip_ok y) (hat : va_at D ip_cl ((ip_ad G.size b zp) a, ip_e (ip_ad G.size b zp) ca y) H1) (hz : H1.size = H.size) (ho : ∀ z : Nat, z ≠ (ip_ad G.size b zp) a → H1[z]? = H[z]?) : ip_rep G b zp L0 xs D ca (ip_set hp a y) H1 := by
  refine ⟨hR.1, by rw [hz]; exact hR.2.1, fun z hz1 => (ho z (by rw [ad_own h2]; omega)).trans (hR.2.2.1 z hz1), fun a' x' hx' => ?_⟩
  have hx' : (if a' = a then some y else hp.2.2 a') = some x' := hx'
  by_cases e : a' = a
  · subst e
    rw [if_pos rfl] at hx'
    cases hx'
    exact ⟨(hR.2.2.2 a' x hx).1, Or.inr (Or.inr ⟨h2, hok, by rw [← ad_own (b := b) (zp := zp) h2]; exact hat⟩)⟩
  · rw [if_neg e] at hx'
    obtain ⟨g1, g2⟩ := hR.2.2.2 a' x' hx'
    refine ⟨g1, ?_⟩
    rcases g2 with g2 | g2 | ⟨g3, g4, g5⟩
    · exact Or.inl g2
    · exact Or.inr (Or.inl g2)
    · exact Or.inr (Or.inr ⟨g3, g4, g5.kept (ho _ (by rw [ad_own h2]; show ¬ G.size + (a' - 2) = G.size + (a - 2); omega))⟩)
theorem ad_new {H : Heap} (hR : ip_rep G b zp L0 xs D ca hp H) : (ip_ad G.size b zp) hp.1 = H.size := by
  rw [ad_own hR.1]
  have h1 := hR.1
  have h2 := hR.2.1
  omega
theorem rep_new {H H1 : Heap} {y : ip_C} {w : Nat} (hR : ip_rep G b zp L0 xs D ca hp H) (hz : H1.size = H.size + 1) (ho : ∀ z : Nat, z < H.size → H1[z]? = H[z]?) (hok : ip_ok y) (hat : va_at D ip_cl (H.size, ip_e (ip_ad G.size b zp) ca y) H1) : ip_rep G b zp L0 xs D ca (ip_new hp w y) H1 := by
  have h1 := hR.1
  have h2 := hR.2.1
  refine ⟨by show 2 ≤ hp.1 + 1; omega, by rw [hz]; show _ = G.size + (hp.1 + 1); omega, fun z hz1 => (ho z (by omega)).trans (hR.2.2.1 z hz1), fun a' x' hx' => ?_⟩
  have hx' : (if a' = hp.1 then some y else hp.2.2 a') = some x' := hx'
  by_cases e : a' = hp.1
  · subst e
    rw [if_pos rfl] at hx'
    cases hx'
    refine ⟨Nat.lt_succ_self _, Or.inr (Or.inr ⟨h1, hok, ?_⟩)⟩
    rw [show G.size + (hp.1 - 2) = H.size by omega]
    exact hat
  · rw [if_neg e] at hx'
    obtain ⟨g1, g2⟩ := hR.2.2.2 a' x' hx'
    refine ⟨Nat.lt_succ_of_lt g1, ?_⟩
    rcases g2 with g2 | g2 | ⟨g3, g4, g5⟩
    · exact Or.inl g2
    · exact Or.inr (Or.inl g2)
    · exact Or.inr (Or.inr ⟨g3, g4, g5.kept (ho _ g5.lt)⟩)
theorem lo_add {locs : List Loc} {a k : Nat} (hlo : ∀ x ∈ locs, G.size ≤ x.base) (h2 : 2 ≤ a) : ∀ x ∈ locs ++ [(⟨(ip_ad G.size b zp) a, k⟩ : Loc)], G.size ≤ x.base := by
  intro x hx
  rcases List.mem_append.mp hx with h | h
  · exact hlo x h
  · rw [List.mem_singleton.mp h]
    show G.size ≤ (ip_ad G.size b zp) a
    rw [ad_own h2]
    omega
theorem rep_S {H : Heap} {locs : List Loc} (hR : ip_rep G b zp L0 xs D ca hp H) (hlo : ∀ x ∈ locs, G.size ≤ x.base) : va_S (fun x => G.size ≤ x) G H locs := ⟨by have h1 := hR.1; have h2 := hR.2.1; omega, fun z h1 _ => hR.2.2.1 z h1, hlo⟩
theorem in_ok {i : Int32} {n : Nat} (h : ip_in i n = true) : vp_in i n := by
  unfold vp_in
  exact of_decide_eq_true h
theorem gf_inv {ci k a : Nat} {v : Value} (h : ip_gf hp ci k a = some v) : ∃ fs, hp.2.2 a = some (.inr (ci, fs)) ∧ fs[k]? = some v := by
  unfold ip_gf at h
  split at h
  · rename_i c fs hx
    split at h
    · rename_i e
      subst e
      exact ⟨fs, hx, h⟩
    · cases h
  · cases h
theorem sd_gf {idx : Nat} (C : ip_cx p s mid args meth c G b zp L0 xs D ca q) (hd : decode q.2.2.1 pc = .ok (.getfield idx, 3)) (h : ip_xgf q.1 idx (pc + 3) L hp st = some (.inl (pc', L', st', hp'))) (k : ip_W p l e R s mid args below meth c Q G b zp L0 xs D ca h0 s0 pc' L' st' hp') : ip_W p l e R s mid args below meth c Q G b zp L0 xs D ca h0 s0 pc L st hp := by
  unfold ip_xgf at h
  split at h
  · rename_i a r
    obtain ⟨⟨ci, j⟩, h1, h2⟩ := Option.bind_eq_some_iff.mp h
    obtain ⟨v, h3, h4⟩ := Option.map_eq_some_iff.mp h2
    cases h4
    obtain ⟨fs, hx, hv⟩ := gf_inv h3
    intro H locs cells slots ls hR hlo hlr hc hs
    obtain ⟨w, hw, hj, hln⟩ := lf_ok h1
    obtain ⟨-, -, hat⟩ := rep_own hR hx (fun y z => by cases z)
    obtain ⟨-, -, hin, -⟩ := cl_ok hw
    obtain ⟨C', T', N'⟩ := w
    exact va_get (D := D) (cl := ip_cl) (tys := ip_tys ca) (ws := [((ip_ad G.size b zp) a, .inr (ci, fs.map (ip_v (ip_ad G.size b zp))))]) (C := C') (T := T') (N := N') C.1 C.2.1 C.2.2.2.2.1 hin C.2.2.2.1 C.2.2.2.2.2.2.1 (one_P hat) 0 rfl hw j hj (C.2.2.2.2.1 _ hln) (fun _ z => z) (v := ip_v (ip_ad G.size b zp) v) (by simp [hv]) hd (k H locs cells slots ls hR hlo hlr hc hs)
  · cases h
theorem fit_ok {ad : Nat → Nat} {ty : FieldType} {v : Value} (h : ip_fit ty v = true) : narrow ty (ip_v ad v) = ip_v ad v ∧ fits ty (ip_v ad v) = true := by
  unfold ip_fit at h
  split at h
  · exact ⟨rfl, rfl⟩
  · rename_i x
    simp only [Bool.or_eq_true, beq_iff_eq] at h
    rcases h with rfl | rfl <;> exact ⟨rfl, rfl⟩
  · exact ⟨rfl, rfl⟩
  · exact ⟨rfl, rfl⟩
  · exact ⟨rfl, rfl⟩
  · cases h
theorem pf_inv {ci k a : Nat} {v : Value} (h : ip_pf hp ci k a v = some hp') : ∃ fs, hp.2.2 a = some (.inr (ci, fs)) ∧ k < fs.length ∧ hp' = ip_set hp a (.inr (ci, fs.set k v)) := by
  unfold ip_pf at h
  split at h
  · rename_i c fs hx
    split at h
    · rename_i e
      obtain ⟨rfl, hk⟩ := e
      cases h
      exact ⟨fs, hx, hk, rfl⟩
    · cases h
  · cases h
theorem sd_pf {idx : Nat} (C : ip_cx p s mid args meth c G b zp L0 xs D ca q) (hd : decode q.2.2.1 pc = .ok (.putfield idx, 3)) (h : ip_xpf q.1 idx (pc + 3) (q.2.1.name == "<init>") L hp st = some (.inl (pc', L', st', hp'))) (k : ip_W p l e R s mid args below meth c Q G b zp L0 xs D ca h0 s0 pc' L' st' hp') : ip_W p l e R s mid args below meth c Q G b zp L0 xs D ca h0 s0 pc L st hp := by
  unfold ip_xpf at h
  split at h
  · rename_i v a r
    obtain ⟨⟨ci, j⟩, h1, h2⟩ := Option.bind_eq_some_iff.mp h
    dsimp only at h2
    split at h2
    · rename_i hcond
      obtain ⟨hfit, hfinal⟩ := hcond
      obtain ⟨hp1, h3, h4⟩ := Option.map_eq_some_iff.mp h2
      cases h4
      obtain ⟨fs, hx, hjl, rfl⟩ := pf_inv h3
      intro H locs cells slots ls hR hlo hlr hc hs
      obtain ⟨w, hw, hj, hln⟩ := lf_ok h1
      obtain ⟨ha2, -, hat⟩ := rep_own hR hx (fun y z => by cases z)
      obtain ⟨hty, hnm, hin, hT, -, -, hown, -, hfst⟩ := cl_ok hw
      obtain ⟨C', T', N'⟩ := w
      dsimp only at hty hnm hin hT hown hj hln hfst
      have hts := C.2.2.2.2.1
      have hK := C.2.2.2.2.2.2.1
      have hap := va_apart (own := ip_own q.1) hts hin (ip_ty ci) hty hnm hK hw
      obtain ⟨r', g1, cell, q1, q2, q3, q4⟩ := hat
      have hr : r' = (C', T', N') := Option.some.inj (g1.symm.trans hw)
      subst hr
      obtain ⟨hS, hfc, kC, hkC, hkind⟩ := hK.1 ci _ hw
      obtain ⟨cf, kf, fi, f, hi, hsl⟩ := hS j hj
      have hlay := hts _ (hin _ (u_in_lay hj))
      have hst := (u_facts hfc hkC (u_lays hts hin hj) hi).1
      obtain ⟨hn, hft⟩ := fit_ok (ad := (ip_ad G.size b zp)) hfit
      have hd9 := hty j hj
      have hlen : j < (fs.map (ip_v (ip_ad G.size b zp))).length := by rw [List.length_map]; exact hjl
      have fin : ∀ H' : Heap, H'[(ip_ad G.size b zp) a]? = some (cell.setSlot f.slot (ip_v (ip_ad G.size b zp) v)) → H'.size = H.size → (∀ z : Nat, z ≠ (ip_ad G.size b zp) a → H'[z]? = H[z]?) → W p l e R s mid args below meth c H' (locs ++ [⟨(ip_ad G.size b zp) a, f.slot⟩]) cells slots Q (F0 mid (pc + 3) ls (st'.map (ip_v (ip_ad G.size b zp)))) := by
        intro H' e1 e2 e3
        rw [hsl] at e1
        refine k H' _ cells slots ls (rep_set hR hx ha2 trivial ⟨_, hw, ?_⟩ e2 e3) (lo_add hlo ha2) hlr hc hs
        have hz : (List.map (ip_v (ip_ad G.size b zp)) (fs.set j v)) = (fs.map (ip_v (ip_ad G.size b zp))).set j (ip_v (ip_ad G.size b zp) v) := by rw [List.map_set]
        rw [hz]
        exact t_OB.to (V := updV (vp_V (fs.map (ip_v (ip_ad G.size b zp)))) j (ip_v (ip_ad G.size b zp) v)) ⟨_, e1, q2, q3, t_set q4 hap hj (ip_v (ip_ad G.size b zp) v)⟩ (fun i _ => vp_updV_set hlen (ip_v (ip_ad G.size b zp) v) i)
      by_cases hF : (T' j).2.2.2 = true
      · unfold u_lay at hlay
        rw [if_pos hF] at hlay
        have hF2 : (ip_T ci j).2.2.2 = true := by rw [← hT]; exact hF
        obtain ⟨hini, hcn⟩ : (q.2.1.name == "<init>") = true ∧ ci = q.1 := by
          rcases hfinal with z | z
          · rw [hF2] at z; cases z
          · exact z
        have hcf : mid.cls = cf := by
          obtain ⟨_, _, c', _, _, _, -, -, hf', -, -, -, hown2, -⟩ := Cond.laysFinal_spec hlay
          have e1 : c' = cf := by have := hi.symm.trans hf'; simp at this; exact this.1.symm
          have e2 : (T' j).1 = ip_own q.1 := by
            rw [← hcn, ← hown]
            exact hfst j hj
          rw [e2] at hown2
          rw [← e1]
          exact Option.some.inj (C.2.2.2.1.symm.trans hown2)
        have h6 := u_fits hfc hkC hkind (Or.inr hlay) hi hd9 hn hft
        exact W.putFinK C.1 C.2.1 C.2.2.2.1 (hts _ hln) hi hst hcf (by rw [C.2.2.2.2.2.1]; exact of_decide_eq_true hini) (by rw [q2]; exact h6) q1 q3 (by rw [hsl]; exact k2_hasslot (q4 j hj)) rfl rfl hd fin
      · unfold u_lay at hlay
        rw [if_neg hF] at hlay
        have h6 := u_store hfc hkC hkind hlay hi hd9 hn hft
        exact W.putK C.1 C.2.1 (f := f) ⟨C.2.2.2.1, hts _ hln, ⟨_, _, _, hi⟩, hst⟩ (by rw [q2]; exact h6) q1 q3 (by rw [hsl]; exact k2_hasslot (q4 j hj)) rfl rfl hd fin
    · cases h2
  · cases h
theorem sd_ldc2 {idx : Nat} (C : ip_cx p s mid args meth c G b zp L0 xs D ca q) (hd : decode q.2.2.1 pc = .ok (.ldc2_w idx, 3)) (h : (ip_lc q.1 idx).map (fun v => (.inl (pc + 3, L, .long v :: st, hp) : ip_A)) = some (.inl (pc', L', st', hp'))) (k : ip_W p l e R s mid args below meth c Q G b zp L0 xs D ca h0 s0 pc' L' st' hp') : ip_W p l e R s mid args below meth c Q G b zp L0 xs D ca h0 s0 pc L st hp := by
  obtain ⟨v, h1, h2⟩ := Option.map_eq_some_iff.mp h
  cases h2
  intro H locs cells slots ls hR hlo hlr hc hs
  exact lv_ldc2 C.1 C.2.1 C.2.2.2.1 (C.2.2.2.2.1 _ (lc_ok h1)) hd (k H locs cells slots ls hR hlo hlr hc hs)
end SND2
