/-! soundness: arrays, new cells, the static array, arraycopy, Object's constructor -/
def ip_lsN (t : Nat) : Option MethodName := match t with
  | 0 => some objectInit
  | 1 => some arraycopyName
  | 2 => some Lib.Math.max.name
  | 3 => some Lib.Math.min.name
  | _ => none
def ip_lsC (x : Nat × Nat × Nat × Nat) : Bool := match ip_lsN x.2.2.1 with
  | none => false
  | some y => decide (tables_1[x.2.2.2]? = some (.methodLink (ip_own x.1) x.2.1 y))
theorem ip_lsA : ip_lsL.all ip_lsC = true := by decide +kernel
theorem ls_ok {cn idx t : Nat} (h : ip_ls cn idx = some t) : ∃ y, ip_lsN t = some y ∧ Cond.methodLink (ip_own cn) idx y ∈ ip_ws := by
  unfold ip_ls at h
  obtain ⟨x, h1, rfl⟩ := Option.map_eq_some_iff.mp h
  have hm := List.mem_of_find?_eq_some h1
  have hc := List.find?_some h1
  simp only [Bool.and_eq_true, beq_iff_eq] at hc
  obtain ⟨rfl, rfl⟩ := hc
  have ha := List.all_eq_true.mp ip_lsA x hm
  unfold ip_lsC at ha
  split at ha
  · cases ha
  · rename_i y hy
    exact ⟨y, hy, mem_ws (of_decide_eq_true ha) rfl⟩
theorem w_oi1 : Cond.instanceMethod objectInit ∈ ip_ws := mem_ws (i := 20) (by decide +kernel) rfl
theorem w_oi2 : Cond.code objectInit ⟨#[0xb1]⟩ 1 none ∈ ip_ws := mem_ws (i := 21) (by decide +kernel) rfl
theorem w_ac1 : Cond.native arraycopyName ∈ ip_ws := mem_ws (i := 404) (by decide +kernel) rfl
theorem w_ac2 : Cond.static arraycopyName ∈ ip_ws := mem_ws (i := 403) (by decide +kernel) rfl
theorem w_ac3 : Cond.initialized "java/lang/System" ∈ ip_ws := mem_ws (i := 12) (by decide +kernel) rfl
theorem w_aI : Cond.arrayClass .int ∈ ip_ws := mem_ws (i := 59) (by decide +kernel) rfl
theorem w_aJ : Cond.arrayClass .long ∈ ip_ws := mem_ws (i := 60) (by decide +kernel) rfl
theorem w_aB : Cond.arrayClass .byte ∈ ip_ws := mem_ws (i := 309) (by decide +kernel) rfl
theorem w_aZ : Cond.arrayClass .boolean ∈ ip_ws := mem_ws (i := 905) (by decide +kernel) rfl
theorem w_gs : Cond.fieldLinkNest (ip_own 7) 167 RX8 "POPS" "[I" RX8 ∈ tables_1 := List.mem_of_getElem? (i := 452) (by decide +kernel)
theorem te_tys {ca : Nat → ClassId} {t ci : Nat} (h : ip_te t = some ci) : 3 < t ∧ t < 9 ∧ ci < 10 ∧ (ip_tys ca)[t]? = some (ca t, .object (ip_own ci)) ∧ FieldType.object (ip_own ci) ∈ ip_ovs := by
  unfold ip_te at h
  split at h
  · cases h; exact ⟨by decide, by decide, by decide, rfl, by decide⟩
  · cases h; exact ⟨by decide, by decide, by decide, rfl, by decide⟩
  · cases h; exact ⟨by decide, by decide, by decide, rfl, by decide⟩
  · cases h
theorem tys_ref {ca : Nat → ClassId} {t : Nat} (h1 : 3 < t) (h2 : t < 9) : ∃ ty, (ip_tys ca)[t]? = some (ca t, ty) ∧ ty.isReference = true := by
  match t, h1, h2 with
  | 4, _, _ => exact ⟨_, rfl, rfl⟩
  | 5, _, _ => exact ⟨_, rfl, rfl⟩
  | 6, _, _ => exact ⟨_, rfl, rfl⟩
  | 7, _, _ => exact ⟨_, rfl, rfl⟩
  | 8, _, _ => exact ⟨_, rfl, rfl⟩
theorem tys_any {ca : Nat → ClassId} {t : Nat} (h2 : t < 9) : ∃ ty, (ip_tys ca)[t]? = some (ca t, ty) := by
  match t, h2 with
  | 0, _ => exact ⟨_, rfl⟩
  | 1, _ => exact ⟨_, rfl⟩
  | 2, _ => exact ⟨_, rfl⟩
  | 3, _ => exact ⟨_, rfl⟩
  | 4, _ => exact ⟨_, rfl⟩
  | 5, _ => exact ⟨_, rfl⟩
  | 6, _ => exact ⟨_, rfl⟩
  | 7, _ => exact ⟨_, rfl⟩
  | 8, _ => exact ⟨_, rfl⟩
theorem cl_some {ci : Nat} (h : ci < 10) : ∃ r, ip_cl[ci]? = some r := ⟨_, List.getElem?_eq_getElem (show ci < ip_cl.length from h)⟩
theorem df_v {ad : Nat → Nat} {ci : Nat} {fs : List Value} (h : ip_df[ci]? = some fs) : fs.map (ip_v ad) = fs := by
  match ci, h with
  | 0, h => cases h; rfl
  | 1, h => cases h; rfl
  | 2, h => cases h; rfl
  | 3, h => cases h; rfl
  | 4, h => cases h; rfl
  | 5, h => cases h; rfl
  | 6, h => cases h; rfl
  | 7, h => cases h; rfl
  | 8, h => cases h; rfl
  | 9, h => cases h; rfl
  | n + 10, h => simp [ip_df] at h
section SND3
variable {p : Program} {l : Launch} {e : Env} {R : Room} {s : State} {mid : MethodId} {args : Array Value} {below : List Frame} {meth : Method} {c : Code} {Q : State → Prop} {G : Heap} {b zp L0 : Nat} {xs : Nat → Int32} {D : va_G} {ca : Nat → ClassId} {h0 s0 : Nat} {q : ip_I} {d pc len : Nat} {L L' : ip_L} {st st' : List Value} {hp hp' : ip_H} {pc' : Nat}
theorem ia_inv {a : Nat} {i v : Int32} (h : ip_ia hp a i = some v) : ∃ t n f, hp.2.2 a = some (.inl (t, n, .inl f)) ∧ (t = 1 ∨ t = 9) ∧ vp_in i n ∧ v = f i.toNatClampNeg := by
  unfold ip_ia at h
  split at h
  · rename_i t n f hx
    split at h
    · rename_i z
      cases h
      exact ⟨t, n, f, hx, z.1, in_ok z.2, rfl⟩
    · cases h
  · cases h
theorem ba_inv {a : Nat} {i v : Int32} (h : ip_ba hp a i = some v) : ∃ t n f, hp.2.2 a = some (.inl (t, n, .inl f)) ∧ (t = 0 ∨ t = 3) ∧ vp_in i n ∧ v = f i.toNatClampNeg := by
  unfold ip_ba at h
  split at h
  · rename_i t n f hx
    split at h
    · rename_i z
      cases h
      exact ⟨t, n, f, hx, z.1, in_ok z.2, rfl⟩
    · cases h
  · cases h
theorem ja_inv {a : Nat} {i : Int32} {v : Int64} (h : ip_ja hp a i = some v) : ∃ n f, hp.2.2 a = some (.inl (2, n, .inr (.inl f))) ∧ vp_in i n ∧ v = f i.toNatClampNeg := by
  unfold ip_ja at h
  split at h
  · rename_i t n f hx
    split at h
    · rename_i z
      obtain ⟨rfl, z⟩ := z
      cases h
      exact ⟨n, f, hx, in_ok z, rfl⟩
    · cases h
  · cases h
theorem aa_inv {a v : Nat} {i : Int32} (h : ip_aa hp a i = some v) : ∃ t n f, hp.2.2 a = some (.inl (t, n, .inr (.inr (.inr (.inr f))))) ∧ 3 < t ∧ t < 9 ∧ vp_in i n ∧ f i.toNatClampNeg = some v := by
  unfold ip_aa at h
  split at h
  · rename_i t n f hx
    split at h
    · rename_i z
      exact ⟨t, n, f, hx, z.1.1, z.1.2, in_ok z.2, h⟩
    · cases h
  · cases h
theorem is_inv {a : Nat} {i x : Int32} (h : ip_is hp a i x = some hp') : ∃ n f, hp.2.2 a = some (.inl (1, n, .inl f)) ∧ vp_in i n ∧ hp' = ip_set hp a (.inl (1, n, .inl (upd f i.toNatClampNeg x))) := by
  unfold ip_is at h
  split at h
  · rename_i t n f hx
    split at h
    · rename_i z
      obtain ⟨rfl, z⟩ := z
      cases h
      exact ⟨n, f, hx, in_ok z, rfl⟩
    · cases h
  · cases h
theorem js_inv {a : Nat} {i : Int32} {x : Int64} (h : ip_js hp a i x = some hp') : ∃ n f, hp.2.2 a = some (.inl (2, n, .inr (.inl f))) ∧ vp_in i n ∧ hp' = ip_set hp a (.inl (2, n, .inr (.inl (vp_updL f i.toNatClampNeg x)))) := by
  unfold ip_js at h
  split at h
  · rename_i t n f hx
    split at h
    · rename_i z
      obtain ⟨rfl, z⟩ := z
      cases h
      exact ⟨n, f, hx, in_ok z, rfl⟩
    · cases h
  · cases h
theorem bs_inv {a : Nat} {i x : Int32} (h : ip_bs hp a i x = some hp') : ∃ n f, vp_in i n ∧ ((hp.2.2 a = some (.inl (0, n, .inl f)) ∧ hp' = ip_set hp a (.inl (0, n, .inl (upd f i.toNatClampNeg (vp_nar .byte x))))) ∨ (hp.2.2 a = some (.inl (3, n, .inl f)) ∧ hp' = ip_set hp a (.inl (3, n, .inl (upd f i.toNatClampNeg (vp_nar .boolean x)))))) := by
  unfold ip_bs at h
  split at h
  · rename_i t n f hx
    split at h
    · rename_i z
      split at h
      · rename_i e
        subst e
        cases h
        exact ⟨n, f, in_ok z, Or.inl ⟨hx, rfl⟩⟩
      · split at h
        · rename_i e
          subst e
          cases h
          exact ⟨n, f, in_ok z, Or.inr ⟨hx, rfl⟩⟩
        · cases h
    · cases h
  · cases h
theorem isO_inv {a ci : Nat} (h : ip_isO hp a ci = true) : ∃ fs, hp.2.2 a = some (.inr (ci, fs)) := by
  unfold ip_isO at h
  split at h
  · rename_i c fs hx
    rw [beq_iff_eq] at h
    subst h
    exact ⟨fs, hx⟩
  · cases h
theorem as_inv {a v : Nat} {i : Int32} (h : ip_as hp a i v = some hp') : ∃ t n f ci fs, hp.2.2 a = some (.inl (t, n, .inr (.inr (.inr (.inr f))))) ∧ vp_in i n ∧ ip_te t = some ci ∧ hp.2.2 v = some (.inr (ci, fs)) ∧ hp' = ip_set hp a (.inl (t, n, .inr (.inr (.inr (.inr (va_up f i.toNatClampNeg (some v))))))) := by
  unfold ip_as at h
  split at h
  · rename_i t n f hx
    split at h
    · rename_i z
      split at h
      · rename_i ci hci
        split at h
        · rename_i ho
          cases h
          obtain ⟨fs, hv⟩ := isO_inv ho
          exact ⟨t, n, f, ci, fs, hx, in_ok z, hci, hv, rfl⟩
        · cases h
      · cases h
    · cases h
  · cases h
theorem sd_ia (C : ip_cx p s mid args meth c G b zp L0 xs D ca q) (hd : decode q.2.2.1 pc = .ok (.iaload, 1)) (h : ip_xia (pc + 1) L hp st = some (.inl (pc', L', st', hp'))) (k : ip_W p l e R s mid args below meth c Q G b zp L0 xs D ca h0 s0 pc' L' st' hp') : ip_W p l e R s mid args below meth c Q G b zp L0 xs D ca h0 s0 pc L st hp := by
  unfold ip_xia at h
  split at h
  · rename_i i a r
    obtain ⟨v, h3, h4⟩ := Option.map_eq_some_iff.mp h
    cases h4
    obtain ⟨t, n, f, hx, ht, hi, rfl⟩ := ia_inv h3
    intro H locs cells slots ls hR hlo hlr hc hs
    rcases ht with rfl | rfl
    · obtain ⟨-, -, hat⟩ := rep_own hR hx (fun y z => by cases z)
      exact va_iald (D := D) (cl := ip_cl) (tys := ip_tys ca) (ws := [((ip_ad G.size b zp) a, .inl (ca 1, n, .inl f))]) C.1 C.2.1 C.2.2.2.2.2.2.1 (one_P hat) 0 1 rfl rfl hi hd (k H locs cells slots ls hR hlo hlr hc hs)
    · obtain ⟨-, -, -, -, hX, hZ, hb1, hz1⟩ := C.2.2.2.2.2.2
      rcases (hR.2.2.2 a _ hx).2 with ⟨e1, e2⟩ | ⟨e1, e2⟩ | ⟨-, e2, -⟩
      · subst e1
        cases e2
        exact va_sld C.1 C.2.1 hX hb1 (Nat.not_le.mpr hb1) (rep_S hR hlo) hi hd (k H locs cells slots ls hR hlo hlr hc hs)
      · subst e1
        cases e2
        obtain ⟨cell, t1, t2, t3, t4, t5, t6, t7⟩ := hZ
        have hlt : i.toNatClampNeg < 16 := Nat.not_le.mp fun z => hi (Or.inr z)
        exact W.iald (a := zp) (v := .int (ip_pp i.toNatClampNeg)) C.1 C.2.1 (by rw [hR.2.2.1 zp hz1]; exact t1) t2 t3 (fun z => by
          rcases z with z | z
          · exact hi (Or.inl z)
          · omega) (t6 _ hlt) rfl rfl hd (k H locs cells slots ls hR hlo hlr hc hs)
      · exact absurd e2 (Nat.lt_irrefl 9)
  · cases h
theorem sd_ba (C : ip_cx p s mid args meth c G b zp L0 xs D ca q) (hd : decode q.2.2.1 pc = .ok (.baload, 1)) (h : ip_xba (pc + 1) L hp st = some (.inl (pc', L', st', hp'))) (k : ip_W p l e R s mid args below meth c Q G b zp L0 xs D ca h0 s0 pc' L' st' hp') : ip_W p l e R s mid args below meth c Q G b zp L0 xs D ca h0 s0 pc L st hp := by
  unfold ip_xba at h
  split at h
  · rename_i i a r
    obtain ⟨v, h3, h4⟩ := Option.map_eq_some_iff.mp h
    cases h4
    obtain ⟨t, n, f, hx, ht, hi, rfl⟩ := ba_inv h3
    intro H locs cells slots ls hR hlo hlr hc hs
    rcases ht with rfl | rfl
    · obtain ⟨-, -, hat⟩ := rep_own hR hx (fun y z => by cases z)
      exact va_bald (D := D) (cl := ip_cl) (tys := ip_tys ca) (ws := [((ip_ad G.size b zp) a, .inl (ca 0, n, .inl f))]) C.1 C.2.1 C.2.2.2.2.2.2.1 (one_P hat) 0 0 rfl rfl hi hd (k H locs cells slots ls hR hlo hlr hc hs)
    · obtain ⟨-, -, hat⟩ := rep_own hR hx (fun y z => by cases z)
      exact va_zald (D := D) (cl := ip_cl) (tys := ip_tys ca) (ws := [((ip_ad G.size b zp) a, .inl (ca 3, n, .inl f))]) C.1 C.2.1 C.2.2.2.2.2.2.1 (one_P hat) 0 3 rfl rfl hi hd (k H locs cells slots ls hR hlo hlr hc hs)
  · cases h
theorem sd_ja (C : ip_cx p s mid args meth c G b zp L0 xs D ca q) (hd : decode q.2.2.1 pc = .ok (.laload, 1)) (h : ip_xja (pc + 1) L hp st = some (.inl (pc', L', st', hp'))) (k : ip_W p l e R s mid args below meth c Q G b zp L0 xs D ca h0 s0 pc' L' st' hp') : ip_W p l e R s mid args below meth c Q G b zp L0 xs D ca h0 s0 pc L st hp := by
  unfold ip_xja at h
  split at h
  · rename_i i a r
    obtain ⟨v, h3, h4⟩ := Option.map_eq_some_iff.mp h
    cases h4
    obtain ⟨n, f, hx, hi, rfl⟩ := ja_inv h3
    intro H locs cells slots ls hR hlo hlr hc hs
    obtain ⟨-, -, hat⟩ := rep_own hR hx (fun y z => by cases z)
    exact va_lald (D := D) (cl := ip_cl) (tys := ip_tys ca) (ws := [((ip_ad G.size b zp) a, .inl (ca 2, n, .inr (.inl f)))]) C.1 C.2.1 C.2.2.2.2.2.2.1 (one_P hat) 0 2 rfl rfl hi hd (k H locs cells slots ls hR hlo hlr hc hs)
  · cases h
theorem sd_aa (C : ip_cx p s mid args meth c G b zp L0 xs D ca q) (hd : decode q.2.2.1 pc = .ok (.aaload, 1)) (h : ip_xaa (pc + 1) L hp st = some (.inl (pc', L', st', hp'))) (k : ip_W p l e R s mid args below meth c Q G b zp L0 xs D ca h0 s0 pc' L' st' hp') : ip_W p l e R s mid args below meth c Q G b zp L0 xs D ca h0 s0 pc L st hp := by
  unfold ip_xaa at h
  split at h
  · rename_i i a r
    obtain ⟨v, h3, h4⟩ := Option.map_eq_some_iff.mp h
    cases h4
    obtain ⟨t, n, f, hx, ht1, ht2, hi, hv⟩ := aa_inv h3
    intro H locs cells slots ls hR hlo hlr hc hs
    obtain ⟨-, -, hat⟩ := rep_own hR hx (fun y z => by cases z; exact Nat.lt_irrefl _ ht2)
    obtain ⟨ty, hty, href⟩ := tys_ref (ca := ca) ht1 ht2
    have hlt : i.toNatClampNeg < n := Nat.not_le.mp fun z => hi (Or.inr z)
    have hat : H[(ip_ad G.size b zp) a]? = some (vp_cell (ca t) (n, .inr (.inr (.inr (.inr (fun i => (f i).map (ip_ad G.size b zp))))))) := hat
    rw [vp_cell_q] at hat
    refine W.aald (v := ip_v (ip_ad G.size b zp) (.ref v)) (ty := ty) C.1 C.2.1 hat ((C.2.2.2.2.2.2.1.2 t _ hty).1 n (fun j => va_rf ((f j).map (ip_ad G.size b zp)))) href (fun z => by cases z) (by rw [arrV_size]; exact hi) ?_ rfl rfl hd (k H locs cells slots ls hR hlo hlr hc hs)
    rw [arrV_read _ _ hlt, hv]
    rfl
  · cases h
theorem sd_is (C : ip_cx p s mid args meth c G b zp L0 xs D ca q) (hd : decode q.2.2.1 pc = .ok (.iastore, 1)) (h : ip_xis (pc + 1) L hp st = some (.inl (pc', L', st', hp'))) (k : ip_W p l e R s mid args below meth c Q G b zp L0 xs D ca h0 s0 pc' L' st' hp') : ip_W p l e R s mid args below meth c Q G b zp L0 xs D ca h0 s0 pc L st hp := by
  unfold ip_xis at h
  split at h
  · rename_i x i a r
    obtain ⟨h9, h3, h4⟩ := Option.map_eq_some_iff.mp h
    cases h4
    obtain ⟨n, f, hx, hi, rfl⟩ := is_inv h3
    intro H locs cells slots ls hR hlo hlr hc hs
    obtain ⟨ha2, -, hat⟩ := rep_own hR hx (fun y z => by cases z)
    have hat : H[(ip_ad G.size b zp) a]? = some (arrV (ca 1) n (fun j => .int (f j))) := hat
    refine W.iast C.1 C.2.1 hat ((C.2.2.2.2.2.2.1.2 1 _ rfl).1 n (fun j => .int (f j))) (fun z => by cases z) (by rw [arrV_size]; exact hi) rfl rfl hd fun H1 e1 e2 e3 => ?_
    refine k H1 _ cells slots ls (rep_set hR hx ha2 (by show 1 < 9; decide) ?_ e2 e3) (lo_add hlo ha2) hlr hc hs
    show H1[(ip_ad G.size b zp) a]? = some (arrV (ca 1) n (fun j => .int (upd f i.toNatClampNeg x j)))
    rw [e1, arrV_store]
    congr 2
    funext z
    by_cases hz : z = i.toNatClampNeg
    · subst hz
      simp [updV, upd]
    · simp [updV, upd, hz]
  · cases h
theorem sd_js (C : ip_cx p s mid args meth c G b zp L0 xs D ca q) (hd : decode q.2.2.1 pc = .ok (.lastore, 1)) (h : ip_xjs (pc + 1) L hp st = some (.inl (pc', L', st', hp'))) (k : ip_W p l e R s mid args below meth c Q G b zp L0 xs D ca h0 s0 pc' L' st' hp') : ip_W p l e R s mid args below meth c Q G b zp L0 xs D ca h0 s0 pc L st hp := by
  unfold ip_xjs at h
  split at h
  · rename_i x i a r
    obtain ⟨h9, h3, h4⟩ := Option.map_eq_some_iff.mp h
    cases h4
    obtain ⟨n, f, hx, hi, rfl⟩ := js_inv h3
    intro H locs cells slots ls hR hlo hlr hc hs
    obtain ⟨ha2, -, hat⟩ := rep_own hR hx (fun y z => by cases z)
    have hat : H[(ip_ad G.size b zp) a]? = some (arrV (ca 2) n (fun j => .long (f j))) := hat
    refine W.last C.1 C.2.1 hat ((C.2.2.2.2.2.2.1.2 2 _ rfl).1 n (fun j => .long (f j))) (fun z => by cases z) (by rw [arrV_size]; exact hi) rfl rfl hd fun H1 e1 e2 e3 => ?_
    refine k H1 _ cells slots ls (rep_set hR hx ha2 (by show 2 < 9; decide) ?_ e2 e3) (lo_add hlo ha2) hlr hc hs
    show H1[(ip_ad G.size b zp) a]? = some (arrV (ca 2) n (fun j => .long (vp_updL f i.toNatClampNeg x j)))
    rw [e1, arrV_store]
    congr 2
    funext z
    by_cases hz : z = i.toNatClampNeg
    · subst hz
      simp [updV, vp_updL]
    · simp [updV, vp_updL, hz]
  · cases h
theorem sd_bs (C : ip_cx p s mid args meth c G b zp L0 xs D ca q) (hd : decode q.2.2.1 pc = .ok (.bastore, 1)) (h : ip_xbs (pc + 1) L hp st = some (.inl (pc', L', st', hp'))) (k : ip_W p l e R s mid args below meth c Q G b zp L0 xs D ca h0 s0 pc' L' st' hp') : ip_W p l e R s mid args below meth c Q G b zp L0 xs D ca h0 s0 pc L st hp := by
  unfold ip_xbs at h
  split at h
  · rename_i x i a r
    obtain ⟨h9, h3, h4⟩ := Option.map_eq_some_iff.mp h
    cases h4
    obtain ⟨n, f, hi, hcase⟩ := bs_inv h3
    intro H locs cells slots ls hR hlo hlr hc hs
    rcases hcase with ⟨hx, rfl⟩ | ⟨hx, rfl⟩
    · obtain ⟨ha2, -, hat⟩ := rep_own hR hx (fun y z => by cases z)
      have hat : H[(ip_ad G.size b zp) a]? = some (arrV (ca 0) n (fun j => .int (f j))) := hat
      refine W.bast C.1 C.2.1 hat ((C.2.2.2.2.2.2.1.2 0 _ rfl).1 n (fun j => .int (f j))) (fun z => by cases z) (by rw [arrV_size]; exact hi) rfl rfl hd fun H1 e1 e2 e3 => ?_
      refine k H1 _ cells slots ls (rep_set hR hx ha2 (by show 0 < 9; decide) ?_ e2 e3) (lo_add hlo ha2) hlr hc hs
      show H1[(ip_ad G.size b zp) a]? = some (arrV (ca 0) n (fun j => .int (upd f i.toNatClampNeg (vp_nar .byte x) j)))
      rw [e1, arrV_store]
      congr 2
      funext z
      by_cases hz : z = i.toNatClampNeg
      · subst hz
        simp [updV, upd, vp_nar]
        try rfl
      · simp [updV, upd, hz]
    · obtain ⟨ha2, -, hat⟩ := rep_own hR hx (fun y z => by cases z)
      have hat : H[(ip_ad G.size b zp) a]? = some (arrV (ca 3) n (fun j => .int (f j))) := hat
      refine W.zast C.1 C.2.1 hat ((C.2.2.2.2.2.2.1.2 3 _ rfl).1 n (fun j => .int (f j))) (fun z => by cases z) (by rw [arrV_size]; exact hi) rfl rfl hd fun H1 e1 e2 e3 => ?_
      refine k H1 _ cells slots ls (rep_set hR hx ha2 (by show 3 < 9; decide) ?_ e2 e3) (lo_add hlo ha2) hlr hc hs
      show H1[(ip_ad G.size b zp) a]? = some (arrV (ca 3) n (fun j => .int (upd f i.toNatClampNeg (vp_nar .boolean x) j)))
      rw [e1, arrV_store]
      congr 2
      funext z
      by_cases hz : z = i.toNatClampNeg
      · subst hz
        simp [updV, upd, vp_nar]
        try rfl
      · simp [updV, upd, hz]
  · cases h
theorem sd_as (C : ip_cx p s mid args meth c G b zp L0 xs D ca q) (hd : decode q.2.2.1 pc = .ok (.aastore, 1)) (h : ip_xas (pc + 1) L hp st = some (.inl (pc', L', st', hp'))) (k : ip_W p l e R s mid args below meth c Q G b zp L0 xs D ca h0 s0 pc' L' st' hp') : ip_W p l e R s mid args below meth c Q G b zp L0 xs D ca h0 s0 pc L st hp := by
  unfold ip_xas at h
  split at h
  · rename_i v i a r
    obtain ⟨h9, h3, h4⟩ := Option.map_eq_some_iff.mp h
    cases h4
    obtain ⟨t, n, f, ci, fs, hx, hi, hte, hv, rfl⟩ := as_inv h3
    intro H locs cells slots ls hR hlo hlr hc hs
    obtain ⟨ht1, ht2, hci, hty, -⟩ := te_tys (ca := ca) hte
    obtain ⟨ha2, -, hat⟩ := rep_own hR hx (fun y z => by cases z; exact Nat.lt_irrefl _ ht2)
    obtain ⟨-, -, hatv⟩ := rep_own hR hv (fun y z => by cases z)
    have hat : H[(ip_ad G.size b zp) a]? = some (vp_cell (ca t) (n, .inr (.inr (.inr (.inr (fun i => (f i).map (ip_ad G.size b zp))))))) := hat
    rw [vp_cell_q] at hat
    have hK := C.2.2.2.2.2.2.1
    obtain ⟨rr, hrr⟩ := cl_some hci
    obtain ⟨-, -, -, -, -, -, hown, -⟩ := cl_ok hrr
    obtain ⟨r', hr', cellV, g1, g2, g3, -⟩ := hatv
    have hcls := (hK.1 ci rr hrr).2
    obtain ⟨kA, comp, k1, k2, k3, -⟩ := (hK.2 t _ hty).2
    have hcomp : comp = D.1 ci := Option.some.inj (k3.symm.trans (by rw [← hown]; exact hcls.1))
    subst hcomp
    obtain ⟨kC, hkC, -⟩ := hcls.2
    have hlt : i.toNatClampNeg < n := Nat.not_le.mp fun z => hi (Or.inr z)
    have h0 : ¬ i < 0 := fun z => hi (Or.inl z)
    refine W.aast C.1 C.2.1 hat (fun z y => by cases y) (fun z => by cases z) k1 k2 rfl hkC ⟨h0, by rw [arrV_size]; exact hlt⟩ g1 (fun z y => by rw [g3] at y; cases y) (by rw [g2]; exact hkC) (by rw [g2]; exact va_assign hcls) rfl rfl hd fun H1 e1 e2 e3 => ?_
    refine k H1 _ cells slots ls (rep_set hR hx ha2 (show t < 9 from ht2) ?_ e2 e3) (lo_add hlo ha2) hlr hc hs
    show H1[(ip_ad G.size b zp) a]? = some (vp_cell (ca t) (n, .inr (.inr (.inr (.inr (fun j => (va_up f i.toNatClampNeg (some v) j).map (ip_ad G.size b zp)))))))
    rw [vp_cell_q, e1, arrV_store]
    congr 2
    funext z
    by_cases hz : z = i.toNatClampNeg
    · subst hz
      simp [updV, va_up, va_rf]
    · simp [updV, va_up, hz]
  · cases h
theorem sd_len (C : ip_cx p s mid args meth c G b zp L0 xs D ca q) (hd : decode q.2.2.1 pc = .ok (.arraylength, 1)) (h : ip_xlen (pc + 1) L hp st = some (.inl (pc', L', st', hp'))) (k : ip_W p l e R s mid args below meth c Q G b zp L0 xs D ca h0 s0 pc' L' st' hp') : ip_W p l e R s mid args below meth c Q G b zp L0 xs D ca h0 s0 pc L st hp := by
  unfold ip_xlen at h
  split at h
  · rename_i a r
    obtain ⟨n, h3, h4⟩ := Option.map_eq_some_iff.mp h
    cases h4
    unfold ip_len at h3
    split at h3
    · rename_i t n' y hx
      cases h3
      intro H locs cells slots ls hR hlo hlr hc hs
      obtain ⟨-, -, -, -, hX, hZ, hb1, hz1⟩ := id C.2.2.2.2.2.2
      rcases (hR.2.2.2 a _ hx).2 with ⟨e1, e2⟩ | ⟨e1, e2⟩ | ⟨h2, hok, -⟩
      · subst e1
        cases e2
        exact va_slen C.1 C.2.1 hX hb1 (Nat.not_le.mpr hb1) (rep_S hR hlo) hd (k H locs cells slots ls hR hlo hlr hc hs)
      · subst e1
        cases e2
        obtain ⟨cell, t1, t2, t3, t4, t5, t6, t7⟩ := hZ
        exact W.alen (a := zp) (n := Int32.ofNat 16) C.1 C.2.1 (by rw [hR.2.2.1 zp hz1]; exact t1) t2 t5 rfl rfl hd (k H locs cells slots ls hR hlo hlr hc hs)
      · have ht : t < 9 := hok
        obtain ⟨-, -, hat⟩ := rep_own hR hx (fun y z => by cases z; exact Nat.lt_irrefl _ ht)
        obtain ⟨ty, hty⟩ := tys_any (ca := ca) ht
        exact va_alen (D := D) (cl := ip_cl) (tys := ip_tys ca) (ws := [((ip_ad G.size b zp) a, ip_e (ip_ad G.size b zp) ca (.inl (t, n, y)))]) C.1 C.2.1 C.2.2.2.2.2.2.1 (one_P hat) 0 t rfl hty rfl hd (k H locs cells slots ls hR hlo hlr hc hs)
    · cases h3
  · cases h
theorem sd_gs {idx : Nat} (C : ip_cx p s mid args meth c G b zp L0 xs D ca q) (hd : decode q.2.2.1 pc = .ok (.getstatic idx, 3)) (h : (if ip_lg q.1 idx = true then (some (.inl (pc + 3, L, .ref 1 :: st, hp)) : Option ip_A) else none) = some (.inl (pc', L', st', hp'))) (k : ip_W p l e R s mid args below meth c Q G b zp L0 xs D ca h0 s0 pc' L' st' hp') : ip_W p l e R s mid args below meth c Q G b zp L0 xs D ca h0 s0 pc L st hp := by
  split at h
  · rename_i hg
    cases h
    have hg2 : q.1 = 7 ∧ idx = 167 := by simpa [ip_lg, ip_lgL] using hg
    obtain ⟨hq, rfl⟩ := hg2
    intro H locs cells slots ls hR hlo hlr hc hs
    obtain ⟨-, hN, -, hZ, -⟩ := id C.2.2.2.2.2.2
    obtain ⟨cf, kf, fi, f, a, cell, h1, h2, h3, h4, h5, h6, h7, h8⟩ := hZ
    have hl : (Cond.fieldLinkNest (ip_own q.1) 167 RX8 "POPS" "[I" RX8).before args s = true := by rw [hq]; exact va_Nw.use rfl (hN _ w_gs rfl)
    exact va_WgetsN C.1 C.2.1 C.2.2.2.1 hl h1 h2 h3 h4 (by rw [hR.2.2.1 a (Array.getElem?_eq_some_iff.mp h5).1]; exact h5) (fun z => by rw [z] at h6; cases h6) h7 rfl hd (k H locs cells slots ls hR hlo hlr hc hs)
  · cases h
theorem sd_nw {idx : Nat} (C : ip_cx p s mid args meth c G b zp L0 xs D ca q) (hd : decode q.2.2.1 pc = .ok (.new idx, 3)) (h : ip_xnw q.1 idx (pc + 3) L hp st = some (.inl (pc', L', st', hp'))) (hC : hp'.1 ≤ R.cells + h0) (hS : hp'.2.1 ≤ R.slots + s0) (k : ip_W p l e R s mid args below meth c Q G b zp L0 xs D ca h0 s0 pc' L' st' hp') : ip_W p l e R s mid args below meth c Q G b zp L0 xs D ca h0 s0 pc L st hp := by
  unfold ip_xnw at h
  obtain ⟨ci, h1, h2⟩ := Option.bind_eq_some_iff.mp h
  obtain ⟨fs, h3, h4⟩ := Option.map_eq_some_iff.mp h2
  cases h4
  obtain ⟨hci, hln⟩ := ln_ok h1
  obtain ⟨r, hr⟩ := cl_some hci
  obtain ⟨hty, hnm, hin, hT, hins, hini, hown, hdf, -⟩ := cl_ok hr
  obtain ⟨hfl, hfd⟩ := hdf fs h3
  intro H locs cells slots ls hR hlo hlr hc hs
  have hts := C.2.2.2.2.1
  have hKn := C.2.2.2.2.2.2.1.1 ci r hr
  have hC : hp.1 + 1 ≤ R.cells + h0 := hC
  have hS : hp.2.1 + fs.length ≤ R.slots + s0 := hS
  refine W.newcK (n := r.2.2) C.1 C.2.1 C.2.2.2.1 (hts _ hln) (by rw [← hown]; exact hts _ hins) (by rw [← hown]; exact hts _ hini) rfl hd (by omega) (by omega) (by rw [← hown]; exact hKn.2.1) rfl fun H1 kC hkC e1 z1 o1 => ?_
  have kk := k H1 locs (cells + 1) (slots + r.2.2) ls (rep_new hR z1 o1 trivial ⟨r, hr, ?_⟩) hlo hlr (by show cells + 1 + h0 = hp.1 + 1; omega) (by show slots + r.2.2 + s0 = hp.2.1 + fs.length; omega)
  · have ev : ip_v (ip_ad G.size b zp) (.ref hp.1) = .ref H.size := by show Value.ref _ = _; rw [ad_new hR]
    rw [List.map_cons, ev] at kk
    exact kk
  · rw [df_v h3]
    exact (u_born (ip_ty ci) hts hin hKn hkC e1 hty).to hfd
theorem na_one {H : Heap} {locs : List Loc} {cells slots : Nat} {ls : Array Slot} {atype : ArrayType} {ty : FieldType} {t : Nat} {n : Int32} {z : (Nat → Int32) ⊕ (Nat → Int64) ⊕ (Nat → UInt32) ⊕ (Nat → UInt64) ⊕ (Nat → Option Nat)} {r : List Value} (C : ip_cx p s mid args meth c G b zp L0 xs D ca q) (hd : decode q.2.2.1 pc = .ok (.newarray atype, 2)) (hty : newarray.typeOf atype = ty) (harr : Cond.arrayClass ty ∈ ip_ws) (ht : t < 9) (hRA : s.vm.findClass ("[" ++ ty.toString) = some (ca t)) (hcell : ∀ m : Nat, ip_e (ip_ad G.size b zp) ca (.inl (t, m, z)) = .inl (ca t, m, z)) (hv : ∀ (cA : ClassId) (m : Nat), vp_cell cA (m, z) = arrV cA m (fun _ => defaultValue ty)) (hby : componentBytes ty ≤ 8) (hn : ¬ n < 0) (h8 : n.toNatClampNeg * 8 ≤ 536870912)
    (hR : ip_rep G b zp L0 xs D ca hp H) (hlo : ∀ x ∈ locs, G.size ≤ x.base) (hlr : ip_lr (ip_ad G.size b zp) ls c.maxLocals L) (hc : cells + h0 = hp.1) (hs : slots + s0 = hp.2.1) (hC : hp.1 + 1 ≤ R.cells + h0) (hS : hp.2.1 + n.toNatClampNeg ≤ R.slots + s0) (k : ip_W p l e R s mid args below meth c Q G b zp L0 xs D ca h0 s0 (pc + 2) L (.ref hp.1 :: r) (ip_new hp n.toNatClampNeg (.inl (t, n.toNatClampNeg, z)))) : W p l e R s mid args below meth c H locs cells slots Q (F0 mid pc ls ((.int n :: r).map (ip_v (ip_ad G.size b zp)))) := by
  subst hty
  refine va_newaK C.1 C.2.1 (C.2.2.2.2.1 _ harr) rfl hd rfl hn rfl (Nat.le_trans (Nat.mul_le_mul_left _ hby) h8) (by omega) (by omega) rfl fun H1 cA e1 z1 o1 hAr hNm => ?_
  have hca : cA = ca t := Option.some.inj (hNm.symm.trans hRA)
  subst hca
  have kk := k H1 locs (cells + 1) (slots + n.toNatClampNeg) ls (rep_new hR z1 o1 ht ?_) hlo hlr (by show cells + 1 + h0 = hp.1 + 1; omega) (by show slots + n.toNatClampNeg + s0 = hp.2.1 + n.toNatClampNeg; omega)
  · have ev : ip_v (ip_ad G.size b zp) (.ref hp.1) = .ref H.size := by show Value.ref _ = _; rw [ad_new hR]
    rw [List.map_cons, ev] at kk
    exact kk
  · rw [hcell]
    show H1[H.size]? = some (vp_cell (ca t) (n.toNatClampNeg, z))
    rw [hv]
    exact e1
theorem sd_na {atype : ArrayType} (C : ip_cx p s mid args meth c G b zp L0 xs D ca q) (hd : decode q.2.2.1 pc = .ok (.newarray atype, 2)) (h : ip_xna atype (pc + 2) L hp st = some (.inl (pc', L', st', hp'))) (hC : hp'.1 ≤ R.cells + h0) (hS : hp'.2.1 ≤ R.slots + s0) (k : ip_W p l e R s mid args below meth c Q G b zp L0 xs D ca h0 s0 pc' L' st' hp') : ip_W p l e R s mid args below meth c Q G b zp L0 xs D ca h0 s0 pc L st hp := by
  unfold ip_xna at h
  split at h
  · rename_i n r
    obtain ⟨x, h1, h2⟩ := Option.bind_eq_some_iff.mp h
    split at h2
    · rename_i hcond
      cases h2
      intro H locs cells slots ls hR hlo hlr hc hs
      have hK := C.2.2.2.2.2.2.1.2
      unfold ip_na at h1
      split at h1
      · cases h1
        exact na_one C hd rfl w_aZ (by decide) (hK 3 _ rfl).2 (fun _ => rfl) (fun _ _ => rfl) (by decide) hcond.1 hcond.2 hR hlo hlr hc hs hC hS k
      · cases h1
        exact na_one C hd rfl w_aB (by decide) (hK 0 _ rfl).2 (fun _ => rfl) (fun _ _ => rfl) (by decide) hcond.1 hcond.2 hR hlo hlr hc hs hC hS k
      · cases h1
        exact na_one C hd rfl w_aI (by decide) (hK 1 _ rfl).2 (fun _ => rfl) (fun _ _ => rfl) (by decide) hcond.1 hcond.2 hR hlo hlr hc hs hC hS k
      · cases h1
        exact na_one C hd rfl w_aJ (by decide) (hK 2 _ rfl).2 (fun _ => rfl) (fun _ _ => rfl) (by decide) hcond.1 hcond.2 hR hlo hlr hc hs hC hS k
      · cases h1
    · cases h2
  · cases h
theorem sd_an {idx : Nat} (C : ip_cx p s mid args meth c G b zp L0 xs D ca q) (hd : decode q.2.2.1 pc = .ok (.anewarray idx, 3)) (h : ip_xan q.1 idx (pc + 3) L hp st = some (.inl (pc', L', st', hp'))) (hC : hp'.1 ≤ R.cells + h0) (hS : hp'.2.1 ≤ R.slots + s0) (k : ip_W p l e R s mid args below meth c Q G b zp L0 xs D ca h0 s0 pc' L' st' hp') : ip_W p l e R s mid args below meth c Q G b zp L0 xs D ca h0 s0 pc L st hp := by
  unfold ip_xan at h
  split at h
  · rename_i n r
    obtain ⟨t, h1, h2⟩ := Option.bind_eq_some_iff.mp h
    split at h2
    · rename_i hcond
      obtain ⟨hn, h8⟩ := hcond
      cases h2
      obtain ⟨ci, hte, hln⟩ := la_ok h1
      obtain ⟨ht1, ht2, hci, hty, hov⟩ := te_tys (ca := ca) hte
      intro H locs cells slots ls hR hlo hlr hc hs
      have hC : hp.1 + 1 ≤ R.cells + h0 := hC
      have hS : hp.2.1 + n.toNatClampNeg ≤ R.slots + s0 := hS
      obtain ⟨kA', comp', -, -, -, hRA⟩ := (C.2.2.2.2.2.2.1.2 t _ hty).2
      refine W.anew (C := ip_own ci) C.1 C.2.1 C.2.2.2.1 (C.2.2.2.2.1 _ hln) (C.2.2.2.2.2.2.2.2.1 _ hov) rfl hd rfl hn (by omega) (by omega) (by omega) fun cA kA comp f1 f2 f3 f4 => ?_
      have hca : cA = ca t := Option.some.inj (f1.symm.trans hRA)
      subst hca
      generalize hH1 : H.push ({ cls := ca t, slots := Array.replicate n.toNatClampNeg .null, vm := .none } : Cell) = H1
      have z1 : H1.size = H.size + 1 := by rw [← hH1, Array.size_push]
      have e1 : H1[H.size]? = some (arrV (ca t) n.toNatClampNeg (fun _ => .null)) := by rw [← hH1, Array.getElem?_push_size, ← arrV_new]
      have o1 : ∀ z : Nat, z < H.size → H1[z]? = H[z]? := fun z hz => by rw [← hH1, Array.getElem?_push, if_neg (Nat.ne_of_lt hz)]
      have kk := k H1 locs (cells + 1) (slots + n.toNatClampNeg) ls (rep_new hR z1 o1 ht2 ?_) hlo hlr (by show cells + 1 + h0 = hp.1 + 1; omega) (by show slots + n.toNatClampNeg + s0 = hp.2.1 + n.toNatClampNeg; omega)
      · have ev : ip_v (ip_ad G.size b zp) (.ref hp.1) = .ref H.size := by show Value.ref _ = _; rw [ad_new hR]
        rw [List.map_cons, ev] at kk
        exact kk
      · show H1[H.size]? = some (vp_cell (ca t) (n.toNatClampNeg, .inr (.inr (.inr (.inr (fun i => ((fun _ => none : Nat → Option Nat) i).map (ip_ad G.size b zp)))))))
        rw [vp_cell_q]
        exact e1
    · cases h2
  · cases h
end SND3
