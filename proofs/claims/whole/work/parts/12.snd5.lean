/-! soundness: arraycopy, Math, Object's constructor; each instruction that isn't a call or a return -/
theorem w_mx1 : Cond.static Lib.Math.max.name ∈ ip_ws := mem_ws (i := 430) (by decide +kernel) rfl
set_option maxRecDepth 20000 in
theorem w_mx2 : Cond.code Lib.Math.max.name Lib.Math.max.code 2 (some .int) ∈ ip_ws := mem_ws (i := 431) (by decide +kernel) rfl
theorem w_mn1 : Cond.static Lib.Math.min.name ∈ ip_ws := mem_ws (i := 629) (by decide +kernel) rfl
set_option maxRecDepth 20000 in
theorem w_mn2 : Cond.code Lib.Math.min.name Lib.Math.min.code 2 (some .int) ∈ ip_ws := mem_ws (i := 630) (by decide +kernel) rfl
theorem w_mth : Cond.initialized "java/lang/Math" ∈ ip_ws := mem_ws (i := 13) (by decide +kernel) rfl
theorem rs_map (ad : Nat → Nat) (r : List Value) : ((r.map (ip_v ad)).map fun v => v.category) = r.map fun v => v.category := by
  rw [List.map_map]
  apply List.map_congr_left
  intro v _
  exact ip_v_cat ad v
theorem rs_ok {ad : Nat → Nat} {r : List Value} (h : ip_rs r = true) : ((r.map (ip_v ad)).map fun v => v.category).sum ≤ 8 := by
  rw [rs_map]
  exact Nat.le_of_ble_eq_true h
section SND5
variable {p : Program} {l : Launch} {e : Env} {R : Room} {s : State} {mid : MethodId} {args : Array Value} {below : List Frame} {meth : Method} {c : Code} {Q : State → Prop} {G : Heap} {b zp L0 : Nat} {xs : Nat → Int32} {D : va_G} {ca : Nat → ClassId} {h0 s0 : Nat} {q : ip_I} {d pc len : Nat} {L L' : ip_L} {st st' : List Value} {hp hp' : ip_H} {pc' : Nat}
theorem inv_inl {x : Nat × Nat × Nat} {y : Nat × ip_L × List Value × ip_H} (h : ip_inv hp x st = some (.inl y)) : False := by
  unfold ip_inv at h
  split at h
  · cases h
  · split at h
    · split at h <;> cases h
    · split at h
      · split at h <;> cases h
      · cases h
theorem cp_inv {a0 a1 : Nat} {sp dp n : Int32} (h : ip_cp hp a0 sp a1 dp n = some hp') : ∃ n0 n1 f g, hp.2.2 a0 = some (.inl (2, n0, .inr (.inl f))) ∧ hp.2.2 a1 = some (.inl (2, n1, .inr (.inl g))) ∧ ¬ sp < 0 ∧ ¬ dp < 0 ∧ ¬ n < 0 ∧ sp.toNatClampNeg + n.toNatClampNeg ≤ n0 ∧ dp.toNatClampNeg + n.toNatClampNeg ≤ n1 ∧ hp' = ip_set hp a1 (.inl (2, n1, .inr (.inl (va_cpy f g sp.toNatClampNeg dp.toNatClampNeg n.toNatClampNeg)))) := by
  unfold ip_cp at h
  split at h
  · rename_i t0 n0 f t1 n1 g h0 h1
    split at h
    · rename_i z
      obtain ⟨rfl, rfl, z1, z2, z3, z4, z5⟩ := z
      cases h
      exact ⟨n0, n1, f, g, h0, h1, z1, z2, z3, z4, z5, rfl⟩
    · cases h
  · cases h
theorem sd_cp {idx : Nat} (C : ip_cx p s mid args meth c G b zp L0 xs D ca q) (hd : decode q.2.2.1 pc = .ok (.invokestatic idx, 3)) (hl : ip_ls q.1 idx = some 1) (h : ip_xcp d (pc + 3) L hp st = some (.inl (pc', L', st', hp'))) (hdf : d ≤ R.frames) (hdl : 60 * d ≤ R.locals) (k : ip_W p l e R s mid args below meth c Q G b zp L0 xs D ca h0 s0 pc' L' st' hp') : ip_W p l e R s mid args below meth c Q G b zp L0 xs D ca h0 s0 pc L st hp := by
  unfold ip_xcp at h
  split at h
  · rename_i n dp a1 sp a0 r
    split at h
    · rename_i hcond
      obtain ⟨hd0, hrs⟩ := hcond
      obtain ⟨h9, h3, h4⟩ := Option.map_eq_some_iff.mp h
      cases h4
      obtain ⟨n0, n1, f, g, hx0, hx1, h1, h2, h5, h6, h7, rfl⟩ := cp_inv h3
      obtain ⟨y, hy, hln⟩ := ls_ok hl
      cases hy
      intro H locs cells slots ls hR hlo hlr hc hs
      obtain ⟨-, -, hat0⟩ := rep_own hR hx0 (fun y z => by cases z)
      obtain ⟨ha2, -, hat1⟩ := rep_own hR hx1 (fun y z => by cases z)
      have hc0 : H[(ip_ad G.size b zp) a0]? = some (vp_cell (ca 2) (n0, .inr (.inl f))) := hat0
      have hc1 : H[(ip_ad G.size b zp) a1]? = some (vp_cell (ca 2) (n1, .inr (.inl g))) := hat1
      have hts := C.2.2.2.2.1
      have hK := C.2.2.2.2.2.2.1
      have nn : ∀ z : Int32, ¬ z < 0 → z.toInt = (z.toNatClampNeg : Int) := by
        intro z hz
        have hz0 : (0 : Int) ≤ z.toInt := by
          have := Int32.not_lt.mp hz
          simpa using Int32.le_iff_toInt_le.mp this
        show z.toInt = ((z.toInt.toNat : Nat) : Int)
        omega
      intro T hT X
      obtain ⟨-, k0, hk0, cm0, hkk0⟩ := (hK.2 2 _ rfl).1 n0 (fun j => .long (f j))
      obtain ⟨-, k1, hk1, cm1, hkk1⟩ := (hK.2 2 _ rfl).1 n1 (fun j => .long (g j))
      have hsum := rs_ok (ad := (ip_ad G.size b zp)) hrs
      have hnf : nativeFrameWords "java/lang/System" "arraycopy" 5 = 7 := by decide +kernel
      obtain ⟨vm', X', step⟩ := X.arraycopy C.1 C.2.2.2.1 (hts _ hln) (hts _ w_ac1) (hts _ w_ac2) (hts _ w_ac3) (src := (ip_ad G.size b zp) a0) (dst := (ip_ad G.size b zp) a1) (cs := vp_cell (ca 2) (n0, .inr (.inl f))) (cd := vp_cell (ca 2) (n1, .inr (.inl g))) (srcPos := sp) (destPos := dp) (n := n) (by rw [hT]; exact hc0) (by rw [hT]; exact hc1)
        (fun _ h => by cases h) (fun _ h => by cases h) (fun h => by cases h) (fun h => by cases h) hk0 hk1 hkk0 hkk1 (by simp [refKind]) h1 h2 h5
        (by rw [nn sp h1, nn n h5]; show ¬ _ > ((arrV (ca 2) n0 (fun j => .long (f j))).slots.size : Int); rw [arrV_size]; omega)
        (by rw [nn dp h2, nn n h5]; show ¬ _ > ((arrV (ca 2) n1 (fun j => .long (g j))).slots.size : Int); rw [arrV_size]; omega)
        (fun vm₁ _ i hi => by
          have e : (vp_cell (ca 2) (n0, .inr (.inl f))).slots.getD (sp.toNatClampNeg + i) .null = .long (f (sp.toNatClampNeg + i)) := by
            show (arrV (ca 2) n0 (fun j => .long (f j))).slots.getD _ _ = _
            rw [Array.getD_eq_getD_getElem?, arrV_read _ _ (by omega)]
            rfl
          refine ⟨?_, ?_⟩
          · rw [e]
            rfl
          · rw [e]
            exact trivial)
        (g := F0 mid pc ls (.int n :: .int dp :: .ref ((ip_ad G.size b zp) a1) :: .int sp :: .ref ((ip_ad G.size b zp) a0) :: st'.map (ip_v (ip_ad G.size b zp)))) rfl (by rw [← hlr.2.1]) (rest := st'.map (ip_v (ip_ad G.size b zp))) rfl (by rw [C.2.1]; exact hd) (by omega) (by show 2 * 0 + _ + _ ≤ _; rw [hnf]; omega)
      have e1 : copied (vp_cell (ca 2) (n0, .inr (.inl f))) (vp_cell (ca 2) (n1, .inr (.inl g))) sp dp n = vp_cell (ca 2) (n1, .inr (.inl (va_cpy f g sp.toNatClampNeg dp.toNatClampNeg n.toNatClampNeg))) := va_copied (fun z => .long z) (ca 2) (ca 2) f g h6
      rw [e1] at X' step
      have hl9 : (ip_ad G.size b zp) a1 < H.size := (Array.getElem?_eq_some_iff.mp hc1).1
      have hheap : ((T.setVm vm').setCell ((ip_ad G.size b zp) a1) (vp_cell (ca 2) (n1, .inr (.inl (va_cpy f g sp.toNatClampNeg dp.toNatClampNeg n.toNatClampNeg))))).heap = H.setIfInBounds ((ip_ad G.size b zp) a1) (vp_cell (ca 2) (n1, .inr (.inl (va_cpy f g sp.toNatClampNeg dp.toNatClampNeg n.toNatClampNeg)))) := by rw [← hT]; rfl
      have oq : ∀ z : Nat, z ≠ (ip_ad G.size b zp) a1 → (H.setIfInBounds ((ip_ad G.size b zp) a1) (vp_cell (ca 2) (n1, .inr (.inl (va_cpy f g sp.toNatClampNeg dp.toNatClampNeg n.toNatClampNeg)))))[z]? = H[z]? := fun z hz => by simp [Array.getElem?_setIfInBounds, Ne.symm hz]
      have rr := rep_set (y := .inl (2, n1, .inr (.inl (va_cpy f g sp.toNatClampNeg dp.toNatClampNeg n.toNatClampNeg)))) hR hx1 ha2 (by show 2 < 9; decide) (show (H.setIfInBounds ((ip_ad G.size b zp) a1) _)[(ip_ad G.size b zp) a1]? = some _ by simp [Array.getElem?_setIfInBounds, hl9]) (by simp) oq
      obtain ⟨t, a9, b9⟩ := k _ _ cells slots ls rr (fun x hx => by
          rcases List.mem_append.mp hx with h | h
          · exact hlo x h
          · obtain ⟨z, -, hz⟩ := List.mem_map.mp h
            rw [← hz]
            show G.size ≤ (ip_ad G.size b zp) a1
            rw [ad_own ha2]
            omega) hlr hc hs _ hheap X'
      exact ⟨t, step t a9, b9⟩
    · cases h
  · cases h
theorem sd_max {idx : Nat} (C : ip_cx p s mid args meth c G b zp L0 xs D ca q) (hd : decode q.2.2.1 pc = .ok (.invokestatic idx, 3)) (hl : ip_ls q.1 idx = some 2) (h : ip_xmm (fun x y => if x < y then y else x) d (pc + 3) L hp st = some (.inl (pc', L', st', hp'))) (hdf : d ≤ R.frames) (hdl : 60 * d ≤ R.locals) (hC : hp'.1 ≤ R.cells + h0) (hS : hp'.2.1 ≤ R.slots + s0) (k : ip_W p l e R s mid args below meth c Q G b zp L0 xs D ca h0 s0 pc' L' st' hp') : ip_W p l e R s mid args below meth c Q G b zp L0 xs D ca h0 s0 pc L st hp := by
  unfold ip_xmm at h
  split at h
  · rename_i y x r
    split at h
    · rename_i hcond
      obtain ⟨hd0, hrs⟩ := hcond
      cases h
      obtain ⟨y9, hy, hln⟩ := ls_ok hl
      cases hy
      intro H locs cells slots ls hR hlo hlr hc hs
      have hts := C.2.2.2.2.1
      have hsum := rs_ok (ad := (ip_ad G.size b zp)) hrs
      exact va_mmax C.1 C.2.1 hlr.2.1.symm C.2.2.2.1 (hts _ hln) (hts _ w_mx1) (hts _ w_mth) (hts _ w_mx2) (by omega) (by omega) (by omega) (by omega) hd (k H locs cells slots ls hR hlo hlr hc hs)
    · cases h
  · cases h
theorem sd_min {idx : Nat} (C : ip_cx p s mid args meth c G b zp L0 xs D ca q) (hd : decode q.2.2.1 pc = .ok (.invokestatic idx, 3)) (hl : ip_ls q.1 idx = some 3) (h : ip_xmm (fun x y => if y < x then y else x) d (pc + 3) L hp st = some (.inl (pc', L', st', hp'))) (hdf : d ≤ R.frames) (hdl : 60 * d ≤ R.locals) (hC : hp'.1 ≤ R.cells + h0) (hS : hp'.2.1 ≤ R.slots + s0) (k : ip_W p l e R s mid args below meth c Q G b zp L0 xs D ca h0 s0 pc' L' st' hp') : ip_W p l e R s mid args below meth c Q G b zp L0 xs D ca h0 s0 pc L st hp := by
  unfold ip_xmm at h
  split at h
  · rename_i y x r
    split at h
    · rename_i hcond
      obtain ⟨hd0, hrs⟩ := hcond
      cases h
      obtain ⟨y9, hy, hln⟩ := ls_ok hl
      cases hy
      intro H locs cells slots ls hR hlo hlr hc hs
      have hts := C.2.2.2.2.1
      have hsum := rs_ok (ad := (ip_ad G.size b zp)) hrs
      exact va_mmin C.1 C.2.1 hlr.2.1.symm C.2.2.2.1 (hts _ hln) (hts _ w_mn1) (hts _ w_mth) (hts _ w_mn2) (by omega) (by omega) (by omega) (by omega) hd (k H locs cells slots ls hR hlo hlr hc hs)
    · cases h
  · cases h
theorem sd_oi {idx : Nat} (C : ip_cx p s mid args meth c G b zp L0 xs D ca q) (hd : decode q.2.2.1 pc = .ok (.invokespecial idx, 3)) (hl : ip_ls q.1 idx = some 0) (h : ip_xoi d (pc + 3) L hp st = some (.inl (pc', L', st', hp'))) (hdf : d ≤ R.frames) (hdl : 60 * d ≤ R.locals) (k : ip_W p l e R s mid args below meth c Q G b zp L0 xs D ca h0 s0 pc' L' st' hp') : ip_W p l e R s mid args below meth c Q G b zp L0 xs D ca h0 s0 pc L st hp := by
  unfold ip_xoi at h
  split at h
  · rename_i a r
    split at h
    · rename_i hcond
      obtain ⟨hd0, hrs⟩ := hcond
      cases h
      obtain ⟨y9, hy, hln⟩ := ls_ok hl
      cases hy
      intro H locs cells slots ls hR hlo hlr hc hs
      have hts := C.2.2.2.2.1
      have hsum := rs_ok (ad := (ip_ad G.size b zp)) hrs
      exact W.objInit C.1 C.2.1 C.2.2.2.1 (hts _ hln) (hts _ w_oi1) (hts _ w_oi2) rfl hlr.2.1 rfl hd (by omega) (by show 2 * 0 + _ + _ ≤ _; omega) (k H locs cells slots ls hR hlo hlr hc hs)
    · cases h
  · cases h
end SND5
