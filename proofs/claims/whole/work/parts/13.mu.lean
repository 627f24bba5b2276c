/-! soundness: new T[n][m] (over the library's laws of multianewarray) -/
theorem mu_outer (c : ClassId) (N h0 : Nat) : ∀ i : Nat, Jvm.Free.Multi.outerC c N h0 i = arrV c N (fun j => va_rf (if j < i then some (h0 + 1 + j) else none))
  | 0 => by
    show ({ cls := c, slots := Array.replicate N .null, vm := .none } : Cell) = _
    rw [arrV_new]
    refine congrArg (arrV c N) (funext fun j => ?_)
    simp [va_rf]
  | i + 1 => by
    show (Jvm.Free.Multi.outerC c N h0 i).setSlot i (.ref (h0 + 1 + i)) = _
    rw [mu_outer c N h0 i, arrV_store]
    refine congrArg (arrV c N) (funext fun j => ?_)
    by_cases e : j = i
    · subst e
      simp [updV, va_rf]
    · by_cases h : j < i
      · simp [updV, e, h, Nat.lt_succ_of_lt h]
      · simp [updV, e, h, show ¬ j < i + 1 by omega]
def ip_luC (x : Nat × Nat × Nat × Nat × Nat) : Bool := (x.2.2.1 == 7 && x.2.2.2.1 == 1 && decide (tables_1[x.2.2.2.2]? = some (.classLink (ip_own x.1) x.2.1 ("[" ++ (FieldType.array .int).toString)))) || (x.2.2.1 == 8 && x.2.2.2.1 == 2 && decide (tables_1[x.2.2.2.2]? = some (.classLink (ip_own x.1) x.2.1 ("[" ++ (FieldType.array .long).toString))))
theorem ip_luA : ip_luL.all ip_luC = true := by decide +kernel
theorem lu_ok {cn idx t u : Nat} (h : ip_lu cn idx = some (t, u)) : (t = 7 ∧ u = 1 ∧ Cond.classLink (ip_own cn) idx ("[" ++ (FieldType.array .int).toString) ∈ ip_ws) ∨ (t = 8 ∧ u = 2 ∧ Cond.classLink (ip_own cn) idx ("[" ++ (FieldType.array .long).toString) ∈ ip_ws) := by
  unfold ip_lu at h
  obtain ⟨x, h1, h2⟩ := Option.map_eq_some_iff.mp h
  have hm := List.mem_of_find?_eq_some h1
  have hc := List.find?_some h1
  simp only [Bool.and_eq_true, beq_iff_eq] at hc
  obtain ⟨rfl, rfl⟩ := hc
  obtain ⟨rfl, rfl⟩ := Prod.mk.inj h2
  have ha := List.all_eq_true.mp ip_luA x hm
  simp only [ip_luC, Bool.and_eq_true, Bool.or_eq_true, beq_iff_eq, decide_eq_true_eq] at ha
  rcases ha with ⟨⟨a1, a2⟩, a3⟩ | ⟨⟨a1, a2⟩, a3⟩
  · exact Or.inl ⟨a1, a2, mem_ws a3 rfl⟩
  · exact Or.inr ⟨a1, a2, mem_ws a3 rfl⟩
section SND6
variable {p : Program} {l : Launch} {e : Env} {R : Room} {s : State} {mid : MethodId} {args : Array Value} {below : List Frame} {meth : Method} {c : Code} {Q : State → Prop} {G : Heap} {b zp L0 : Nat} {xs : Nat → Int32} {D : va_G} {ca : Nat → ClassId} {h0 s0 : Nat} {q : ip_I} {d pc len : Nat} {L L' : ip_L} {st st' : List Value} {hp hp' : ip_H} {pc' : Nat}
theorem rep_mul {H H1 : Heap} {t u n m : Nat} {z : vp_A} (hR : ip_rep G b zp L0 xs D ca hp H) (ht : t < 9) (hu : u < 9) (hz : H1.size = H.size + 1 + n) (ho : ∀ x : Nat, x < H.size → H1[x]? = H[x]?) (h1 : H1[H.size]? = some (arrV (ca t) n (fun j => va_rf (if j < n then some (H.size + 1 + j) else none)))) (h2 : ∀ j : Nat, j < n → va_at D ip_cl (H.size + 1 + j, ip_e (ip_ad G.size b zp) ca (.inl (u, z))) H1) : ip_rep G b zp L0 xs D ca (ip_mul hp t u n m z) H1 := by
  have g1 := hR.1
  have g2 := hR.2.1
  refine ⟨by show 2 ≤ hp.1 + 1 + n; omega, by rw [hz]; show _ = G.size + (hp.1 + 1 + n); omega, fun x hx => (ho x (by omega)).trans (hR.2.2.1 x hx), fun a' x' hx' => ?_⟩
  have hx' : (if a' = hp.1 then some (.inl (t, n, .inr (.inr (.inr (.inr (fun i => if i < n then some (hp.1 + 1 + i) else none)))))) else if hp.1 < a' ∧ a' < hp.1 + 1 + n then some (.inl (u, z)) else hp.2.2 a') = some x' := hx'
  by_cases e : a' = hp.1
  · subst e
    rw [if_pos rfl] at hx'
    cases hx'
    refine ⟨by show hp.1 < hp.1 + 1 + n; omega, Or.inr (Or.inr ⟨g1, ht, ?_⟩)⟩
    rw [show G.size + (hp.1 - 2) = H.size by omega]
    show H1[H.size]? = some (vp_cell (ca t) (n, .inr (.inr (.inr (.inr (fun i => (if i < n then some (hp.1 + 1 + i) else none).map (ip_ad G.size b zp)))))))
    rw [vp_cell_q, h1]
    refine congrArg (fun f => some (arrV (ca t) n f)) (funext fun j => congrArg va_rf ?_)
    by_cases hj : j < n
    · rw [if_pos hj, if_pos hj]
      show some _ = some ((ip_ad G.size b zp) (hp.1 + 1 + j))
      rw [ad_own (by omega)]
      congr 1
      omega
    · rw [if_neg hj, if_neg hj]
      rfl
  · rw [if_neg e] at hx'
    by_cases e2 : hp.1 < a' ∧ a' < hp.1 + 1 + n
    · rw [if_pos e2] at hx'
      cases hx'
      refine ⟨by show a' < hp.1 + 1 + n; omega, Or.inr (Or.inr ⟨by omega, hu, ?_⟩)⟩
      have h3 := h2 (a' - (hp.1 + 1)) (by omega)
      rw [show H.size + 1 + (a' - (hp.1 + 1)) = G.size + (a' - 2) by omega] at h3
      exact h3
    · rw [if_neg e2] at hx'
      obtain ⟨k1, k2⟩ := hR.2.2.2 a' x' hx'
      refine ⟨by show a' < hp.1 + 1 + n; omega, ?_⟩
      rcases k2 with k2 | k2 | ⟨k3, k4, k5⟩
      · exact Or.inl k2
      · exact Or.inr (Or.inl k2)
      · exact Or.inr (Or.inr ⟨k3, k4, k5.kept (ho _ k5.lt)⟩)
theorem mu_one {idx : Nat} {ty : FieldType} {t u : Nat} {n m : Int32} {z : vp_A} (C : ip_cx p s mid args meth c G b zp L0 xs D ca q) (hd : decode q.2.2.1 pc = .ok (.multianewarray idx 2, 4)) (hln : Cond.classLink (ip_own q.1) idx ("[" ++ (FieldType.array ty).toString) ∈ ip_ws) (hov : FieldType.array ty ∈ ip_ovs) (harr : Cond.arrayClass ty ∈ ip_ws) (ht : t < 9) (hu : u < 9) (hRt : s.vm.findClass ("[" ++ (FieldType.array ty).toString) = some (ca t)) (hRu : s.vm.findClass (FieldType.array ty).toString = some (ca u)) (hby : componentBytes ty ≤ 8) (hdf : fits ty (defaultValue ty) = true) (hdd : (defaultValue ty).isDefault = true) (hz : ip_e (ip_ad G.size b zp) ca (.inl (u, z)) = .inl (ca u, z)) (hv : ∀ cA : ClassId, vp_cell cA z = arrV cA m.toNatClampNeg (fun _ => defaultValue ty)) (hn : ¬ n < 0) (hm : ¬ m < 0) (h8 : n.toNatClampNeg * 8 ≤ 536870912) (h9 : m.toNatClampNeg * 8 ≤ 536870912) (hC : hp.1 + 1 + n.toNatClampNeg ≤ R.cells + h0) (hS : hp.2.1 + n.toNatClampNeg + n.toNatClampNeg * m.toNatClampNeg ≤ R.slots + s0) (k : ip_W p l e R s mid args below meth c Q G b zp L0 xs D ca h0 s0 (pc + 4) L (.ref hp.1 :: st) (ip_mul hp t u n.toNatClampNeg m.toNatClampNeg z)) : ip_W p l e R s mid args below meth c Q G b zp L0 xs D ca h0 s0 pc L (.int m :: .int n :: st) hp := by
  intro H locs cells slots ls hR hlo hlr hc hs
  intro T hT Xs
  have hts := C.2.2.2.2.1
  have hover : (Cond.arrayOver (.array ty)).before args s = true := C.2.2.2.2.2.2.2.2.1 _ hov
  obtain ⟨vm₁, cA, comp, -, fA, fC, -, -, X', step⟩ := Xs.multianewarray2F C.1 C.2.2.2.1 (hts _ hln) hover (hts _ harr) (g := F0 mid pc ls (.int m :: .int n :: st.map (ip_v (ip_ad G.size b zp)))) rfl (by rw [C.2.1]; exact hd) rfl hn hm (by omega) (Nat.le_trans (Nat.mul_le_mul_left _ hby) h9) (by omega) hdf hdd (by omega) (by omega)
  have ea : cA = ca t := Option.some.inj (fA.symm.trans hRt)
  have ec : comp = ca u := Option.some.inj (fC.symm.trans hRu)
  subst ea
  subst ec
  generalize hF : Jvm.Free.Multi.fill (T.setVm vm₁) (ca t) (ca u) n.toNatClampNeg m.toNatClampNeg (defaultValue ty) n.toNatClampNeg = F at X' step
  have hTh : (T.setVm vm₁).heap = H := hT
  obtain ⟨f1, f2, -, -⟩ := Jvm.Free.Multi.fill_facts (T.setVm vm₁) (ca t) (ca u) n.toNatClampNeg m.toNatClampNeg (defaultValue ty) n.toNatClampNeg
  rw [hF, hTh] at f1 f2
  have hold : ∀ x : Nat, x < H.size → F.heap[x]? = H[x]? := fun x hx => by
    have := Jvm.Free.Multi.fill_old (T.setVm vm₁) (ca t) (ca u) n.toNatClampNeg m.toNatClampNeg (defaultValue ty) (a := x) (by rw [hTh]; exact hx) n.toNatClampNeg
    rw [hF, hTh] at this
    exact this
  have hrow : ∀ j : Nat, j < n.toNatClampNeg → F.heap[H.size + 1 + j]? = some (vp_cell (ca u) z) := fun j hj => by
    have := Jvm.Free.Multi.fill_inner (T.setVm vm₁) (ca t) (ca u) n.toNatClampNeg m.toNatClampNeg (defaultValue ty) n.toNatClampNeg j hj
    rw [hF, hTh] at this
    rw [this, hv, ← arrV_new]
    rfl
  rw [mu_outer] at f2
  have kk := k F.heap locs (cells + 1 + n.toNatClampNeg) (slots + n.toNatClampNeg + n.toNatClampNeg * m.toNatClampNeg) ls (rep_mul hR ht hu f1 hold f2 (fun j hj => by rw [hz]; exact hrow j hj)) hlo hlr (by show cells + 1 + n.toNatClampNeg + h0 = hp.1 + 1 + n.toNatClampNeg; omega) (by show slots + n.toNatClampNeg + n.toNatClampNeg * m.toNatClampNeg + s0 = hp.2.1 + n.toNatClampNeg + n.toNatClampNeg * m.toNatClampNeg; omega)
  have ev : ip_v (ip_ad G.size b zp) (.ref hp.1) = .ref H.size := by show Value.ref _ = _; rw [ad_new hR]
  rw [List.map_cons, ev] at kk
  obtain ⟨t9, a1, b1⟩ := kk F rfl X'
  refine ⟨t9, step t9 ?_, b1⟩
  have e9 : T.heap.size = H.size := by rw [hT]
  rw [e9]
  exact a1
theorem sd_mu {idx dims : Nat} (C : ip_cx p s mid args meth c G b zp L0 xs D ca q) (hd : decode q.2.2.1 pc = .ok (.multianewarray idx dims, 4)) (h : ip_xmu q.1 idx dims (pc + 4) L hp st = some (.inl (pc', L', st', hp'))) (hC : hp'.1 ≤ R.cells + h0) (hS : hp'.2.1 ≤ R.slots + s0) (k : ip_W p l e R s mid args below meth c Q G b zp L0 xs D ca h0 s0 pc' L' st' hp') : ip_W p l e R s mid args below meth c Q G b zp L0 xs D ca h0 s0 pc L st hp := by
  unfold ip_xmu at h
  split at h
  · rename_i m n r
    obtain ⟨⟨t, u⟩, h1, h2⟩ := Option.bind_eq_some_iff.mp h
    split at h2
    · rename_i hcond
      obtain ⟨rfl, hn, hm, h8, h9⟩ := hcond
      cases h2
      have hK := C.2.2.2.2.2.2.1.2
      rcases lu_ok h1 with ⟨rfl, rfl, hln⟩ | ⟨rfl, rfl, hln⟩
      · exact mu_one (ty := .int) C hd hln (by decide) w_aI (by decide) (by decide) (hK 7 _ rfl).2 (hK 1 _ rfl).2 (by decide) rfl rfl rfl (fun _ => rfl) hn hm h8 h9 hC hS k
      · exact mu_one (ty := .long) C hd hln (by decide) w_aJ (by decide) (by decide) (hK 8 _ rfl).2 (hK 2 _ rfl).2 (by decide) rfl rfl rfl (fun _ => rfl) hn hm h8 h9 hC hS k
    · cases h2
  · cases h
end SND6
theorem ao_arr {t : FieldType} {u U : State} (hvm : u.vm.Alike U.vm) (h : ip_AO (.array t) u) : ip_AO (.array t) U := by
  exact Jvm.Stand.arrayOver_alikeB hvm h
