/-! the equations of each kind of instruction, by the rows that decode it -/
section EQS
variable {d m pc : Nat} {q : ip_I} {L : ip_L} {st : List Value} {hp : ip_H}
theorem g_iconst {n : Int} {v : Int32} (hm : ip_M[m]? = some q) (hd : decode q.2.2.1 pc = .ok (.iconst n, 1)) (hv : Int32.ofInt n = v) : ip_go d m pc L st hp = ip_go d m (pc + 1) L (.int v :: st) hp := by
  subst hv
  exact go_step (ip_one_eq hm hd rfl)
theorem g_bipush {n : Int} {v : Int32} (hm : ip_M[m]? = some q) (hd : decode q.2.2.1 pc = .ok (.bipush n, 2)) (hv : (Int8.ofInt n).toInt32 = v) : ip_go d m pc L st hp = ip_go d m (pc + 2) L (.int v :: st) hp := by
  subst hv
  exact go_step (ip_one_eq hm hd rfl)
theorem g_sipush {n : Int} {v : Int32} (hm : ip_M[m]? = some q) (hd : decode q.2.2.1 pc = .ok (.sipush n, 3)) (hv : (Int16.ofInt n).toInt32 = v) : ip_go d m pc L st hp = ip_go d m (pc + 3) L (.int v :: st) hp := by
  subst hv
  exact go_step (ip_one_eq hm hd rfl)
theorem g_lconst {n : Fin 2} {v : Int64} (hm : ip_M[m]? = some q) (hd : decode q.2.2.1 pc = .ok (.lconst n, 1)) (hv : Int64.ofNat (n : Nat) = v) : ip_go d m pc L st hp = ip_go d m (pc + 1) L (.long v :: st) hp := by
  subst hv
  exact go_step (ip_one_eq hm hd rfl)
theorem g_ldc2 {idx : Nat} {v : Int64} (hm : ip_M[m]? = some q) (hd : decode q.2.2.1 pc = .ok (.ldc2_w idx, 3)) (hl : ip_lc q.1 idx = some v) : ip_go d m pc L st hp = ip_go d m (pc + 3) L (.long v :: st) hp := by
  refine go_step ((ip_one_eq hm hd rfl).trans ?_)
  show (ip_lc q.1 idx).map _ = _
  rw [hl]
  rfl
theorem g_iinc {k : Nat} {n : Int} {x v : Int32} {L' : ip_L} (hm : ip_M[m]? = some q) (hd : decode q.2.2.1 pc = .ok (.iinc k n, 3)) (hx : ip_ld L k = some (.int x)) (hv : Int32.ofInt n = v) (hL : ip_st1 L k (.int (x + v)) = some L') : ip_go d m pc L st hp = ip_go d m (pc + 3) L' st hp := by
  subst hv
  refine go_step ((ip_one_eq hm hd rfl).trans ?_)
  show (ip_iinc L k n).map _ = _
  unfold ip_iinc
  rw [hx]
  show (ip_st1 L k (.int (x + Int32.ofInt n))).map _ = _
  rw [hL]
  rfl
theorem g_goto {off : Int} {t : Nat} (hm : ip_M[m]? = some q) (hd : decode q.2.2.1 pc = .ok (.goto off, 3)) (ht : ip_tg pc off = some t) : ip_go d m pc L st hp = ip_go d m t L st hp := by
  refine go_step ((ip_one_eq hm hd rfl).trans ?_)
  show (ip_tg pc off).map _ = _
  rw [ht]
  rfl
theorem g_b1 {i : Instr} {f : Int32 → Bool} {off : Int} {t : Nat} {x : Int32} (hm : ip_M[m]? = some q) (hd : decode q.2.2.1 pc = .ok (i, 3)) (hi : ip_il i 3 = true) (ha : ∀ st', ip_act d q.1 (q.2.1.name == "<init>") q.2.2.2.2 i pc 3 L st' hp = ip_b1 f pc (pc + 3) off L hp st') (ht : ip_tg pc off = some t) : ip_go d m pc L (.int x :: st) hp = if f x = true then ip_go d m t L st hp else ip_go d m (pc + 3) L st hp := by
  have h := (ip_one_eq (d := d) (L := L) (st := .int x :: st) (hp := hp) hm hd hi).trans (ha _)
  have h2 : ip_b1 f pc (pc + 3) off L hp (.int x :: st) = some (.inl (if f x = true then t else pc + 3, L, st, hp)) := by
    show (ip_tg pc off).map _ = _
    rw [ht]
    rfl
  rw [go_step (h.trans h2)]
  split <;> rfl
theorem g_b2 {i : Instr} {f : Int32 → Int32 → Bool} {off : Int} {t : Nat} {x y : Int32} (hm : ip_M[m]? = some q) (hd : decode q.2.2.1 pc = .ok (i, 3)) (hi : ip_il i 3 = true) (ha : ∀ st', ip_act d q.1 (q.2.1.name == "<init>") q.2.2.2.2 i pc 3 L st' hp = ip_b2 f pc (pc + 3) off L hp st') (ht : ip_tg pc off = some t) : ip_go d m pc L (.int y :: .int x :: st) hp = if f x y = true then ip_go d m t L st hp else ip_go d m (pc + 3) L st hp := by
  have h := (ip_one_eq (d := d) (L := L) (st := .int y :: .int x :: st) (hp := hp) hm hd hi).trans (ha _)
  have h2 : ip_b2 f pc (pc + 3) off L hp (.int y :: .int x :: st) = some (.inl (if f x y = true then t else pc + 3, L, st, hp)) := by
    show (ip_tg pc off).map _ = _
    rw [ht]
    rfl
  rw [go_step (h.trans h2)]
  split <;> rfl
theorem if_dec {α : Type} {p : Prop} (h : Decidable p) {a b : α} : (if @decide p h = true then a else b) = (@ite α p h a b) := by
  by_cases hp : p <;> simp [hp]
theorem g_if_eq {off : Int} {t : Nat} {x : Int32} (hm : ip_M[m]? = some q) (hd : decode q.2.2.1 pc = .ok (.ifCond .eq off, 3)) (ht : ip_tg pc off = some t) : ip_go d m pc L (.int x :: st) hp = if x = 0 then ip_go d m t L st hp else ip_go d m (pc + 3) L st hp := (g_b1 (f := fun x => decide (x = 0)) hm hd rfl (fun _ => rfl) ht).trans (if_dec _)
theorem g_icmp_eq {off : Int} {t : Nat} {x y : Int32} (hm : ip_M[m]? = some q) (hd : decode q.2.2.1 pc = .ok (.if_icmp .eq off, 3)) (ht : ip_tg pc off = some t) : ip_go d m pc L (.int y :: .int x :: st) hp = if x = y then ip_go d m t L st hp else ip_go d m (pc + 3) L st hp := (g_b2 (f := fun x y => decide (x = y)) hm hd rfl (fun _ => rfl) ht).trans (if_dec _)
theorem g_if_ne {off : Int} {t : Nat} {x : Int32} (hm : ip_M[m]? = some q) (hd : decode q.2.2.1 pc = .ok (.ifCond .ne off, 3)) (ht : ip_tg pc off = some t) : ip_go d m pc L (.int x :: st) hp = if ¬ x = 0 then ip_go d m t L st hp else ip_go d m (pc + 3) L st hp := (g_b1 (f := fun x => decide (¬ x = 0)) hm hd rfl (fun _ => rfl) ht).trans (if_dec _)
theorem g_icmp_ne {off : Int} {t : Nat} {x y : Int32} (hm : ip_M[m]? = some q) (hd : decode q.2.2.1 pc = .ok (.if_icmp .ne off, 3)) (ht : ip_tg pc off = some t) : ip_go d m pc L (.int y :: .int x :: st) hp = if ¬ x = y then ip_go d m t L st hp else ip_go d m (pc + 3) L st hp := (g_b2 (f := fun x y => decide (¬ x = y)) hm hd rfl (fun _ => rfl) ht).trans (if_dec _)
theorem g_if_lt {off : Int} {t : Nat} {x : Int32} (hm : ip_M[m]? = some q) (hd : decode q.2.2.1 pc = .ok (.ifCond .lt off, 3)) (ht : ip_tg pc off = some t) : ip_go d m pc L (.int x :: st) hp = if x < 0 then ip_go d m t L st hp else ip_go d m (pc + 3) L st hp := (g_b1 (f := fun x => decide (x < 0)) hm hd rfl (fun _ => rfl) ht).trans (if_dec _)
theorem g_icmp_lt {off : Int} {t : Nat} {x y : Int32} (hm : ip_M[m]? = some q) (hd : decode q.2.2.1 pc = .ok (.if_icmp .lt off, 3)) (ht : ip_tg pc off = some t) : ip_go d m pc L (.int y :: .int x :: st) hp = if x < y then ip_go d m t L st hp else ip_go d m (pc + 3) L st hp := (g_b2 (f := fun x y => decide (x < y)) hm hd rfl (fun _ => rfl) ht).trans (if_dec _)
theorem g_if_ge {off : Int} {t : Nat} {x : Int32} (hm : ip_M[m]? = some q) (hd : decode q.2.2.1 pc = .ok (.ifCond .ge off, 3)) (ht : ip_tg pc off = some t) : ip_go d m pc L (.int x :: st) hp = if 0 ≤ x then ip_go d m t L st hp else ip_go d m (pc + 3) L st hp := (g_b1 (f := fun x => decide (0 ≤ x)) hm hd rfl (fun _ => rfl) ht).trans (if_dec _)
theorem g_icmp_ge {off : Int} {t : Nat} {x y : Int32} (hm : ip_M[m]? = some q) (hd : decode q.2.2.1 pc = .ok (.if_icmp .ge off, 3)) (ht : ip_tg pc off = some t) : ip_go d m pc L (.int y :: .int x :: st) hp = if y ≤ x then ip_go d m t L st hp else ip_go d m (pc + 3) L st hp := (g_b2 (f := fun x y => decide (y ≤ x)) hm hd rfl (fun _ => rfl) ht).trans (if_dec _)
theorem g_if_gt {off : Int} {t : Nat} {x : Int32} (hm : ip_M[m]? = some q) (hd : decode q.2.2.1 pc = .ok (.ifCond .gt off, 3)) (ht : ip_tg pc off = some t) : ip_go d m pc L (.int x :: st) hp = if 0 < x then ip_go d m t L st hp else ip_go d m (pc + 3) L st hp := (g_b1 (f := fun x => decide (0 < x)) hm hd rfl (fun _ => rfl) ht).trans (if_dec _)
theorem g_icmp_gt {off : Int} {t : Nat} {x y : Int32} (hm : ip_M[m]? = some q) (hd : decode q.2.2.1 pc = .ok (.if_icmp .gt off, 3)) (ht : ip_tg pc off = some t) : ip_go d m pc L (.int y :: .int x :: st) hp = if y < x then ip_go d m t L st hp else ip_go d m (pc + 3) L st hp := (g_b2 (f := fun x y => decide (y < x)) hm hd rfl (fun _ => rfl) ht).trans (if_dec _)
theorem g_if_le {off : Int} {t : Nat} {x : Int32} (hm : ip_M[m]? = some q) (hd : decode q.2.2.1 pc = .ok (.ifCond .le off, 3)) (ht : ip_tg pc off = some t) : ip_go d m pc L (.int x :: st) hp = if x ≤ 0 then ip_go d m t L st hp else ip_go d m (pc + 3) L st hp := (g_b1 (f := fun x => decide (x ≤ 0)) hm hd rfl (fun _ => rfl) ht).trans (if_dec _)
theorem g_icmp_le {off : Int} {t : Nat} {x y : Int32} (hm : ip_M[m]? = some q) (hd : decode q.2.2.1 pc = .ok (.if_icmp .le off, 3)) (ht : ip_tg pc off = some t) : ip_go d m pc L (.int y :: .int x :: st) hp = if x ≤ y then ip_go d m t L st hp else ip_go d m (pc + 3) L st hp := (g_b2 (f := fun x y => decide (x ≤ y)) hm hd rfl (fun _ => rfl) ht).trans (if_dec _)
theorem g_gf {idx ci k a : Nat} (hm : ip_M[m]? = some q) (hd : decode q.2.2.1 pc = .ok (.getfield idx, 3)) (hl : ip_lf q.1 idx = some (ci, k)) : ip_go d m pc L (.ref a :: st) hp = (ip_gf hp ci k a).bind (fun v => ip_go d m (pc + 3) L (v :: st) hp) := by
  refine go_bind (f := fun v => (pc + 3, L, v :: st, hp)) ((ip_one_eq hm hd rfl).trans ?_)
  show (ip_lf q.1 idx).bind _ = _
  rw [hl]
  rfl
theorem g_pf {idx ci k a : Nat} {v : Value} (hm : ip_M[m]? = some q) (hd : decode q.2.2.1 pc = .ok (.putfield idx, 3)) (hl : ip_lf q.1 idx = some (ci, k)) (hf : (ip_T ci k).2.2.2 = false ∨ ((q.2.1.name == "<init>") = true ∧ ci = q.1)) (hv : ip_fit (ip_ty ci k) v = true) : ip_go d m pc L (v :: .ref a :: st) hp = (ip_pf hp ci k a v).bind (fun h => ip_go d m (pc + 3) L st h) := by
  refine go_bind (f := fun h => (pc + 3, L, st, h)) ((ip_one_eq hm hd rfl).trans ?_)
  show (ip_lf q.1 idx).bind _ = _
  rw [hl, Option.bind_some, if_pos ⟨hv, hf⟩]
theorem g_gs {idx : Nat} (hm : ip_M[m]? = some q) (hd : decode q.2.2.1 pc = .ok (.getstatic idx, 3)) (hl : ip_lg q.1 idx = true) : ip_go d m pc L st hp = ip_go d m (pc + 3) L (.ref 1 :: st) hp := by
  refine go_step ((ip_one_eq hm hd rfl).trans ?_)
  show (if ip_lg q.1 idx = true then _ else _) = _
  rw [if_pos hl]
theorem g_nw {idx ci : Nat} {fs : List Value} (hm : ip_M[m]? = some q) (hd : decode q.2.2.1 pc = .ok (.new idx, 3)) (hl : ip_ln q.1 idx = some ci) (hf : ip_df[ci]? = some fs) : ip_go d m pc L st hp = ip_go d m (pc + 3) L (.ref hp.1 :: st) (ip_new hp fs.length (.inr (ci, fs))) := by
  refine go_step ((ip_one_eq hm hd rfl).trans ?_)
  show (ip_ln q.1 idx).bind _ = _
  rw [hl, Option.bind_some, hf]
  rfl
theorem g_ia {a : Nat} {i : Int32} (hm : ip_M[m]? = some q) (hd : decode q.2.2.1 pc = .ok (.iaload, 1)) : ip_go d m pc L (.int i :: .ref a :: st) hp = (ip_ia hp a i).bind (fun v => ip_go d m (pc + 1) L (.int v :: st) hp) := go_bind (f := fun v => (pc + 1, L, .int v :: st, hp)) (ip_one_eq hm hd rfl)
theorem g_ba {a : Nat} {i : Int32} (hm : ip_M[m]? = some q) (hd : decode q.2.2.1 pc = .ok (.baload, 1)) : ip_go d m pc L (.int i :: .ref a :: st) hp = (ip_ba hp a i).bind (fun v => ip_go d m (pc + 1) L (.int v :: st) hp) := go_bind (f := fun v => (pc + 1, L, .int v :: st, hp)) (ip_one_eq hm hd rfl)
theorem g_ja {a : Nat} {i : Int32} (hm : ip_M[m]? = some q) (hd : decode q.2.2.1 pc = .ok (.laload, 1)) : ip_go d m pc L (.int i :: .ref a :: st) hp = (ip_ja hp a i).bind (fun v => ip_go d m (pc + 1) L (.long v :: st) hp) := go_bind (f := fun v => (pc + 1, L, .long v :: st, hp)) (ip_one_eq hm hd rfl)
theorem g_aa {a : Nat} {i : Int32} (hm : ip_M[m]? = some q) (hd : decode q.2.2.1 pc = .ok (.aaload, 1)) : ip_go d m pc L (.int i :: .ref a :: st) hp = (ip_aa hp a i).bind (fun v => ip_go d m (pc + 1) L (.ref v :: st) hp) := go_bind (f := fun v => (pc + 1, L, .ref v :: st, hp)) (ip_one_eq hm hd rfl)
theorem g_len {a : Nat} (hm : ip_M[m]? = some q) (hd : decode q.2.2.1 pc = .ok (.arraylength, 1)) : ip_go d m pc L (.ref a :: st) hp = (ip_len hp a).bind (fun v => ip_go d m (pc + 1) L (.int (Int32.ofNat v) :: st) hp) := go_bind (f := fun v => (pc + 1, L, .int (Int32.ofNat v) :: st, hp)) (ip_one_eq hm hd rfl)
theorem g_is {a : Nat} {i : Int32} {x : Int32} (hm : ip_M[m]? = some q) (hd : decode q.2.2.1 pc = .ok (.iastore, 1)) : ip_go d m pc L (.int x :: .int i :: .ref a :: st) hp = (ip_is hp a i x).bind (fun h => ip_go d m (pc + 1) L st h) := go_bind (f := fun h => (pc + 1, L, st, h)) (ip_one_eq hm hd rfl)
theorem g_bs {a : Nat} {i : Int32} {x : Int32} (hm : ip_M[m]? = some q) (hd : decode q.2.2.1 pc = .ok (.bastore, 1)) : ip_go d m pc L (.int x :: .int i :: .ref a :: st) hp = (ip_bs hp a i x).bind (fun h => ip_go d m (pc + 1) L st h) := go_bind (f := fun h => (pc + 1, L, st, h)) (ip_one_eq hm hd rfl)
theorem g_js {a : Nat} {i : Int32} {x : Int64} (hm : ip_M[m]? = some q) (hd : decode q.2.2.1 pc = .ok (.lastore, 1)) : ip_go d m pc L (.long x :: .int i :: .ref a :: st) hp = (ip_js hp a i x).bind (fun h => ip_go d m (pc + 1) L st h) := go_bind (f := fun h => (pc + 1, L, st, h)) (ip_one_eq hm hd rfl)
theorem g_as {a : Nat} {i : Int32} {x : Nat} (hm : ip_M[m]? = some q) (hd : decode q.2.2.1 pc = .ok (.aastore, 1)) : ip_go d m pc L (.ref x :: .int i :: .ref a :: st) hp = (ip_as hp a i x).bind (fun h => ip_go d m (pc + 1) L st h) := go_bind (f := fun h => (pc + 1, L, st, h)) (ip_one_eq hm hd rfl)
theorem g_idiv {x y : Int32} (hm : ip_M[m]? = some q) (hd : decode q.2.2.1 pc = .ok (.idiv, 1)) : ip_go d m pc L (.int y :: .int x :: st) hp = if y = 0 then none else ip_go d m (pc + 1) L (.int (x / y) :: st) hp := by
  have h := ip_one_eq (d := d) (L := L) (st := .int y :: .int x :: st) (hp := hp) hm hd rfl
  by_cases hy : y = 0
  · rw [if_pos hy]
    refine go_none (h.trans ?_)
    show ip_sg _ _ _ (if y = 0 then none else _) = _
    rw [if_pos hy]
    rfl
  · rw [if_neg hy]
    refine go_step (h.trans ?_)
    show ip_sg _ _ _ (if y = 0 then none else _) = _
    rw [if_neg hy]
    rfl
theorem g_irem {x y : Int32} (hm : ip_M[m]? = some q) (hd : decode q.2.2.1 pc = .ok (.irem, 1)) : ip_go d m pc L (.int y :: .int x :: st) hp = if y = 0 then none else ip_go d m (pc + 1) L (.int (x - x / y * y) :: st) hp := by
  have h := ip_one_eq (d := d) (L := L) (st := .int y :: .int x :: st) (hp := hp) hm hd rfl
  by_cases hy : y = 0
  · rw [if_pos hy]
    refine go_none (h.trans ?_)
    show ip_sg _ _ _ (if y = 0 then none else _) = _
    rw [if_pos hy]
    rfl
  · rw [if_neg hy]
    refine go_step (h.trans ?_)
    show ip_sg _ _ _ (if y = 0 then none else _) = _
    rw [if_neg hy]
    rfl
theorem g_ldiv {x y : Int64} (hm : ip_M[m]? = some q) (hd : decode q.2.2.1 pc = .ok (.ldiv, 1)) : ip_go d m pc L (.long y :: .long x :: st) hp = if y = 0 then none else ip_go d m (pc + 1) L (.long (x / y) :: st) hp := by
  have h := ip_one_eq (d := d) (L := L) (st := .long y :: .long x :: st) (hp := hp) hm hd rfl
  by_cases hy : y = 0
  · rw [if_pos hy]
    refine go_none (h.trans ?_)
    show ip_sg _ _ _ (if y = 0 then none else _) = _
    rw [if_pos hy]
    rfl
  · rw [if_neg hy]
    refine go_step (h.trans ?_)
    show ip_sg _ _ _ (if y = 0 then none else _) = _
    rw [if_neg hy]
    rfl
theorem g_lrem {x y : Int64} (hm : ip_M[m]? = some q) (hd : decode q.2.2.1 pc = .ok (.lrem, 1)) : ip_go d m pc L (.long y :: .long x :: st) hp = if y = 0 then none else ip_go d m (pc + 1) L (.long (x - x / y * y) :: st) hp := by
  have h := ip_one_eq (d := d) (L := L) (st := .long y :: .long x :: st) (hp := hp) hm hd rfl
  by_cases hy : y = 0
  · rw [if_pos hy]
    refine go_none (h.trans ?_)
    show ip_sg _ _ _ (if y = 0 then none else _) = _
    rw [if_pos hy]
    rfl
  · rw [if_neg hy]
    refine go_step (h.trans ?_)
    show ip_sg _ _ _ (if y = 0 then none else _) = _
    rw [if_neg hy]
    rfl
theorem g_zret {x : Int32} (hm : ip_M[m]? = some q) (hd : decode q.2.2.1 pc = .ok (.ireturn, 1)) (hr : q.2.2.2.2 = some .boolean) : ip_go d m pc L [.int x] hp = if x = 0 ∨ x = 1 then some (some (.int x), hp) else none := by
  have h := ip_one_eq (d := d) (L := L) (st := [.int x]) (hp := hp) hm hd rfl
  have h2 : ip_act d q.1 (q.2.1.name == "<init>") q.2.2.2.2 .ireturn pc 1 L [.int x] hp = if q.2.2.2.2 = some .int ∨ (q.2.2.2.2 = some .boolean ∧ (x = 0 ∨ x = 1)) then some (.inr (.inl (some (.int x)))) else none := rfl
  rw [h2, hr] at h
  by_cases hx : x = 0 ∨ x = 1
  · rw [if_pos hx]
    refine go_ret (h.trans ?_)
    rw [if_pos (Or.inr ⟨rfl, hx⟩)]
  · rw [if_neg hx]
    refine go_none (h.trans ?_)
    rw [if_neg (fun z => by
      rcases z with z | z
      · cases z
      · exact hx z.2)]
/-- where a switch goes -/
def ip_sw (lo hi : Int) (ts : List Nat) (t : Nat) (x : Int32) : Nat := if x.toInt < lo ∨ hi < x.toInt then t else ts.getD (x.toInt - lo).toNat t
theorem g_tsw {dflt lo hi : Int} {offs : Array Int} {len t : Nat} {ts : List Nat} {x : Int32} (hm : ip_M[m]? = some q) (hd : decode q.2.2.1 pc = .ok (.tableswitch dflt lo hi offs, len)) (h0 : ip_tg pc dflt = some t) (hlen : hi - lo + 1 = (ts.length : Int)) (hall : (offs.toList.map (ip_tg pc)) = ts.map some) : ip_go d m pc L (.int x :: st) hp = ip_go d m (ip_sw lo hi ts t x) L st hp := by
  refine go_step ((ip_one_eq hm hd rfl).trans ?_)
  show ((if x.toInt < lo ∨ hi < x.toInt then ip_tg pc dflt else (offs[(x.toInt - lo).toNat]?).bind (ip_tg pc)).map _) = _
  unfold ip_sw
  by_cases hx : x.toInt < lo ∨ hi < x.toInt
  · rw [if_pos hx, if_pos hx, h0]
    rfl
  · rw [if_neg hx, if_neg hx]
    have hj : (x.toInt - lo).toNat < ts.length := by omega
    have h1 : (offs.toList.map (ip_tg pc))[(x.toInt - lo).toNat]? = some (some ts[(x.toInt - lo).toNat]) := by
      rw [hall, List.getElem?_map, List.getElem?_eq_getElem hj]
      rfl
    rw [List.getElem?_map, Array.getElem?_toList] at h1
    obtain ⟨o, ho1, ho2⟩ := Option.map_eq_some_iff.mp h1
    rw [ho1, Option.bind_some, ho2, List.getD_eq_getElem?_getD, List.getElem?_eq_getElem hj]
    rfl
theorem g_lsw {dflt : Int} {ps : Array (Int × Int)} {len : Nat} {x : Int32} (hm : ip_M[m]? = some q) (hd : decode q.2.2.1 pc = .ok (.lookupswitch dflt ps, len)) (hp1 : (ps.toList.zip (ps.toList.drop 1)).all (fun (a, next) => a.1 < next.1) = true) : ip_go d m pc L (.int x :: st) hp = (ip_tg pc (Op.lookupswitch.offset ps.toList dflt x.toInt)).bind (fun t => ip_go d m t L st hp) := by
  refine go_bind (f := fun t => (t, L, st, hp)) ((ip_one_eq hm hd rfl).trans ?_)
  show (if (ps.toList.zip (ps.toList.drop 1)).all (fun (a, next) => a.1 < next.1) = true then _ else _) = _
  rw [if_pos hp1]
theorem g_na {t : ArrayType} {n : Int32} {x : Nat × ((Nat → Int32) ⊕ (Nat → Int64) ⊕ (Nat → UInt32) ⊕ (Nat → UInt64) ⊕ (Nat → Option Nat))} {N : Nat} (hm : ip_M[m]? = some q) (hd : decode q.2.2.1 pc = .ok (.newarray t, 2)) (hx : ip_na t = some x) (hn : ¬ n < 0 ∧ n.toNatClampNeg * 8 ≤ 536870912) (hN : n.toNatClampNeg = N) : ip_go d m pc L (.int n :: st) hp = ip_go d m (pc + 2) L (.ref hp.1 :: st) (ip_new hp N (.inl (x.1, N, x.2))) := by
  subst hN
  refine go_step ((ip_one_eq hm hd rfl).trans ?_)
  show (ip_na t).bind _ = _
  rw [hx, Option.bind_some, if_pos hn]
theorem g_an {idx t : Nat} {n : Int32} {N : Nat} (hm : ip_M[m]? = some q) (hd : decode q.2.2.1 pc = .ok (.anewarray idx, 3)) (hx : ip_la q.1 idx = some t) (hn : ¬ n < 0 ∧ n.toNatClampNeg * 8 ≤ 536870912) (hN : n.toNatClampNeg = N) : ip_go d m pc L (.int n :: st) hp = ip_go d m (pc + 3) L (.ref hp.1 :: st) (ip_new hp N (.inl (t, N, .inr (.inr (.inr (.inr (fun _ => none))))))) := by
  subst hN
  refine go_step ((ip_one_eq hm hd rfl).trans ?_)
  show (ip_la q.1 idx).bind _ = _
  rw [hx, Option.bind_some, if_pos hn]
theorem g_mu {idx t u : Nat} {n k : Int32} {N K : Nat} {z : vp_A} (hm : ip_M[m]? = some q) (hd : decode q.2.2.1 pc = .ok (.multianewarray idx 2, 4)) (hx : ip_lu q.1 idx = some (t, u)) (hn : ¬ n < 0 ∧ ¬ k < 0 ∧ n.toNatClampNeg * 8 ≤ 536870912 ∧ k.toNatClampNeg * 8 ≤ 536870912) (hN : n.toNatClampNeg = N) (hK : k.toNatClampNeg = K) (hz : (K, if u = 1 then .inl (fun _ => 0) else .inr (.inl (fun _ => 0))) = z) : ip_go d m pc L (.int k :: .int n :: st) hp = ip_go d m (pc + 4) L (.ref hp.1 :: st) (ip_mul hp t u N K z) := by
  subst hN
  subst hK
  subst hz
  refine go_step ((ip_one_eq hm hd rfl).trans ?_)
  show (ip_lu q.1 idx).bind _ = _
  rw [hx, Option.bind_some, if_pos ⟨rfl, hn⟩]
theorem g_oi {idx a : Nat} (hm : ip_M[m]? = some q) (hd : decode q.2.2.1 pc = .ok (.invokespecial idx, 3)) (hl : ip_ls q.1 idx = some 0) (hr : ip_rs st = true) : ip_go (d + 1) m pc L (.ref a :: st) hp = ip_go (d + 1) m (pc + 3) L st hp := by
  refine go_step ((ip_one_eq hm hd rfl).trans ?_)
  show (match ip_ls q.1 idx with
    | some 0 => ip_xoi (d + 1) (pc + 3) L hp (.ref a :: st)
    | _ => (ip_lm q.1 idx).bind (fun x => if x.1 = 2 ∨ x.1 = 5 then ip_inv hp x (.ref a :: st) else none)) = _
  rw [hl]
  show (if 0 < d + 1 ∧ ip_rs st = true then _ else _) = _
  rw [if_pos ⟨Nat.succ_pos d, hr⟩]
theorem g_cp {idx a0 a1 : Nat} {sp dp n : Int32} (hm : ip_M[m]? = some q) (hd : decode q.2.2.1 pc = .ok (.invokestatic idx, 3)) (hl : ip_ls q.1 idx = some 1) (hr : ip_rs st = true) : ip_go (d + 1) m pc L (.int n :: .int dp :: .ref a1 :: .int sp :: .ref a0 :: st) hp = (ip_cp hp a0 sp a1 dp n).bind (fun h => ip_go (d + 1) m (pc + 3) L st h) := by
  refine go_bind (f := fun h => (pc + 3, L, st, h)) ((ip_one_eq hm hd rfl).trans ?_)
  show ip_xst (d + 1) q.1 idx (pc + 3) L hp (.int n :: .int dp :: .ref a1 :: .int sp :: .ref a0 :: st) = _
  unfold ip_xst
  rw [hl]
  show (if 0 < d + 1 ∧ ip_rs st = true then _ else _) = _
  rw [if_pos ⟨Nat.succ_pos d, hr⟩]
theorem g_max {idx : Nat} {x y : Int32} (hm : ip_M[m]? = some q) (hd : decode q.2.2.1 pc = .ok (.invokestatic idx, 3)) (hl : ip_ls q.1 idx = some 2) (hr : ip_rs st = true) : ip_go (d + 1) m pc L (.int y :: .int x :: st) hp = ip_go (d + 1) m (pc + 3) L (.int (if x < y then y else x) :: st) hp := by
  refine go_step ((ip_one_eq hm hd rfl).trans ?_)
  show ip_xst (d + 1) q.1 idx (pc + 3) L hp (.int y :: .int x :: st) = _
  unfold ip_xst
  rw [hl]
  show (if 0 < d + 1 ∧ ip_rs st = true then _ else _) = _
  rw [if_pos ⟨Nat.succ_pos d, hr⟩]
theorem g_min {idx : Nat} {x y : Int32} (hm : ip_M[m]? = some q) (hd : decode q.2.2.1 pc = .ok (.invokestatic idx, 3)) (hl : ip_ls q.1 idx = some 3) (hr : ip_rs st = true) : ip_go (d + 1) m pc L (.int y :: .int x :: st) hp = ip_go (d + 1) m (pc + 3) L (.int (if y < x then y else x) :: st) hp := by
  refine go_step ((ip_one_eq hm hd rfl).trans ?_)
  show ip_xst (d + 1) q.1 idx (pc + 3) L hp (.int y :: .int x :: st) = _
  unfold ip_xst
  rw [hl]
  show (if 0 < d + 1 ∧ ip_rs st = true then _ else _) = _
  rw [if_pos ⟨Nat.succ_pos d, hr⟩]
theorem g_st {idx m' n kd : Nat} {r : List Value} (as : List Value) (hm : ip_M[m]? = some q) (hd : decode q.2.2.1 pc = .ok (.invokestatic idx, 3)) (hl : ip_ls q.1 idx = none) (hk : ip_lm q.1 idx = some (kd, m', n)) (hkd : kd = 1 ∨ kd = 4) (hn : n ≤ st.length) (hs : (st.take n).reverse = as) (hr : st.drop n = r) (hrs : ip_rs r = true) : ip_go (d + 1) m pc L st hp = (ip_call d m' as hp).bind (fun x => ip_go (d + 1) m (pc + 3) L (x.1.toList ++ r) x.2) := by
  refine go_call ((ip_one_eq hm hd rfl).trans ?_)
  show ip_xst (d + 1) q.1 idx (pc + 3) L hp st = _
  unfold ip_xst
  rw [hl, hk]
  show (if kd = 1 ∨ kd = 4 then ip_inv hp (kd, m', n) st else none) = _
  rw [if_pos hkd]
  unfold ip_inv
  rw [if_neg (Nat.not_lt.mpr hn), if_pos hkd, hr, if_pos hrs, hs]
theorem g_in {idx m' n kd a : Nat} {r : List Value} (as : List Value) (hm : ip_M[m]? = some q) (hd : decode q.2.2.1 pc = .ok (.invokespecial idx, 3)) (hl : ip_ls q.1 idx = none) (hk : ip_lm q.1 idx = some (kd, m', n)) (hkd : kd = 2 ∨ kd = 5) (hn : n ≤ st.length) (hs : (st.take n).reverse = as) (hr : st.drop n = .ref a :: r) (hrs : ip_rs r = true) : ip_go (d + 1) m pc L st hp = (ip_call d m' (.ref a :: as) hp).bind (fun x => ip_go (d + 1) m (pc + 3) L (x.1.toList ++ r) x.2) := by
  refine go_call ((ip_one_eq hm hd rfl).trans ?_)
  show ip_xsp (d + 1) q.1 idx (pc + 3) L hp st = _
  unfold ip_xsp
  rw [hl, hk]
  show (if kd = 2 ∨ kd = 5 then ip_inv hp (kd, m', n) st else none) = _
  rw [if_pos hkd]
  unfold ip_inv
  have h1 : ¬ (kd = 1 ∨ kd = 4) := by omega
  rw [if_neg (Nat.not_lt.mpr hn), if_neg h1, hr]
  show (if ip_rs r = true ∧ (kd = 2 ∨ kd = 5 ∨ _) then _ else _) = _
  rw [if_pos ⟨hrs, by rcases hkd with h | h; exact Or.inl h; exact Or.inr (Or.inl h)⟩, hs]
theorem g_vi {idx m' n kd a : Nat} {r : List Value} {q' : ip_I} (as : List Value) (hm : ip_M[m]? = some q) (hd : decode q.2.2.1 pc = .ok (.invokevirtual idx, 3)) (hk : ip_lm q.1 idx = some (kd, m', n)) (hkd : kd = 0 ∨ kd = 3) (hq : ip_M[m']? = some q') (hn : n ≤ st.length) (hs : (st.take n).reverse = as) (hr : st.drop n = .ref a :: r) (hrs : ip_rs r = true) : ip_go (d + 1) m pc L st hp = if ip_isO hp a q'.1 = true then (ip_call d m' (.ref a :: as) hp).bind (fun x => ip_go (d + 1) m (pc + 3) L (x.1.toList ++ r) x.2) else none := by
  have h1 : ¬ (kd = 1 ∨ kd = 4) := by omega
  have h2 : ¬ (kd = 2 ∨ kd = 5) := by omega
  have e : ip_one (d + 1) m pc L st hp = if ip_isO hp a q'.1 = true then some (.inr (.inr (m', .ref a :: as, r))) else none := by
    refine (ip_one_eq hm hd rfl).trans ?_
    show (ip_lm q.1 idx).bind (fun x => if x.1 = 0 ∨ x.1 = 3 then ip_inv hp x st else none) = _
    rw [hk, Option.bind_some, if_pos hkd]
    unfold ip_inv
    rw [if_neg (Nat.not_lt.mpr hn), if_neg h1, hr]
    show (if ip_rs r = true ∧ (kd = 2 ∨ kd = 5 ∨ ((ip_M[m']?).map (fun z => ip_isO hp a z.1)) = some true) then (some (.inr (.inr (m', .ref a :: (st.take n).reverse, r))) : Option ip_A) else none) = _
    rw [hq, hs]
    by_cases ho : ip_isO hp a q'.1 = true
    · rw [if_pos ho, if_pos ⟨hrs, Or.inr (Or.inr (by rw [Option.map_some, ho]))⟩]
    · rw [if_neg ho, if_neg (fun z => by
        rcases z.2 with z | z | z
        · exact h2 (Or.inl z)
        · exact h2 (Or.inr z)
        · exact ho (Option.some.inj z))]
  by_cases ho : ip_isO hp a q'.1 = true
  · rw [if_pos ho] at e ⊢
    exact go_call e
  · rw [if_neg ho] at e ⊢
    exact go_none e
theorem g_call {as : List Value} {L0 : ip_L} (hm : ip_M[m]? = some q) (hl : (as.flatMap fun v => if v.category = 2 then [some v, none] else [some v]).length ≤ q.2.2.2.1) (he : ip_ent q.2.2.2.1 as = L0) : ip_call d m as hp = ip_go d m 0 L0 [] hp := by
  unfold ip_call ip_in0
  rw [hm, Option.bind_some, if_pos hl, he]
  rfl
def ip_k1 : Option Value → Option Value
  | some v => if v.category = 2 then none else some v
  | none => none
theorem k1_i (x : Int32) : ip_k1 (some (.int x)) = some (.int x) := rfl
theorem k1_j (x : Int64) : ip_k1 (some (.long x)) = none := rfl
theorem k1_a (x : Nat) : ip_k1 (some (.ref x)) = some (.ref x) := rfl
theorem k1_n : ip_k1 none = none := rfl
theorem kl_k1 {i : Nat} {o : Option Value} (h : L[i]? = some o) : ip_kl L (i + 1) = L.set i (ip_k1 o) := by
  have hlt := (List.getElem?_eq_some_iff.mp h).1
  have hself : ∀ x, L[i]? = some x → L.set i x = L := by
    intro x hx
    apply List.ext_getElem?
    intro j
    rw [List.getElem?_set]
    split
    · rename_i e
      subst e
      first | exact hx.symm | (rw [if_pos hlt]; exact hx.symm)
    · rfl
  show (match L[i]? with
    | some (some v) => if v.category = 2 then L.set i none else L
    | _ => L) = _
  rw [h]
  cases o with
  | none => exact (hself none h).symm
  | some v =>
    show (if v.category = 2 then L.set i none else L) = L.set i (if v.category = 2 then none else some v)
    by_cases hc : v.category = 2
    · rw [if_pos hc, if_pos hc]
    · rw [if_neg hc, if_neg hc]
      exact (hself _ h).symm
end EQS
