/-! the pure machine and the machine itself -/
def ip_ad (base b zp a : Nat) : Nat := if a = 0 then b else if a = 1 then zp else base + (a - 2)
def ip_v (ad : Nat → Nat) : Value → Value
  | .ref a => .ref (ad a)
  | v => v
theorem ip_v_cat (ad : Nat → Nat) (v : Value) : (ip_v ad v).category = v.category := by cases v <;> rfl
def ip_pp : Nat → Int32 := fun k => ([0, 0, 1, 2, 1, 1, 1, 1, 0, 1, 1, 0, 0, 0, 0, 0] : List Int32).getD k 0
def ip_e (ad : Nat → Nat) (ca : Nat → ClassId) : ip_C → va_E
  | .inl (t, n, x) => .inl (ca t, n, match x with
    | .inr (.inr (.inr (.inr f))) => .inr (.inr (.inr (.inr (fun i => (f i).map ad))))
    | y => y)
  | .inr (ci, fs) => .inr (ci, fs.map (ip_v ad))
def ip_ok (x : ip_C) : Prop := match x with
  | .inl y => y.1 < 9
  | .inr _ => True
def ip_tys (ca : Nat → ClassId) : List (ClassId × FieldType) := [(ca 0, .byte), (ca 1, .int), (ca 2, .long), (ca 3, .boolean), (ca 4, .object RX1), (ca 5, .object RX3), (ca 6, .object RX6), (ca 7, .array .int), (ca 8, .array .long)]
/-- words that other rows keep than the good ones do -/
def ip_isN : Cond → Bool
  | .methodLinkNest .. => true
  | .fieldLinkNest .. => true
  | _ => false
def ip_ovs : List FieldType := [.object RX1, .object RX3, .object RX6, .array .int, .array .long]
def ip_AO (ty : FieldType) (U : State) : Prop := (Cond.arrayOver ty).before #[] U = true
def ip_ws : List Cond := lw_tbl.filter goodWord
def ip_K (G : Heap) (b zp L0 : Nat) (xs : Nat → Int32) (D : va_G) (ca : Nat → ClassId) (U : State) : Prop :=
  va_K D ip_cl (ip_tys ca) U ∧ (∀ w ∈ tables_1, ip_isN w = true → va_Nw w U) ∧ (∀ ty ∈ ip_ovs, ip_AO ty U) ∧ va_Z RX8 "POPS" "[I" (.ref zp) (fun x => G.size ≤ x) U G ∧ va_X b L0 xs U G ∧ va_T .int zp 16 (fun j => .int (ip_pp j)) (fun x => G.size ≤ x) U G ∧ b < G.size ∧ zp < G.size
/-- the heap of the pure machine, as the machine's heap holds it: what was there before stays -/
def ip_rep (G : Heap) (b zp L0 : Nat) (xs : Nat → Int32) (D : va_G) (ca : Nat → ClassId) (hp : ip_H) (H : Heap) : Prop :=
  2 ≤ hp.1 ∧ H.size + 2 = G.size + hp.1 ∧ (∀ a : Nat, a < G.size → H[a]? = G[a]?) ∧ ∀ (a : Nat) (x : ip_C), hp.2.2 a = some x → a < hp.1 ∧ ((a = 0 ∧ x = .inl (9, L0, .inl xs)) ∨ (a = 1 ∧ x = .inl (9, 16, .inl ip_pp)) ∨ (2 ≤ a ∧ ip_ok x ∧ va_at D ip_cl (G.size + (a - 2), ip_e (ip_ad G.size b zp) ca x) H))
def ip_al (ad : Nat → Nat) (L : ip_L) : List (Nat × Value) := (List.range L.length).filterMap (fun i => (ip_ld L i).map (fun v => (i, ip_v ad v)))
def ip_lr (ad : Nat → Nat) (ls : Array Slot) (ml : Nat) (L : ip_L) : Prop := L.length = ml ∧ lv_has ls ml (ip_al ad L)
def ip_own (cn : Nat) : String := (ip_cn[cn]?).getD ""
def ip_cx (p : Program) (s : State) (mid : MethodId) (args : Array Value) (meth : Method) (c : Code) (G : Heap) (b zp L0 : Nat) (xs : Nat → Int32) (D : va_G) (ca : Nat → ClassId) (q : ip_I) : Prop :=
  p.tables.exec = Jvm.exec ∧ c.code = q.2.2.1 ∧ c.maxLocals = q.2.2.2.1 ∧ s.vm.findClass (ip_own q.1) = some mid.cls ∧ (∀ w ∈ ip_ws, w.before args s = true) ∧ meth.name = q.2.1.name ∧ ip_K G b zp L0 xs D ca s
/-- the machine, at a point of the pure one, comes to Q -/
def ip_W (p : Program) (l : Launch) (e : Env) (R : Room) (s : State) (mid : MethodId) (args : Array Value) (below : List Frame) (meth : Method) (c : Code) (Q : State → Prop) (G : Heap) (b zp L0 : Nat) (xs : Nat → Int32) (D : va_G) (ca : Nat → ClassId) (h0 s0 : Nat) (pc : Nat) (L : ip_L) (st : List Value) (hp : ip_H) : Prop :=
  ∀ (H : Heap) (locs : List Loc) (cells slots : Nat) (ls : Array Slot), ip_rep G b zp L0 xs D ca hp H → (∀ x ∈ locs, G.size ≤ x.base) → ip_lr (ip_ad G.size b zp) ls c.maxLocals L → cells + h0 = hp.1 → slots + s0 = hp.2.1 → W p l e R s mid args below meth c H locs cells slots Q (F0 mid pc ls (st.map (ip_v (ip_ad G.size b zp))))
theorem ip_ld_iff {L : ip_L} {i : Nat} {v : Value} : ip_ld L i = some v ↔ L[i]? = some (some v) := by
  unfold ip_ld
  cases h : L[i]? with
  | none => simp
  | some o => cases o <;> simp
theorem ip_al_mem {ad : Nat → Nat} {L : ip_L} {i : Nat} {w : Value} : (i, w) ∈ ip_al ad L ↔ ∃ v, ip_ld L i = some v ∧ ip_v ad v = w := by
  unfold ip_al
  rw [List.mem_filterMap]
  constructor
  · rintro ⟨j, -, hj⟩
    obtain ⟨v, h1, h2⟩ := Option.map_eq_some_iff.mp hj
    cases h2
    exact ⟨v, h1, rfl⟩
  · rintro ⟨v, h1, rfl⟩
    refine ⟨i, List.mem_range.mpr ?_, by rw [h1]; rfl⟩
    exact (List.getElem?_eq_some_iff.mp (ip_ld_iff.mp h1)).1
theorem lr_at {ad : Nat → Nat} {ls : Array Slot} {ml : Nat} {L : ip_L} (h : ip_lr ad ls ml L) {i : Nat} {v : Value} (hv : ip_ld L i = some v) : ls[i]? = some (.val (ip_v ad v)) := h.2.2.2 (i, _) (ip_al_mem.mpr ⟨v, hv, rfl⟩)
theorem kl_len (L : ip_L) (i : Nat) : (ip_kl L i).length = L.length := by
  unfold ip_kl
  split
  · rfl
  · split
    · split <;> simp
    · rfl
theorem kl_ld {L : ip_L} {i j : Nat} {v : Value} (h : ip_ld (ip_kl L i) j = some v) : ip_ld L j = some v ∧ ¬ (j + 1 = i ∧ v.category = 2) := by
  rw [ip_ld_iff] at h ⊢
  unfold ip_kl at h
  split at h
  · exact ⟨h, fun z => by omega⟩
  · rename_i i' k
    split at h
    · rename_i w hw
      split at h
      · rename_i hc
        by_cases e : j = k
        · subst e
          rw [List.getElem?_set] at h
          simp at h
        · rw [List.getElem?_set_ne (Ne.symm e)] at h
          exact ⟨h, fun z => e (by omega)⟩
      · rename_i hc
        refine ⟨h, fun z => ?_⟩
        have e : j = k := by omega
        subst e
        rw [hw] at h
        cases h
        exact hc z.2
    · rename_i hn
      refine ⟨h, fun z => ?_⟩
      have e : j = k := by omega
      subst e
      exact hn v h
theorem st1_lr {ad : Nat → Nat} {ls ls' : Array Slot} {ml : Nat} {L : ip_L} {i : Nat} {v : Value} (h : ip_lr ad ls ml L) (h' : lv_has ls' ml ((i, ip_v ad v) :: (ip_al ad L).filter (fun x => !(x.1 == i) && !(x.1 + 1 == i && x.2.category == 2)))) : ip_lr ad ls' ml ((ip_kl L i).set i (some v)) := by
  refine ⟨by rw [List.length_set, kl_len]; exact h.1, h'.1, h'.2.1, fun x hx => ?_⟩
  obtain ⟨j, w⟩ := x
  obtain ⟨u, h1, rfl⟩ := ip_al_mem.mp hx
  rw [ip_ld_iff] at h1
  by_cases e : j = i
  · subst e
    rw [List.getElem?_set] at h1
    split at h1
    · split at h1
      · cases h1
        exact h'.2.2 _ List.mem_cons_self
      · cases h1
    · rename_i z
      exact absurd rfl z
  · rw [List.getElem?_set_ne (Ne.symm e)] at h1
    obtain ⟨h2, h3⟩ := kl_ld (ip_ld_iff.mpr h1)
    refine h'.2.2 _ (List.mem_cons_of_mem _ (List.mem_filter.mpr ⟨ip_al_mem.mpr ⟨u, h2, rfl⟩, ?_⟩))
    simp only [ip_v_cat]
    by_cases z : j + 1 = i
    · have : ¬ u.category = 2 := fun y => h3 ⟨z, y⟩
      simp [e, this]
    · simp [e, z]
theorem st2_lr {ad : Nat → Nat} {ls ls' : Array Slot} {ml : Nat} {L : ip_L} {i : Nat} {v : Value} (h : ip_lr ad ls ml L) (h' : lv_has ls' ml ((i, ip_v ad v) :: (ip_al ad L).filter (fun x => !(x.1 == i) && (!(x.1 == i + 1) && !(x.1 + 1 == i && x.2.category == 2))))) : ip_lr ad ls' ml (((ip_kl L i).set i (some v)).set (i + 1) none) := by
  refine ⟨by rw [List.length_set, List.length_set, kl_len]; exact h.1, h'.1, h'.2.1, fun x hx => ?_⟩
  obtain ⟨j, w⟩ := x
  obtain ⟨u, h1, rfl⟩ := ip_al_mem.mp hx
  rw [ip_ld_iff] at h1
  by_cases e2 : j = i + 1
  · subst e2
    rw [List.getElem?_set] at h1
    simp at h1
  rw [List.getElem?_set_ne (Ne.symm e2)] at h1
  by_cases e : j = i
  · subst e
    rw [List.getElem?_set] at h1
    split at h1
    · split at h1
      · cases h1
        exact h'.2.2 _ List.mem_cons_self
      · cases h1
    · rename_i z
      exact absurd rfl z
  · rw [List.getElem?_set_ne (Ne.symm e)] at h1
    obtain ⟨h2, h3⟩ := kl_ld (ip_ld_iff.mpr h1)
    refine h'.2.2 _ (List.mem_cons_of_mem _ (List.mem_filter.mpr ⟨ip_al_mem.mpr ⟨u, h2, rfl⟩, ?_⟩))
    simp only [ip_v_cat]
    by_cases z : j + 1 = i
    · have : ¬ u.category = 2 := fun y => h3 ⟨z, y⟩
      simp [e, e2, this]
    · simp [e, e2, z]
section SND1
variable {p : Program} {l : Launch} {e : Env} {R : Room} {s : State} {mid : MethodId} {args : Array Value} {below : List Frame} {meth : Method} {c : Code} {Q : State → Prop} {G : Heap} {b zp L0 : Nat} {xs : Nat → Int32} {D : va_G} {ca : Nat → ClassId} {h0 s0 : Nat} {q : ip_I} {d pc len : Nat} {L L' : ip_L} {st st' : List Value} {hp hp' : ip_H} {pc' : Nat}
theorem sg_inv {pc1 : Nat} {o : Option (List Value)} (h : ip_sg pc1 L hp o = some (.inl (pc', L', st', hp'))) : o = some st' ∧ pc' = pc1 ∧ L' = L ∧ hp' = hp := by
  cases o with
  | none => cases h
  | some x =>
    have h : some (Sum.inl (pc1, L, x, hp)) = (some (.inl (pc', L', st', hp')) : Option ip_A) := h
    cases h
    exact ⟨rfl, rfl, rfl, rfl⟩
theorem lg_inv {pc1 : Nat} {o : Option (ip_L × List Value)} (h : ip_lg2 pc1 hp o = some (.inl (pc', L', st', hp'))) : o = some (L', st') ∧ pc' = pc1 ∧ hp' = hp := by
  cases o with
  | none => cases h
  | some x =>
    have h : some (Sum.inl (pc1, x.1, x.2, hp)) = (some (.inl (pc', L', st', hp')) : Option ip_A) := h
    cases h
    exact ⟨rfl, rfl, rfl⟩
theorem ii_inv {f : Int32 → Int32 → Int32} (h : ip_ii f st = some st') : ∃ x y r, st = .int y :: .int x :: r ∧ st' = .int (f x y) :: r := by
  unfold ip_ii at h
  split at h
  · cases h
    exact ⟨_, _, _, rfl, rfl⟩
  · cases h
theorem ll_inv {f : Int64 → Int64 → Value} (h : ip_ll f st = some st') : ∃ x y r, st = .long y :: .long x :: r ∧ st' = f x y :: r := by
  unfold ip_ll at h
  split at h
  · cases h
    exact ⟨_, _, _, rfl, rfl⟩
  · cases h
theorem li_inv {f : Int64 → Int32 → Int64} (h : ip_li f st = some st') : ∃ x y r, st = .int y :: .long x :: r ∧ st' = .long (f x y) :: r := by
  unfold ip_li at h
  split at h
  · cases h
    exact ⟨_, _, _, rfl, rfl⟩
  · cases h
theorem i1_inv {f : Int32 → Value} (h : ip_i1 f st = some st') : ∃ x r, st = .int x :: r ∧ st' = f x :: r := by
  unfold ip_i1 at h
  split at h
  · cases h
    exact ⟨_, _, rfl, rfl⟩
  · cases h
theorem l1_inv {f : Int64 → Value} (h : ip_l1 f st = some st') : ∃ x r, st = .long x :: r ∧ st' = f x :: r := by
  unfold ip_l1 at h
  split at h
  · cases h
    exact ⟨_, _, rfl, rfl⟩
  · cases h
theorem id_inv {f : Int32 → Int32 → Int32} (h : ip_id f st = some st') : ∃ x y r, st = .int y :: .int x :: r ∧ ¬ y = 0 ∧ st' = .int (f x y) :: r := by
  unfold ip_id at h
  split at h
  · split at h
    · cases h
    · rename_i hy
      cases h
      exact ⟨_, _, _, rfl, hy, rfl⟩
  · cases h
theorem ld2_inv {f : Int64 → Int64 → Int64} (h : ip_ld2 f st = some st') : ∃ x y r, st = .long y :: .long x :: r ∧ ¬ y = 0 ∧ st' = .long (f x y) :: r := by
  unfold ip_ld2 at h
  split at h
  · split at h
    · cases h
    · rename_i hy
      cases h
      exact ⟨_, _, _, rfl, hy, rfl⟩
  · cases h
theorem iload_inv {i : Nat} (h : ip_iload L i st = some st') : ∃ x, ip_ld L i = some (.int x) ∧ st' = .int x :: st := by
  unfold ip_iload at h
  split at h
  · rename_i x hx
    cases h
    exact ⟨x, hx, rfl⟩
  · cases h
theorem lload_inv {i : Nat} (h : ip_lload L i st = some st') : ∃ x, ip_ld L i = some (.long x) ∧ st' = .long x :: st := by
  unfold ip_lload at h
  split at h
  · rename_i x hx
    cases h
    exact ⟨x, hx, rfl⟩
  · cases h
theorem aload_inv {i : Nat} (h : ip_aload L i st = some st') : ∃ x, ip_ld L i = some (.ref x) ∧ st' = .ref x :: st := by
  unfold ip_aload at h
  split at h
  · rename_i x hx
    cases h
    exact ⟨x, hx, rfl⟩
  · cases h
theorem istore_inv {i : Nat} (h : ip_istore L i st = some (L', st')) : ∃ x, st = .int x :: st' ∧ i < L.length ∧ L' = (ip_kl L i).set i (some (.int x)) := by
  unfold ip_istore at h
  split at h
  · rename_i x r
    obtain ⟨L1, h1, h2⟩ := Option.map_eq_some_iff.mp h
    cases h2
    unfold ip_st1 at h1
    split at h1
    · rename_i hi
      cases h1
      exact ⟨x, rfl, hi, rfl⟩
    · cases h1
  · cases h
theorem astore_inv {i : Nat} (h : ip_astore L i st = some (L', st')) : ∃ x, st = .ref x :: st' ∧ i < L.length ∧ L' = (ip_kl L i).set i (some (.ref x)) := by
  unfold ip_astore at h
  split at h
  · rename_i x r
    obtain ⟨L1, h1, h2⟩ := Option.map_eq_some_iff.mp h
    cases h2
    unfold ip_st1 at h1
    split at h1
    · rename_i hi
      cases h1
      exact ⟨x, rfl, hi, rfl⟩
    · cases h1
  · cases h
theorem lstore_inv {i : Nat} (h : ip_lstore L i st = some (L', st')) : ∃ x, st = .long x :: st' ∧ i + 1 < L.length ∧ L' = ((ip_kl L i).set i (some (.long x))).set (i + 1) none := by
  unfold ip_lstore at h
  split at h
  · rename_i x r
    obtain ⟨L1, h1, h2⟩ := Option.map_eq_some_iff.mp h
    cases h2
    unfold ip_st2 at h1
    split at h1
    · rename_i hi
      cases h1
      exact ⟨x, rfl, hi, rfl⟩
    · cases h1
  · cases h
theorem sd_iadd (C : ip_cx p s mid args meth c G b zp L0 xs D ca q) (hd : decode q.2.2.1 pc = .ok (.iadd, 1)) (h : ip_sg (pc + 1) L hp (ip_ii (fun x y => x + y) st) = some (.inl (pc', L', st', hp'))) (k : ip_W p l e R s mid args below meth c Q G b zp L0 xs D ca h0 s0 pc' L' st' hp') : ip_W p l e R s mid args below meth c Q G b zp L0 xs D ca h0 s0 pc L st hp := by
  obtain ⟨g, rfl, rfl, rfl⟩ := sg_inv h
  obtain ⟨x, y, r, rfl, rfl⟩ := ii_inv g
  intro H locs cells slots ls hR hlo hlr hc hs
  exact lv_iadd C.1 C.2.1 hd (k H locs cells slots ls hR hlo hlr hc hs)
theorem sd_isub (C : ip_cx p s mid args meth c G b zp L0 xs D ca q) (hd : decode q.2.2.1 pc = .ok (.isub, 1)) (h : ip_sg (pc + 1) L hp (ip_ii (fun x y => x - y) st) = some (.inl (pc', L', st', hp'))) (k : ip_W p l e R s mid args below meth c Q G b zp L0 xs D ca h0 s0 pc' L' st' hp') : ip_W p l e R s mid args below meth c Q G b zp L0 xs D ca h0 s0 pc L st hp := by
  obtain ⟨g, rfl, rfl, rfl⟩ := sg_inv h
  obtain ⟨x, y, r, rfl, rfl⟩ := ii_inv g
  intro H locs cells slots ls hR hlo hlr hc hs
  exact lv_isub C.1 C.2.1 hd (k H locs cells slots ls hR hlo hlr hc hs)
theorem sd_imul (C : ip_cx p s mid args meth c G b zp L0 xs D ca q) (hd : decode q.2.2.1 pc = .ok (.imul, 1)) (h : ip_sg (pc + 1) L hp (ip_ii (fun x y => x * y) st) = some (.inl (pc', L', st', hp'))) (k : ip_W p l e R s mid args below meth c Q G b zp L0 xs D ca h0 s0 pc' L' st' hp') : ip_W p l e R s mid args below meth c Q G b zp L0 xs D ca h0 s0 pc L st hp := by
  obtain ⟨g, rfl, rfl, rfl⟩ := sg_inv h
  obtain ⟨x, y, r, rfl, rfl⟩ := ii_inv g
  intro H locs cells slots ls hR hlo hlr hc hs
  exact lv_imul C.1 C.2.1 hd (k H locs cells slots ls hR hlo hlr hc hs)
theorem sd_iand (C : ip_cx p s mid args meth c G b zp L0 xs D ca q) (hd : decode q.2.2.1 pc = .ok (.iand, 1)) (h : ip_sg (pc + 1) L hp (ip_ii (fun x y => x &&& y) st) = some (.inl (pc', L', st', hp'))) (k : ip_W p l e R s mid args below meth c Q G b zp L0 xs D ca h0 s0 pc' L' st' hp') : ip_W p l e R s mid args below meth c Q G b zp L0 xs D ca h0 s0 pc L st hp := by
  obtain ⟨g, rfl, rfl, rfl⟩ := sg_inv h
  obtain ⟨x, y, r, rfl, rfl⟩ := ii_inv g
  intro H locs cells slots ls hR hlo hlr hc hs
  exact lv_iand C.1 C.2.1 hd (k H locs cells slots ls hR hlo hlr hc hs)
theorem sd_ladd (C : ip_cx p s mid args meth c G b zp L0 xs D ca q) (hd : decode q.2.2.1 pc = .ok (.ladd, 1)) (h : ip_sg (pc + 1) L hp (ip_ll (fun x y => .long (x + y)) st) = some (.inl (pc', L', st', hp'))) (k : ip_W p l e R s mid args below meth c Q G b zp L0 xs D ca h0 s0 pc' L' st' hp') : ip_W p l e R s mid args below meth c Q G b zp L0 xs D ca h0 s0 pc L st hp := by
  obtain ⟨g, rfl, rfl, rfl⟩ := sg_inv h
  obtain ⟨x, y, r, rfl, rfl⟩ := ll_inv g
  intro H locs cells slots ls hR hlo hlr hc hs
  exact lv_ladd C.1 C.2.1 hd (k H locs cells slots ls hR hlo hlr hc hs)
theorem sd_lsub (C : ip_cx p s mid args meth c G b zp L0 xs D ca q) (hd : decode q.2.2.1 pc = .ok (.lsub, 1)) (h : ip_sg (pc + 1) L hp (ip_ll (fun x y => .long (x - y)) st) = some (.inl (pc', L', st', hp'))) (k : ip_W p l e R s mid args below meth c Q G b zp L0 xs D ca h0 s0 pc' L' st' hp') : ip_W p l e R s mid args below meth c Q G b zp L0 xs D ca h0 s0 pc L st hp := by
  obtain ⟨g, rfl, rfl, rfl⟩ := sg_inv h
  obtain ⟨x, y, r, rfl, rfl⟩ := ll_inv g
  intro H locs cells slots ls hR hlo hlr hc hs
  exact lv_lsub C.1 C.2.1 hd (k H locs cells slots ls hR hlo hlr hc hs)
theorem sd_lmul (C : ip_cx p s mid args meth c G b zp L0 xs D ca q) (hd : decode q.2.2.1 pc = .ok (.lmul, 1)) (h : ip_sg (pc + 1) L hp (ip_ll (fun x y => .long (x * y)) st) = some (.inl (pc', L', st', hp'))) (k : ip_W p l e R s mid args below meth c Q G b zp L0 xs D ca h0 s0 pc' L' st' hp') : ip_W p l e R s mid args below meth c Q G b zp L0 xs D ca h0 s0 pc L st hp := by
  obtain ⟨g, rfl, rfl, rfl⟩ := sg_inv h
  obtain ⟨x, y, r, rfl, rfl⟩ := ll_inv g
  intro H locs cells slots ls hR hlo hlr hc hs
  exact lv_lmul C.1 C.2.1 hd (k H locs cells slots ls hR hlo hlr hc hs)
theorem sd_land (C : ip_cx p s mid args meth c G b zp L0 xs D ca q) (hd : decode q.2.2.1 pc = .ok (.land, 1)) (h : ip_sg (pc + 1) L hp (ip_ll (fun x y => .long (x &&& y)) st) = some (.inl (pc', L', st', hp'))) (k : ip_W p l e R s mid args below meth c Q G b zp L0 xs D ca h0 s0 pc' L' st' hp') : ip_W p l e R s mid args below meth c Q G b zp L0 xs D ca h0 s0 pc L st hp := by
  obtain ⟨g, rfl, rfl, rfl⟩ := sg_inv h
  obtain ⟨x, y, r, rfl, rfl⟩ := ll_inv g
  intro H locs cells slots ls hR hlo hlr hc hs
  exact lv_land C.1 C.2.1 hd (k H locs cells slots ls hR hlo hlr hc hs)
theorem sd_lor (C : ip_cx p s mid args meth c G b zp L0 xs D ca q) (hd : decode q.2.2.1 pc = .ok (.lor, 1)) (h : ip_sg (pc + 1) L hp (ip_ll (fun x y => .long (x ||| y)) st) = some (.inl (pc', L', st', hp'))) (k : ip_W p l e R s mid args below meth c Q G b zp L0 xs D ca h0 s0 pc' L' st' hp') : ip_W p l e R s mid args below meth c Q G b zp L0 xs D ca h0 s0 pc L st hp := by
  obtain ⟨g, rfl, rfl, rfl⟩ := sg_inv h
  obtain ⟨x, y, r, rfl, rfl⟩ := ll_inv g
  intro H locs cells slots ls hR hlo hlr hc hs
  exact lv_lor C.1 C.2.1 hd (k H locs cells slots ls hR hlo hlr hc hs)
theorem sd_lxor (C : ip_cx p s mid args meth c G b zp L0 xs D ca q) (hd : decode q.2.2.1 pc = .ok (.lxor, 1)) (h : ip_sg (pc + 1) L hp (ip_ll (fun x y => .long (x ^^^ y)) st) = some (.inl (pc', L', st', hp'))) (k : ip_W p l e R s mid args below meth c Q G b zp L0 xs D ca h0 s0 pc' L' st' hp') : ip_W p l e R s mid args below meth c Q G b zp L0 xs D ca h0 s0 pc L st hp := by
  obtain ⟨g, rfl, rfl, rfl⟩ := sg_inv h
  obtain ⟨x, y, r, rfl, rfl⟩ := ll_inv g
  intro H locs cells slots ls hR hlo hlr hc hs
  exact lv_lxor C.1 C.2.1 hd (k H locs cells slots ls hR hlo hlr hc hs)
theorem sd_lcmp (C : ip_cx p s mid args meth c G b zp L0 xs D ca q) (hd : decode q.2.2.1 pc = .ok (.lcmp, 1)) (h : ip_sg (pc + 1) L hp (ip_ll (fun x y => .int (lg_cmp x y)) st) = some (.inl (pc', L', st', hp'))) (k : ip_W p l e R s mid args below meth c Q G b zp L0 xs D ca h0 s0 pc' L' st' hp') : ip_W p l e R s mid args below meth c Q G b zp L0 xs D ca h0 s0 pc L st hp := by
  obtain ⟨g, rfl, rfl, rfl⟩ := sg_inv h
  obtain ⟨x, y, r, rfl, rfl⟩ := ll_inv g
  intro H locs cells slots ls hR hlo hlr hc hs
  exact W.lcmp C.1 C.2.1 hd (k H locs cells slots ls hR hlo hlr hc hs)
theorem sd_lshl (C : ip_cx p s mid args meth c G b zp L0 xs D ca q) (hd : decode q.2.2.1 pc = .ok (.lshl, 1)) (h : ip_sg (pc + 1) L hp (ip_li (fun x y => x <<< (y.toInt64 &&& 63)) st) = some (.inl (pc', L', st', hp'))) (k : ip_W p l e R s mid args below meth c Q G b zp L0 xs D ca h0 s0 pc' L' st' hp') : ip_W p l e R s mid args below meth c Q G b zp L0 xs D ca h0 s0 pc L st hp := by
  obtain ⟨g, rfl, rfl, rfl⟩ := sg_inv h
  obtain ⟨x, y, r, rfl, rfl⟩ := li_inv g
  intro H locs cells slots ls hR hlo hlr hc hs
  exact lv_lshl C.1 C.2.1 hd rfl (k H locs cells slots ls hR hlo hlr hc hs)
theorem sd_lushr (C : ip_cx p s mid args meth c G b zp L0 xs D ca q) (hd : decode q.2.2.1 pc = .ok (.lushr, 1)) (h : ip_sg (pc + 1) L hp (ip_li (fun x y => (x.toUInt64 >>> (y.toInt64.toUInt64 &&& Int64.toUInt64 63)).toInt64) st) = some (.inl (pc', L', st', hp'))) (k : ip_W p l e R s mid args below meth c Q G b zp L0 xs D ca h0 s0 pc' L' st' hp') : ip_W p l e R s mid args below meth c Q G b zp L0 xs D ca h0 s0 pc L st hp := by
  obtain ⟨g, rfl, rfl, rfl⟩ := sg_inv h
  obtain ⟨x, y, r, rfl, rfl⟩ := li_inv g
  intro H locs cells slots ls hR hlo hlr hc hs
  exact lv_lushr C.1 C.2.1 hd rfl (k H locs cells slots ls hR hlo hlr hc hs)
theorem sd_ineg (C : ip_cx p s mid args meth c G b zp L0 xs D ca q) (hd : decode q.2.2.1 pc = .ok (.ineg, 1)) (h : ip_sg (pc + 1) L hp (ip_i1 (fun x => .int (-x)) st) = some (.inl (pc', L', st', hp'))) (k : ip_W p l e R s mid args below meth c Q G b zp L0 xs D ca h0 s0 pc' L' st' hp') : ip_W p l e R s mid args below meth c Q G b zp L0 xs D ca h0 s0 pc L st hp := by
  obtain ⟨g, rfl, rfl, rfl⟩ := sg_inv h
  obtain ⟨x, r, rfl, rfl⟩ := i1_inv g
  intro H locs cells slots ls hR hlo hlr hc hs
  exact lv_ineg C.1 C.2.1 hd (k H locs cells slots ls hR hlo hlr hc hs)
theorem sd_i2l (C : ip_cx p s mid args meth c G b zp L0 xs D ca q) (hd : decode q.2.2.1 pc = .ok (.i2l, 1)) (h : ip_sg (pc + 1) L hp (ip_i1 (fun x => .long x.toInt64) st) = some (.inl (pc', L', st', hp'))) (k : ip_W p l e R s mid args below meth c Q G b zp L0 xs D ca h0 s0 pc' L' st' hp') : ip_W p l e R s mid args below meth c Q G b zp L0 xs D ca h0 s0 pc L st hp := by
  obtain ⟨g, rfl, rfl, rfl⟩ := sg_inv h
  obtain ⟨x, r, rfl, rfl⟩ := i1_inv g
  intro H locs cells slots ls hR hlo hlr hc hs
  exact lv_i2l C.1 C.2.1 hd rfl (k H locs cells slots ls hR hlo hlr hc hs)
theorem sd_i2b (C : ip_cx p s mid args meth c G b zp L0 xs D ca q) (hd : decode q.2.2.1 pc = .ok (.i2b, 1)) (h : ip_sg (pc + 1) L hp (ip_i1 (fun x => .int x.toInt8.toInt32) st) = some (.inl (pc', L', st', hp'))) (k : ip_W p l e R s mid args below meth c Q G b zp L0 xs D ca h0 s0 pc' L' st' hp') : ip_W p l e R s mid args below meth c Q G b zp L0 xs D ca h0 s0 pc L st hp := by
  obtain ⟨g, rfl, rfl, rfl⟩ := sg_inv h
  obtain ⟨x, r, rfl, rfl⟩ := i1_inv g
  intro H locs cells slots ls hR hlo hlr hc hs
  exact lv_i2b C.1 C.2.1 hd rfl (k H locs cells slots ls hR hlo hlr hc hs)
theorem sd_lneg (C : ip_cx p s mid args meth c G b zp L0 xs D ca q) (hd : decode q.2.2.1 pc = .ok (.lneg, 1)) (h : ip_sg (pc + 1) L hp (ip_l1 (fun x => .long (-x)) st) = some (.inl (pc', L', st', hp'))) (k : ip_W p l e R s mid args below meth c Q G b zp L0 xs D ca h0 s0 pc' L' st' hp') : ip_W p l e R s mid args below meth c Q G b zp L0 xs D ca h0 s0 pc L st hp := by
  obtain ⟨g, rfl, rfl, rfl⟩ := sg_inv h
  obtain ⟨x, r, rfl, rfl⟩ := l1_inv g
  intro H locs cells slots ls hR hlo hlr hc hs
  exact lv_lneg C.1 C.2.1 hd (k H locs cells slots ls hR hlo hlr hc hs)
theorem sd_l2i (C : ip_cx p s mid args meth c G b zp L0 xs D ca q) (hd : decode q.2.2.1 pc = .ok (.l2i, 1)) (h : ip_sg (pc + 1) L hp (ip_l1 (fun x => .int x.toInt32) st) = some (.inl (pc', L', st', hp'))) (k : ip_W p l e R s mid args below meth c Q G b zp L0 xs D ca h0 s0 pc' L' st' hp') : ip_W p l e R s mid args below meth c Q G b zp L0 xs D ca h0 s0 pc L st hp := by
  obtain ⟨g, rfl, rfl, rfl⟩ := sg_inv h
  obtain ⟨x, r, rfl, rfl⟩ := l1_inv g
  intro H locs cells slots ls hR hlo hlr hc hs
  exact lv_l2i C.1 C.2.1 hd rfl (k H locs cells slots ls hR hlo hlr hc hs)
theorem sd_idiv (C : ip_cx p s mid args meth c G b zp L0 xs D ca q) (hd : decode q.2.2.1 pc = .ok (.idiv, 1)) (h : ip_sg (pc + 1) L hp (ip_id (fun x y => x / y) st) = some (.inl (pc', L', st', hp'))) (k : ip_W p l e R s mid args below meth c Q G b zp L0 xs D ca h0 s0 pc' L' st' hp') : ip_W p l e R s mid args below meth c Q G b zp L0 xs D ca h0 s0 pc L st hp := by
  obtain ⟨g, rfl, rfl, rfl⟩ := sg_inv h
  obtain ⟨x, y, r, rfl, hy, rfl⟩ := id_inv g
  intro H locs cells slots ls hR hlo hlr hc hs
  exact lv_idiv C.1 C.2.1 hd hy (k H locs cells slots ls hR hlo hlr hc hs)
theorem sd_irem (C : ip_cx p s mid args meth c G b zp L0 xs D ca q) (hd : decode q.2.2.1 pc = .ok (.irem, 1)) (h : ip_sg (pc + 1) L hp (ip_id (fun x y => x - x / y * y) st) = some (.inl (pc', L', st', hp'))) (k : ip_W p l e R s mid args below meth c Q G b zp L0 xs D ca h0 s0 pc' L' st' hp') : ip_W p l e R s mid args below meth c Q G b zp L0 xs D ca h0 s0 pc L st hp := by
  obtain ⟨g, rfl, rfl, rfl⟩ := sg_inv h
  obtain ⟨x, y, r, rfl, hy, rfl⟩ := id_inv g
  intro H locs cells slots ls hR hlo hlr hc hs
  exact lv_irem C.1 C.2.1 hd hy (k H locs cells slots ls hR hlo hlr hc hs)
theorem sd_ldiv (C : ip_cx p s mid args meth c G b zp L0 xs D ca q) (hd : decode q.2.2.1 pc = .ok (.ldiv, 1)) (h : ip_sg (pc + 1) L hp (ip_ld2 (fun x y => x / y) st) = some (.inl (pc', L', st', hp'))) (k : ip_W p l e R s mid args below meth c Q G b zp L0 xs D ca h0 s0 pc' L' st' hp') : ip_W p l e R s mid args below meth c Q G b zp L0 xs D ca h0 s0 pc L st hp := by
  obtain ⟨g, rfl, rfl, rfl⟩ := sg_inv h
  obtain ⟨x, y, r, rfl, hy, rfl⟩ := ld2_inv g
  intro H locs cells slots ls hR hlo hlr hc hs
  exact lv_ldiv C.1 C.2.1 hd hy (k H locs cells slots ls hR hlo hlr hc hs)
theorem sd_lrem (C : ip_cx p s mid args meth c G b zp L0 xs D ca q) (hd : decode q.2.2.1 pc = .ok (.lrem, 1)) (h : ip_sg (pc + 1) L hp (ip_ld2 (fun x y => x - x / y * y) st) = some (.inl (pc', L', st', hp'))) (k : ip_W p l e R s mid args below meth c Q G b zp L0 xs D ca h0 s0 pc' L' st' hp') : ip_W p l e R s mid args below meth c Q G b zp L0 xs D ca h0 s0 pc L st hp := by
  obtain ⟨g, rfl, rfl, rfl⟩ := sg_inv h
  obtain ⟨x, y, r, rfl, hy, rfl⟩ := ld2_inv g
  intro H locs cells slots ls hR hlo hlr hc hs
  exact lv_lrem C.1 C.2.1 hd hy (k H locs cells slots ls hR hlo hlr hc hs)
theorem sd_iload_n {i : Fin 4} (C : ip_cx p s mid args meth c G b zp L0 xs D ca q) (hd : decode q.2.2.1 pc = .ok (.iload_n i, 1)) (h : ip_sg (pc + 1) L hp (ip_iload L i st) = some (.inl (pc', L', st', hp'))) (k : ip_W p l e R s mid args below meth c Q G b zp L0 xs D ca h0 s0 pc' L' st' hp') : ip_W p l e R s mid args below meth c Q G b zp L0 xs D ca h0 s0 pc L st hp := by
  obtain ⟨g, rfl, rfl, rfl⟩ := sg_inv h
  obtain ⟨x, hx, rfl⟩ := iload_inv g
  intro H locs cells slots ls hR hlo hlr hc hs
  exact lv_iload_n C.1 C.2.1 hd rfl (lr_at hlr hx) (k H locs cells slots ls hR hlo hlr hc hs)
theorem sd_iload {i : Nat} (C : ip_cx p s mid args meth c G b zp L0 xs D ca q) (hd : decode q.2.2.1 pc = .ok (.iload i, 2)) (h : ip_sg (pc + 2) L hp (ip_iload L i st) = some (.inl (pc', L', st', hp'))) (k : ip_W p l e R s mid args below meth c Q G b zp L0 xs D ca h0 s0 pc' L' st' hp') : ip_W p l e R s mid args below meth c Q G b zp L0 xs D ca h0 s0 pc L st hp := by
  obtain ⟨g, rfl, rfl, rfl⟩ := sg_inv h
  obtain ⟨x, hx, rfl⟩ := iload_inv g
  intro H locs cells slots ls hR hlo hlr hc hs
  exact lv_iload C.1 C.2.1 hd (lr_at hlr hx) (k H locs cells slots ls hR hlo hlr hc hs)
theorem sd_lload_n {i : Fin 4} (C : ip_cx p s mid args meth c G b zp L0 xs D ca q) (hd : decode q.2.2.1 pc = .ok (.lload_n i, 1)) (h : ip_sg (pc + 1) L hp (ip_lload L i st) = some (.inl (pc', L', st', hp'))) (k : ip_W p l e R s mid args below meth c Q G b zp L0 xs D ca h0 s0 pc' L' st' hp') : ip_W p l e R s mid args below meth c Q G b zp L0 xs D ca h0 s0 pc L st hp := by
  obtain ⟨g, rfl, rfl, rfl⟩ := sg_inv h
  obtain ⟨x, hx, rfl⟩ := lload_inv g
  intro H locs cells slots ls hR hlo hlr hc hs
  exact lv_lload_n C.1 C.2.1 hd rfl (lr_at hlr hx) (k H locs cells slots ls hR hlo hlr hc hs)
theorem sd_lload {i : Nat} (C : ip_cx p s mid args meth c G b zp L0 xs D ca q) (hd : decode q.2.2.1 pc = .ok (.lload i, 2)) (h : ip_sg (pc + 2) L hp (ip_lload L i st) = some (.inl (pc', L', st', hp'))) (k : ip_W p l e R s mid args below meth c Q G b zp L0 xs D ca h0 s0 pc' L' st' hp') : ip_W p l e R s mid args below meth c Q G b zp L0 xs D ca h0 s0 pc L st hp := by
  obtain ⟨g, rfl, rfl, rfl⟩ := sg_inv h
  obtain ⟨x, hx, rfl⟩ := lload_inv g
  intro H locs cells slots ls hR hlo hlr hc hs
  exact lv_lload C.1 C.2.1 hd (lr_at hlr hx) (k H locs cells slots ls hR hlo hlr hc hs)
theorem sd_aload_n {i : Fin 4} (C : ip_cx p s mid args meth c G b zp L0 xs D ca q) (hd : decode q.2.2.1 pc = .ok (.aload_n i, 1)) (h : ip_sg (pc + 1) L hp (ip_aload L i st) = some (.inl (pc', L', st', hp'))) (k : ip_W p l e R s mid args below meth c Q G b zp L0 xs D ca h0 s0 pc' L' st' hp') : ip_W p l e R s mid args below meth c Q G b zp L0 xs D ca h0 s0 pc L st hp := by
  obtain ⟨g, rfl, rfl, rfl⟩ := sg_inv h
  obtain ⟨x, hx, rfl⟩ := aload_inv g
  intro H locs cells slots ls hR hlo hlr hc hs
  exact lv_aload_n C.1 C.2.1 hd rfl (lr_at hlr hx) (k H locs cells slots ls hR hlo hlr hc hs)
theorem sd_aload {i : Nat} (C : ip_cx p s mid args meth c G b zp L0 xs D ca q) (hd : decode q.2.2.1 pc = .ok (.aload i, 2)) (h : ip_sg (pc + 2) L hp (ip_aload L i st) = some (.inl (pc', L', st', hp'))) (k : ip_W p l e R s mid args below meth c Q G b zp L0 xs D ca h0 s0 pc' L' st' hp') : ip_W p l e R s mid args below meth c Q G b zp L0 xs D ca h0 s0 pc L st hp := by
  obtain ⟨g, rfl, rfl, rfl⟩ := sg_inv h
  obtain ⟨x, hx, rfl⟩ := aload_inv g
  intro H locs cells slots ls hR hlo hlr hc hs
  exact lv_aload C.1 C.2.1 hd (lr_at hlr hx) (k H locs cells slots ls hR hlo hlr hc hs)
theorem sd_istore_n {i : Fin 4} (C : ip_cx p s mid args meth c G b zp L0 xs D ca q) (hd : decode q.2.2.1 pc = .ok (.istore_n i, 1)) (h : ip_lg2 (pc + 1) hp (ip_istore L i st) = some (.inl (pc', L', st', hp'))) (k : ip_W p l e R s mid args below meth c Q G b zp L0 xs D ca h0 s0 pc' L' st' hp') : ip_W p l e R s mid args below meth c Q G b zp L0 xs D ca h0 s0 pc L st hp := by
  obtain ⟨g, rfl, rfl⟩ := lg_inv h
  obtain ⟨x, rfl, hi, rfl⟩ := istore_inv g
  intro H locs cells slots ls hR hlo hlr hc hs
  refine lv_istore_n (lv := ip_al (ip_ad G.size b zp) L) C.1 C.2.1 hd rfl hlr.2 (by rw [← hlr.1]; exact hi) rfl (fun ls' h' => ?_)
  exact k H locs cells slots ls' hR hlo (st1_lr (v := .int x) hlr h') hc hs
theorem sd_istore {i : Nat} (C : ip_cx p s mid args meth c G b zp L0 xs D ca q) (hd : decode q.2.2.1 pc = .ok (.istore i, 2)) (h : ip_lg2 (pc + 2) hp (ip_istore L i st) = some (.inl (pc', L', st', hp'))) (k : ip_W p l e R s mid args below meth c Q G b zp L0 xs D ca h0 s0 pc' L' st' hp') : ip_W p l e R s mid args below meth c Q G b zp L0 xs D ca h0 s0 pc L st hp := by
  obtain ⟨g, rfl, rfl⟩ := lg_inv h
  obtain ⟨x, rfl, hi, rfl⟩ := istore_inv g
  intro H locs cells slots ls hR hlo hlr hc hs
  refine lv_istore (lv := ip_al (ip_ad G.size b zp) L) C.1 C.2.1 hd hlr.2 (by rw [← hlr.1]; exact hi) rfl (fun ls' h' => ?_)
  exact k H locs cells slots ls' hR hlo (st1_lr (v := .int x) hlr h') hc hs
theorem sd_lstore_n {i : Fin 4} (C : ip_cx p s mid args meth c G b zp L0 xs D ca q) (hd : decode q.2.2.1 pc = .ok (.lstore_n i, 1)) (h : ip_lg2 (pc + 1) hp (ip_lstore L i st) = some (.inl (pc', L', st', hp'))) (k : ip_W p l e R s mid args below meth c Q G b zp L0 xs D ca h0 s0 pc' L' st' hp') : ip_W p l e R s mid args below meth c Q G b zp L0 xs D ca h0 s0 pc L st hp := by
  obtain ⟨g, rfl, rfl⟩ := lg_inv h
  obtain ⟨x, rfl, hi, rfl⟩ := lstore_inv g
  intro H locs cells slots ls hR hlo hlr hc hs
  refine lv_lstore_n (lv := ip_al (ip_ad G.size b zp) L) C.1 C.2.1 hd rfl hlr.2 (by rw [← hlr.1]; exact hi) rfl (fun ls' h' => ?_)
  exact k H locs cells slots ls' hR hlo (st2_lr (v := .long x) hlr h') hc hs
theorem sd_lstore {i : Nat} (C : ip_cx p s mid args meth c G b zp L0 xs D ca q) (hd : decode q.2.2.1 pc = .ok (.lstore i, 2)) (h : ip_lg2 (pc + 2) hp (ip_lstore L i st) = some (.inl (pc', L', st', hp'))) (k : ip_W p l e R s mid args below meth c Q G b zp L0 xs D ca h0 s0 pc' L' st' hp') : ip_W p l e R s mid args below meth c Q G b zp L0 xs D ca h0 s0 pc L st hp := by
  obtain ⟨g, rfl, rfl⟩ := lg_inv h
  obtain ⟨x, rfl, hi, rfl⟩ := lstore_inv g
  intro H locs cells slots ls hR hlo hlr hc hs
  refine lv_lstore (lv := ip_al (ip_ad G.size b zp) L) C.1 C.2.1 hd hlr.2 (by rw [← hlr.1]; exact hi) rfl (fun ls' h' => ?_)
  exact k H locs cells slots ls' hR hlo (st2_lr (v := .long x) hlr h') hc hs
theorem sd_astore_n {i : Fin 4} (C : ip_cx p s mid args meth c G b zp L0 xs D ca q) (hd : decode q.2.2.1 pc = .ok (.astore_n i, 1)) (h : ip_lg2 (pc + 1) hp (ip_astore L i st) = some (.inl (pc', L', st', hp'))) (k : ip_W p l e R s mid args below meth c Q G b zp L0 xs D ca h0 s0 pc' L' st' hp') : ip_W p l e R s mid args below meth c Q G b zp L0 xs D ca h0 s0 pc L st hp := by
  obtain ⟨g, rfl, rfl⟩ := lg_inv h
  obtain ⟨x, rfl, hi, rfl⟩ := astore_inv g
  intro H locs cells slots ls hR hlo hlr hc hs
  refine lv_astore_n (lv := ip_al (ip_ad G.size b zp) L) C.1 C.2.1 hd rfl hlr.2 (by rw [← hlr.1]; exact hi) rfl (fun ls' h' => ?_)
  exact k H locs cells slots ls' hR hlo (st1_lr (v := .ref x) hlr h') hc hs
theorem sd_astore {i : Nat} (C : ip_cx p s mid args meth c G b zp L0 xs D ca q) (hd : decode q.2.2.1 pc = .ok (.astore i, 2)) (h : ip_lg2 (pc + 2) hp (ip_astore L i st) = some (.inl (pc', L', st', hp'))) (k : ip_W p l e R s mid args below meth c Q G b zp L0 xs D ca h0 s0 pc' L' st' hp') : ip_W p l e R s mid args below meth c Q G b zp L0 xs D ca h0 s0 pc L st hp := by
  obtain ⟨g, rfl, rfl⟩ := lg_inv h
  obtain ⟨x, rfl, hi, rfl⟩ := astore_inv g
  intro H locs cells slots ls hR hlo hlr hc hs
  refine lv_astore (lv := ip_al (ip_ad G.size b zp) L) C.1 C.2.1 hd hlr.2 (by rw [← hlr.1]; exact hi) rfl (fun ls' h' => ?_)
  exact k H locs cells slots ls' hR hlo (st1_lr (v := .ref x) hlr h') hc hs
theorem sd_iinc {i : Nat} {n : Int} (C : ip_cx p s mid args meth c G b zp L0 xs D ca q) (hd : decode q.2.2.1 pc = .ok (.iinc i n, 3)) (h : (ip_iinc L i n).map (fun L => (.inl (pc + 3, L, st, hp) : ip_A)) = some (.inl (pc', L', st', hp'))) (k : ip_W p l e R s mid args below meth c Q G b zp L0 xs D ca h0 s0 pc' L' st' hp') : ip_W p l e R s mid args below meth c Q G b zp L0 xs D ca h0 s0 pc L st hp := by
  obtain ⟨L1, h1, h2⟩ := Option.map_eq_some_iff.mp h
  cases h2
  unfold ip_iinc at h1
  split at h1
  · rename_i x hx
    unfold ip_st1 at h1
    split at h1
    · rename_i hi
      cases h1
      intro H locs cells slots ls hR hlo hlr hc hs
      obtain ⟨k1, hk1⟩ := List.getElem?_of_mem (ip_al_mem.mpr ⟨_, hx, rfl⟩ : (i, ip_v (ip_ad G.size b zp) (.int x)) ∈ ip_al (ip_ad G.size b zp) L)
      refine lv_iinc (lv := ip_al (ip_ad G.size b zp) L) (k := k1) C.1 C.2.1 hd hlr.2 hk1 rfl (by rw [← hlr.1]; exact hi) rfl (fun ls' h' => ?_)
      exact k H locs cells slots ls' hR hlo (st1_lr (v := .int (x + Int32.ofInt n)) hlr h') hc hs
    · cases h1
  · cases h1
theorem sd_iconst {n : Int} (C : ip_cx p s mid args meth c G b zp L0 xs D ca q) (hd : decode q.2.2.1 pc = .ok (.iconst n, 1)) (h : (some (.inl (pc + 1, L, .int (Int32.ofInt n) :: st, hp)) : Option ip_A) = some (.inl (pc', L', st', hp'))) (k : ip_W p l e R s mid args below meth c Q G b zp L0 xs D ca h0 s0 pc' L' st' hp') : ip_W p l e R s mid args below meth c Q G b zp L0 xs D ca h0 s0 pc L st hp := by
  cases h
  intro H locs cells slots ls hR hlo hlr hc hs
  exact lv_iconst C.1 C.2.1 hd rfl (k H locs cells slots ls hR hlo hlr hc hs)
theorem sd_bipush {n : Int} (C : ip_cx p s mid args meth c G b zp L0 xs D ca q) (hd : decode q.2.2.1 pc = .ok (.bipush n, 2)) (h : (some (.inl (pc + 2, L, .int (Int8.ofInt n).toInt32 :: st, hp)) : Option ip_A) = some (.inl (pc', L', st', hp'))) (k : ip_W p l e R s mid args below meth c Q G b zp L0 xs D ca h0 s0 pc' L' st' hp') : ip_W p l e R s mid args below meth c Q G b zp L0 xs D ca h0 s0 pc L st hp := by
  cases h
  intro H locs cells slots ls hR hlo hlr hc hs
  exact lv_bipush C.1 C.2.1 hd rfl (k H locs cells slots ls hR hlo hlr hc hs)
theorem sd_sipush {n : Int} (C : ip_cx p s mid args meth c G b zp L0 xs D ca q) (hd : decode q.2.2.1 pc = .ok (.sipush n, 3)) (h : (some (.inl (pc + 3, L, .int (Int16.ofInt n).toInt32 :: st, hp)) : Option ip_A) = some (.inl (pc', L', st', hp'))) (k : ip_W p l e R s mid args below meth c Q G b zp L0 xs D ca h0 s0 pc' L' st' hp') : ip_W p l e R s mid args below meth c Q G b zp L0 xs D ca h0 s0 pc L st hp := by
  cases h
  intro H locs cells slots ls hR hlo hlr hc hs
  exact lv_sipush C.1 C.2.1 hd rfl (k H locs cells slots ls hR hlo hlr hc hs)
theorem sd_lconst {n : Fin 2} (C : ip_cx p s mid args meth c G b zp L0 xs D ca q) (hd : decode q.2.2.1 pc = .ok (.lconst n, 1)) (h : (some (.inl (pc + 1, L, .long (Int64.ofNat (n : Nat)) :: st, hp)) : Option ip_A) = some (.inl (pc', L', st', hp'))) (k : ip_W p l e R s mid args below meth c Q G b zp L0 xs D ca h0 s0 pc' L' st' hp') : ip_W p l e R s mid args below meth c Q G b zp L0 xs D ca h0 s0 pc L st hp := by
  cases h
  intro H locs cells slots ls hR hlo hlr hc hs
  exact lv_lconst C.1 C.2.1 hd rfl (k H locs cells slots ls hR hlo hlr hc hs)
theorem sd_dup (C : ip_cx p s mid args meth c G b zp L0 xs D ca q) (hd : decode q.2.2.1 pc = .ok (.dup, 1)) (h : ip_sg (pc + 1) L hp (ip_dup st) = some (.inl (pc', L', st', hp'))) (k : ip_W p l e R s mid args below meth c Q G b zp L0 xs D ca h0 s0 pc' L' st' hp') : ip_W p l e R s mid args below meth c Q G b zp L0 xs D ca h0 s0 pc L st hp := by
  obtain ⟨g, rfl, rfl, rfl⟩ := sg_inv h
  unfold ip_dup at g
  split at g
  · rename_i v r
    split at g
    · rename_i hv
      cases g
      intro H locs cells slots ls hR hlo hlr hc hs
      exact lv_dup C.1 C.2.1 hd (by rw [ip_v_cat]; exact hv) (k H locs cells slots ls hR hlo hlr hc hs)
    · cases g
  · cases g
theorem sd_dup2 (C : ip_cx p s mid args meth c G b zp L0 xs D ca q) (hd : decode q.2.2.1 pc = .ok (.dup2, 1)) (h : ip_sg (pc + 1) L hp (ip_dup2 st) = some (.inl (pc', L', st', hp'))) (k : ip_W p l e R s mid args below meth c Q G b zp L0 xs D ca h0 s0 pc' L' st' hp') : ip_W p l e R s mid args below meth c Q G b zp L0 xs D ca h0 s0 pc L st hp := by
  obtain ⟨g, rfl, rfl, rfl⟩ := sg_inv h
  unfold ip_dup2 at g
  split at g
  · rename_i v r
    split at g
    · rename_i hv
      cases g
      intro H locs cells slots ls hR hlo hlr hc hs
      exact lv_dup2_2 C.1 C.2.1 hd (by rw [ip_v_cat]; exact hv) (k H locs cells slots ls hR hlo hlr hc hs)
    · rename_i hv
      split at g
      · rename_i w r
        split at g
        · rename_i hw
          cases g
          intro H locs cells slots ls hR hlo hlr hc hs
          exact lv_dup2_11 C.1 C.2.1 hd (by rw [ip_v_cat]; exact (lv_cat v).resolve_right hv) (by rw [ip_v_cat]; exact hw) (k H locs cells slots ls hR hlo hlr hc hs)
        · cases g
      · cases g
  · cases g
theorem tg_inv {off : Int} {t : Nat} (h : ip_tg pc off = some t) : (pc : Int) + off = (t : Int) := by
  unfold ip_tg at h
  split at h
  · rename_i h0
    cases h
    exact (Int.toNat_of_nonneg h0).symm
  · cases h
theorem b1_inv {f : Int32 → Bool} {nx : Nat} {off : Int} (h : ip_b1 f pc nx off L hp st = some (.inl (pc', L', st', hp'))) : ∃ x t, st = .int x :: st' ∧ ip_tg pc off = some t ∧ pc' = (if f x = true then t else nx) ∧ L' = L ∧ hp' = hp := by
  unfold ip_b1 at h
  split at h
  · rename_i x r
    obtain ⟨t, h1, h2⟩ := Option.map_eq_some_iff.mp h
    cases h2
    exact ⟨x, t, rfl, h1, rfl, rfl, rfl⟩
  · cases h
theorem b2_inv {f : Int32 → Int32 → Bool} {nx : Nat} {off : Int} (h : ip_b2 f pc nx off L hp st = some (.inl (pc', L', st', hp'))) : ∃ x y t, st = .int y :: .int x :: st' ∧ ip_tg pc off = some t ∧ pc' = (if f x y = true then t else nx) ∧ L' = L ∧ hp' = hp := by
  unfold ip_b2 at h
  split at h
  · rename_i y x r
    obtain ⟨t, h1, h2⟩ := Option.map_eq_some_iff.mp h
    cases h2
    exact ⟨x, y, t, rfl, h1, rfl, rfl, rfl⟩
  · cases h
theorem sd_if_eq {off : Int} (C : ip_cx p s mid args meth c G b zp L0 xs D ca q) (hd : decode q.2.2.1 pc = .ok (.ifCond .eq off, 3)) (h : ip_b1 (fun x => decide (x = 0)) pc (pc + 3) off L hp st = some (.inl (pc', L', st', hp'))) (k : ip_W p l e R s mid args below meth c Q G b zp L0 xs D ca h0 s0 pc' L' st' hp') : ip_W p l e R s mid args below meth c Q G b zp L0 xs D ca h0 s0 pc L st hp := by
  obtain ⟨x, t, rfl, ht, rfl, rfl, rfl⟩ := b1_inv h
  intro H locs cells slots ls hR hlo hlr hc hs
  exact lv_if_eq (tgt := t) C.1 C.2.1 hd (tg_inv ht) (fun z => by rw [if_pos (by simpa using z)] at k; exact k H locs cells slots ls hR hlo hlr hc hs) (fun z => by rw [if_neg (by simpa using z)] at k; exact k H locs cells slots ls hR hlo hlr hc hs)
theorem sd_icmp_eq {off : Int} (C : ip_cx p s mid args meth c G b zp L0 xs D ca q) (hd : decode q.2.2.1 pc = .ok (.if_icmp .eq off, 3)) (h : ip_b2 (fun x y => decide (x = y)) pc (pc + 3) off L hp st = some (.inl (pc', L', st', hp'))) (k : ip_W p l e R s mid args below meth c Q G b zp L0 xs D ca h0 s0 pc' L' st' hp') : ip_W p l e R s mid args below meth c Q G b zp L0 xs D ca h0 s0 pc L st hp := by
  obtain ⟨x, y, t, rfl, ht, rfl, rfl, rfl⟩ := b2_inv h
  intro H locs cells slots ls hR hlo hlr hc hs
  exact lv_icmp_eq (tgt := t) C.1 C.2.1 hd (tg_inv ht) (fun z => by rw [if_pos (by simpa using z)] at k; exact k H locs cells slots ls hR hlo hlr hc hs) (fun z => by rw [if_neg (by simpa using z)] at k; exact k H locs cells slots ls hR hlo hlr hc hs)
theorem sd_if_ne {off : Int} (C : ip_cx p s mid args meth c G b zp L0 xs D ca q) (hd : decode q.2.2.1 pc = .ok (.ifCond .ne off, 3)) (h : ip_b1 (fun x => decide (¬ x = 0)) pc (pc + 3) off L hp st = some (.inl (pc', L', st', hp'))) (k : ip_W p l e R s mid args below meth c Q G b zp L0 xs D ca h0 s0 pc' L' st' hp') : ip_W p l e R s mid args below meth c Q G b zp L0 xs D ca h0 s0 pc L st hp := by
  obtain ⟨x, t, rfl, ht, rfl, rfl, rfl⟩ := b1_inv h
  intro H locs cells slots ls hR hlo hlr hc hs
  exact lv_if_ne (tgt := t) C.1 C.2.1 hd (tg_inv ht) (fun z => by rw [if_pos (by simpa using z)] at k; exact k H locs cells slots ls hR hlo hlr hc hs) (fun z => by rw [if_neg (by simpa using z)] at k; exact k H locs cells slots ls hR hlo hlr hc hs)
theorem sd_icmp_ne {off : Int} (C : ip_cx p s mid args meth c G b zp L0 xs D ca q) (hd : decode q.2.2.1 pc = .ok (.if_icmp .ne off, 3)) (h : ip_b2 (fun x y => decide (¬ x = y)) pc (pc + 3) off L hp st = some (.inl (pc', L', st', hp'))) (k : ip_W p l e R s mid args below meth c Q G b zp L0 xs D ca h0 s0 pc' L' st' hp') : ip_W p l e R s mid args below meth c Q G b zp L0 xs D ca h0 s0 pc L st hp := by
  obtain ⟨x, y, t, rfl, ht, rfl, rfl, rfl⟩ := b2_inv h
  intro H locs cells slots ls hR hlo hlr hc hs
  exact lv_icmp_ne (tgt := t) C.1 C.2.1 hd (tg_inv ht) (fun z => by rw [if_pos (by simpa using z)] at k; exact k H locs cells slots ls hR hlo hlr hc hs) (fun z => by rw [if_neg (by simpa using z)] at k; exact k H locs cells slots ls hR hlo hlr hc hs)
theorem sd_if_lt {off : Int} (C : ip_cx p s mid args meth c G b zp L0 xs D ca q) (hd : decode q.2.2.1 pc = .ok (.ifCond .lt off, 3)) (h : ip_b1 (fun x => decide (x < 0)) pc (pc + 3) off L hp st = some (.inl (pc', L', st', hp'))) (k : ip_W p l e R s mid args below meth c Q G b zp L0 xs D ca h0 s0 pc' L' st' hp') : ip_W p l e R s mid args below meth c Q G b zp L0 xs D ca h0 s0 pc L st hp := by
  obtain ⟨x, t, rfl, ht, rfl, rfl, rfl⟩ := b1_inv h
  intro H locs cells slots ls hR hlo hlr hc hs
  exact lv_if_lt (tgt := t) C.1 C.2.1 hd (tg_inv ht) (fun z => by rw [if_pos (by simpa using z)] at k; exact k H locs cells slots ls hR hlo hlr hc hs) (fun z => by rw [if_neg (by simpa using z)] at k; exact k H locs cells slots ls hR hlo hlr hc hs)
theorem sd_icmp_lt {off : Int} (C : ip_cx p s mid args meth c G b zp L0 xs D ca q) (hd : decode q.2.2.1 pc = .ok (.if_icmp .lt off, 3)) (h : ip_b2 (fun x y => decide (x < y)) pc (pc + 3) off L hp st = some (.inl (pc', L', st', hp'))) (k : ip_W p l e R s mid args below meth c Q G b zp L0 xs D ca h0 s0 pc' L' st' hp') : ip_W p l e R s mid args below meth c Q G b zp L0 xs D ca h0 s0 pc L st hp := by
  obtain ⟨x, y, t, rfl, ht, rfl, rfl, rfl⟩ := b2_inv h
  intro H locs cells slots ls hR hlo hlr hc hs
  exact lv_icmp_lt (tgt := t) C.1 C.2.1 hd (tg_inv ht) (fun z => by rw [if_pos (by simpa using z)] at k; exact k H locs cells slots ls hR hlo hlr hc hs) (fun z => by rw [if_neg (by simpa using z)] at k; exact k H locs cells slots ls hR hlo hlr hc hs)
theorem sd_if_ge {off : Int} (C : ip_cx p s mid args meth c G b zp L0 xs D ca q) (hd : decode q.2.2.1 pc = .ok (.ifCond .ge off, 3)) (h : ip_b1 (fun x => decide (0 ≤ x)) pc (pc + 3) off L hp st = some (.inl (pc', L', st', hp'))) (k : ip_W p l e R s mid args below meth c Q G b zp L0 xs D ca h0 s0 pc' L' st' hp') : ip_W p l e R s mid args below meth c Q G b zp L0 xs D ca h0 s0 pc L st hp := by
  obtain ⟨x, t, rfl, ht, rfl, rfl, rfl⟩ := b1_inv h
  intro H locs cells slots ls hR hlo hlr hc hs
  exact lv_if_ge (tgt := t) C.1 C.2.1 hd (tg_inv ht) (fun z => by rw [if_pos (by simpa using z)] at k; exact k H locs cells slots ls hR hlo hlr hc hs) (fun z => by rw [if_neg (by simpa using z)] at k; exact k H locs cells slots ls hR hlo hlr hc hs)
theorem sd_icmp_ge {off : Int} (C : ip_cx p s mid args meth c G b zp L0 xs D ca q) (hd : decode q.2.2.1 pc = .ok (.if_icmp .ge off, 3)) (h : ip_b2 (fun x y => decide (y ≤ x)) pc (pc + 3) off L hp st = some (.inl (pc', L', st', hp'))) (k : ip_W p l e R s mid args below meth c Q G b zp L0 xs D ca h0 s0 pc' L' st' hp') : ip_W p l e R s mid args below meth c Q G b zp L0 xs D ca h0 s0 pc L st hp := by
  obtain ⟨x, y, t, rfl, ht, rfl, rfl, rfl⟩ := b2_inv h
  intro H locs cells slots ls hR hlo hlr hc hs
  exact lv_icmp_ge (tgt := t) C.1 C.2.1 hd (tg_inv ht) (fun z => by rw [if_pos (by simpa using z)] at k; exact k H locs cells slots ls hR hlo hlr hc hs) (fun z => by rw [if_neg (by simpa using z)] at k; exact k H locs cells slots ls hR hlo hlr hc hs)
theorem sd_if_gt {off : Int} (C : ip_cx p s mid args meth c G b zp L0 xs D ca q) (hd : decode q.2.2.1 pc = .ok (.ifCond .gt off, 3)) (h : ip_b1 (fun x => decide (0 < x)) pc (pc + 3) off L hp st = some (.inl (pc', L', st', hp'))) (k : ip_W p l e R s mid args below meth c Q G b zp L0 xs D ca h0 s0 pc' L' st' hp') : ip_W p l e R s mid args below meth c Q G b zp L0 xs D ca h0 s0 pc L st hp := by
  obtain ⟨x, t, rfl, ht, rfl, rfl, rfl⟩ := b1_inv h
  intro H locs cells slots ls hR hlo hlr hc hs
  exact lv_if_gt (tgt := t) C.1 C.2.1 hd (tg_inv ht) (fun z => by rw [if_pos (by simpa using z)] at k; exact k H locs cells slots ls hR hlo hlr hc hs) (fun z => by rw [if_neg (by simpa using z)] at k; exact k H locs cells slots ls hR hlo hlr hc hs)
theorem sd_icmp_gt {off : Int} (C : ip_cx p s mid args meth c G b zp L0 xs D ca q) (hd : decode q.2.2.1 pc = .ok (.if_icmp .gt off, 3)) (h : ip_b2 (fun x y => decide (y < x)) pc (pc + 3) off L hp st = some (.inl (pc', L', st', hp'))) (k : ip_W p l e R s mid args below meth c Q G b zp L0 xs D ca h0 s0 pc' L' st' hp') : ip_W p l e R s mid args below meth c Q G b zp L0 xs D ca h0 s0 pc L st hp := by
  obtain ⟨x, y, t, rfl, ht, rfl, rfl, rfl⟩ := b2_inv h
  intro H locs cells slots ls hR hlo hlr hc hs
  exact lv_icmp_gt (tgt := t) C.1 C.2.1 hd (tg_inv ht) (fun z => by rw [if_pos (by simpa using z)] at k; exact k H locs cells slots ls hR hlo hlr hc hs) (fun z => by rw [if_neg (by simpa using z)] at k; exact k H locs cells slots ls hR hlo hlr hc hs)
theorem sd_if_le {off : Int} (C : ip_cx p s mid args meth c G b zp L0 xs D ca q) (hd : decode q.2.2.1 pc = .ok (.ifCond .le off, 3)) (h : ip_b1 (fun x => decide (x ≤ 0)) pc (pc + 3) off L hp st = some (.inl (pc', L', st', hp'))) (k : ip_W p l e R s mid args below meth c Q G b zp L0 xs D ca h0 s0 pc' L' st' hp') : ip_W p l e R s mid args below meth c Q G b zp L0 xs D ca h0 s0 pc L st hp := by
  obtain ⟨x, t, rfl, ht, rfl, rfl, rfl⟩ := b1_inv h
  intro H locs cells slots ls hR hlo hlr hc hs
  exact lv_if_le (tgt := t) C.1 C.2.1 hd (tg_inv ht) (fun z => by rw [if_pos (by simpa using z)] at k; exact k H locs cells slots ls hR hlo hlr hc hs) (fun z => by rw [if_neg (by simpa using z)] at k; exact k H locs cells slots ls hR hlo hlr hc hs)
theorem sd_icmp_le {off : Int} (C : ip_cx p s mid args meth c G b zp L0 xs D ca q) (hd : decode q.2.2.1 pc = .ok (.if_icmp .le off, 3)) (h : ip_b2 (fun x y => decide (x ≤ y)) pc (pc + 3) off L hp st = some (.inl (pc', L', st', hp'))) (k : ip_W p l e R s mid args below meth c Q G b zp L0 xs D ca h0 s0 pc' L' st' hp') : ip_W p l e R s mid args below meth c Q G b zp L0 xs D ca h0 s0 pc L st hp := by
  obtain ⟨x, y, t, rfl, ht, rfl, rfl, rfl⟩ := b2_inv h
  intro H locs cells slots ls hR hlo hlr hc hs
  exact lv_icmp_le (tgt := t) C.1 C.2.1 hd (tg_inv ht) (fun z => by rw [if_pos (by simpa using z)] at k; exact k H locs cells slots ls hR hlo hlr hc hs) (fun z => by rw [if_neg (by simpa using z)] at k; exact k H locs cells slots ls hR hlo hlr hc hs)
theorem sd_goto {off : Int} (C : ip_cx p s mid args meth c G b zp L0 xs D ca q) (hd : decode q.2.2.1 pc = .ok (.goto off, 3)) (h : (ip_tg pc off).map (fun t => (.inl (t, L, st, hp) : ip_A)) = some (.inl (pc', L', st', hp'))) (k : ip_W p l e R s mid args below meth c Q G b zp L0 xs D ca h0 s0 pc' L' st' hp') : ip_W p l e R s mid args below meth c Q G b zp L0 xs D ca h0 s0 pc L st hp := by
  obtain ⟨t, h1, h2⟩ := Option.map_eq_some_iff.mp h
  cases h2
  intro H locs cells slots ls hR hlo hlr hc hs
  exact lv_goto (tgt := pc') C.1 C.2.1 hd (tg_inv h1) (k H locs cells slots ls hR hlo hlr hc hs)
theorem sd_tsw {dflt lo hi : Int} {offs : Array Int} (C : ip_cx p s mid args meth c G b zp L0 xs D ca q) (hd : decode q.2.2.1 pc = .ok (.tableswitch dflt lo hi offs, len)) (h : ip_tsw dflt lo hi offs pc L hp st = some (.inl (pc', L', st', hp'))) (k : ip_W p l e R s mid args below meth c Q G b zp L0 xs D ca h0 s0 pc' L' st' hp') : ip_W p l e R s mid args below meth c Q G b zp L0 xs D ca h0 s0 pc L st hp := by
  unfold ip_tsw at h
  split at h
  · rename_i x r
    obtain ⟨t, h1, h2⟩ := Option.map_eq_some_iff.mp h
    cases h2
    intro H locs cells slots ls hR hlo hlr hc hs
    split at h1
    · rename_i z
      exact lv_tableOut (tgt := pc') C.1 C.2.1 hd z (tg_inv h1) (k H locs cells slots ls hR hlo hlr hc hs)
    · rename_i z
      obtain ⟨off, h3, h4⟩ := Option.bind_eq_some_iff.mp h1
      exact lv_tableIn (tgt := pc') C.1 C.2.1 hd (fun y => z (Or.inl y)) (fun y => z (Or.inr y)) h3 (tg_inv h4) (k H locs cells slots ls hR hlo hlr hc hs)
  · cases h
theorem sd_lsw {dflt : Int} {ps : Array (Int × Int)} (C : ip_cx p s mid args meth c G b zp L0 xs D ca q) (hd : decode q.2.2.1 pc = .ok (.lookupswitch dflt ps, len)) (h : ip_lsw dflt ps pc L hp st = some (.inl (pc', L', st', hp'))) (k : ip_W p l e R s mid args below meth c Q G b zp L0 xs D ca h0 s0 pc' L' st' hp') : ip_W p l e R s mid args below meth c Q G b zp L0 xs D ca h0 s0 pc L st hp := by
  unfold ip_lsw at h
  split at h
  · rename_i x r
    split at h
    · rename_i hp1
      obtain ⟨t, h1, h2⟩ := Option.map_eq_some_iff.mp h
      cases h2
      intro H locs cells slots ls hR hlo hlr hc hs
      exact lv_lookup (tgt := pc') C.1 C.2.1 hd hp1 rfl (tg_inv h1) (k H locs cells slots ls hR hlo hlr hc hs)
    · cases h
  · cases h
end SND1
