/-! soundness of calls, and of whole runs -/
def ip_Pc (G : Heap) (b zp L0 : Nat) (xs : Nat → Int32) (D : va_G) (ca : Nat → ClassId) (as : List Value) (hp : ip_H) : Array Value → State → Prop := fun a U => a = (as.map (ip_v (ip_ad G.size b zp))).toArray ∧ ip_rep G b zp L0 xs D ca hp U.heap ∧ ip_K G b zp L0 xs D ca U
def ip_Qc (G : Heap) (b zp L0 : Nat) (xs : Nat → Int32) (D : va_G) (ca : Nat → ClassId) (v : Option Value) (hp : ip_H) : Array Value → State → Outcome → State → Prop := fun _ _ o t => o = .returned (v.map (ip_v (ip_ad G.size b zp))) ∧ ip_rep G b zp L0 xs D ca hp t.heap
/-- what a return instruction gives -/
def ip_rt (rt : Option FieldType) (i : Instr) (v : Option Value) : Prop := (i = .ireturn ∧ ∃ x, v = some (.int x) ∧ (rt = some .int ∨ (rt = some .boolean ∧ (x = 0 ∨ x = 1)))) ∨ (i = .lreturn ∧ ∃ x, v = some (.long x) ∧ rt = some .long) ∨ (i = .return_ ∧ v = none ∧ rt = none)
/-- the runs of at most n instructions are the machine's -/
def ip_snd (n : Nat) (l : Launch) (G : Heap) (b zp L0 : Nat) (xs : Nat → Int32) (D : va_G) (ca : Nat → ClassId) : Prop :=
  ∀ (d m pc : Nat) (L : ip_L) (st : List Value) (hp : ip_H) (v : Option Value) (hp1 : ip_H) (q : ip_I), ip_M[m]? = some q → ip_run n d m pc L st hp = some (v, hp1) →
  ∀ (p : Program) (e : Env) (R : Room) (s : State) (mid : MethodId) (args : Array Value) (below : List Frame) (meth : Method) (c : Code) (Q : State → Prop) (h0 s0 : Nat), ip_cx p s mid args meth c G b zp L0 xs D ca q → d ≤ R.frames → 60 * d ≤ R.locals → hp1.1 ≤ R.cells + h0 → hp1.2.1 ≤ R.slots + s0 →
  (∀ (H : Heap) (locs : List Loc) (cells slots : Nat) (ls : Array Slot) (pc1 : Nat) (i : Instr), decode q.2.2.1 pc1 = .ok (i, 1) → ip_rt q.2.2.2.2 i v → ip_rep G b zp L0 xs D ca hp1 H → (∀ x ∈ locs, G.size ≤ x.base) → cells + h0 = hp1.1 → slots + s0 = hp1.2.1 → W p l e R s mid args below meth c H locs cells slots Q (F0 mid pc1 ls (v.toList.map (ip_v (ip_ad G.size b zp))))) →
  ip_W p l e R s mid args below meth c Q G b zp L0 xs D ca h0 s0 pc L st hp
def ip_fl (as : List Value) : ip_L := as.flatMap fun v => if v.category = 2 then [some v, none] else [some v]
theorem fl_len (ad : Nat → Nat) (as : List Value) : (lg_sl (as.map (ip_v ad))).length = (ip_fl as).length := by
  induction as with
  | nil => rfl
  | cons a as ih =>
    simp only [lg_sl, ip_fl, List.map_cons, List.flatMap_cons, List.length_append] at ih ⊢
    rw [ih, ip_v_cat]
    split <;> rfl
theorem fl_args (ad : Nat → Nat) : ∀ (as : List Value) (k i : Nat) (v : Value), (ip_fl as)[i]? = some (some v) → (k + i, ip_v ad v) ∈ lv_args k (as.map (ip_v ad)) := by
  intro as
  induction as with
  | nil =>
    intro k i v h
    simp [ip_fl] at h
  | cons a as ih =>
    intro k i v h
    have e : ip_fl (a :: as) = (if a.category = 2 then [some a, none] else [some a]) ++ ip_fl as := rfl
    rw [e] at h
    rw [List.map_cons]
    show _ ∈ (k, ip_v ad a) :: lv_args (if (ip_v ad a).category = 2 then k + 2 else k + 1) (as.map (ip_v ad))
    rw [ip_v_cat]
    by_cases hc : a.category = 2
    · rw [if_pos hc] at h ⊢
      match i, h with
      | 0, h => cases h; exact List.mem_cons_self
      | 1, h => cases h
      | i + 2, h =>
        refine List.mem_cons_of_mem _ ?_
        have h9 := ih (k + 2) i v h
        rw [show k + (i + 2) = k + 2 + i by omega]
        exact h9
    · rw [if_neg hc] at h ⊢
      match i, h with
      | 0, h => cases h; exact List.mem_cons_self
      | i + 1, h =>
        refine List.mem_cons_of_mem _ ?_
        have h9 := ih (k + 1) i v h
        rw [show k + (i + 1) = k + 1 + i by omega]
        exact h9
theorem ent_lr {ad : Nat → Nat} {as : List Value} {ml : Nat} (h : (ip_fl as).length ≤ ml) : ip_lr ad ((lg_sl (as.map (ip_v ad)) ++ List.replicate (ml - (lg_sl (as.map (ip_v ad))).length) Slot.unset).toArray) ml (ip_ent ml as) := by
  have e := lv_entry (as.map (ip_v ad)) (n := ml) (by rw [fl_len]; exact h)
  have en : ip_ent ml as = ip_fl as ++ List.replicate (ml - (ip_fl as).length) none := rfl
  refine ⟨by rw [en, List.length_append, List.length_replicate]; omega, e.1, e.2.1, fun x hx => ?_⟩
  obtain ⟨i, w⟩ := x
  obtain ⟨v, h1, rfl⟩ := ip_al_mem.mp hx
  rw [ip_ld_iff, en] at h1
  have hi : i < (ip_fl as).length := by
    apply Classical.byContradiction
    intro z
    rw [List.getElem?_append_right (by omega)] at h1
    have := List.eq_of_mem_replicate (List.mem_of_getElem? h1)
    cases this
  rw [List.getElem?_append_left hi] at h1
  have h2 := fl_args ad as 0 i v h1
  rw [Nat.zero_add] at h2
  exact e.2.2 _ h2
section SND8
variable {p : Program} {l : Launch} {e : Env} {R : Room} {s : State} {mid : MethodId} {args : Array Value} {below : List Frame} {meth : Method} {c : Code} {Q : State → Prop} {G : Heap} {b zp L0 : Nat} {xs : Nat → Int32} {D : va_G} {ca : Nat → ClassId} {h0 s0 : Nat} {q : ip_I} {d pc len : Nat} {L L' : ip_L} {st st' : List Value} {hp hp' : ip_H} {pc' : Nat}
theorem Pc_blind {as : List Value} : FrameBlind (ip_Pc G b zp L0 xs D ca as hp) := fun a U g mk h => ⟨h.1, h.2.1, K_same (u := U) (U := U.calling g mk a) rfl h.2.2⟩
theorem met_of {n d' m' : Nat} {as : List Value} {Le : ip_L} {v : Option Value} {hp2 : ip_H} (ih : ip_snd n l G b zp L0 xs D ca) (hq : ip_M[m']? = some q) (hL : ip_in0 m' as = some Le) (hrun : ip_run n d' m' 0 Le [] hp = some (v, hp2)) :
    Met l q.2.1 (Cond.code q.2.1 q.2.2.1 q.2.2.2.1 q.2.2.2.2 :: ip_ws) { frames := d', cells := hp2.1 - hp.1, slots := hp2.2.1 - hp.2.1, locals := 60 * d' } (ip_Pc G b zp L0 xs D ca as hp) (ip_Qc G b zp L0 xs D ca v hp2) (hp2.1 - hp.1) (hp2.2.1 - hp.2.1) (fun x => G.size ≤ x) := by
  have hg := run_grow _ _ _ _ _ _ _ _ hrun
  have hg1 : hp.1 ≤ hp2.1 := hg.1
  have hg2 : hp.2.1 ≤ hp2.2.1 := hg.2
  obtain ⟨hpl, hcls, -⟩ := mt_ok hq
  unfold ip_in0 at hL
  rw [hq, Option.bind_some] at hL
  split at hL
  · rename_i hfit
    cases hL
    refine Met.ofW (cc := q.2.2.1) (maxL := q.2.2.2.1) (ret := q.2.2.2.2) hpl rfl ?_
    intro p e s m args below meth c s₁ B hml hv
    obtain ⟨rfl, hR, hK⟩ := hv
    have hts := atoms_spec (ws := Cond.code q.2.1 q.2.2.1 q.2.2.2.1 q.2.2.2.2 :: ip_ws) B.pre
    have C : ip_cx p s m (as.map (ip_v (ip_ad G.size b zp))).toArray meth c G b zp L0 xs D ca q := ⟨B.exec, B.bytes, hml, by rw [← hcls]; exact findClass_of_methodNamed B.named, fun w hw => hts w (List.mem_cons_of_mem _ hw), (name_of_methodNamed B.named B.method).1, hK⟩
    rw [lg_entry_eq]
    refine ih d' m' 0 _ [] hp v hp2 q hq hrun p e _ s m _ below meth c _ hp.1 hp.2.1 C (Nat.le_refl _) (Nat.le_refl _) (by show hp2.1 ≤ hp2.1 - hp.1 + hp.1; omega) (by show hp2.2.1 ≤ hp2.2.1 - hp.2.1 + hp.2.1; omega) ?_ s.heap [] 0 0 _ hR (fun x hx => by cases hx) (by rw [hml]; exact ent_lr hfit) (Nat.zero_add _) (Nat.zero_add _)
    intro H locs cells slots ls pc1 i hd hi hR2 hlo hc hs
    obtain rfl : cells = hp2.1 - hp.1 := by omega
    obtain rfl : slots = hp2.2.1 - hp.2.1 := by omega
    rcases hi with ⟨rfl, x, rfl, hrt⟩ | ⟨rfl, x, rfl, hrt⟩ | ⟨rfl, rfl, hrt⟩
    · rcases hrt with hrt | ⟨hrt, hx⟩
      · exact W.iret B.exec B.bytes (B.returns.trans hrt) (fun t ht hW => ⟨rfl, by rw [ht]; exact hR2⟩) hlo hd
      · exact W.zret B.exec B.bytes (B.returns.trans hrt) (by rcases hx with rfl | rfl <;> rfl) (fun t ht hW => ⟨rfl, by rw [ht]; exact hR2⟩) hlo hd
    · exact W.lret B.exec B.bytes (B.returns.trans hrt) (fun t ht hW => ⟨rfl, by rw [ht]; exact hR2⟩) hlo hd
    · exact W.vret B.exec B.bytes (B.returns.trans hrt) (fun t ht hW => ⟨rfl, by rw [ht]; exact hR2⟩) hlo hd
  · cases hL
theorem vrun_go {H : Heap} {locs : List Loc} {cells slots mc ms : Nat} {ls : Array Slot} {st0 r : List Value} {v : Option Value} {hp2 : ip_H} {A : Array Value} (hr : va_Run p l e R s mid args below meth c H locs cells slots mc ms (F0 mid pc ls st0) (r.map (ip_v (ip_ad G.size b zp))) (ip_Qc G b zp L0 xs D ca v hp2 A) (fun x => G.size ≤ x)) (hlo : ∀ x ∈ locs, G.size ≤ x.base) (hlr : ip_lr (ip_ad G.size b zp) ls c.maxLocals L) (hc : cells + mc + h0 = hp2.1) (hs : slots + ms + s0 = hp2.2.1) (k : ip_W p l e R s mid args below meth c Q G b zp L0 xs D ca h0 s0 (pc + 3) L (v.toList ++ r) hp2) : W p l e R s mid args below meth c H locs cells slots Q (F0 mid pc ls st0) := by
  intro T hT X
  obtain ⟨v', st₀, t, T', L9, -, X', hL, e1, -, ⟨hv, hrep⟩, st⟩ := hr T hT X
  cases hv
  obtain ⟨t2, a1, b1⟩ := k T'.heap (locs ++ L9) (cells + mc) (slots + ms) ls (by rw [e1]; exact hrep) (fun x hx => by
    rcases List.mem_append.mp hx with h | h
    · exact hlo x h
    · exact hL x h) hlr hc hs T' rfl X'
  refine ⟨t2, st t2 ?_, b1⟩
  have ev : (v.toList ++ r).map (ip_v (ip_ad G.size b zp)) = (v.map (ip_v (ip_ad G.size b zp))).toList ++ r.map (ip_v (ip_ad G.size b zp)) := by cases v <;> rfl
  rw [ev] at a1
  exact a1
end SND8
