/-! THE CLAIM OUT OF ONE WALK OF THE LAW'S BODY. Your part is whole_start (and what it stands on); all else here is the same for every law, but numbers. -/
def R_law : String := "CallTracesLaw"
def lw_P (b : Addr) (xs : List Int32) (args : Array Value) (s : State) : Prop := args = #[.ref b] ∧ s.IntsAt b xs ∧ xs.length ≤ 3072 ∧ (Jvm.Cond.and given_1 narrow_1).before args s = true
def lw_Q (_ : Array Value) (s : State) (o : Outcome) (t : State) : Prop := o = .returned (some (.int 1)) ∧ Framed s o t [] 600000 7302250
def lw_Z (below : List Frame) (a : Array Value) (s : State) : State → Prop := fun t => ∃ o, t.status = .running ∧ Ended t below o ∧ lw_Q a s o t
/-- the law's own end, with 1 on the stack, nothing written that was there before, its room as the claim has it -/
theorem lw_ret {p : Program} {l : Launch} {e : Env} {s : State} {m : MethodId} {below : List Frame} {meth : Method} {c : Code} {b : Nat} (hx : p.tables.exec = Jvm.exec) (hb : c.code = code) (hr : meth.sig.returnType = ret) (hlocks : meth.locks = false) {pc : Nat} {H : Heap} {ls : Array Slot} (hdg : decode code pc = .ok (.ireturn, 1)) : W p l e room_1 s m #[Value.ref b] below meth c H [] 600000 7302250 (lw_Z below #[Value.ref b] s) (F0 m pc ls [.int 1]) := by
  intro T hT X
  obtain ⟨fs, hret, hrun, hended, hW, hframe⟩ := X.leave (v := some (.int 1)) (hlocks := hlocks) (fun h => by rw [hr] at h; cases h)
  have hmeth' : T.vm.method? m = some meth := X.method'
  refine ⟨T.setFrames fs, ?_, .returned (some (.int 1)), hrun, hended, rfl, ⟨_, rfl⟩, hW, hframe⟩
  jvm_step X.here [X.here.top, hx, hb, hdg, hmeth', hr, ret, narrow_b1]
  (try refine ⟨rfl, ?_⟩); (try refine ⟨rfl, ?_⟩)
  first | (intro acts; rw [hret _ acts rfl rfl rfl]) | rw [hret _ _ rfl rfl rfl]
  exact Steps.refl _
/-- what holds at the law's entry: the machine, the code, the tables' words (any of lw_tbl by 'hts w (by decide +kernel)'), the script of L ints xs at the cell b, what the Statement gives of the start (any of its parts by flat_of_before) -/
def lw_At (p : Program) (s : State) (m : MethodId) (meth : Method) (c : Code) (b L : Nat) (xs : Nat → Int32) : Prop :=
  p.tables.exec = Jvm.exec ∧ c.code = code ∧ meth.sig.returnType = ret ∧ c.maxLocals = 4 ∧ s.vm.findClass R_law = some m.cls ∧ (∀ w ∈ lw_tbl, w.before #[Value.ref b] s = true) ∧ va_X b L xs s s.heap ∧ b < s.heap.size ∧ meth.locks = false ∧ (Jvm.Cond.and given_1 narrow_1).before #[Value.ref b] s = true ∧ meth.name = "law"
/-- the heap at the law's start -/
def ip_h0 (L : Nat) (xs : Nat → Int32) : ip_H := (2, 0, fun a => if a = 0 then some (.inl (9, L, .inl xs)) else if a = 1 then some (.inl (9, 16, .inl ip_pp)) else none)
/-- what is left: of the pure machine alone -/
def ip_pure : Prop := ∀ (L : Nat) (xs : Nat → Int32), L ≤ 3072 → ∃ hp' : ip_H, ip_call 1400 mlaw [.ref 0] (ip_h0 L xs) = some (some (.int 1), hp') ∧ hp'.1 ≤ 600002 ∧ hp'.2.1 ≤ 7302250
theorem st_arr {args : Array Value} {s : State} {ty : FieldType} (h : (Cond.arrayClass ty).before args s = true) : ∃ cA : ClassId, ArrOfT s cA ty ∧ s.vm.findClass ("[" ++ ty.toString) = some cA := by
  obtain ⟨cA, k, comp, h1, h2, h3⟩ := Cond.arrayClass_spec h
  exact ⟨cA, fun n z => ⟨fun k h => (by cases h), k, h2, comp, h3⟩, h1⟩
theorem st_arq {args : Array Value} {s : State} {C : String} (h : (Cond.arrayOver (.object C)).before args s = true) : ∃ cA : ClassId, ArrOfT s cA (.object C) ∧ va_RA s cA (.object C) := by
  obtain ⟨comp, cA, k, h1, h2, h3, h4, h5⟩ := Cond.arrayOver_spec h
  exact ⟨cA, fun n z => ⟨fun k h => (by cases h), k, h3, comp, h4⟩, k, comp, h3, h4, h1, h5⟩
theorem st_ara {args : Array Value} {s : State} {t : FieldType} (h : (Cond.arrayOver (.array t)).before args s = true) : ∃ cA : ClassId, ArrOfT s cA (.array t) ∧ va_RA s cA (.array t) := by
  obtain ⟨comp, cA, k, h1, h2, h3, h4, h5⟩ := Jvm.Stand.arrayOver_specB h
  exact ⟨cA, fun n z => ⟨fun k h => (by cases h), k, h3, comp, h4⟩, h5⟩
theorem st_tb {i : Nat} {w : Cond} (h : tables_1[i]? = some w) : w ∈ lw_tbl := List.mem_append_right _ (List.mem_of_getElem? h)
set_option maxRecDepth 20000 in
theorem law_q : ip_M[mlaw]? = some (10, yL_law, cL_law, 4, some .boolean) := rfl
set_option maxHeartbeats 4000000 in
theorem start_of (hpure : ip_pure) {p : Program} {e : Env} {s : State} {m : MethodId} {below : List Frame} {meth : Method} {c : Code} (l : Launch) {b L : Nat} {xs : Nat → Int32} (hL : L ≤ 3072) (C0 : lw_At p s m meth c b L xs) : W p l e room_1 s m #[Value.ref b] below meth c s.heap [] 0 0 (lw_Z below #[Value.ref b] s) (entryFrame m ([Value.ref b] : List Value).toArray 4) := by
  obtain ⟨hx, hb, hr, hml, hown, hts, hX, hbl, hlocks, hgv, hname⟩ := C0
  have hs := flat_of_before _ hgv
  have hel : ∀ j : Nat, j < 16 → (Term.elem (.static RX8 "POPS" "[I") (.int (Int32.ofNat j))).eval #[Value.ref b] s none [] s = some (.int (ip_pp j)) := by
    intro j hj
    match j, hj with
    | 0, _ => exact va_eqt (hs (Cond.eq (.elem (.static RX8 "POPS" "[I") (.int 0)) (.int 0)) (by decide +kernel))
    | 1, _ => exact va_eqt (hs (Cond.eq (.elem (.static RX8 "POPS" "[I") (.int 1)) (.int 0)) (by decide +kernel))
    | 2, _ => exact va_eqt (hs (Cond.eq (.elem (.static RX8 "POPS" "[I") (.int 2)) (.int 1)) (by decide +kernel))
    | 3, _ => exact va_eqt (hs (Cond.eq (.elem (.static RX8 "POPS" "[I") (.int 3)) (.int 2)) (by decide +kernel))
    | 4, _ => exact va_eqt (hs (Cond.eq (.elem (.static RX8 "POPS" "[I") (.int 4)) (.int 1)) (by decide +kernel))
    | 5, _ => exact va_eqt (hs (Cond.eq (.elem (.static RX8 "POPS" "[I") (.int 5)) (.int 1)) (by decide +kernel))
    | 6, _ => exact va_eqt (hs (Cond.eq (.elem (.static RX8 "POPS" "[I") (.int 6)) (.int 1)) (by decide +kernel))
    | 7, _ => exact va_eqt (hs (Cond.eq (.elem (.static RX8 "POPS" "[I") (.int 7)) (.int 1)) (by decide +kernel))
    | 8, _ => exact va_eqt (hs (Cond.eq (.elem (.static RX8 "POPS" "[I") (.int 8)) (.int 0)) (by decide +kernel))
    | 9, _ => exact va_eqt (hs (Cond.eq (.elem (.static RX8 "POPS" "[I") (.int 9)) (.int 1)) (by decide +kernel))
    | 10, _ => exact va_eqt (hs (Cond.eq (.elem (.static RX8 "POPS" "[I") (.int 10)) (.int 1)) (by decide +kernel))
    | 11, _ => exact va_eqt (hs (Cond.eq (.elem (.static RX8 "POPS" "[I") (.int 11)) (.int 0)) (by decide +kernel))
    | 12, _ => exact va_eqt (hs (Cond.eq (.elem (.static RX8 "POPS" "[I") (.int 12)) (.int 0)) (by decide +kernel))
    | 13, _ => exact va_eqt (hs (Cond.eq (.elem (.static RX8 "POPS" "[I") (.int 13)) (.int 0)) (by decide +kernel))
    | 14, _ => exact va_eqt (hs (Cond.eq (.elem (.static RX8 "POPS" "[I") (.int 14)) (.int 0)) (by decide +kernel))
    | 15, _ => exact va_eqt (hs (Cond.eq (.elem (.static RX8 "POPS" "[I") (.int 15)) (.int 0)) (by decide +kernel))
    | n + 16, h => exact absurd h (by omega)
  obtain ⟨zp, hz1, hz2⟩ := va_Tof (tm := .static RX8 "POPS" "[I") (ty := .int) (N := 16) (f := fun j => .int (ip_pp j)) (A := fun x => s.heap.size ≤ x) (by decide) (hs _ (by decide +kernel)) (va_eqt (hs (Cond.eq (.length (.static RX8 "POPS" "[I")) (.int 16)) (by decide +kernel))) hel (fun a ha => Nat.not_le.mpr ha)
  have hZ : va_Z RX8 "POPS" "[I" (.ref zp) (fun x => s.heap.size ≤ x) s s.heap := va_Zof (hts (.laysStatic RX8 "POPS" "[I") (st_tb (i := 453) (by decide +kernel))) (hts (.initialized RX8) (st_tb (i := 1) (by decide +kernel))) hz1 (fun a ha => Nat.not_le.mpr ha)
  have hws : ∀ w ∈ ip_ws, w.before #[Value.ref b] s = true := fun w hw => hts w (List.mem_filter.mp hw).1
  have hcl : ∀ k : Nat, ∃ P : ClassId × (Nat → Nat), ∀ r : vw_C, ip_cl[k]? = some r → u_Kn s r.1 r.2.1 r.2.2 P.1 P.2 := by
    intro k
    cases hk : ip_cl[k]? with
    | none => exact ⟨(0, fun _ => 0), fun r hr => by cases hr⟩
    | some r =>
      obtain ⟨-, -, hin, -, hins, -⟩ := cl_ok hk
      obtain ⟨cC, iS, h9⟩ := u_known hws hin (hws _ hins)
      exact ⟨(cC, iS), fun r' hr => by cases hr; exact h9⟩
  obtain ⟨f, hf⟩ := Classical.skolem.mp hcl
  obtain ⟨c0, a0, g0⟩ := st_arr (hws _ w_aB)
  obtain ⟨c1, a1, g1⟩ := st_arr (hws _ w_aI)
  obtain ⟨c2, a2, g2⟩ := st_arr (hws _ w_aJ)
  obtain ⟨c3, a3, g3⟩ := st_arr (hws _ w_aZ)
  have o4 := hts (.arrayOver (.object RX1)) (st_tb (i := 90) (by decide +kernel))
  have o5 := hts (.arrayOver (.object RX3)) (st_tb (i := 35) (by decide +kernel))
  have o6 := hts (.arrayOver (.object RX6)) (st_tb (i := 290) (by decide +kernel))
  have o7 := hts (.arrayOver (.array .int)) (st_tb (i := 98) (by decide +kernel))
  have o8 := hts (.arrayOver (.array .long)) (st_tb (i := 88) (by decide +kernel))
  obtain ⟨c4, a4, g4⟩ := st_arq o4
  obtain ⟨c5, a5, g5⟩ := st_arq o5
  obtain ⟨c6, a6, g6⟩ := st_arq o6
  obtain ⟨c7, a7, g7⟩ := st_ara o7
  obtain ⟨c8, a8, g8⟩ := st_ara o8
  obtain ⟨ca, hca⟩ : ∃ ca : Nat → ClassId, ca 0 = c0 ∧ ca 1 = c1 ∧ ca 2 = c2 ∧ ca 3 = c3 ∧ ca 4 = c4 ∧ ca 5 = c5 ∧ ca 6 = c6 ∧ ca 7 = c7 ∧ ca 8 = c8 := ⟨fun t => match t with
    | 0 => c0
    | 1 => c1
    | 2 => c2
    | 3 => c3
    | 4 => c4
    | 5 => c5
    | 6 => c6
    | 7 => c7
    | _ => c8, rfl, rfl, rfl, rfl, rfl, rfl, rfl, rfl, rfl⟩
  obtain ⟨rfl, rfl, rfl, rfl, rfl, rfl, rfl, rfl, rfl⟩ := hca
  have hK : va_K (fun k => (f k).1, fun k => (f k).2) ip_cl (ip_tys ca) s := ⟨fun k r hk => hf k r hk, fun k r hk => by
    match k, hk with
    | 0, hk => cases hk; exact ⟨a0, g0⟩
    | 1, hk => cases hk; exact ⟨a1, g1⟩
    | 2, hk => cases hk; exact ⟨a2, g2⟩
    | 3, hk => cases hk; exact ⟨a3, g3⟩
    | 4, hk => cases hk; exact ⟨a4, g4⟩
    | 5, hk => cases hk; exact ⟨a5, g5⟩
    | 6, hk => cases hk; exact ⟨a6, g6⟩
    | 7, hk => cases hk; exact ⟨a7, g7⟩
    | 8, hk => cases hk; exact ⟨a8, g8⟩
    | n + 9, hk => simp [ip_tys] at hk⟩
  have hzs : zp < s.heap.size := by
    obtain ⟨cell, t1, -⟩ := hz2
    exact (Array.getElem?_eq_some_iff.mp t1).1
  have hIK : ip_K s.heap b zp L xs (fun k => (f k).1, fun k => (f k).2) ca s := by
    refine ⟨hK, fun w hw hi => ?_, fun ty hty => ?_, hZ, hX, hz2, hbl, hzs⟩
    · have h9 := hts w (List.mem_append_right _ hw)
      cases w <;> first | (cases hi; done) | exact va_Nw.of rfl h9
    · simp only [ip_ovs, List.mem_cons, List.mem_nil_iff, or_false] at hty
      rcases hty with rfl | rfl | rfl | rfl | rfl
      · exact o4
      · exact o5
      · exact o6
      · exact o7
      · exact o8
  have hC : ip_cx p s m #[Value.ref b] meth c s.heap b zp L xs (fun k => (f k).1, fun k => (f k).2) ca (10, yL_law, cL_law, 4, some .boolean) := ⟨hx, hb, hml, hown, hws, hname, hIK⟩
  have hrep : ip_rep s.heap b zp L xs (fun k => (f k).1, fun k => (f k).2) ca (ip_h0 L xs) s.heap := by
    refine ⟨Nat.le_refl 2, rfl, fun _ _ => rfl, fun a y hy => ?_⟩
    have hy : (if a = 0 then some (.inl (9, L, .inl xs)) else if a = 1 then some (.inl (9, 16, .inl ip_pp)) else none) = some y := hy
    by_cases e0 : a = 0
    · subst e0
      rw [if_pos rfl] at hy
      cases hy
      exact ⟨by show 0 < 2; decide, Or.inl ⟨rfl, rfl⟩⟩
    · rw [if_neg e0] at hy
      by_cases e1 : a = 1
      · subst e1
        rw [if_pos rfl] at hy
        cases hy
        exact ⟨by show 1 < 2; decide, Or.inr (Or.inl ⟨rfl, rfl⟩)⟩
      · rw [if_neg e1] at hy
        cases hy
  obtain ⟨hp', hcall, hc1, hc2⟩ := hpure L xs hL
  unfold ip_call at hcall
  obtain ⟨Le, hLe, hgo⟩ := Option.bind_eq_some_iff.mp hcall
  obtain ⟨n, hrun⟩ := ip_go_iff.mp hgo
  have hLe2 : Le = ip_ent 4 [.ref 0] := by
    have h9 : ip_in0 mlaw [.ref 0] = some (ip_ent 4 [.ref 0]) := by
      unfold ip_in0
      rw [law_q]
      rfl
    exact Option.some.inj (hLe.symm.trans h9)
  subst hLe2
  rw [lg_entry_eq]
  refine ip_sound n 1400 mlaw 0 _ [] (ip_h0 L xs) (some (.int 1)) hp' (10, yL_law, cL_law, 4, some .boolean) law_q hrun p e room_1 s m #[Value.ref b] below meth c (lw_Z below #[Value.ref b] s) 2 0 hC (by decide) (by decide) hc1 hc2 ?_ s.heap [] 0 0 _ hrep (fun y hy => by cases hy) (by rw [hml]; exact ent_lr (as := [.ref 0]) (by decide)) rfl rfl
  intro H locs cells slots ls pc1 i hd hi hR hlo hcc hss
  obtain rfl : i = .ireturn := by
    rcases hi with ⟨rfl, -⟩ | ⟨-, y, hy, -⟩ | ⟨-, hy, -⟩
    · rfl
    · cases hy
    · cases hy
  refine va_forget (fun y hy => hlo y hy) ?_
  refine W.widen (k := 600000) (n := 7302250) (by omega) (by omega) ?_
  exact lw_ret hx hb hr hlocks hd
