/-! soundness: which instructions end or call; the call itself; whole runs -/
section SND9
variable {p : Program} {l : Launch} {e : Env} {R : Room} {s : State} {mid : MethodId} {args : Array Value} {below : List Frame} {meth : Method} {c : Code} {Q : State → Prop} {G : Heap} {b zp L0 : Nat} {xs : Nat → Int32} {D : va_G} {ca : Nat → ClassId} {h0 s0 : Nat} {q : ip_I} {d pc len : Nat} {L L' : ip_L} {st st' : List Value} {hp hp' : ip_H} {pc' : Nat}
theorem sg_inr {pc1 : Nat} {o : Option (List Value)} {y : Option Value ⊕ (Nat × List Value × List Value)} (h : ip_sg pc1 L hp o = some (.inr y)) : False := by
  cases o with
  | none => cases h
  | some x =>
    have h : some (Sum.inl (pc1, L, x, hp)) = (some (.inr y) : Option ip_A) := h
    cases h
theorem lg_inr {pc1 : Nat} {o : Option (ip_L × List Value)} {y : Option Value ⊕ (Nat × List Value × List Value)} (h : ip_lg2 pc1 hp o = some (.inr y)) : False := by
  cases o with
  | none => cases h
  | some x =>
    have h : some (Sum.inl (pc1, x.1, x.2, hp)) = (some (.inr y) : Option ip_A) := h
    cases h
theorem b1_inr {f : Int32 → Bool} {nx : Nat} {off : Int} {y : Option Value ⊕ (Nat × List Value × List Value)} (h : ip_b1 f pc nx off L hp st = some (.inr y)) : False := by
  unfold ip_b1 at h
  split at h
  · obtain ⟨t, h1, h2⟩ := Option.map_eq_some_iff.mp h
    cases h2
  · cases h
theorem b2_inr {f : Int32 → Int32 → Bool} {nx : Nat} {off : Int} {y : Option Value ⊕ (Nat × List Value × List Value)} (h : ip_b2 f pc nx off L hp st = some (.inr y)) : False := by
  unfold ip_b2 at h
  split at h
  · obtain ⟨t, h1, h2⟩ := Option.map_eq_some_iff.mp h
    cases h2
  · cases h
/-- a call: kind, method, parameters -/
def ip_iv (i : Instr) (idx kd : Nat) : Prop := (i = .invokevirtual idx ∧ (kd = 0 ∨ kd = 3)) ∨ (i = .invokestatic idx ∧ (kd = 1 ∨ kd = 4)) ∨ (i = .invokespecial idx ∧ (kd = 2 ∨ kd = 5))
theorem act_inr {i : Instr} {cn : Nat} {ini : Bool} {rt : Option FieldType} {y : Option Value ⊕ (Nat × List Value × List Value)} (h : ip_act d cn ini rt i pc len L st hp = some (.inr y)) : (∃ v, y = .inl v ∧ ip_rt rt i v ∧ st = v.toList) ∨ (∃ idx x, ip_iv i idx x.1 ∧ ip_lm cn idx = some x ∧ ip_inv hp x st = some (.inr y)) := by
  cases i
  case iadd =>
    exact (sg_inr h).elim
  case isub =>
    exact (sg_inr h).elim
  case imul =>
    exact (sg_inr h).elim
  case iand =>
    exact (sg_inr h).elim
  case idiv =>
    exact (sg_inr h).elim
  case irem =>
    exact (sg_inr h).elim
  case ineg =>
    exact (sg_inr h).elim
  case ladd =>
    exact (sg_inr h).elim
  case lsub =>
    exact (sg_inr h).elim
  case lmul =>
    exact (sg_inr h).elim
  case land =>
    exact (sg_inr h).elim
  case lor =>
    exact (sg_inr h).elim
  case lxor =>
    exact (sg_inr h).elim
  case ldiv =>
    exact (sg_inr h).elim
  case lrem =>
    exact (sg_inr h).elim
  case lneg =>
    exact (sg_inr h).elim
  case lcmp =>
    exact (sg_inr h).elim
  case lshl =>
    exact (sg_inr h).elim
  case lushr =>
    exact (sg_inr h).elim
  case i2l =>
    exact (sg_inr h).elim
  case l2i =>
    exact (sg_inr h).elim
  case i2b =>
    exact (sg_inr h).elim
  case dup =>
    exact (sg_inr h).elim
  case dup2 =>
    exact (sg_inr h).elim
  case iconst n =>
    cases h
  case bipush n =>
    cases h
  case sipush n =>
    cases h
  case lconst n =>
    cases h
  case ldc2_w idx =>
    obtain ⟨v, h1, h2⟩ := Option.map_eq_some_iff.mp h
    cases h2
  case iload n =>
    exact (sg_inr h).elim
  case iload_n n =>
    exact (sg_inr h).elim
  case lload n =>
    exact (sg_inr h).elim
  case lload_n n =>
    exact (sg_inr h).elim
  case aload n =>
    exact (sg_inr h).elim
  case aload_n n =>
    exact (sg_inr h).elim
  case istore n =>
    exact (lg_inr h).elim
  case istore_n n =>
    exact (lg_inr h).elim
  case lstore n =>
    exact (lg_inr h).elim
  case lstore_n n =>
    exact (lg_inr h).elim
  case astore n =>
    exact (lg_inr h).elim
  case astore_n n =>
    exact (lg_inr h).elim
  case iinc i n =>
    have h : (if len = 3 then (ip_iinc L i n).map (fun L => (.inl (pc + 3, L, st, hp) : ip_A)) else none) = some (.inr y) := h
    split at h
    · obtain ⟨v, h1, h2⟩ := Option.map_eq_some_iff.mp h
      cases h2
    · cases h
  case ifCond cnd off =>
    cases cnd <;> exact (b1_inr h).elim
  case if_icmp cnd off =>
    cases cnd <;> exact (b2_inr h).elim
  case goto off =>
    obtain ⟨v, h1, h2⟩ := Option.map_eq_some_iff.mp h
    cases h2
  case tableswitch a b c d =>
    have h : ip_tsw a b c d pc L hp st = some (.inr y) := h
    unfold ip_tsw at h
    split at h
    · obtain ⟨v, h1, h2⟩ := Option.map_eq_some_iff.mp h
      cases h2
    · cases h
  case lookupswitch a b =>
    have h : ip_lsw a b pc L hp st = some (.inr y) := h
    unfold ip_lsw at h
    split at h
    · split at h
      · obtain ⟨v, h1, h2⟩ := Option.map_eq_some_iff.mp h
        cases h2
      · cases h
    · cases h
  case getfield idx =>
    have h : ip_xgf cn idx (pc + 3) L hp st = some (.inr y) := h
    unfold ip_xgf at h
    split at h
    · obtain ⟨x, h1, h2⟩ := Option.bind_eq_some_iff.mp h
      obtain ⟨v, h3, h4⟩ := Option.map_eq_some_iff.mp h2
      cases h4
    · cases h
  case putfield idx =>
    have h : ip_xpf cn idx (pc + 3) ini L hp st = some (.inr y) := h
    unfold ip_xpf at h
    split at h
    · obtain ⟨x, h1, h2⟩ := Option.bind_eq_some_iff.mp h
      split at h2
      · obtain ⟨v, h3, h4⟩ := Option.map_eq_some_iff.mp h2
        cases h4
      · cases h2
    · cases h
  case getstatic idx =>
    have h : (if ip_lg cn idx = true then (some (.inl (pc + 3, L, .ref 1 :: st, hp)) : Option ip_A) else none) = some (.inr y) := h
    split at h <;> cases h
  case iaload =>
    have h : ip_xia (pc + 1) L hp st = some (.inr y) := h
    unfold ip_xia at h
    split at h
    · obtain ⟨v, h1, h2⟩ := Option.map_eq_some_iff.mp h
      cases h2
    · cases h
  case baload =>
    have h : ip_xba (pc + 1) L hp st = some (.inr y) := h
    unfold ip_xba at h
    split at h
    · obtain ⟨v, h1, h2⟩ := Option.map_eq_some_iff.mp h
      cases h2
    · cases h
  case laload =>
    have h : ip_xja (pc + 1) L hp st = some (.inr y) := h
    unfold ip_xja at h
    split at h
    · obtain ⟨v, h1, h2⟩ := Option.map_eq_some_iff.mp h
      cases h2
    · cases h
  case aaload =>
    have h : ip_xaa (pc + 1) L hp st = some (.inr y) := h
    unfold ip_xaa at h
    split at h
    · obtain ⟨v, h1, h2⟩ := Option.map_eq_some_iff.mp h
      cases h2
    · cases h
  case arraylength =>
    have h : ip_xlen (pc + 1) L hp st = some (.inr y) := h
    unfold ip_xlen at h
    split at h
    · obtain ⟨v, h1, h2⟩ := Option.map_eq_some_iff.mp h
      cases h2
    · cases h
  case iastore =>
    have h : ip_xis (pc + 1) L hp st = some (.inr y) := h
    unfold ip_xis at h
    split at h
    · obtain ⟨v, h1, h2⟩ := Option.map_eq_some_iff.mp h
      cases h2
    · cases h
  case lastore =>
    have h : ip_xjs (pc + 1) L hp st = some (.inr y) := h
    unfold ip_xjs at h
    split at h
    · obtain ⟨v, h1, h2⟩ := Option.map_eq_some_iff.mp h
      cases h2
    · cases h
  case bastore =>
    have h : ip_xbs (pc + 1) L hp st = some (.inr y) := h
    unfold ip_xbs at h
    split at h
    · obtain ⟨v, h1, h2⟩ := Option.map_eq_some_iff.mp h
      cases h2
    · cases h
  case aastore =>
    have h : ip_xas (pc + 1) L hp st = some (.inr y) := h
    unfold ip_xas at h
    split at h
    · obtain ⟨v, h1, h2⟩ := Option.map_eq_some_iff.mp h
      cases h2
    · cases h
  case new idx =>
    have h : ip_xnw cn idx (pc + 3) L hp st = some (.inr y) := h
    unfold ip_xnw at h
    obtain ⟨x, h1, h2⟩ := Option.bind_eq_some_iff.mp h
    obtain ⟨v, h3, h4⟩ := Option.map_eq_some_iff.mp h2
    cases h4
  case newarray t =>
    have h : ip_xna t (pc + 2) L hp st = some (.inr y) := h
    unfold ip_xna at h
    split at h
    · obtain ⟨x, h1, h2⟩ := Option.bind_eq_some_iff.mp h
      split at h2 <;> cases h2
    · cases h
  case anewarray idx =>
    have h : ip_xan cn idx (pc + 3) L hp st = some (.inr y) := h
    unfold ip_xan at h
    split at h
    · obtain ⟨x, h1, h2⟩ := Option.bind_eq_some_iff.mp h
      split at h2 <;> cases h2
    · cases h
  case multianewarray idx dims =>
    have h : ip_xmu cn idx dims (pc + 4) L hp st = some (.inr y) := h
    unfold ip_xmu at h
    split at h
    · obtain ⟨x, h1, h2⟩ := Option.bind_eq_some_iff.mp h
      split at h2 <;> cases h2
    · cases h
  case invokevirtual idx =>
    have h : (ip_lm cn idx).bind (fun x => if x.1 = 0 ∨ x.1 = 3 then ip_inv hp x st else none) = some (.inr y) := h
    obtain ⟨x, h1, h2⟩ := Option.bind_eq_some_iff.mp h
    split at h2
    · rename_i hk
      exact Or.inr ⟨idx, x, Or.inl ⟨rfl, hk⟩, h1, h2⟩
    · cases h2
  case invokestatic idx =>
    have h : ip_xst d cn idx (pc + 3) L hp st = some (.inr y) := h
    unfold ip_xst at h
    split at h
    · unfold ip_xcp at h
      split at h
      · split at h
        · obtain ⟨v, h1, h2⟩ := Option.map_eq_some_iff.mp h
          cases h2
        · cases h
      · cases h
    · unfold ip_xmm at h
      split at h
      · split at h <;> cases h
      · cases h
    · unfold ip_xmm at h
      split at h
      · split at h <;> cases h
      · cases h
    · obtain ⟨x, h1, h2⟩ := Option.bind_eq_some_iff.mp h
      split at h2
      · rename_i hk
        exact Or.inr ⟨idx, x, Or.inr (Or.inl ⟨rfl, hk⟩), h1, h2⟩
      · cases h2
  case invokespecial idx =>
    have h : ip_xsp d cn idx (pc + 3) L hp st = some (.inr y) := h
    unfold ip_xsp at h
    split at h
    · unfold ip_xoi at h
      split at h
      · split at h <;> cases h
      · cases h
    · obtain ⟨x, h1, h2⟩ := Option.bind_eq_some_iff.mp h
      split at h2
      · rename_i hk
        exact Or.inr ⟨idx, x, Or.inr (Or.inr ⟨rfl, hk⟩), h1, h2⟩
      · cases h2
  case ireturn =>
    have h : ip_ret rt st = some (.inr y) := h
    unfold ip_ret at h
    split at h
    · rename_i v
      split at h
      · rename_i hr
        cases h
        exact Or.inl ⟨_, rfl, Or.inl ⟨rfl, _, rfl, hr⟩, rfl⟩
      · cases h
    · cases h
  case lreturn =>
    have h : ip_lret rt st = some (.inr y) := h
    unfold ip_lret at h
    split at h
    · rename_i v
      split at h
      · rename_i hr
        cases h
        exact Or.inl ⟨_, rfl, Or.inr (Or.inl ⟨rfl, _, rfl, hr⟩), rfl⟩
      · cases h
    · cases h
  case return_ =>
    have h : ip_vret rt st = some (.inr y) := h
    unfold ip_vret at h
    split at h
    · split at h
      · rename_i hr
        cases h
        exact Or.inl ⟨_, rfl, Or.inr (Or.inr ⟨rfl, rfl, hr⟩), rfl⟩
      · cases h
    · cases h
  all_goals (have h9 : (none : Option ip_A) = some (.inr y) := h; cases h9)
theorem inv_inr {x : Nat × Nat × Nat} {y : Option Value ⊕ (Nat × List Value × List Value)} (h : ip_inv hp x st = some (.inr y)) : x.2.2 ≤ st.length ∧ ∃ as r, y = .inr (x.2.1, as, r) ∧ ip_rs r = true ∧ (((x.1 = 1 ∨ x.1 = 4) ∧ as = (st.take x.2.2).reverse ∧ r = st.drop x.2.2) ∨ (¬ (x.1 = 1 ∨ x.1 = 4) ∧ ∃ a, st.drop x.2.2 = .ref a :: r ∧ as = .ref a :: (st.take x.2.2).reverse ∧ (x.1 = 2 ∨ x.1 = 5 ∨ ((ip_M[x.2.1]?).map (fun z => ip_isO hp a z.1)) = some true))) := by
  unfold ip_inv at h
  split at h
  · cases h
  · rename_i hl
    refine ⟨Nat.not_lt.mp hl, ?_⟩
    split at h
    · rename_i hk
      split at h
      · rename_i hr
        cases h
        exact ⟨_, _, rfl, hr, Or.inl ⟨hk, rfl, rfl⟩⟩
      · cases h
    · rename_i hk
      split at h
      · rename_i a r hd
        split at h
        · rename_i hr
          cases h
          exact ⟨_, _, rfl, hr.1, Or.inr ⟨hk, a, hd, rfl, hr.2⟩⟩
        · cases h
      · cases h
theorem gi_ws {m' : Nat} (hq : ip_M[m']? = some q) (hl : m' ≠ mlaw) : GoodIn ip_ws (Cond.code q.2.1 q.2.2.1 q.2.2.2.1 q.2.2.2.2 :: ip_ws) := fun w hw => by
  have h : w ∈ ip_ws := by
    rcases List.mem_cons.mp hw with h | h
    · rw [h]; exact cd_ok hq hl
    · exact h
  exact ⟨h, good_of_word (List.mem_filter.mp h).2⟩
theorem st_split {f : Value → Value} {n : Nat} {r : List Value} (h : st.drop n = r) : st.map f = ((st.take n).reverse.map f).reverse ++ r.map f := by
  rw [← h, ← List.map_reverse, List.reverse_reverse, ← List.map_append, List.take_append_drop]
theorem sd_call {i : Instr} {idx m' n d' : Nat} {q' : ip_I} {x : Nat × Nat × Nat} {as r : List Value} {Le : ip_L} {v : Option Value} {hp2 : ip_H} (ih : ip_snd n l G b zp L0 xs D ca) (C : ip_cx p s mid args meth c G b zp L0 xs D ca q) (hd : decode q.2.2.1 pc = .ok (i, 3)) (hiv : ip_iv i idx x.1) (hlm : ip_lm q.1 idx = some x) (hinv : ip_inv hp x st = some (.inr (.inr (m', as, r)))) (hLe : ip_in0 m' as = some Le) (hrun : ip_run n d' m' 0 Le [] hp = some (v, hp2)) (hdf : d' + 1 ≤ R.frames) (hdl : 60 * (d' + 1) ≤ R.locals) (hC : hp2.1 ≤ R.cells + h0) (hS : hp2.2.1 ≤ R.slots + s0) (k : ip_W p l e R s mid args below meth c Q G b zp L0 xs D ca h0 s0 (pc + 3) L (v.toList ++ r) hp2) : ip_W p l e R s mid args below meth c Q G b zp L0 xs D ca h0 s0 pc L st hp := by
  obtain ⟨kd, m2, n2⟩ := x
  obtain ⟨hlen, as', r', e9, hrs, hcase⟩ := inv_inr hinv
  cases e9
  obtain ⟨q', hq', hnl, hpar, hlink, hkind⟩ := lm_ok hlm
  obtain ⟨-, hcls, hmh, hvh, hml40, hini, -⟩ := mt_ok hq'
  have hM := met_of ih hq' hLe hrun
  have hg := run_grow _ _ _ _ _ _ _ _ hrun
  have hg1 : hp.1 ≤ hp2.1 := hg.1
  have hg2 : hp.2.1 ≤ hp2.2.1 := hg.2
  intro H locs cells slots ls hR hlo hlr hc hs
  have hts := C.2.2.2.2.1
  have hcode := hts _ (cd_ok hq' hnl)
  have hinit := hts _ hini
  have hpay := pay_in hts (gi_ws hq' hnl)
  have hsig : ∀ sig, parseMethodDescriptor q'.2.1.desc = some sig → n2 = sig.parameters.length := fun sig h => by
    rw [h] at hpar
    exact (Option.some.inj hpar).symm
  have hroom : 8 + (q'.2.2.2.1 + 11) + 60 * d' ≤ R.locals := by omega
  have hW := lv_room (m := mid) (pc := pc) (ls := ls) (rest := st.map (ip_v (ip_ad G.size b zp))) (rs_ok (ad := (ip_ad G.size b zp)) hrs)
  have hf : cells + (hp2.1 - hp.1) ≤ R.cells ∧ slots + (hp2.2.1 - hp.2.1) ≤ R.slots := ⟨by omega, by omega⟩
  have hF : CallFix p mid c q.2.2.1 q.2.2.2.1 s args ip_ws (ip_own q.1) := ⟨C.1, C.2.1, C.2.2.1, C.2.2.2.1, hts⟩
  have hsz : ls.size = q.2.2.2.1 := hlr.2.1.trans C.2.2.1
  have hAl : ((st.take n2).reverse.map (ip_v (ip_ad G.size b zp))).length = n2 := by rw [List.length_map, List.length_reverse, List.length_take]; exact Nat.min_eq_left hlen
  have hU : ∀ U : State, U.heap = H → s.WarmedH U.vm → ip_Pc G b zp L0 xs D ca as hp (as.map (ip_v (ip_ad G.size b zp))).toArray U := fun U e1 hW => ⟨rfl, by rw [e1]; exact hR, K_warm hW C.2.2.2.2.2.2⟩
  have hc2 : cells + (hp2.1 - hp.1) + h0 = hp2.1 := by omega
  have hs2 : slots + (hp2.2.1 - hp.2.1) + s0 = hp2.2.1 := by omega
  rcases hcase with ⟨hk, rfl, rfl⟩ | ⟨hk, a, hdrop, rfl, hrecv⟩
  · obtain ⟨rfl, -⟩ : i = .invokestatic idx ∧ (kd = 1 ∨ kd = 4) := by
      rcases hiv with ⟨-, z⟩ | z | ⟨-, z⟩
      · exfalso; dsimp only at z hk; omega
      · exact z
      · exfalso; dsimp only at z hk; omega
    have hst : Cond.static q'.2.1 ∈ ip_ws := by
      rcases hkind with ⟨-, z⟩ | ⟨z, -⟩
      · exact z
      · exact absurd hk z
    rcases hlink with ⟨-, hln⟩ | ⟨-, -, hln⟩
    · exact vrun_go (va_runS (As := (st.take n2).reverse.map (ip_v (ip_ad G.size b zp))) (n := n2) hF hM ⟨⟨rfl, rfl, hdf, hroom, hpay, List.mem_cons_self, hcode, hinit, ⟨hmh, hvh⟩, hsig, hts _ hln⟩, hts _ hst⟩ ⟨Pc_blind, hU⟩ rfl hAl hsz (st_split rfl) hW hd hf) hlo hlr hc2 hs2 k
    · exact vrun_go (va_runSN (As := (st.take n2).reverse.map (ip_v (ip_ad G.size b zp))) (n := n2) hF hM ⟨⟨⟨rfl, rfl, hdf, hroom, hpay, List.mem_cons_self⟩, hcode, hinit, ⟨hmh, hvh⟩, hsig, va_Nw.use rfl (C.2.2.2.2.2.2.2.1 _ hln rfl)⟩, hts _ hst, trivial⟩ ⟨Pc_blind, hU⟩ rfl hAl hsz (st_split rfl) hW hd hf) hlo hlr hc2 hs2 k
  · obtain ⟨hin, hkk⟩ : Cond.instanceMethod q'.2.1 ∈ ip_ws ∧ (((kd = 2 ∨ kd = 5) ∧ q'.2.1.name = "<init>" ∧ q'.2.2.2.2 = none) ∨ (¬ (kd = 2 ∨ kd = 5) ∧ Cond.selects q'.2.1.cls q'.2.1 q'.2.1 ∈ ip_ws)) := by
      rcases hkind with ⟨z, -⟩ | ⟨-, z1, z2⟩
      · exact absurd z hk
      · exact ⟨z1, z2⟩
    have hstk : st.map (ip_v (ip_ad G.size b zp)) = ((st.take n2).reverse.map (ip_v (ip_ad G.size b zp))).reverse ++ .ref ((ip_ad G.size b zp) a) :: r.map (ip_v (ip_ad G.size b zp)) := st_split hdrop
    rcases hkk with ⟨hk2, hnm, hrt⟩ | ⟨hk2, hsel⟩
    · obtain rfl : i = .invokespecial idx := by
        rcases hiv with ⟨-, z⟩ | ⟨-, z⟩ | ⟨z, -⟩
        · exfalso; dsimp only at z hk2; omega
        · exact absurd z hk
        · exact z
      rw [hrt] at hM hcode hpay
      rcases hlink with ⟨-, hln⟩ | ⟨-, -, hln⟩
      · exact vrun_go (va_runI (As := (st.take n2).reverse.map (ip_v (ip_ad G.size b zp))) (n := n2) (b := (ip_ad G.size b zp) a) hF hM ⟨⟨rfl, rfl, hdf, hroom, hpay, List.mem_cons_self, hcode, hinit, ⟨hmh, hvh⟩, hsig, hts _ hln⟩, hnm, hts _ hin⟩ ⟨Pc_blind, hU⟩ rfl hAl hsz hstk hW hd hf) hlo hlr hc2 hs2 k
      · exact vrun_go (va_runIN (As := (st.take n2).reverse.map (ip_v (ip_ad G.size b zp))) (n := n2) (b := (ip_ad G.size b zp) a) hF hM ⟨⟨⟨rfl, rfl, hdf, hroom, hpay, List.mem_cons_self⟩, hcode, hinit, ⟨hmh, hvh⟩, hsig, va_Nw.use rfl (C.2.2.2.2.2.2.2.1 _ hln rfl)⟩, hnm, hts _ hin⟩ ⟨Pc_blind, hU⟩ rfl hAl hsz hstk hW hd hf) hlo hlr hc2 hs2 k
    · obtain rfl : i = .invokevirtual idx := by
        rcases hiv with ⟨z, -⟩ | ⟨-, z⟩ | ⟨-, z⟩
        · exact z
        · exact absurd z hk
        · exact absurd z hk2
      have hO : ip_isO hp a q'.1 = true := by
        rcases hrecv with z | z | z
        · exact absurd (Or.inl z) hk2
        · exact absurd (Or.inr z) hk2
        · rw [hq'] at z
          exact Option.some.inj z
      obtain ⟨fs, hx⟩ := isO_inv hO
      obtain ⟨-, -, hat⟩ := rep_own hR hx (fun y z => by cases z)
      obtain ⟨rr, hrr, -⟩ := id hat
      have hcl : rr.1 = q'.2.1.cls := (cl_ok hrr).2.2.2.2.2.2.1.trans hcls.symm
      have hrec := va_recv C.2.2.2.2.2.2.1 (one_P hat) hrr (q0 := 0) rfl
      rw [hcl] at hrec
      rcases hlink with ⟨-, hln⟩ | ⟨-, -, hln⟩
      · exact vrun_go (va_runV (C := q'.2.1.cls) (As := (st.take n2).reverse.map (ip_v (ip_ad G.size b zp))) (n := n2) (b := (ip_ad G.size b zp) a) hF hM ⟨⟨rfl, rfl, hdf, hroom, hpay, List.mem_cons_self, hcode, hinit, ⟨hmh, hvh⟩, hsig, hts _ hln⟩, hts _ hin, hts _ hsel⟩ ⟨Pc_blind, hrec, hU⟩ rfl hAl hsz hstk hW hd hf) hlo hlr hc2 hs2 k
      · exact vrun_go (va_runVN (C := q'.2.1.cls) (As := (st.take n2).reverse.map (ip_v (ip_ad G.size b zp))) (n := n2) (b := (ip_ad G.size b zp) a) hF hM ⟨⟨⟨rfl, rfl, hdf, hroom, hpay, List.mem_cons_self⟩, hcode, hinit, ⟨hmh, hvh⟩, hsig, va_Nw.use rfl (C.2.2.2.2.2.2.2.1 _ hln rfl)⟩, hts _ hin, hts _ hsel⟩ ⟨Pc_blind, hrec, hU⟩ rfl hAl hsz hstk hW hd hf) hlo hlr hc2 hs2 k
/-- THE PURE MACHINE IS THE MACHINE -/
theorem ip_sound : ∀ n, ip_snd n l G b zp L0 xs D ca := by
  intro n
  induction n with
  | zero =>
    intro d m pc L st hp v hp1 q hq hrun
    cases hrun
  | succ n ih =>
    intro d m pc L st hp v hp1 q hq hrun p e R s mid args below meth c Q h0 s0 C hdf hdl hC hS hret
    rw [ip_run_s] at hrun
    cases ho : ip_one d m pc L st hp with
    | none => rw [ho] at hrun; cases hrun
    | some a =>
      rw [ho] at hrun
      obtain ⟨q9, i, len, hq9, hd, hil, ha⟩ := ip_one_inv ho
      cases hq.symm.trans hq9
      match a, hrun, ha with
      | .inl x, hrun, ha =>
        have hg := run_grow _ _ _ _ _ _ _ _ hrun
        exact sd_act (pc' := x.1) (L' := x.2.1) (st' := x.2.2.1) (hp' := x.2.2.2) C hd hil ha hdf hdl (Nat.le_trans hg.1 hC) (Nat.le_trans hg.2 hS) (ih _ _ _ _ _ _ _ _ _ hq hrun p e R s mid args below meth c Q h0 s0 C hdf hdl hC hS hret)
      | .inr y, hrun, ha =>
        rcases act_inr ha with ⟨v9, rfl, hrt, hst⟩ | ⟨idx, x, hiv, hlm, hinv⟩
        · cases hrun
          intro H locs cells slots ls hR hlo hlr hc hs
          rw [hst]
          refine hret H locs cells slots ls pc i ?_ hrt hR hlo hc hs
          have hl : len = 1 := by rcases hrt with ⟨rfl, -⟩ | ⟨rfl, -⟩ | ⟨rfl, -⟩ <;> exact il_of hil rfl
          rw [← hl]
          exact hd
        · obtain ⟨-, as, r, rfl, -⟩ := inv_inr hinv
          match d, hrun, hdf, hdl with
          | 0, hrun, _, _ => cases hrun
          | d' + 1, hrun, hdf, hdl =>
            obtain ⟨Le, h1, h2⟩ := Option.bind_eq_some_iff.mp hrun
            obtain ⟨y, h3, h4⟩ := Option.bind_eq_some_iff.mp h2
            have hg := run_grow _ _ _ _ _ _ _ _ h4
            have hl : len = 3 := by rcases hiv with ⟨rfl, -⟩ | ⟨rfl, -⟩ | ⟨rfl, -⟩ <;> exact il_of hil rfl
            subst hl
            exact sd_call (q' := q) ih C hd hiv hlm hinv h1 h3 hdf hdl (Nat.le_trans hg.1 hC) (Nat.le_trans hg.2 hS) (ih _ _ _ _ _ _ _ _ _ hq h4 p e R s mid args below meth c Q h0 s0 C hdf hdl hC hS hret)
end SND9
