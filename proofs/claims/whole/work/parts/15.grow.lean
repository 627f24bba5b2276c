/-! the heap grows alone; what holds of the tables at a call -/
section GRW
variable {p : Program} {l : Launch} {e : Env} {R : Room} {s : State} {mid : MethodId} {args : Array Value} {below : List Frame} {meth : Method} {c : Code} {Q : State → Prop} {G : Heap} {b zp L0 : Nat} {xs : Nat → Int32} {D : va_G} {ca : Nat → ClassId} {h0 s0 : Nat} {q : ip_I} {d pc len : Nat} {L L' : ip_L} {st st' : List Value} {hp hp' : ip_H} {pc' : Nat}
theorem ip_g0 : hp.1 ≤ hp.1 ∧ hp.2.1 ≤ hp.2.1 := ⟨Nat.le_refl _, Nat.le_refl _⟩
theorem ip_gs {a : Nat} {x : ip_C} : hp.1 ≤ (ip_set hp a x).1 ∧ hp.2.1 ≤ (ip_set hp a x).2.1 := ⟨Nat.le_refl _, Nat.le_refl _⟩
theorem act_grow {i : Instr} {cn : Nat} {ini : Bool} {rt : Option FieldType} (h : ip_act d cn ini rt i pc len L st hp = some (.inl (pc', L', st', hp'))) : hp.1 ≤ hp'.1 ∧ hp.2.1 ≤ hp'.2.1 := by
  cases i
  case iadd =>
    obtain ⟨-, -, -, rfl⟩ := sg_inv h
    exact ip_g0
  case isub =>
    obtain ⟨-, -, -, rfl⟩ := sg_inv h
    exact ip_g0
  case imul =>
    obtain ⟨-, -, -, rfl⟩ := sg_inv h
    exact ip_g0
  case iand =>
    obtain ⟨-, -, -, rfl⟩ := sg_inv h
    exact ip_g0
  case idiv =>
    obtain ⟨-, -, -, rfl⟩ := sg_inv h
    exact ip_g0
  case irem =>
    obtain ⟨-, -, -, rfl⟩ := sg_inv h
    exact ip_g0
  case ineg =>
    obtain ⟨-, -, -, rfl⟩ := sg_inv h
    exact ip_g0
  case ladd =>
    obtain ⟨-, -, -, rfl⟩ := sg_inv h
    exact ip_g0
  case lsub =>
    obtain ⟨-, -, -, rfl⟩ := sg_inv h
    exact ip_g0
  case lmul =>
    obtain ⟨-, -, -, rfl⟩ := sg_inv h
    exact ip_g0
  case land =>
    obtain ⟨-, -, -, rfl⟩ := sg_inv h
    exact ip_g0
  case lor =>
    obtain ⟨-, -, -, rfl⟩ := sg_inv h
    exact ip_g0
  case lxor =>
    obtain ⟨-, -, -, rfl⟩ := sg_inv h
    exact ip_g0
  case ldiv =>
    obtain ⟨-, -, -, rfl⟩ := sg_inv h
    exact ip_g0
  case lrem =>
    obtain ⟨-, -, -, rfl⟩ := sg_inv h
    exact ip_g0
  case lneg =>
    obtain ⟨-, -, -, rfl⟩ := sg_inv h
    exact ip_g0
  case lcmp =>
    obtain ⟨-, -, -, rfl⟩ := sg_inv h
    exact ip_g0
  case lshl =>
    obtain ⟨-, -, -, rfl⟩ := sg_inv h
    exact ip_g0
  case lushr =>
    obtain ⟨-, -, -, rfl⟩ := sg_inv h
    exact ip_g0
  case i2l =>
    obtain ⟨-, -, -, rfl⟩ := sg_inv h
    exact ip_g0
  case l2i =>
    obtain ⟨-, -, -, rfl⟩ := sg_inv h
    exact ip_g0
  case i2b =>
    obtain ⟨-, -, -, rfl⟩ := sg_inv h
    exact ip_g0
  case dup =>
    obtain ⟨-, -, -, rfl⟩ := sg_inv h
    exact ip_g0
  case dup2 =>
    obtain ⟨-, -, -, rfl⟩ := sg_inv h
    exact ip_g0
  case iconst n =>
    cases h
    exact ip_g0
  case bipush n =>
    cases h
    exact ip_g0
  case sipush n =>
    cases h
    exact ip_g0
  case lconst n =>
    cases h
    exact ip_g0
  case ldc2_w idx =>
    obtain ⟨v, h1, h2⟩ := Option.map_eq_some_iff.mp h
    cases h2
    exact ip_g0
  case iload n =>
    obtain ⟨-, -, -, rfl⟩ := sg_inv h
    exact ip_g0
  case iload_n n =>
    obtain ⟨-, -, -, rfl⟩ := sg_inv h
    exact ip_g0
  case lload n =>
    obtain ⟨-, -, -, rfl⟩ := sg_inv h
    exact ip_g0
  case lload_n n =>
    obtain ⟨-, -, -, rfl⟩ := sg_inv h
    exact ip_g0
  case aload n =>
    obtain ⟨-, -, -, rfl⟩ := sg_inv h
    exact ip_g0
  case aload_n n =>
    obtain ⟨-, -, -, rfl⟩ := sg_inv h
    exact ip_g0
  case istore n =>
    obtain ⟨-, -, rfl⟩ := lg_inv h
    exact ip_g0
  case istore_n n =>
    obtain ⟨-, -, rfl⟩ := lg_inv h
    exact ip_g0
  case lstore n =>
    obtain ⟨-, -, rfl⟩ := lg_inv h
    exact ip_g0
  case lstore_n n =>
    obtain ⟨-, -, rfl⟩ := lg_inv h
    exact ip_g0
  case astore n =>
    obtain ⟨-, -, rfl⟩ := lg_inv h
    exact ip_g0
  case astore_n n =>
    obtain ⟨-, -, rfl⟩ := lg_inv h
    exact ip_g0
  case iinc i n =>
    have h : (if len = 3 then (ip_iinc L i n).map (fun L => (.inl (pc + 3, L, st, hp) : ip_A)) else none) = some (.inl (pc', L', st', hp')) := h
    split at h
    · obtain ⟨v, h1, h2⟩ := Option.map_eq_some_iff.mp h
      cases h2
      exact ip_g0
    · cases h
  case ifCond cnd off =>
    cases cnd
    case eq =>
      obtain ⟨_, _, -, -, -, -, rfl⟩ := b1_inv h
      exact ip_g0
    case ne =>
      obtain ⟨_, _, -, -, -, -, rfl⟩ := b1_inv h
      exact ip_g0
    case lt =>
      obtain ⟨_, _, -, -, -, -, rfl⟩ := b1_inv h
      exact ip_g0
    case ge =>
      obtain ⟨_, _, -, -, -, -, rfl⟩ := b1_inv h
      exact ip_g0
    case gt =>
      obtain ⟨_, _, -, -, -, -, rfl⟩ := b1_inv h
      exact ip_g0
    case le =>
      obtain ⟨_, _, -, -, -, -, rfl⟩ := b1_inv h
      exact ip_g0
  case if_icmp cnd off =>
    cases cnd
    case eq =>
      obtain ⟨_, _, _, -, -, -, -, rfl⟩ := b2_inv h
      exact ip_g0
    case ne =>
      obtain ⟨_, _, _, -, -, -, -, rfl⟩ := b2_inv h
      exact ip_g0
    case lt =>
      obtain ⟨_, _, _, -, -, -, -, rfl⟩ := b2_inv h
      exact ip_g0
    case ge =>
      obtain ⟨_, _, _, -, -, -, -, rfl⟩ := b2_inv h
      exact ip_g0
    case gt =>
      obtain ⟨_, _, _, -, -, -, -, rfl⟩ := b2_inv h
      exact ip_g0
    case le =>
      obtain ⟨_, _, _, -, -, -, -, rfl⟩ := b2_inv h
      exact ip_g0
  case goto off =>
    obtain ⟨v, h1, h2⟩ := Option.map_eq_some_iff.mp h
    cases h2
    exact ip_g0
  case tableswitch a b c d =>
    have h : ip_tsw a b c d pc L hp st = some (.inl (pc', L', st', hp')) := h
    unfold ip_tsw at h
    split at h
    · obtain ⟨v, h1, h2⟩ := Option.map_eq_some_iff.mp h
      cases h2
      exact ip_g0
    · cases h
  case lookupswitch a b =>
    have h : ip_lsw a b pc L hp st = some (.inl (pc', L', st', hp')) := h
    unfold ip_lsw at h
    split at h
    · split at h
      · obtain ⟨v, h1, h2⟩ := Option.map_eq_some_iff.mp h
        cases h2
        exact ip_g0
      · cases h
    · cases h
  case getfield idx =>
    have h : ip_xgf cn idx (pc + 3) L hp st = some (.inl (pc', L', st', hp')) := h
    unfold ip_xgf at h
    split at h
    · obtain ⟨x, h1, h2⟩ := Option.bind_eq_some_iff.mp h
      obtain ⟨v, h3, h4⟩ := Option.map_eq_some_iff.mp h2
      cases h4
      exact ip_g0
    · cases h
  case putfield idx =>
    have h : ip_xpf cn idx (pc + 3) ini L hp st = some (.inl (pc', L', st', hp')) := h
    unfold ip_xpf at h
    split at h
    · obtain ⟨x, h1, h2⟩ := Option.bind_eq_some_iff.mp h
      split at h2
      · obtain ⟨v, h3, h4⟩ := Option.map_eq_some_iff.mp h2
        cases h4
        obtain ⟨fs, -, -, rfl⟩ := pf_inv h3
        exact ip_gs
      · cases h2
    · cases h
  case getstatic idx =>
    have h : (if ip_lg cn idx = true then (some (.inl (pc + 3, L, .ref 1 :: st, hp)) : Option ip_A) else none) = some (.inl (pc', L', st', hp')) := h
    split at h
    · cases h
      exact ip_g0
    · cases h
  case iaload =>
    have h : ip_xia (pc + 1) L hp st = some (.inl (pc', L', st', hp')) := h
    unfold ip_xia at h
    split at h
    · obtain ⟨v, h3, h4⟩ := Option.map_eq_some_iff.mp h
      cases h4
      exact ip_g0
    · cases h
  case baload =>
    have h : ip_xba (pc + 1) L hp st = some (.inl (pc', L', st', hp')) := h
    unfold ip_xba at h
    split at h
    · obtain ⟨v, h3, h4⟩ := Option.map_eq_some_iff.mp h
      cases h4
      exact ip_g0
    · cases h
  case laload =>
    have h : ip_xja (pc + 1) L hp st = some (.inl (pc', L', st', hp')) := h
    unfold ip_xja at h
    split at h
    · obtain ⟨v, h3, h4⟩ := Option.map_eq_some_iff.mp h
      cases h4
      exact ip_g0
    · cases h
  case aaload =>
    have h : ip_xaa (pc + 1) L hp st = some (.inl (pc', L', st', hp')) := h
    unfold ip_xaa at h
    split at h
    · obtain ⟨v, h3, h4⟩ := Option.map_eq_some_iff.mp h
      cases h4
      exact ip_g0
    · cases h
  case arraylength =>
    have h : ip_xlen (pc + 1) L hp st = some (.inl (pc', L', st', hp')) := h
    unfold ip_xlen at h
    split at h
    · obtain ⟨v, h3, h4⟩ := Option.map_eq_some_iff.mp h
      cases h4
      exact ip_g0
    · cases h
  case iastore =>
    have h : ip_xis (pc + 1) L hp st = some (.inl (pc', L', st', hp')) := h
    unfold ip_xis at h
    split at h
    · obtain ⟨v, h3, h4⟩ := Option.map_eq_some_iff.mp h
      cases h4
      obtain ⟨n, f, -, -, rfl⟩ := is_inv h3
      exact ip_gs
    · cases h
  case lastore =>
    have h : ip_xjs (pc + 1) L hp st = some (.inl (pc', L', st', hp')) := h
    unfold ip_xjs at h
    split at h
    · obtain ⟨v, h3, h4⟩ := Option.map_eq_some_iff.mp h
      cases h4
      obtain ⟨n, f, -, -, rfl⟩ := js_inv h3
      exact ip_gs
    · cases h
  case bastore =>
    have h : ip_xbs (pc + 1) L hp st = some (.inl (pc', L', st', hp')) := h
    unfold ip_xbs at h
    split at h
    · obtain ⟨v, h3, h4⟩ := Option.map_eq_some_iff.mp h
      cases h4
      obtain ⟨n, f, -, ⟨-, rfl⟩ | ⟨-, rfl⟩⟩ := bs_inv h3 <;> exact ip_gs
    · cases h
  case aastore =>
    have h : ip_xas (pc + 1) L hp st = some (.inl (pc', L', st', hp')) := h
    unfold ip_xas at h
    split at h
    · obtain ⟨v, h3, h4⟩ := Option.map_eq_some_iff.mp h
      cases h4
      obtain ⟨t, n, f, ci, fs, -, -, -, -, rfl⟩ := as_inv h3
      exact ip_gs
    · cases h
  case new idx =>
    have h : ip_xnw cn idx (pc + 3) L hp st = some (.inl (pc', L', st', hp')) := h
    unfold ip_xnw at h
    obtain ⟨x, h1, h2⟩ := Option.bind_eq_some_iff.mp h
    obtain ⟨v, h3, h4⟩ := Option.map_eq_some_iff.mp h2
    cases h4
    exact ⟨Nat.le_succ _, Nat.le_add_right _ _⟩
  case newarray t =>
    have h : ip_xna t (pc + 2) L hp st = some (.inl (pc', L', st', hp')) := h
    unfold ip_xna at h
    split at h
    · obtain ⟨x, h1, h2⟩ := Option.bind_eq_some_iff.mp h
      split at h2
      · cases h2
        exact ⟨Nat.le_succ _, Nat.le_add_right _ _⟩
      · cases h2
    · cases h
  case anewarray idx =>
    have h : ip_xan cn idx (pc + 3) L hp st = some (.inl (pc', L', st', hp')) := h
    unfold ip_xan at h
    split at h
    · obtain ⟨x, h1, h2⟩ := Option.bind_eq_some_iff.mp h
      split at h2
      · cases h2
        exact ⟨Nat.le_succ _, Nat.le_add_right _ _⟩
      · cases h2
    · cases h
  case multianewarray idx dims =>
    have h : ip_xmu cn idx dims (pc + 4) L hp st = some (.inl (pc', L', st', hp')) := h
    unfold ip_xmu at h
    split at h
    · obtain ⟨x, h1, h2⟩ := Option.bind_eq_some_iff.mp h
      split at h2
      · rename_i m n r hcond
        cases h2
        exact ⟨by show hp.1 ≤ hp.1 + 1 + _; omega, by show hp.2.1 ≤ hp.2.1 + _ + _; omega⟩
      · cases h2
    · cases h
  case invokevirtual idx =>
    have h : (ip_lm cn idx).bind (fun x => if x.1 = 0 ∨ x.1 = 3 then ip_inv hp x st else none) = some (.inl (pc', L', st', hp')) := h
    obtain ⟨x, h1, h2⟩ := Option.bind_eq_some_iff.mp h
    split at h2
    · exact (inv_inl h2).elim
    · cases h2
  case invokestatic idx =>
    have h : ip_xst d cn idx (pc + 3) L hp st = some (.inl (pc', L', st', hp')) := h
    unfold ip_xst at h
    split at h
    · unfold ip_xcp at h
      split at h
      · split at h
        · obtain ⟨v, h3, h4⟩ := Option.map_eq_some_iff.mp h
          cases h4
          obtain ⟨n0, n1, f, g, -, -, -, -, -, -, -, rfl⟩ := cp_inv h3
          exact ip_gs
        · cases h
      · cases h
    · unfold ip_xmm at h
      split at h
      · split at h
        · cases h
          exact ip_g0
        · cases h
      · cases h
    · unfold ip_xmm at h
      split at h
      · split at h
        · cases h
          exact ip_g0
        · cases h
      · cases h
    · obtain ⟨x, h1, h2⟩ := Option.bind_eq_some_iff.mp h
      split at h2
      · exact (inv_inl h2).elim
      · cases h2
  case invokespecial idx =>
    have h : ip_xsp d cn idx (pc + 3) L hp st = some (.inl (pc', L', st', hp')) := h
    unfold ip_xsp at h
    split at h
    · unfold ip_xoi at h
      split at h
      · split at h
        · cases h
          exact ip_g0
        · cases h
      · cases h
    · obtain ⟨x, h1, h2⟩ := Option.bind_eq_some_iff.mp h
      split at h2
      · exact (inv_inl h2).elim
      · cases h2
  case ireturn =>
    have h : ip_ret rt st = some (.inl (pc', L', st', hp')) := h
    unfold ip_ret at h
    split at h
    · split at h <;> cases h
    · cases h
  case lreturn =>
    have h : ip_lret rt st = some (.inl (pc', L', st', hp')) := h
    unfold ip_lret at h
    split at h
    · split at h <;> cases h
    · cases h
  case return_ =>
    have h : ip_vret rt st = some (.inl (pc', L', st', hp')) := h
    unfold ip_vret at h
    split at h
    · split at h <;> cases h
    · cases h
  all_goals (have h9 : (none : Option ip_A) = some (.inl (pc', L', st', hp')) := h; cases h9)
theorem run_grow : ∀ (n d m pc : Nat) (L : ip_L) (st : List Value) (hp : ip_H) (r : ip_R), ip_run n d m pc L st hp = some r → hp.1 ≤ r.2.1 ∧ hp.2.1 ≤ r.2.2.1 := by
  intro n
  induction n with
  | zero =>
    intro d m pc L st hp r h
    cases h
  | succ n ih =>
    intro d m pc L st hp r h
    rw [ip_run_s] at h
    cases ho : ip_one d m pc L st hp with
    | none => rw [ho] at h; cases h
    | some a =>
      rw [ho] at h
      match a, h, ho with
      | .inl x, h, ho =>
        obtain ⟨q, i, len, -, -, -, ha⟩ := ip_one_inv ho
        have g1 := act_grow (pc' := x.1) (L' := x.2.1) (st' := x.2.2.1) (hp' := x.2.2.2) ha
        have g2 := ih _ _ _ _ _ _ _ h
        exact ⟨Nat.le_trans g1.1 g2.1, Nat.le_trans g1.2 g2.2⟩
      | .inr (.inl v), h, ho =>
        cases h
        exact ip_g0
      | .inr (.inr x), h, ho =>
        match d, h with
        | 0, h => cases h
        | d' + 1, h =>
          obtain ⟨L0, h1, h2⟩ := Option.bind_eq_some_iff.mp h
          obtain ⟨y, h3, h4⟩ := Option.bind_eq_some_iff.mp h2
          have g1 := ih _ _ _ _ _ _ _ h3
          have g2 := ih _ _ _ _ _ _ _ h4
          exact ⟨Nat.le_trans g1.1 g2.1, Nat.le_trans g1.2 g2.2⟩
theorem K_move {u U : State} (hal : u.vm.Alike U.vm) (hn : ∀ w, ip_isN w = true → va_Nw w u → va_Nw w U) (h : ip_K G b zp L0 xs D ca u) : ip_K G b zp L0 xs D ca U := by
  obtain ⟨h1, h2, h3, h4, h5, h6, h7⟩ := h
  refine ⟨va_K.moved hal h1, fun w hw hi => hn w hi (h2 w hw hi), fun ty hty => ?_, h4.moved hal, h5.moved hal, h6.moved hal, h7⟩
  have h9 := h3 ty hty
  simp only [ip_ovs, List.mem_cons, List.mem_nil_iff, or_false] at hty
  rcases hty with rfl | rfl | rfl | rfl | rfl
  · exact va_AO.moved hal h9
  · exact va_AO.moved hal h9
  · exact va_AO.moved hal h9
  · exact ao_arr hal h9
  · exact ao_arr hal h9
theorem K_warm {u U : State} (hW : u.WarmedH U.vm) (h : ip_K G b zp L0 xs D ca u) : ip_K G b zp L0 xs D ca U := by
  refine K_move hW.alike (fun w hi hw => ?_) h
  cases w <;> first | (cases hi; done) | exact va_Nw.warmM hW hw | exact va_Nw.warmF hW hw
theorem K_same {u U : State} (hvm : u.vm = U.vm) (h : ip_K G b zp L0 xs D ca u) : ip_K G b zp L0 xs D ca U := by
  refine K_move (by rw [hvm]; exact Vm.Alike.refl _) (fun w hi hw => ?_) h
  cases w <;> first | (cases hi; done) | exact va_Nw.same rfl hvm hw
end GRW
