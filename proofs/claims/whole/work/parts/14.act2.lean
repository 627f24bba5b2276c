/-! soundness of every instruction that isn't a call or a return -/
theorem il_of {i : Instr} {len n : Nat} (h : ip_il i len = true) (e : ip_il i len = (len == n)) : len = n := by
  rw [e] at h
  exact beq_iff_eq.mp h
section SND7
variable {p : Program} {l : Launch} {e : Env} {R : Room} {s : State} {mid : MethodId} {args : Array Value} {below : List Frame} {meth : Method} {c : Code} {Q : State → Prop} {G : Heap} {b zp L0 : Nat} {xs : Nat → Int32} {D : va_G} {ca : Nat → ClassId} {h0 s0 : Nat} {q : ip_I} {d pc len : Nat} {L L' : ip_L} {st st' : List Value} {hp hp' : ip_H} {pc' : Nat}
theorem sd_act {i : Instr} (C : ip_cx p s mid args meth c G b zp L0 xs D ca q) (hd : decode q.2.2.1 pc = .ok (i, len)) (hil : ip_il i len = true) (h : ip_act d q.1 (q.2.1.name == "<init>") q.2.2.2.2 i pc len L st hp = some (.inl (pc', L', st', hp'))) (hdf : d ≤ R.frames) (hdl : 60 * d ≤ R.locals) (hC : hp'.1 ≤ R.cells + h0) (hS : hp'.2.1 ≤ R.slots + s0) (k : ip_W p l e R s mid args below meth c Q G b zp L0 xs D ca h0 s0 pc' L' st' hp') : ip_W p l e R s mid args below meth c Q G b zp L0 xs D ca h0 s0 pc L st hp := by
  cases i
  case iadd =>
    have hl : len = 1 := il_of hil rfl
    subst hl
    exact sd_iadd C hd h k
  case isub =>
    have hl : len = 1 := il_of hil rfl
    subst hl
    exact sd_isub C hd h k
  case imul =>
    have hl : len = 1 := il_of hil rfl
    subst hl
    exact sd_imul C hd h k
  case iand =>
    have hl : len = 1 := il_of hil rfl
    subst hl
    exact sd_iand C hd h k
  case idiv =>
    have hl : len = 1 := il_of hil rfl
    subst hl
    exact sd_idiv C hd h k
  case irem =>
    have hl : len = 1 := il_of hil rfl
    subst hl
    exact sd_irem C hd h k
  case ineg =>
    have hl : len = 1 := il_of hil rfl
    subst hl
    exact sd_ineg C hd h k
  case ladd =>
    have hl : len = 1 := il_of hil rfl
    subst hl
    exact sd_ladd C hd h k
  case lsub =>
    have hl : len = 1 := il_of hil rfl
    subst hl
    exact sd_lsub C hd h k
  case lmul =>
    have hl : len = 1 := il_of hil rfl
    subst hl
    exact sd_lmul C hd h k
  case land =>
    have hl : len = 1 := il_of hil rfl
    subst hl
    exact sd_land C hd h k
  case lor =>
    have hl : len = 1 := il_of hil rfl
    subst hl
    exact sd_lor C hd h k
  case lxor =>
    have hl : len = 1 := il_of hil rfl
    subst hl
    exact sd_lxor C hd h k
  case ldiv =>
    have hl : len = 1 := il_of hil rfl
    subst hl
    exact sd_ldiv C hd h k
  case lrem =>
    have hl : len = 1 := il_of hil rfl
    subst hl
    exact sd_lrem C hd h k
  case lneg =>
    have hl : len = 1 := il_of hil rfl
    subst hl
    exact sd_lneg C hd h k
  case lcmp =>
    have hl : len = 1 := il_of hil rfl
    subst hl
    exact sd_lcmp C hd h k
  case lshl =>
    have hl : len = 1 := il_of hil rfl
    subst hl
    exact sd_lshl C hd h k
  case lushr =>
    have hl : len = 1 := il_of hil rfl
    subst hl
    exact sd_lushr C hd h k
  case i2l =>
    have hl : len = 1 := il_of hil rfl
    subst hl
    exact sd_i2l C hd h k
  case l2i =>
    have hl : len = 1 := il_of hil rfl
    subst hl
    exact sd_l2i C hd h k
  case i2b =>
    have hl : len = 1 := il_of hil rfl
    subst hl
    exact sd_i2b C hd h k
  case dup =>
    have hl : len = 1 := il_of hil rfl
    subst hl
    exact sd_dup C hd h k
  case dup2 =>
    have hl : len = 1 := il_of hil rfl
    subst hl
    exact sd_dup2 C hd h k
  case iconst n =>
    have hl : len = 1 := il_of hil rfl
    subst hl
    exact sd_iconst C hd h k
  case bipush n =>
    have hl : len = 2 := il_of hil rfl
    subst hl
    exact sd_bipush C hd h k
  case sipush n =>
    have hl : len = 3 := il_of hil rfl
    subst hl
    exact sd_sipush C hd h k
  case lconst n =>
    have hl : len = 1 := il_of hil rfl
    subst hl
    exact sd_lconst C hd h k
  case ldc2_w idx =>
    have hl : len = 3 := il_of hil rfl
    subst hl
    exact sd_ldc2 C hd h k
  case iload_n n =>
    have hl : len = 1 := il_of hil rfl
    subst hl
    exact sd_iload_n C hd h k
  case iload n =>
    have hl : len = 2 := il_of hil rfl
    subst hl
    exact sd_iload C hd h k
  case lload_n n =>
    have hl : len = 1 := il_of hil rfl
    subst hl
    exact sd_lload_n C hd h k
  case lload n =>
    have hl : len = 2 := il_of hil rfl
    subst hl
    exact sd_lload C hd h k
  case aload_n n =>
    have hl : len = 1 := il_of hil rfl
    subst hl
    exact sd_aload_n C hd h k
  case aload n =>
    have hl : len = 2 := il_of hil rfl
    subst hl
    exact sd_aload C hd h k
  case istore_n n =>
    have hl : len = 1 := il_of hil rfl
    subst hl
    exact sd_istore_n C hd h k
  case istore n =>
    have hl : len = 2 := il_of hil rfl
    subst hl
    exact sd_istore C hd h k
  case lstore_n n =>
    have hl : len = 1 := il_of hil rfl
    subst hl
    exact sd_lstore_n C hd h k
  case lstore n =>
    have hl : len = 2 := il_of hil rfl
    subst hl
    exact sd_lstore C hd h k
  case astore_n n =>
    have hl : len = 1 := il_of hil rfl
    subst hl
    exact sd_astore_n C hd h k
  case astore n =>
    have hl : len = 2 := il_of hil rfl
    subst hl
    exact sd_astore C hd h k
  case iinc i n =>
    have hl : len = 3 := il_of hil rfl
    subst hl
    exact sd_iinc C hd h k
  case ifCond cnd off =>
    have hl : len = 3 := il_of hil rfl
    subst hl
    cases cnd
    case eq => exact sd_if_eq C hd h k
    case ne => exact sd_if_ne C hd h k
    case lt => exact sd_if_lt C hd h k
    case ge => exact sd_if_ge C hd h k
    case gt => exact sd_if_gt C hd h k
    case le => exact sd_if_le C hd h k
  case if_icmp cnd off =>
    have hl : len = 3 := il_of hil rfl
    subst hl
    cases cnd
    case eq => exact sd_icmp_eq C hd h k
    case ne => exact sd_icmp_ne C hd h k
    case lt => exact sd_icmp_lt C hd h k
    case ge => exact sd_icmp_ge C hd h k
    case gt => exact sd_icmp_gt C hd h k
    case le => exact sd_icmp_le C hd h k
  case goto off =>
    have hl : len = 3 := il_of hil rfl
    subst hl
    exact sd_goto C hd h k
  case tableswitch a b c d => exact sd_tsw C hd h k
  case lookupswitch a b => exact sd_lsw C hd h k
  case getfield idx =>
    have hl : len = 3 := il_of hil rfl
    subst hl
    exact sd_gf C hd h k
  case putfield idx =>
    have hl : len = 3 := il_of hil rfl
    subst hl
    exact sd_pf C hd h k
  case getstatic idx =>
    have hl : len = 3 := il_of hil rfl
    subst hl
    exact sd_gs C hd h k
  case new idx =>
    have hl : len = 3 := il_of hil rfl
    subst hl
    exact sd_nw C hd h hC hS k
  case iaload =>
    have hl : len = 1 := il_of hil rfl
    subst hl
    exact sd_ia C hd h k
  case baload =>
    have hl : len = 1 := il_of hil rfl
    subst hl
    exact sd_ba C hd h k
  case laload =>
    have hl : len = 1 := il_of hil rfl
    subst hl
    exact sd_ja C hd h k
  case aaload =>
    have hl : len = 1 := il_of hil rfl
    subst hl
    exact sd_aa C hd h k
  case iastore =>
    have hl : len = 1 := il_of hil rfl
    subst hl
    exact sd_is C hd h k
  case bastore =>
    have hl : len = 1 := il_of hil rfl
    subst hl
    exact sd_bs C hd h k
  case lastore =>
    have hl : len = 1 := il_of hil rfl
    subst hl
    exact sd_js C hd h k
  case aastore =>
    have hl : len = 1 := il_of hil rfl
    subst hl
    exact sd_as C hd h k
  case arraylength =>
    have hl : len = 1 := il_of hil rfl
    subst hl
    exact sd_len C hd h k
  case newarray t =>
    have hl : len = 2 := il_of hil rfl
    subst hl
    exact sd_na C hd h hC hS k
  case anewarray idx =>
    have hl : len = 3 := il_of hil rfl
    subst hl
    exact sd_an C hd h hC hS k
  case multianewarray idx dims =>
    have hl : len = 4 := il_of hil rfl
    subst hl
    exact sd_mu C hd h hC hS k
  case invokevirtual idx =>
    have h : (ip_lm q.1 idx).bind (fun x => if x.1 = 0 ∨ x.1 = 3 then ip_inv hp x st else none) = some (.inl (pc', L', st', hp')) := h
    obtain ⟨x, h1, h2⟩ := Option.bind_eq_some_iff.mp h
    split at h2
    · exact (inv_inl h2).elim
    · cases h2
  case invokestatic idx =>
    have hl : len = 3 := il_of hil rfl
    subst hl
    have h : ip_xst d q.1 idx (pc + 3) L hp st = some (.inl (pc', L', st', hp')) := h
    unfold ip_xst at h
    split at h
    · rename_i hl
      exact sd_cp C hd hl h hdf hdl k
    · rename_i hl
      exact sd_max C hd hl h hdf hdl hC hS k
    · rename_i hl
      exact sd_min C hd hl h hdf hdl hC hS k
    · obtain ⟨x, h1, h2⟩ := Option.bind_eq_some_iff.mp h
      split at h2
      · exact (inv_inl h2).elim
      · cases h2
  case invokespecial idx =>
    have hl : len = 3 := il_of hil rfl
    subst hl
    have h : ip_xsp d q.1 idx (pc + 3) L hp st = some (.inl (pc', L', st', hp')) := h
    unfold ip_xsp at h
    split at h
    · rename_i hl
      exact sd_oi C hd hl h hdf hdl k
    · obtain ⟨x, h1, h2⟩ := Option.bind_eq_some_iff.mp h
      split at h2
      · exact (inv_inl h2).elim
      · cases h2
  case ireturn =>
    have h : ip_ret q.2.2.2.2 st = some (.inl (pc', L', st', hp')) := h
    unfold ip_ret at h
    split at h
    · split at h <;> cases h
    · cases h
  case lreturn =>
    have h : ip_lret q.2.2.2.2 st = some (.inl (pc', L', st', hp')) := h
    unfold ip_lret at h
    split at h
    · split at h <;> cases h
    · cases h
  case return_ =>
    have h : ip_vret q.2.2.2.2 st = some (.inl (pc', L', st', hp')) := h
    unfold ip_vret at h
    split at h
    · split at h <;> cases h
    · cases h
  all_goals (have h9 : (none : Option ip_A) = some (.inl (pc', L', st', hp')) := h; cases h9)
end SND7
