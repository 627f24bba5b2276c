/-! one instruction -/
/-- goes on (place, locals, stack, heap), or ends with a value, or calls (method, arguments, the stack below) -/
abbrev ip_A : Type := (Nat × ip_L × List Value × ip_H) ⊕ (Option Value ⊕ (Nat × List Value × List Value))
def ip_ii (f : Int32 → Int32 → Int32) : List Value → Option (List Value)
  | .int y :: .int x :: r => some (.int (f x y) :: r)
  | _ => none
def ip_ll (f : Int64 → Int64 → Value) : List Value → Option (List Value)
  | .long y :: .long x :: r => some (f x y :: r)
  | _ => none
def ip_li (f : Int64 → Int32 → Int64) : List Value → Option (List Value)
  | .int y :: .long x :: r => some (.long (f x y) :: r)
  | _ => none
def ip_i1 (f : Int32 → Value) : List Value → Option (List Value)
  | .int x :: r => some (f x :: r)
  | _ => none
def ip_l1 (f : Int64 → Value) : List Value → Option (List Value)
  | .long x :: r => some (f x :: r)
  | _ => none
def ip_id (f : Int32 → Int32 → Int32) : List Value → Option (List Value)
  | .int y :: .int x :: r => if y = 0 then none else some (.int (f x y) :: r)
  | _ => none
def ip_ld2 (f : Int64 → Int64 → Int64) : List Value → Option (List Value)
  | .long y :: .long x :: r => if y = 0 then none else some (.long (f x y) :: r)
  | _ => none
def ip_dup : List Value → Option (List Value)
  | v :: r => if v.category = 1 then some (v :: v :: r) else none
  | _ => none
def ip_dup2 : List Value → Option (List Value)
  | v :: r => if v.category = 2 then some (v :: v :: r) else (match r with
    | w :: r => if w.category = 1 then some (v :: w :: v :: w :: r) else none
    | [] => none)
  | _ => none
def ip_iload (L : ip_L) (i : Nat) (st : List Value) : Option (List Value) := match ip_ld L i with
  | some (.int x) => some (.int x :: st)
  | _ => none
def ip_lload (L : ip_L) (i : Nat) (st : List Value) : Option (List Value) := match ip_ld L i with
  | some (.long x) => some (.long x :: st)
  | _ => none
def ip_aload (L : ip_L) (i : Nat) (st : List Value) : Option (List Value) := match ip_ld L i with
  | some (.ref x) => some (.ref x :: st)
  | _ => none
def ip_istore (L : ip_L) (i : Nat) : List Value → Option (ip_L × List Value)
  | .int x :: r => (ip_st1 L i (.int x)).map (fun L => (L, r))
  | _ => none
def ip_astore (L : ip_L) (i : Nat) : List Value → Option (ip_L × List Value)
  | .ref x :: r => (ip_st1 L i (.ref x)).map (fun L => (L, r))
  | _ => none
def ip_lstore (L : ip_L) (i : Nat) : List Value → Option (ip_L × List Value)
  | .long x :: r => (ip_st2 L i (.long x)).map (fun L => (L, r))
  | _ => none
def ip_iinc (L : ip_L) (i : Nat) (n : Int) : Option ip_L := match ip_ld L i with
  | some (.int x) => ip_st1 L i (.int (x + Int32.ofInt n))
  | _ => none
/-- stack alone -/
def ip_sg (pc : Nat) (L : ip_L) (hp : ip_H) (o : Option (List Value)) : Option ip_A := o.map (fun st => .inl (pc, L, st, hp))
def ip_lg2 (pc : Nat) (hp : ip_H) (o : Option (ip_L × List Value)) : Option ip_A := o.map (fun q => .inl (pc, q.1, q.2, hp))
def ip_b1 (f : Int32 → Bool) (pc nx : Nat) (off : Int) (L : ip_L) (hp : ip_H) : List Value → Option ip_A
  | .int x :: r => (ip_tg pc off).map (fun t => .inl (if f x = true then t else nx, L, r, hp))
  | _ => none
def ip_b2 (f : Int32 → Int32 → Bool) (pc nx : Nat) (off : Int) (L : ip_L) (hp : ip_H) : List Value → Option ip_A
  | .int y :: .int x :: r => (ip_tg pc off).map (fun t => .inl (if f x y = true then t else nx, L, r, hp))
  | _ => none
def ip_tsw (dflt lo hi : Int) (offs : Array Int) (pc : Nat) (L : ip_L) (hp : ip_H) : List Value → Option ip_A
  | .int x :: r => (if x.toInt < lo ∨ hi < x.toInt then ip_tg pc dflt else (offs[(x.toInt - lo).toNat]?).bind (ip_tg pc)).map (fun t => .inl (t, L, r, hp))
  | _ => none
def ip_lsw (dflt : Int) (ps : Array (Int × Int)) (pc : Nat) (L : ip_L) (hp : ip_H) : List Value → Option ip_A
  | .int x :: r => if (ps.toList.zip (ps.toList.drop 1)).all (fun (a, next) => a.1 < next.1) = true then (ip_tg pc (Op.lookupswitch.offset ps.toList dflt x.toInt)).map (fun t => .inl (t, L, r, hp)) else none
  | _ => none
def ip_xgf (cn idx pc : Nat) (L : ip_L) (hp : ip_H) : List Value → Option ip_A
  | .ref a :: r => (ip_lf cn idx).bind (fun q => (ip_gf hp q.1 q.2 a).map (fun v => .inl (pc, L, v :: r, hp)))
  | _ => none
def ip_xpf (cn idx pc : Nat) (ini : Bool) (L : ip_L) (hp : ip_H) : List Value → Option ip_A
  | v :: .ref a :: r => (ip_lf cn idx).bind (fun q => if ip_fit (ip_ty q.1 q.2) v = true ∧ ((ip_T q.1 q.2).2.2.2 = false ∨ (ini = true ∧ q.1 = cn)) then (ip_pf hp q.1 q.2 a v).map (fun h => .inl (pc, L, r, h)) else none)
  | _ => none
def ip_xia (pc : Nat) (L : ip_L) (hp : ip_H) : List Value → Option ip_A
  | .int i :: .ref a :: r => (ip_ia hp a i).map (fun v => .inl (pc, L, .int v :: r, hp))
  | _ => none
def ip_xba (pc : Nat) (L : ip_L) (hp : ip_H) : List Value → Option ip_A
  | .int i :: .ref a :: r => (ip_ba hp a i).map (fun v => .inl (pc, L, .int v :: r, hp))
  | _ => none
def ip_xja (pc : Nat) (L : ip_L) (hp : ip_H) : List Value → Option ip_A
  | .int i :: .ref a :: r => (ip_ja hp a i).map (fun v => .inl (pc, L, .long v :: r, hp))
  | _ => none
def ip_xaa (pc : Nat) (L : ip_L) (hp : ip_H) : List Value → Option ip_A
  | .int i :: .ref a :: r => (ip_aa hp a i).map (fun v => .inl (pc, L, .ref v :: r, hp))
  | _ => none
def ip_xis (pc : Nat) (L : ip_L) (hp : ip_H) : List Value → Option ip_A
  | .int x :: .int i :: .ref a :: r => (ip_is hp a i x).map (fun h => .inl (pc, L, r, h))
  | _ => none
def ip_xbs (pc : Nat) (L : ip_L) (hp : ip_H) : List Value → Option ip_A
  | .int x :: .int i :: .ref a :: r => (ip_bs hp a i x).map (fun h => .inl (pc, L, r, h))
  | _ => none
def ip_xjs (pc : Nat) (L : ip_L) (hp : ip_H) : List Value → Option ip_A
  | .long x :: .int i :: .ref a :: r => (ip_js hp a i x).map (fun h => .inl (pc, L, r, h))
  | _ => none
def ip_xas (pc : Nat) (L : ip_L) (hp : ip_H) : List Value → Option ip_A
  | .ref v :: .int i :: .ref a :: r => (ip_as hp a i v).map (fun h => .inl (pc, L, r, h))
  | _ => none
def ip_xlen (pc : Nat) (L : ip_L) (hp : ip_H) : List Value → Option ip_A
  | .ref a :: r => (ip_len hp a).map (fun n => .inl (pc, L, .int (Int32.ofNat n) :: r, hp))
  | _ => none
def ip_xna (t : ArrayType) (pc : Nat) (L : ip_L) (hp : ip_H) : List Value → Option ip_A
  | .int n :: r => (ip_na t).bind (fun q => if ¬ n < 0 ∧ n.toNatClampNeg * 8 ≤ 536870912 then some (.inl (pc, L, .ref hp.1 :: r, ip_new hp n.toNatClampNeg (.inl (q.1, n.toNatClampNeg, q.2)))) else none)
  | _ => none
def ip_xan (cn idx pc : Nat) (L : ip_L) (hp : ip_H) : List Value → Option ip_A
  | .int n :: r => (ip_la cn idx).bind (fun t => if ¬ n < 0 ∧ n.toNatClampNeg * 8 ≤ 536870912 then some (.inl (pc, L, .ref hp.1 :: r, ip_new hp n.toNatClampNeg (.inl (t, n.toNatClampNeg, .inr (.inr (.inr (.inr (fun _ => none)))))))) else none)
  | _ => none
def ip_xmu (cn idx dims pc : Nat) (L : ip_L) (hp : ip_H) : List Value → Option ip_A
  | .int k :: .int n :: r => (ip_lu cn idx).bind (fun q => if dims = 2 ∧ ¬ n < 0 ∧ ¬ k < 0 ∧ n.toNatClampNeg * 8 ≤ 536870912 ∧ k.toNatClampNeg * 8 ≤ 536870912 then some (.inl (pc, L, .ref hp.1 :: r, ip_mul hp q.1 q.2 n.toNatClampNeg k.toNatClampNeg (k.toNatClampNeg, if q.2 = 1 then .inl (fun _ => 0) else .inr (.inl (fun _ => 0))))) else none)
  | _ => none
def ip_xnw (cn idx pc : Nat) (L : ip_L) (hp : ip_H) (st : List Value) : Option ip_A := (ip_ln cn idx).bind (fun ci => (ip_df[ci]?).map (fun fs => .inl (pc, L, .ref hp.1 :: st, ip_new hp fs.length (.inr (ci, fs)))))
/-- a call's receiver and arguments; kind: 0, 3 virtual, 1, 4 static, 2, 5 init -/
def ip_inv (hp : ip_H) (q : Nat × Nat × Nat) (st : List Value) : Option ip_A :=
  if st.length < q.2.2 then none else
  if q.1 = 1 ∨ q.1 = 4 then (if ip_rs (st.drop q.2.2) = true then some (.inr (.inr (q.2.1, (st.take q.2.2).reverse, st.drop q.2.2))) else none) else
  match st.drop q.2.2 with
  | .ref b :: r => if ip_rs r = true ∧ (q.1 = 2 ∨ q.1 = 5 ∨ ((ip_M[q.2.1]?).map (fun z => ip_isO hp b z.1)) = some true) then some (.inr (.inr (q.2.1, .ref b :: (st.take q.2.2).reverse, r))) else none
  | _ => none
def ip_xvi (cn idx : Nat) (hp : ip_H) (st : List Value) : Option ip_A := (ip_lm cn idx).bind (fun q => if q.1 = 0 ∨ q.1 = 3 then ip_inv hp q st else none)
def ip_xcp (d pc : Nat) (L : ip_L) (hp : ip_H) : List Value → Option ip_A
  | .int n :: .int dp :: .ref a1 :: .int sp :: .ref a0 :: r => if 0 < d ∧ ip_rs r = true then (ip_cp hp a0 sp a1 dp n).map (fun h => .inl (pc, L, r, h)) else none
  | _ => none
def ip_xmm (f : Int32 → Int32 → Int32) (d pc : Nat) (L : ip_L) (hp : ip_H) : List Value → Option ip_A
  | .int y :: .int x :: r => if 0 < d ∧ ip_rs r = true then some (.inl (pc, L, .int (f x y) :: r, hp)) else none
  | _ => none
def ip_xst (d cn idx pc : Nat) (L : ip_L) (hp : ip_H) (st : List Value) : Option ip_A := match ip_ls cn idx with
  | some 1 => ip_xcp d pc L hp st
  | some 2 => ip_xmm (fun x y => if x < y then y else x) d pc L hp st
  | some 3 => ip_xmm (fun x y => if y < x then y else x) d pc L hp st
  | _ => (ip_lm cn idx).bind (fun q => if q.1 = 1 ∨ q.1 = 4 then ip_inv hp q st else none)
def ip_xoi (d pc : Nat) (L : ip_L) (hp : ip_H) : List Value → Option ip_A
  | .ref _ :: r => if 0 < d ∧ ip_rs r = true then some (.inl (pc, L, r, hp)) else none
  | _ => none
def ip_xsp (d cn idx pc : Nat) (L : ip_L) (hp : ip_H) (st : List Value) : Option ip_A := match ip_ls cn idx with
  | some 0 => ip_xoi d pc L hp st
  | _ => (ip_lm cn idx).bind (fun q => if q.1 = 2 ∨ q.1 = 5 then ip_inv hp q st else none)
def ip_ret (rt : Option FieldType) : List Value → Option ip_A
  | [.int v] => if rt = some .int ∨ (rt = some .boolean ∧ (v = 0 ∨ v = 1)) then some (.inr (.inl (some (.int v)))) else none
  | _ => none
def ip_lret (rt : Option FieldType) : List Value → Option ip_A
  | [.long v] => if rt = some .long then some (.inr (.inl (some (.long v)))) else none
  | _ => none
def ip_vret (rt : Option FieldType) : List Value → Option ip_A
  | [] => if rt = none then some (.inr (.inl none)) else none
  | _ => none
def ip_act (d cn : Nat) (ini : Bool) (rt : Option FieldType) (i : Instr) (pc len : Nat) (L : ip_L) (st : List Value) (hp : ip_H) : Option ip_A := match i with
  | .iconst n => some (.inl (pc + 1, L, .int (Int32.ofInt n) :: st, hp))
  | .bipush n => some (.inl (pc + 2, L, .int (Int8.ofInt n).toInt32 :: st, hp))
  | .sipush n => some (.inl (pc + 3, L, .int (Int16.ofInt n).toInt32 :: st, hp))
  | .lconst n => some (.inl (pc + 1, L, .long (Int64.ofNat (n : Nat)) :: st, hp))
  | .ldc2_w idx => (ip_lc cn idx).map (fun v => .inl (pc + 3, L, .long v :: st, hp))
  | .iload_n k => ip_sg (pc + 1) L hp (ip_iload L k st)
  | .iload k => ip_sg (pc + 2) L hp (ip_iload L k st)
  | .lload_n k => ip_sg (pc + 1) L hp (ip_lload L k st)
  | .lload k => ip_sg (pc + 2) L hp (ip_lload L k st)
  | .aload_n k => ip_sg (pc + 1) L hp (ip_aload L k st)
  | .aload k => ip_sg (pc + 2) L hp (ip_aload L k st)
  | .istore_n k => ip_lg2 (pc + 1) hp (ip_istore L k st)
  | .istore k => ip_lg2 (pc + 2) hp (ip_istore L k st)
  | .lstore_n k => ip_lg2 (pc + 1) hp (ip_lstore L k st)
  | .lstore k => ip_lg2 (pc + 2) hp (ip_lstore L k st)
  | .astore_n k => ip_lg2 (pc + 1) hp (ip_astore L k st)
  | .astore k => ip_lg2 (pc + 2) hp (ip_astore L k st)
  | .iinc k n => if len = 3 then (ip_iinc L k n).map (fun L => .inl (pc + 3, L, st, hp)) else none
  | .iadd => ip_sg (pc + 1) L hp (ip_ii (fun x y => x + y) st)
  | .isub => ip_sg (pc + 1) L hp (ip_ii (fun x y => x - y) st)
  | .imul => ip_sg (pc + 1) L hp (ip_ii (fun x y => x * y) st)
  | .iand => ip_sg (pc + 1) L hp (ip_ii (fun x y => x &&& y) st)
  | .idiv => ip_sg (pc + 1) L hp (ip_id (fun x y => x / y) st)
  | .irem => ip_sg (pc + 1) L hp (ip_id (fun x y => x - x / y * y) st)
  | .ineg => ip_sg (pc + 1) L hp (ip_i1 (fun x => .int (-x)) st)
  | .ladd => ip_sg (pc + 1) L hp (ip_ll (fun x y => .long (x + y)) st)
  | .lsub => ip_sg (pc + 1) L hp (ip_ll (fun x y => .long (x - y)) st)
  | .lmul => ip_sg (pc + 1) L hp (ip_ll (fun x y => .long (x * y)) st)
  | .land => ip_sg (pc + 1) L hp (ip_ll (fun x y => .long (x &&& y)) st)
  | .lor => ip_sg (pc + 1) L hp (ip_ll (fun x y => .long (x ||| y)) st)
  | .lxor => ip_sg (pc + 1) L hp (ip_ll (fun x y => .long (x ^^^ y)) st)
  | .ldiv => ip_sg (pc + 1) L hp (ip_ld2 (fun x y => x / y) st)
  | .lrem => ip_sg (pc + 1) L hp (ip_ld2 (fun x y => x - x / y * y) st)
  | .lneg => ip_sg (pc + 1) L hp (ip_l1 (fun x => .long (-x)) st)
  | .lcmp => ip_sg (pc + 1) L hp (ip_ll (fun x y => .int (lg_cmp x y)) st)
  | .lshl => ip_sg (pc + 1) L hp (ip_li (fun x y => x <<< (y.toInt64 &&& 63)) st)
  | .lushr => ip_sg (pc + 1) L hp (ip_li (fun x y => (x.toUInt64 >>> (y.toInt64.toUInt64 &&& Int64.toUInt64 63)).toInt64) st)
  | .i2l => ip_sg (pc + 1) L hp (ip_i1 (fun x => .long x.toInt64) st)
  | .l2i => ip_sg (pc + 1) L hp (ip_l1 (fun x => .int x.toInt32) st)
  | .i2b => ip_sg (pc + 1) L hp (ip_i1 (fun x => .int x.toInt8.toInt32) st)
  | .dup => ip_sg (pc + 1) L hp (ip_dup st)
  | .dup2 => ip_sg (pc + 1) L hp (ip_dup2 st)
  | .ifCond .eq off => ip_b1 (fun x => decide (x = 0)) pc (pc + 3) off L hp st
  | .ifCond .ne off => ip_b1 (fun x => decide (¬ x = 0)) pc (pc + 3) off L hp st
  | .ifCond .lt off => ip_b1 (fun x => decide (x < 0)) pc (pc + 3) off L hp st
  | .ifCond .ge off => ip_b1 (fun x => decide (0 ≤ x)) pc (pc + 3) off L hp st
  | .ifCond .gt off => ip_b1 (fun x => decide (0 < x)) pc (pc + 3) off L hp st
  | .ifCond .le off => ip_b1 (fun x => decide (x ≤ 0)) pc (pc + 3) off L hp st
  | .if_icmp .eq off => ip_b2 (fun x y => decide (x = y)) pc (pc + 3) off L hp st
  | .if_icmp .ne off => ip_b2 (fun x y => decide (¬ x = y)) pc (pc + 3) off L hp st
  | .if_icmp .lt off => ip_b2 (fun x y => decide (x < y)) pc (pc + 3) off L hp st
  | .if_icmp .ge off => ip_b2 (fun x y => decide (y ≤ x)) pc (pc + 3) off L hp st
  | .if_icmp .gt off => ip_b2 (fun x y => decide (y < x)) pc (pc + 3) off L hp st
  | .if_icmp .le off => ip_b2 (fun x y => decide (x ≤ y)) pc (pc + 3) off L hp st
  | .goto off => (ip_tg pc off).map (fun t => .inl (t, L, st, hp))
  | .tableswitch dflt lo hi offs => ip_tsw dflt lo hi offs pc L hp st
  | .lookupswitch dflt ps => ip_lsw dflt ps pc L hp st
  | .getfield idx => ip_xgf cn idx (pc + 3) L hp st
  | .putfield idx => ip_xpf cn idx (pc + 3) ini L hp st
  | .getstatic idx => if ip_lg cn idx = true then some (.inl (pc + 3, L, .ref 1 :: st, hp)) else none
  | .new idx => ip_xnw cn idx (pc + 3) L hp st
  | .iaload => ip_xia (pc + 1) L hp st
  | .baload => ip_xba (pc + 1) L hp st
  | .laload => ip_xja (pc + 1) L hp st
  | .aaload => ip_xaa (pc + 1) L hp st
  | .iastore => ip_xis (pc + 1) L hp st
  | .bastore => ip_xbs (pc + 1) L hp st
  | .lastore => ip_xjs (pc + 1) L hp st
  | .aastore => ip_xas (pc + 1) L hp st
  | .arraylength => ip_xlen (pc + 1) L hp st
  | .newarray t => ip_xna t (pc + 2) L hp st
  | .anewarray idx => ip_xan cn idx (pc + 3) L hp st
  | .multianewarray idx dims => ip_xmu cn idx dims (pc + 4) L hp st
  | .invokevirtual idx => ip_xvi cn idx hp st
  | .invokestatic idx => ip_xst d cn idx (pc + 3) L hp st
  | .invokespecial idx => ip_xsp d cn idx (pc + 3) L hp st
  | .ireturn => ip_ret rt st
  | .lreturn => ip_lret rt st
  | .return_ => ip_vret rt st
  | _ => none
/-- the length of an instruction -/
def ip_il (i : Instr) (len : Nat) : Bool := match i with
  | .bipush _ | .iload _ | .lload _ | .aload _ | .istore _ | .lstore _ | .astore _ | .newarray _ => len == 2
  | .sipush _ | .ldc2_w _ | .iinc .. | .ifCond .. | .if_icmp .. | .goto _ | .getfield _ | .putfield _ | .getstatic _ | .new _ | .anewarray _ | .invokevirtual _ | .invokestatic _ | .invokespecial _ => len == 3
  | .multianewarray .. => len == 4
  | .tableswitch .. | .lookupswitch .. => true
  | _ => len == 1
def ip_one (d m pc : Nat) (L : ip_L) (st : List Value) (hp : ip_H) : Option ip_A := match ip_M[m]? with
  | none => none
  | some q => match decode q.2.2.1 pc with
    | .error _ => none
    | .ok (i, len) => if ip_il i len = true then ip_act d q.1 (q.2.1.name == "<init>") q.2.2.2.2 i pc len L st hp else none
/-- the locals with which a method begins -/
def ip_in0 (m : Nat) (as : List Value) : Option ip_L := (ip_M[m]?).bind (fun q => if (as.flatMap fun v => if v.category = 2 then [some v, none] else [some v]).length ≤ q.2.2.2.1 then some (ip_ent q.2.2.2.1 as) else none)
/-- n: how many instructions at the most; d: how many frames more -/
def ip_run : Nat → Nat → Nat → Nat → ip_L → List Value → ip_H → Option ip_R
  | 0, _, _, _, _, _, _ => none
  | n + 1, d, m, pc, L, st, hp => match ip_one d m pc L st hp with
    | none => none
    | some (.inl q) => ip_run n d m q.1 q.2.1 q.2.2.1 q.2.2.2
    | some (.inr (.inl v)) => some (v, hp)
    | some (.inr (.inr q)) => match d with
      | 0 => none
      | d' + 1 => (ip_in0 q.1 q.2.1).bind fun L0 => (ip_run n d' q.1 0 L0 [] hp).bind fun x => ip_run n (d' + 1) m (pc + 3) L (x.1.toList ++ q.2.2) x.2
