/-! the pure machine doesn't see the numbers of its cells: a run goes alike under another numbering -/
def rnC (θ : Nat → Nat) : ip_C → ip_C
  | .inl (t, n, .inl f) => .inl (t, n, .inl f)
  | .inl (t, n, .inr (.inl f)) => .inl (t, n, .inr (.inl f))
  | .inl (t, n, .inr (.inr (.inl f))) => .inl (t, n, .inr (.inr (.inl f)))
  | .inl (t, n, .inr (.inr (.inr (.inl f)))) => .inl (t, n, .inr (.inr (.inr (.inl f))))
  | .inl (t, n, .inr (.inr (.inr (.inr f)))) => .inl (t, n, .inr (.inr (.inr (.inr (fun i => (f i).map θ)))))
  | .inr (c, fs) => .inr (c, fs.map (ip_v θ))
def rnH (θ η : Nat → Nat) (hp : ip_H) : ip_H := (hp.1, hp.2.1, fun b => (hp.2.2 (η b)).map (rnC θ))
def rnL (θ : Nat → Nat) (L : ip_L) : ip_L := L.map (Option.map (ip_v θ))
def rnS (θ : Nat → Nat) (st : List Value) : List Value := st.map (ip_v θ)
def rnA (θ η : Nat → Nat) : ip_A → ip_A
  | .inl (pc, L, st, hp) => .inl (pc, rnL θ L, rnS θ st, rnH θ η hp)
  | .inr (.inl v) => .inr (.inl (v.map (ip_v θ)))
  | .inr (.inr (m, as, st)) => .inr (.inr (m, rnS θ as, rnS θ st))
/-- θ: the new numbers, η: back again; 1 and all from N on stay -/
def rnK (θ η : Nat → Nat) (N : Nat) : Prop := (∀ a, η (θ a) = a) ∧ (∀ a, θ (η a) = a) ∧ θ 1 = 1 ∧ ∀ a, N ≤ a → θ a = a
def rnR (t n b : Nat) : ip_C := .inl (t, n, .inr (.inr (.inr (.inr (fun i => if i < n then some (b + i) else none)))))
theorem rn_if {α β : Type} {c : Prop} [Decidable c] {f : α → β} {a b : Option α} : Option.map f (if c then a else b) = if c then a.map f else b.map f := by
  by_cases h : c
  · rw [if_pos h, if_pos h]
  · rw [if_neg h, if_neg h]
section RN
variable {θ η : Nat → Nat} {N : Nat} {L : ip_L} {st r : List Value} {hp : ip_H} {d cn idx pc nx i a : Nat}
theorem rn_at (h : rnK θ η N) : (rnH θ η hp).2.2 (θ a) = (hp.2.2 a).map (rnC θ) := by
  show (hp.2.2 (η (θ a))).map (rnC θ) = _
  rw [h.1]
theorem rn_set (h : rnK θ η N) {c : ip_C} : ip_set (rnH θ η hp) (θ a) (rnC θ c) = rnH θ η (ip_set hp a c) := by
  have e : (fun b => if b = θ a then some (rnC θ c) else (hp.2.2 (η b)).map (rnC θ)) = fun b => (if η b = a then some c else hp.2.2 (η b)).map (rnC θ) := by
    funext b
    by_cases hb : b = θ a
    · rw [if_pos hb, if_pos (by rw [hb, h.1])]
      rfl
    · rw [if_neg hb, if_neg (fun z => hb (by rw [← z, h.2.1]))]
  exact congrArg (fun z => ((hp.1, hp.2.1, z) : ip_H)) e
theorem rn_e (h : rnK θ η N) (ha : N ≤ a) : η a = a := by
  have := h.1 a
  rw [h.2.2.2 a ha] at this
  exact this
theorem rn_l (h : rnK θ η N) (ha : a < N) : η a < N := by
  apply Nat.lt_of_not_le
  intro z
  have e := h.2.2.2 _ z
  rw [h.2.1] at e
  omega
theorem rn_new (h : rnK θ η N) (hN : N ≤ hp.1) {w : Nat} {c : ip_C} : ip_new (rnH θ η hp) w (rnC θ c) = rnH θ η (ip_new hp w c) := by
  have e : (fun b => if b = hp.1 then some (rnC θ c) else (hp.2.2 (η b)).map (rnC θ)) = fun b => (if η b = hp.1 then some c else hp.2.2 (η b)).map (rnC θ) := by
    funext b
    by_cases hb : N ≤ b
    · rw [rn_e h hb]
      by_cases h2 : b = hp.1
      · rw [if_pos h2, if_pos h2]
        rfl
      · rw [if_neg h2, if_neg h2]
    · have := rn_l h (Nat.lt_of_not_le hb)
      rw [if_neg (by omega), if_neg (by omega)]
  exact congrArg (fun z => ((hp.1 + 1, hp.2.1 + w, z) : ip_H)) e
theorem rn_mul (h : rnK θ η N) (hN : N ≤ hp.1) {t u n k : Nat} {z : vp_A} (hz : rnC θ (.inl (u, z)) = .inl (u, z)) : ip_mul (rnH θ η hp) t u n k z = rnH θ η (ip_mul hp t u n k z) := by
  have e0 : (fun i => (if i < n then some (hp.1 + 1 + i) else none : Option Nat).map θ) = fun i => if i < n then some (hp.1 + 1 + i) else none := by
    funext i
    by_cases hi : i < n
    · rw [if_pos hi]
      show some (θ (hp.1 + 1 + i)) = _
      rw [h.2.2.2 _ (by omega)]
    · rw [if_neg hi]
      rfl
  have e1 : rnC θ (rnR t n (hp.1 + 1)) = rnR t n (hp.1 + 1) := by
    show (Sum.inl (t, n, .inr (.inr (.inr (.inr (fun i => (if i < n then some (hp.1 + 1 + i) else none : Option Nat).map θ))))) : ip_C) = _
    rw [e0]
    rfl
  have e : (fun b => if b = hp.1 then some (rnR t n (hp.1 + 1)) else if hp.1 < b ∧ b < hp.1 + 1 + n then some (.inl (u, z)) else (hp.2.2 (η b)).map (rnC θ) : Nat → Option ip_C) = fun b => (if η b = hp.1 then some (rnR t n (hp.1 + 1)) else if hp.1 < η b ∧ η b < hp.1 + 1 + n then some (.inl (u, z)) else hp.2.2 (η b)).map (rnC θ) := by
    funext b
    by_cases hb : N ≤ b
    · rw [rn_e h hb]
      by_cases h2 : b = hp.1
      · rw [if_pos h2, if_pos h2]
        exact congrArg some e1.symm
      · rw [if_neg h2, if_neg h2]
        by_cases h3 : hp.1 < b ∧ b < hp.1 + 1 + n
        · rw [if_pos h3, if_pos h3]
          exact congrArg some hz.symm
        · rw [if_neg h3, if_neg h3]
    · have := rn_l h (Nat.lt_of_not_le hb)
      rw [if_neg (by omega), if_neg (by omega), if_neg (by omega), if_neg (by omega)]
  exact congrArg (fun z => ((hp.1 + 1 + n, hp.2.1 + n + n * k, z) : ip_H)) e
theorem rn_rs : ip_rs (rnS θ st) = ip_rs st := by
  unfold ip_rs rnS
  rw [rs_map]
/-! the stack -/
theorem rn_ii {f : Int32 → Int32 → Int32} : ip_ii f (rnS θ st) = (ip_ii f st).map (rnS θ) := by
  match st with
  | [] => rfl
  | [x] => cases x <;> rfl
  | x :: y :: r => cases x <;> cases y <;> rfl
theorem rn_li {f : Int64 → Int32 → Int64} : ip_li f (rnS θ st) = (ip_li f st).map (rnS θ) := by
  match st with
  | [] => rfl
  | [x] => cases x <;> rfl
  | x :: y :: r => cases x <;> cases y <;> rfl
theorem rn_ll {f : Int64 → Int64 → Value} (hf : ∀ x y, ip_v θ (f x y) = f x y) : ip_ll f (rnS θ st) = (ip_ll f st).map (rnS θ) := by
  match st with
  | [] => rfl
  | [x] => cases x <;> rfl
  | x :: y :: r => cases x <;> cases y <;> first | rfl | (show some (f _ _ :: rnS θ r) = some (ip_v θ (f _ _) :: rnS θ r); rw [hf])
theorem rn_i1 {f : Int32 → Value} (hf : ∀ x, ip_v θ (f x) = f x) : ip_i1 f (rnS θ st) = (ip_i1 f st).map (rnS θ) := by
  match st with
  | [] => rfl
  | x :: r => cases x <;> first | rfl | (show some (f _ :: rnS θ r) = some (ip_v θ (f _) :: rnS θ r); rw [hf])
theorem rn_l1 {f : Int64 → Value} (hf : ∀ x, ip_v θ (f x) = f x) : ip_l1 f (rnS θ st) = (ip_l1 f st).map (rnS θ) := by
  match st with
  | [] => rfl
  | x :: r => cases x <;> first | rfl | (show some (f _ :: rnS θ r) = some (ip_v θ (f _) :: rnS θ r); rw [hf])
theorem rn_id {f : Int32 → Int32 → Int32} : ip_id f (rnS θ st) = (ip_id f st).map (rnS θ) := by
  match st with
  | [] => rfl
  | [x] => cases x <;> rfl
  | x :: y :: r => cases x <;> cases y <;> first | rfl | (rename_i a b; by_cases hz : a = 0 <;> simp [ip_id, hz, rnS, ip_v])
theorem rn_ld2 {f : Int64 → Int64 → Int64} : ip_ld2 f (rnS θ st) = (ip_ld2 f st).map (rnS θ) := by
  match st with
  | [] => rfl
  | [x] => cases x <;> rfl
  | x :: y :: r => cases x <;> cases y <;> first | rfl | (rename_i a b; by_cases hz : a = 0 <;> simp [ip_ld2, hz, rnS, ip_v])
theorem rn_dup : ip_dup (rnS θ st) = (ip_dup st).map (rnS θ) := by
  match st with
  | [] => rfl
  | x :: r => cases x <;> rfl
theorem rn_dup2 : ip_dup2 (rnS θ st) = (ip_dup2 st).map (rnS θ) := by
  match st with
  | [] => rfl
  | [x] => cases x <;> rfl
  | x :: y :: r => cases x <;> cases y <;> rfl
/-! the places -/
theorem rn_len0 : (rnL θ L).length = L.length := by
  unfold rnL
  rw [List.length_map]
theorem rn_st0 {v : Option Value} : (rnL θ L).set i (v.map (ip_v θ)) = rnL θ (L.set i v) := by
  unfold rnL
  rw [List.map_set]
theorem rn_ld : ip_ld (rnL θ L) i = (ip_ld L i).map (ip_v θ) := by
  unfold ip_ld rnL
  rw [List.getElem?_map]
  cases L[i]? with
  | none => rfl
  | some o => cases o <;> rfl
theorem rn_kl : ip_kl (rnL θ L) i = rnL θ (ip_kl L i) := by
  match i with
  | 0 => rfl
  | j + 1 =>
    have e : (rnL θ L)[j]? = (L[j]?).map (Option.map (ip_v θ)) := by
      unfold rnL
      rw [List.getElem?_map]
    unfold ip_kl
    dsimp only
    rw [e]
    cases L[j]? with
    | none => rfl
    | some o =>
      cases o with
      | none => rfl
      | some v =>
        show (if (ip_v θ v).category = 2 then (rnL θ L).set j none else rnL θ L) = rnL θ (if v.category = 2 then L.set j none else L)
        rw [ip_v_cat]
        by_cases hv : v.category = 2
        · rw [if_pos hv, if_pos hv]
          exact rn_st0 (v := none)
        · rw [if_neg hv, if_neg hv]
theorem rn_st1 {v : Value} : ip_st1 (rnL θ L) i (ip_v θ v) = (ip_st1 L i v).map (rnL θ) := by
  unfold ip_st1
  rw [rn_len0, rn_kl, rn_if]
  by_cases hi : i < L.length
  · rw [if_pos hi, if_pos hi]
    exact congrArg some (rn_st0 (v := some v))
  · rw [if_neg hi, if_neg hi]
    rfl
theorem rn_st2 {v : Value} : ip_st2 (rnL θ L) i (ip_v θ v) = (ip_st2 L i v).map (rnL θ) := by
  unfold ip_st2
  rw [rn_len0, rn_kl, rn_if]
  by_cases hi : i + 1 < L.length
  · rw [if_pos hi, if_pos hi]
    have e1 := rn_st0 (θ := θ) (L := ip_kl L i) (i := i) (v := some v)
    have e2 := rn_st0 (θ := θ) (L := (ip_kl L i).set i (some v)) (i := i + 1) (v := none)
    rw [← e1] at e2
    exact congrArg some e2
  · rw [if_neg hi, if_neg hi]
    rfl
theorem rn_iload : ip_iload (rnL θ L) i (rnS θ st) = (ip_iload L i st).map (rnS θ) := by
  unfold ip_iload
  rw [rn_ld]
  cases ip_ld L i with
  | none => rfl
  | some v => cases v <;> rfl
theorem rn_lload : ip_lload (rnL θ L) i (rnS θ st) = (ip_lload L i st).map (rnS θ) := by
  unfold ip_lload
  rw [rn_ld]
  cases ip_ld L i with
  | none => rfl
  | some v => cases v <;> rfl
theorem rn_aload : ip_aload (rnL θ L) i (rnS θ st) = (ip_aload L i st).map (rnS θ) := by
  unfold ip_aload
  rw [rn_ld]
  cases ip_ld L i with
  | none => rfl
  | some v => cases v <;> rfl
theorem rn_istore : ip_istore (rnL θ L) i (rnS θ st) = (ip_istore L i st).map (fun q => (rnL θ q.1, rnS θ q.2)) := by
  match st with
  | [] => rfl
  | .int x :: r =>
    have e : ip_st1 (rnL θ L) i (.int x) = (ip_st1 L i (.int x)).map (rnL θ) := rn_st1 (v := .int x)
    show (ip_st1 (rnL θ L) i (.int x)).map (fun L => (L, rnS θ r)) = ((ip_st1 L i (.int x)).map (fun L => (L, r))).map _
    rw [e]
    cases ip_st1 L i (.int x) <;> rfl
  | .long x :: r => rfl
  | .float x :: r => rfl
  | .double x :: r => rfl
  | .null :: r => rfl
  | .ref x :: r => rfl
  | .retAddr x :: r => rfl
theorem rn_astore : ip_astore (rnL θ L) i (rnS θ st) = (ip_astore L i st).map (fun q => (rnL θ q.1, rnS θ q.2)) := by
  match st with
  | [] => rfl
  | .ref x :: r =>
    have e : ip_st1 (rnL θ L) i (.ref (θ x)) = (ip_st1 L i (.ref x)).map (rnL θ) := rn_st1 (v := .ref x)
    show (ip_st1 (rnL θ L) i (.ref (θ x))).map (fun L => (L, rnS θ r)) = ((ip_st1 L i (.ref x)).map (fun L => (L, r))).map _
    rw [e]
    cases ip_st1 L i (.ref x) <;> rfl
  | .int x :: r => rfl
  | .long x :: r => rfl
  | .float x :: r => rfl
  | .double x :: r => rfl
  | .null :: r => rfl
  | .retAddr x :: r => rfl
theorem rn_lstore : ip_lstore (rnL θ L) i (rnS θ st) = (ip_lstore L i st).map (fun q => (rnL θ q.1, rnS θ q.2)) := by
  match st with
  | [] => rfl
  | .long x :: r =>
    have e : ip_st2 (rnL θ L) i (.long x) = (ip_st2 L i (.long x)).map (rnL θ) := rn_st2 (v := .long x)
    show (ip_st2 (rnL θ L) i (.long x)).map (fun L => (L, rnS θ r)) = ((ip_st2 L i (.long x)).map (fun L => (L, r))).map _
    rw [e]
    cases ip_st2 L i (.long x) <;> rfl
  | .int x :: r => rfl
  | .float x :: r => rfl
  | .double x :: r => rfl
  | .null :: r => rfl
  | .ref x :: r => rfl
  | .retAddr x :: r => rfl
theorem rn_iinc {n : Int} : ip_iinc (rnL θ L) i n = (ip_iinc L i n).map (rnL θ) := by
  unfold ip_iinc
  rw [rn_ld]
  cases ip_ld L i with
  | none => rfl
  | some v => cases v <;> first | rfl | exact rn_st1 (v := .int _)
theorem rn_sg {o o' : Option (List Value)} (e : o' = o.map (rnS θ)) : ip_sg pc (rnL θ L) (rnH θ η hp) o' = (ip_sg pc L hp o).map (rnA θ η) := by
  subst e
  cases o <;> rfl
theorem rn_lg {o o' : Option (ip_L × List Value)} (e : o' = o.map (fun q => (rnL θ q.1, rnS θ q.2))) : ip_lg2 pc (rnH θ η hp) o' = (ip_lg2 pc hp o).map (rnA θ η) := by
  subst e
  cases o <;> rfl
theorem rn_tg {o : Option Nat} {f : Nat → Nat} : o.map (fun t => (.inl (f t, rnL θ L, rnS θ r, rnH θ η hp) : ip_A)) = (o.map (fun t => (.inl (f t, L, r, hp) : ip_A))).map (rnA θ η) := by
  cases o <;> rfl
theorem rn_b1 {f : Int32 → Bool} {off : Int} : ip_b1 f pc nx off (rnL θ L) (rnH θ η hp) (rnS θ st) = (ip_b1 f pc nx off L hp st).map (rnA θ η) := by
  match st with
  | [] => rfl
  | .int x :: r => exact rn_tg (f := fun t => if f x = true then t else nx)
  | .long x :: r => rfl
  | .float x :: r => rfl
  | .double x :: r => rfl
  | .null :: r => rfl
  | .ref x :: r => rfl
  | .retAddr x :: r => rfl
theorem rn_b2 {f : Int32 → Int32 → Bool} {off : Int} : ip_b2 f pc nx off (rnL θ L) (rnH θ η hp) (rnS θ st) = (ip_b2 f pc nx off L hp st).map (rnA θ η) := by
  match st with
  | [] => rfl
  | [x] => cases x <;> rfl
  | x :: y :: r => cases x <;> cases y <;> first | rfl | (rename_i y x; exact rn_tg (f := fun t => if f x y = true then t else nx))
theorem rn_tsw {dflt lo hi : Int} {offs : Array Int} : ip_tsw dflt lo hi offs pc (rnL θ L) (rnH θ η hp) (rnS θ st) = (ip_tsw dflt lo hi offs pc L hp st).map (rnA θ η) := by
  match st with
  | [] => rfl
  | .int x :: r => exact rn_tg (f := fun t => t)
  | .long x :: r => rfl
  | .float x :: r => rfl
  | .double x :: r => rfl
  | .null :: r => rfl
  | .ref x :: r => rfl
  | .retAddr x :: r => rfl
theorem rn_lsw {dflt : Int} {ps : Array (Int × Int)} : ip_lsw dflt ps pc (rnL θ L) (rnH θ η hp) (rnS θ st) = (ip_lsw dflt ps pc L hp st).map (rnA θ η) := by
  match st with
  | [] => rfl
  | .int x :: r =>
    show (if (ps.toList.zip (ps.toList.drop 1)).all (fun (a, next) => a.1 < next.1) = true then (ip_tg pc (Op.lookupswitch.offset ps.toList dflt x.toInt)).map (fun t => (.inl (t, rnL θ L, rnS θ r, rnH θ η hp) : ip_A)) else none) = Option.map (rnA θ η) (if (ps.toList.zip (ps.toList.drop 1)).all (fun (a, next) => a.1 < next.1) = true then (ip_tg pc (Op.lookupswitch.offset ps.toList dflt x.toInt)).map (fun t => (.inl (t, L, r, hp) : ip_A)) else none)
    rw [rn_if, ← rn_tg (f := fun t => t)]
    rfl
  | .long x :: r => rfl
  | .float x :: r => rfl
  | .double x :: r => rfl
  | .null :: r => rfl
  | .ref x :: r => rfl
  | .retAddr x :: r => rfl
/-! the heap -/
theorem rn_gf (h : rnK θ η N) {ci k : Nat} : ip_gf (rnH θ η hp) ci k (θ a) = (ip_gf hp ci k a).map (ip_v θ) := by
  unfold ip_gf
  rw [rn_at h]
  cases hp.2.2 a with
  | none => rfl
  | some c =>
    rcases c with ⟨t, n, f | f | f | f | f⟩ | ⟨c, fs⟩
    · rfl
    · rfl
    · rfl
    · rfl
    · rfl
    · show (if c = ci then (fs.map (ip_v θ))[k]? else none) = Option.map _ (if c = ci then fs[k]? else none)
      rw [rn_if, List.getElem?_map]
      rfl
theorem rn_pf (h : rnK θ η N) {ci k : Nat} {v : Value} : ip_pf (rnH θ η hp) ci k (θ a) (ip_v θ v) = (ip_pf hp ci k a v).map (rnH θ η) := by
  unfold ip_pf
  rw [rn_at h]
  cases hp.2.2 a with
  | none => rfl
  | some c =>
    rcases c with ⟨t, n, f | f | f | f | f⟩ | ⟨c, fs⟩
    · rfl
    · rfl
    · rfl
    · rfl
    · rfl
    · have e : rnC θ (.inr (c, fs.set k v)) = .inr (c, (fs.map (ip_v θ)).set k (ip_v θ v)) := by
        show (Sum.inr (c, (fs.set k v).map (ip_v θ)) : ip_C) = _
        rw [List.map_set]
      show (if c = ci ∧ k < (fs.map (ip_v θ)).length then some (ip_set (rnH θ η hp) (θ a) (.inr (c, (fs.map (ip_v θ)).set k (ip_v θ v)))) else none) = Option.map _ (if c = ci ∧ k < fs.length then some (ip_set hp a (.inr (c, fs.set k v))) else none)
      rw [rn_if, List.length_map, ← e, rn_set h]
      rfl
theorem rn_ia (h : rnK θ η N) {i : Int32} : ip_ia (rnH θ η hp) (θ a) i = ip_ia hp a i := by
  unfold ip_ia
  rw [rn_at h]
  cases hp.2.2 a with
  | none => rfl
  | some c => rcases c with ⟨t, n, f | f | f | f | f⟩ | ⟨c, fs⟩ <;> rfl
theorem rn_ba (h : rnK θ η N) {i : Int32} : ip_ba (rnH θ η hp) (θ a) i = ip_ba hp a i := by
  unfold ip_ba
  rw [rn_at h]
  cases hp.2.2 a with
  | none => rfl
  | some c => rcases c with ⟨t, n, f | f | f | f | f⟩ | ⟨c, fs⟩ <;> rfl
theorem rn_ja (h : rnK θ η N) {i : Int32} : ip_ja (rnH θ η hp) (θ a) i = ip_ja hp a i := by
  unfold ip_ja
  rw [rn_at h]
  cases hp.2.2 a with
  | none => rfl
  | some c => rcases c with ⟨t, n, f | f | f | f | f⟩ | ⟨c, fs⟩ <;> rfl
theorem rn_len (h : rnK θ η N) : ip_len (rnH θ η hp) (θ a) = ip_len hp a := by
  unfold ip_len
  rw [rn_at h]
  cases hp.2.2 a with
  | none => rfl
  | some c => rcases c with ⟨t, n, f | f | f | f | f⟩ | ⟨c, fs⟩ <;> rfl
theorem rn_isO (h : rnK θ η N) {ci : Nat} : ip_isO (rnH θ η hp) (θ a) ci = ip_isO hp a ci := by
  unfold ip_isO
  rw [rn_at h]
  cases hp.2.2 a with
  | none => rfl
  | some c => rcases c with ⟨t, n, f | f | f | f | f⟩ | ⟨c, fs⟩ <;> rfl
theorem rn_aa (h : rnK θ η N) {i : Int32} : ip_aa (rnH θ η hp) (θ a) i = (ip_aa hp a i).map θ := by
  unfold ip_aa
  rw [rn_at h]
  cases hp.2.2 a with
  | none => rfl
  | some c =>
    rcases c with ⟨t, n, f | f | f | f | f⟩ | ⟨c, fs⟩
    · rfl
    · rfl
    · rfl
    · rfl
    · show (if (3 < t ∧ t < 9) ∧ ip_in i n = true then (f i.toNatClampNeg).map θ else none) = Option.map _ (if (3 < t ∧ t < 9) ∧ ip_in i n = true then f i.toNatClampNeg else none)
      rw [rn_if]
      rfl
    · rfl
theorem rn_is (h : rnK θ η N) {i x : Int32} : ip_is (rnH θ η hp) (θ a) i x = (ip_is hp a i x).map (rnH θ η) := by
  unfold ip_is
  rw [rn_at h]
  cases hp.2.2 a with
  | none => rfl
  | some c =>
    rcases c with ⟨t, n, f | f | f | f | f⟩ | ⟨c, fs⟩
    · show (if t = 1 ∧ ip_in i n = true then some (ip_set (rnH θ η hp) (θ a) (rnC θ (.inl (t, n, .inl (upd f i.toNatClampNeg x))))) else none) = Option.map _ (if t = 1 ∧ ip_in i n = true then some (ip_set hp a (.inl (t, n, .inl (upd f i.toNatClampNeg x)))) else none)
      rw [rn_if, rn_set h]
      rfl
    · rfl
    · rfl
    · rfl
    · rfl
    · rfl
theorem rn_js (h : rnK θ η N) {i : Int32} {x : Int64} : ip_js (rnH θ η hp) (θ a) i x = (ip_js hp a i x).map (rnH θ η) := by
  unfold ip_js
  rw [rn_at h]
  cases hp.2.2 a with
  | none => rfl
  | some c =>
    rcases c with ⟨t, n, f | f | f | f | f⟩ | ⟨c, fs⟩
    · rfl
    · show (if t = 2 ∧ ip_in i n = true then some (ip_set (rnH θ η hp) (θ a) (rnC θ (.inl (t, n, .inr (.inl (vp_updL f i.toNatClampNeg x)))))) else none) = Option.map _ (if t = 2 ∧ ip_in i n = true then some (ip_set hp a (.inl (t, n, .inr (.inl (vp_updL f i.toNatClampNeg x))))) else none)
      rw [rn_if, rn_set h]
      rfl
    · rfl
    · rfl
    · rfl
    · rfl
theorem rn_bs (h : rnK θ η N) {i x : Int32} : ip_bs (rnH θ η hp) (θ a) i x = (ip_bs hp a i x).map (rnH θ η) := by
  unfold ip_bs
  rw [rn_at h]
  cases hp.2.2 a with
  | none => rfl
  | some c =>
    rcases c with ⟨t, n, f | f | f | f | f⟩ | ⟨c, fs⟩
    · show (if ip_in i n = true then (if t = 0 then some (ip_set (rnH θ η hp) (θ a) (rnC θ (.inl (t, n, .inl (upd f i.toNatClampNeg (vp_nar .byte x)))))) else if t = 3 then some (ip_set (rnH θ η hp) (θ a) (rnC θ (.inl (t, n, .inl (upd f i.toNatClampNeg (vp_nar .boolean x)))))) else none) else none) = Option.map _ (if ip_in i n = true then (if t = 0 then some (ip_set hp a (.inl (t, n, .inl (upd f i.toNatClampNeg (vp_nar .byte x))))) else if t = 3 then some (ip_set hp a (.inl (t, n, .inl (upd f i.toNatClampNeg (vp_nar .boolean x))))) else none) else none)
      rw [rn_if, rn_if, rn_if, rn_set h, rn_set h]
      rfl
    · rfl
    · rfl
    · rfl
    · rfl
    · rfl
theorem rn_as (h : rnK θ η N) {i : Int32} {v : Nat} : ip_as (rnH θ η hp) (θ a) i (θ v) = (ip_as hp a i v).map (rnH θ η) := by
  unfold ip_as
  rw [rn_at h]
  cases hp.2.2 a with
  | none => rfl
  | some c =>
    rcases c with ⟨t, n, f | f | f | f | f⟩ | ⟨c, fs⟩
    · rfl
    · rfl
    · rfl
    · rfl
    · have eu : va_up (fun j => (f j).map θ) i.toNatClampNeg (some (θ v)) = fun j => (va_up f i.toNatClampNeg (some v) j).map θ := by
        funext j
        unfold va_up
        by_cases hj : j = i.toNatClampNeg
        · rw [if_pos hj, if_pos hj]
          rfl
        · rw [if_neg hj, if_neg hj]
      show (if ip_in i n = true then (match ip_te t with
        | some ci => if ip_isO (rnH θ η hp) (θ v) ci = true then some (ip_set (rnH θ η hp) (θ a) (.inl (t, n, .inr (.inr (.inr (.inr (va_up (fun j => (f j).map θ) i.toNatClampNeg (some (θ v))))))))) else none
        | none => none) else none) = Option.map (rnH θ η) (if ip_in i n = true then (match ip_te t with
        | some ci => if ip_isO hp v ci = true then some (ip_set hp a (.inl (t, n, .inr (.inr (.inr (.inr (va_up f i.toNatClampNeg (some v)))))))) else none
        | none => none) else none)
      rw [eu]
      by_cases hi : ip_in i n = true
      · rw [if_pos hi, if_pos hi]
        cases ip_te t with
        | none => rfl
        | some ci =>
          show (if ip_isO (rnH θ η hp) (θ v) ci = true then some (ip_set (rnH θ η hp) (θ a) (rnC θ (.inl (t, n, .inr (.inr (.inr (.inr (va_up f i.toNatClampNeg (some v))))))))) else none) = Option.map (rnH θ η) (if ip_isO hp v ci = true then some (ip_set hp a (.inl (t, n, .inr (.inr (.inr (.inr (va_up f i.toNatClampNeg (some v)))))))) else none)
          rw [rn_isO h, rn_if, rn_set h]
          rfl
      · rw [if_neg hi, if_neg hi]
        rfl
    · rfl
theorem rn_cp (h : rnK θ η N) {a0 a1 : Nat} {sp dp n : Int32} : ip_cp (rnH θ η hp) (θ a0) sp (θ a1) dp n = (ip_cp hp a0 sp a1 dp n).map (rnH θ η) := by
  unfold ip_cp
  rw [rn_at h, rn_at h]
  cases hp.2.2 a0 with
  | none => cases hp.2.2 a1 <;> rfl
  | some c0 =>
    cases hp.2.2 a1 with
    | none => rcases c0 with ⟨t0, n0, f | f | f | f | f⟩ | ⟨c0, fs⟩ <;> rfl
    | some c1 =>
      rcases c0 with ⟨t0, n0, f | f | f | f | f⟩ | ⟨c0, fs⟩
      · rcases c1 with ⟨t1, n1, g | g | g | g | g⟩ | ⟨c1, gs⟩ <;> rfl
      · rcases c1 with ⟨t1, n1, g | g | g | g | g⟩ | ⟨c1, gs⟩
        · rfl
        · show (if t0 = 2 ∧ t1 = 2 ∧ ¬ sp < 0 ∧ ¬ dp < 0 ∧ ¬ n < 0 ∧ sp.toNatClampNeg + n.toNatClampNeg ≤ n0 ∧ dp.toNatClampNeg + n.toNatClampNeg ≤ n1 then some (ip_set (rnH θ η hp) (θ a1) (rnC θ (.inl (t1, n1, .inr (.inl (va_cpy f g sp.toNatClampNeg dp.toNatClampNeg n.toNatClampNeg)))))) else none) = Option.map _ (if t0 = 2 ∧ t1 = 2 ∧ ¬ sp < 0 ∧ ¬ dp < 0 ∧ ¬ n < 0 ∧ sp.toNatClampNeg + n.toNatClampNeg ≤ n0 ∧ dp.toNatClampNeg + n.toNatClampNeg ≤ n1 then some (ip_set hp a1 (.inl (t1, n1, .inr (.inl (va_cpy f g sp.toNatClampNeg dp.toNatClampNeg n.toNatClampNeg))))) else none)
          rw [rn_if, rn_set h]
          rfl
        · rfl
        · rfl
        · rfl
        · rfl
      · rcases c1 with ⟨t1, n1, g | g | g | g | g⟩ | ⟨c1, gs⟩ <;> rfl
      · rcases c1 with ⟨t1, n1, g | g | g | g | g⟩ | ⟨c1, gs⟩ <;> rfl
      · rcases c1 with ⟨t1, n1, g | g | g | g | g⟩ | ⟨c1, gs⟩ <;> rfl
      · rcases c1 with ⟨t1, n1, g | g | g | g | g⟩ | ⟨c1, gs⟩ <;> rfl
/-! instructions that read or write the heap -/
theorem rn_m1 {α : Type} {o : Option α} {f g : α → ip_A} (e : ∀ v, f v = rnA θ η (g v)) : o.map f = (o.map g).map (rnA θ η) := by
  cases o with
  | none => rfl
  | some v => exact congrArg some (e v)
theorem rn_m2 {α β : Type} {o : Option α} {k : α → β} {f : β → ip_A} {g : α → ip_A} (e : ∀ v, f (k v) = rnA θ η (g v)) : (o.map k).map f = (o.map g).map (rnA θ η) := by
  cases o with
  | none => rfl
  | some v => exact congrArg some (e v)
theorem rn_xgf (h : rnK θ η N) : ip_xgf cn idx pc (rnL θ L) (rnH θ η hp) (rnS θ st) = (ip_xgf cn idx pc L hp st).map (rnA θ η) := by
  match st with
  | [] => rfl
  | .ref a :: r =>
    show (ip_lf cn idx).bind (fun q => (ip_gf (rnH θ η hp) q.1 q.2 (θ a)).map (fun v => (.inl (pc, rnL θ L, v :: rnS θ r, rnH θ η hp) : ip_A))) = Option.map (rnA θ η) ((ip_lf cn idx).bind (fun q => (ip_gf hp q.1 q.2 a).map (fun v => (.inl (pc, L, v :: r, hp) : ip_A))))
    cases ip_lf cn idx with
    | none => rfl
    | some q =>
      show (ip_gf (rnH θ η hp) q.1 q.2 (θ a)).map (fun v => (.inl (pc, rnL θ L, v :: rnS θ r, rnH θ η hp) : ip_A)) = Option.map (rnA θ η) ((ip_gf hp q.1 q.2 a).map (fun v => (.inl (pc, L, v :: r, hp) : ip_A)))
      rw [rn_gf h]
      exact rn_m2 (fun v => rfl)
  | .int x :: r => rfl
  | .long x :: r => rfl
  | .float x :: r => rfl
  | .double x :: r => rfl
  | .null :: r => rfl
  | .retAddr x :: r => rfl
theorem rn_fit {ty : FieldType} {v : Value} : ip_fit ty (ip_v θ v) = ip_fit ty v := by
  cases ty <;> cases v <;> rfl
theorem rn_xpf (h : rnK θ η N) {ini : Bool} : ip_xpf cn idx pc ini (rnL θ L) (rnH θ η hp) (rnS θ st) = (ip_xpf cn idx pc ini L hp st).map (rnA θ η) := by
  match st with
  | [] => rfl
  | [x] => rfl
  | v :: .ref a :: r =>
    show (ip_lf cn idx).bind (fun q => if ip_fit (ip_ty q.1 q.2) (ip_v θ v) = true ∧ ((ip_T q.1 q.2).2.2.2 = false ∨ (ini = true ∧ q.1 = cn)) then (ip_pf (rnH θ η hp) q.1 q.2 (θ a) (ip_v θ v)).map (fun h => (.inl (pc, rnL θ L, rnS θ r, h) : ip_A)) else none) = Option.map (rnA θ η) ((ip_lf cn idx).bind (fun q => if ip_fit (ip_ty q.1 q.2) v = true ∧ ((ip_T q.1 q.2).2.2.2 = false ∨ (ini = true ∧ q.1 = cn)) then (ip_pf hp q.1 q.2 a v).map (fun h => (.inl (pc, L, r, h) : ip_A)) else none))
    cases ip_lf cn idx with
    | none => rfl
    | some q =>
      show (if ip_fit (ip_ty q.1 q.2) (ip_v θ v) = true ∧ ((ip_T q.1 q.2).2.2.2 = false ∨ (ini = true ∧ q.1 = cn)) then (ip_pf (rnH θ η hp) q.1 q.2 (θ a) (ip_v θ v)).map (fun h => (.inl (pc, rnL θ L, rnS θ r, h) : ip_A)) else none) = Option.map (rnA θ η) (if ip_fit (ip_ty q.1 q.2) v = true ∧ ((ip_T q.1 q.2).2.2.2 = false ∨ (ini = true ∧ q.1 = cn)) then (ip_pf hp q.1 q.2 a v).map (fun h => (.inl (pc, L, r, h) : ip_A)) else none)
      rw [rn_fit, rn_pf h, rn_if]
      have e : ((ip_pf hp q.1 q.2 a v).map (rnH θ η)).map (fun h => (.inl (pc, rnL θ L, rnS θ r, h) : ip_A)) = ((ip_pf hp q.1 q.2 a v).map (fun h => (.inl (pc, L, r, h) : ip_A))).map (rnA θ η) := rn_m2 (fun v => rfl)
      rw [e]
      rfl
  | v :: .int x :: r => rfl
  | v :: .long x :: r => rfl
  | v :: .float x :: r => rfl
  | v :: .double x :: r => rfl
  | v :: .null :: r => rfl
  | v :: .retAddr x :: r => rfl
theorem rn_xia (h : rnK θ η N) : ip_xia pc (rnL θ L) (rnH θ η hp) (rnS θ st) = (ip_xia pc L hp st).map (rnA θ η) := by
  match st with
  | [] => rfl
  | [x] => cases x <;> rfl
  | x :: y :: r =>
    cases x <;> cases y <;> first | rfl | skip
    rename_i i a
    show (ip_ia (rnH θ η hp) (θ a) i).map (fun v => (.inl (pc, rnL θ L, .int v :: rnS θ r, rnH θ η hp) : ip_A)) = Option.map (rnA θ η) ((ip_ia hp a i).map (fun v => (.inl (pc, L, .int v :: r, hp) : ip_A)))
    rw [rn_ia h]
    exact rn_m1 (fun v => rfl)
theorem rn_xba (h : rnK θ η N) : ip_xba pc (rnL θ L) (rnH θ η hp) (rnS θ st) = (ip_xba pc L hp st).map (rnA θ η) := by
  match st with
  | [] => rfl
  | [x] => cases x <;> rfl
  | x :: y :: r =>
    cases x <;> cases y <;> first | rfl | skip
    rename_i i a
    show (ip_ba (rnH θ η hp) (θ a) i).map (fun v => (.inl (pc, rnL θ L, .int v :: rnS θ r, rnH θ η hp) : ip_A)) = Option.map (rnA θ η) ((ip_ba hp a i).map (fun v => (.inl (pc, L, .int v :: r, hp) : ip_A)))
    rw [rn_ba h]
    exact rn_m1 (fun v => rfl)
theorem rn_xja (h : rnK θ η N) : ip_xja pc (rnL θ L) (rnH θ η hp) (rnS θ st) = (ip_xja pc L hp st).map (rnA θ η) := by
  match st with
  | [] => rfl
  | [x] => cases x <;> rfl
  | x :: y :: r =>
    cases x <;> cases y <;> first | rfl | skip
    rename_i i a
    show (ip_ja (rnH θ η hp) (θ a) i).map (fun v => (.inl (pc, rnL θ L, .long v :: rnS θ r, rnH θ η hp) : ip_A)) = Option.map (rnA θ η) ((ip_ja hp a i).map (fun v => (.inl (pc, L, .long v :: r, hp) : ip_A)))
    rw [rn_ja h]
    exact rn_m1 (fun v => rfl)
theorem rn_xaa (h : rnK θ η N) : ip_xaa pc (rnL θ L) (rnH θ η hp) (rnS θ st) = (ip_xaa pc L hp st).map (rnA θ η) := by
  match st with
  | [] => rfl
  | [x] => cases x <;> rfl
  | x :: y :: r =>
    cases x <;> cases y <;> first | rfl | skip
    rename_i i a
    show (ip_aa (rnH θ η hp) (θ a) i).map (fun v => (.inl (pc, rnL θ L, .ref v :: rnS θ r, rnH θ η hp) : ip_A)) = Option.map (rnA θ η) ((ip_aa hp a i).map (fun v => (.inl (pc, L, .ref v :: r, hp) : ip_A)))
    rw [rn_aa h]
    exact rn_m2 (fun v => rfl)
theorem rn_xlen (h : rnK θ η N) : ip_xlen pc (rnL θ L) (rnH θ η hp) (rnS θ st) = (ip_xlen pc L hp st).map (rnA θ η) := by
  match st with
  | [] => rfl
  | .ref a :: r =>
    show (ip_len (rnH θ η hp) (θ a)).map (fun n => (.inl (pc, rnL θ L, .int (Int32.ofNat n) :: rnS θ r, rnH θ η hp) : ip_A)) = Option.map (rnA θ η) ((ip_len hp a).map (fun n => (.inl (pc, L, .int (Int32.ofNat n) :: r, hp) : ip_A)))
    rw [rn_len h]
    exact rn_m1 (fun v => rfl)
  | .int x :: r => rfl
  | .long x :: r => rfl
  | .float x :: r => rfl
  | .double x :: r => rfl
  | .null :: r => rfl
  | .retAddr x :: r => rfl
theorem rn_xis (h : rnK θ η N) : ip_xis pc (rnL θ L) (rnH θ η hp) (rnS θ st) = (ip_xis pc L hp st).map (rnA θ η) := by
  match st with
  | [] => rfl
  | [x] => cases x <;> rfl
  | [x, y] => cases x <;> cases y <;> rfl
  | x :: y :: z :: r =>
    cases x <;> first | rfl | skip
    cases y <;> first | rfl | skip
    cases z <;> first | rfl | skip
    rename_i x i a
    show (ip_is (rnH θ η hp) (θ a) i x).map (fun h => (.inl (pc, rnL θ L, rnS θ r, h) : ip_A)) = Option.map (rnA θ η) ((ip_is hp a i x).map (fun h => (.inl (pc, L, r, h) : ip_A)))
    rw [rn_is h]
    exact rn_m2 (fun v => rfl)
theorem rn_xbs (h : rnK θ η N) : ip_xbs pc (rnL θ L) (rnH θ η hp) (rnS θ st) = (ip_xbs pc L hp st).map (rnA θ η) := by
  match st with
  | [] => rfl
  | [x] => cases x <;> rfl
  | [x, y] => cases x <;> cases y <;> rfl
  | x :: y :: z :: r =>
    cases x <;> first | rfl | skip
    cases y <;> first | rfl | skip
    cases z <;> first | rfl | skip
    rename_i x i a
    show (ip_bs (rnH θ η hp) (θ a) i x).map (fun h => (.inl (pc, rnL θ L, rnS θ r, h) : ip_A)) = Option.map (rnA θ η) ((ip_bs hp a i x).map (fun h => (.inl (pc, L, r, h) : ip_A)))
    rw [rn_bs h]
    exact rn_m2 (fun v => rfl)
theorem rn_xjs (h : rnK θ η N) : ip_xjs pc (rnL θ L) (rnH θ η hp) (rnS θ st) = (ip_xjs pc L hp st).map (rnA θ η) := by
  match st with
  | [] => rfl
  | [x] => cases x <;> rfl
  | [x, y] => cases x <;> cases y <;> rfl
  | x :: y :: z :: r =>
    cases x <;> first | rfl | skip
    cases y <;> first | rfl | skip
    cases z <;> first | rfl | skip
    rename_i x i a
    show (ip_js (rnH θ η hp) (θ a) i x).map (fun h => (.inl (pc, rnL θ L, rnS θ r, h) : ip_A)) = Option.map (rnA θ η) ((ip_js hp a i x).map (fun h => (.inl (pc, L, r, h) : ip_A)))
    rw [rn_js h]
    exact rn_m2 (fun v => rfl)
theorem rn_xas (h : rnK θ η N) : ip_xas pc (rnL θ L) (rnH θ η hp) (rnS θ st) = (ip_xas pc L hp st).map (rnA θ η) := by
  match st with
  | [] => rfl
  | [x] => cases x <;> rfl
  | [x, y] => cases x <;> cases y <;> rfl
  | x :: y :: z :: r =>
    cases x <;> first | rfl | skip
    cases y <;> first | rfl | skip
    cases z <;> first | rfl | skip
    rename_i x i a
    show (ip_as (rnH θ η hp) (θ a) i (θ x)).map (fun h => (.inl (pc, rnL θ L, rnS θ r, h) : ip_A)) = Option.map (rnA θ η) ((ip_as hp a i x).map (fun h => (.inl (pc, L, r, h) : ip_A)))
    rw [rn_as h]
    exact rn_m2 (fun v => rfl)
/-! new cells -/
theorem rn_nx (h : rnK θ η N) (hN : N ≤ hp.1) {w : Nat} {c : ip_C} : some (.inl (pc, rnL θ L, .ref hp.1 :: rnS θ r, ip_new (rnH θ η hp) w (rnC θ c)) : ip_A) = Option.map (rnA θ η) (some (.inl (pc, L, .ref hp.1 :: r, ip_new hp w c))) := by
  rw [rn_new h hN]
  show _ = some (.inl (pc, rnL θ L, .ref (θ hp.1) :: rnS θ r, rnH θ η (ip_new hp w c)) : ip_A)
  rw [h.2.2.2 _ hN]
theorem rn_xn0 (h : rnK θ η N) (hN : N ≤ hp.1) {n : Int32} {t : Nat} {x : (Nat → Int32) ⊕ (Nat → Int64) ⊕ (Nat → UInt32) ⊕ (Nat → UInt64) ⊕ (Nat → Option Nat)} (hx : rnC θ (.inl (t, n.toNatClampNeg, x)) = .inl (t, n.toNatClampNeg, x)) : (if ¬ n < 0 ∧ n.toNatClampNeg * 8 ≤ 536870912 then some (.inl (pc, rnL θ L, .ref hp.1 :: rnS θ r, ip_new (rnH θ η hp) n.toNatClampNeg (.inl (t, n.toNatClampNeg, x))) : ip_A) else none) = Option.map (rnA θ η) (if ¬ n < 0 ∧ n.toNatClampNeg * 8 ≤ 536870912 then some (.inl (pc, L, .ref hp.1 :: r, ip_new hp n.toNatClampNeg (.inl (t, n.toNatClampNeg, x))) : ip_A) else none) := by
  rw [rn_if]
  have e := rn_nx (L := L) (pc := pc) (r := r) h hN (w := n.toNatClampNeg) (c := .inl (t, n.toNatClampNeg, x))
  rw [hx] at e
  rw [e]
  rfl
theorem rn_xna (h : rnK θ η N) (hN : N ≤ hp.1) {t : ArrayType} : ip_xna t pc (rnL θ L) (rnH θ η hp) (rnS θ st) = (ip_xna t pc L hp st).map (rnA θ η) := by
  match st with
  | [] => rfl
  | .int n :: r =>
    cases t
    case boolean => exact rn_xn0 h hN (t := 3) (x := .inl (fun _ => 0)) rfl
    case byte => exact rn_xn0 h hN (t := 0) (x := .inl (fun _ => 0)) rfl
    case int => exact rn_xn0 h hN (t := 1) (x := .inl (fun _ => 0)) rfl
    case long => exact rn_xn0 h hN (t := 2) (x := .inr (.inl (fun _ => 0))) rfl
    all_goals rfl
  | .long x :: r => rfl
  | .float x :: r => rfl
  | .double x :: r => rfl
  | .null :: r => rfl
  | .ref x :: r => rfl
  | .retAddr x :: r => rfl
theorem rn_xan (h : rnK θ η N) (hN : N ≤ hp.1) : ip_xan cn idx pc (rnL θ L) (rnH θ η hp) (rnS θ st) = (ip_xan cn idx pc L hp st).map (rnA θ η) := by
  match st with
  | [] => rfl
  | .int n :: r =>
    show (ip_la cn idx).bind (fun t => if ¬ n < 0 ∧ n.toNatClampNeg * 8 ≤ 536870912 then some (.inl (pc, rnL θ L, .ref hp.1 :: rnS θ r, ip_new (rnH θ η hp) n.toNatClampNeg (.inl (t, n.toNatClampNeg, .inr (.inr (.inr (.inr (fun _ => none))))))) : ip_A) else none) = Option.map (rnA θ η) ((ip_la cn idx).bind (fun t => if ¬ n < 0 ∧ n.toNatClampNeg * 8 ≤ 536870912 then some (.inl (pc, L, .ref hp.1 :: r, ip_new hp n.toNatClampNeg (.inl (t, n.toNatClampNeg, .inr (.inr (.inr (.inr (fun _ => none))))))) : ip_A) else none))
    cases ip_la cn idx with
    | none => rfl
    | some t => exact rn_xn0 h hN (t := t) (x := .inr (.inr (.inr (.inr (fun _ => none))))) rfl
  | .long x :: r => rfl
  | .float x :: r => rfl
  | .double x :: r => rfl
  | .null :: r => rfl
  | .ref x :: r => rfl
  | .retAddr x :: r => rfl
theorem rn_xmu (h : rnK θ η N) (hN : N ≤ hp.1) {dims : Nat} : ip_xmu cn idx dims pc (rnL θ L) (rnH θ η hp) (rnS θ st) = (ip_xmu cn idx dims pc L hp st).map (rnA θ η) := by
  match st with
  | [] => rfl
  | [x] => cases x <;> rfl
  | x :: y :: r =>
    cases x <;> cases y <;> first | rfl | skip
    rename_i k n
    show (ip_lu cn idx).bind (fun q => if dims = 2 ∧ ¬ n < 0 ∧ ¬ k < 0 ∧ n.toNatClampNeg * 8 ≤ 536870912 ∧ k.toNatClampNeg * 8 ≤ 536870912 then some (.inl (pc, rnL θ L, .ref hp.1 :: rnS θ r, ip_mul (rnH θ η hp) q.1 q.2 n.toNatClampNeg k.toNatClampNeg (k.toNatClampNeg, if q.2 = 1 then .inl (fun _ => 0) else .inr (.inl (fun _ => 0)))) : ip_A) else none) = Option.map (rnA θ η) ((ip_lu cn idx).bind (fun q => if dims = 2 ∧ ¬ n < 0 ∧ ¬ k < 0 ∧ n.toNatClampNeg * 8 ≤ 536870912 ∧ k.toNatClampNeg * 8 ≤ 536870912 then some (.inl (pc, L, .ref hp.1 :: r, ip_mul hp q.1 q.2 n.toNatClampNeg k.toNatClampNeg (k.toNatClampNeg, if q.2 = 1 then .inl (fun _ => 0) else .inr (.inl (fun _ => 0)))) : ip_A) else none))
    cases ip_lu cn idx with
    | none => rfl
    | some q =>
      show (if dims = 2 ∧ ¬ n < 0 ∧ ¬ k < 0 ∧ n.toNatClampNeg * 8 ≤ 536870912 ∧ k.toNatClampNeg * 8 ≤ 536870912 then some (.inl (pc, rnL θ L, .ref hp.1 :: rnS θ r, ip_mul (rnH θ η hp) q.1 q.2 n.toNatClampNeg k.toNatClampNeg (k.toNatClampNeg, if q.2 = 1 then .inl (fun _ => 0) else .inr (.inl (fun _ => 0)))) : ip_A) else none) = Option.map (rnA θ η) (if dims = 2 ∧ ¬ n < 0 ∧ ¬ k < 0 ∧ n.toNatClampNeg * 8 ≤ 536870912 ∧ k.toNatClampNeg * 8 ≤ 536870912 then some (.inl (pc, L, .ref hp.1 :: r, ip_mul hp q.1 q.2 n.toNatClampNeg k.toNatClampNeg (k.toNatClampNeg, if q.2 = 1 then .inl (fun _ => 0) else .inr (.inl (fun _ => 0)))) : ip_A) else none)
      have hz : rnC θ (.inl (q.2, k.toNatClampNeg, if q.2 = 1 then .inl (fun _ => 0) else .inr (.inl (fun _ => 0)))) = .inl (q.2, k.toNatClampNeg, if q.2 = 1 then .inl (fun _ => 0) else .inr (.inl (fun _ => 0))) := by
        by_cases hq : q.2 = 1
        · simp only [if_pos hq]
          rfl
        · simp only [if_neg hq]
          rfl
      rw [rn_mul h hN hz, rn_if]
      show _ = (if _ then some (.inl (pc, rnL θ L, .ref (θ hp.1) :: rnS θ r, rnH θ η (ip_mul hp q.1 q.2 n.toNatClampNeg k.toNatClampNeg (k.toNatClampNeg, if q.2 = 1 then .inl (fun _ => 0) else .inr (.inl (fun _ => 0))))) : ip_A) else none)
      rw [h.2.2.2 _ hN]
def rnN : Value → Bool
  | .ref _ => false
  | _ => true
theorem rn_df : ip_df.all (fun fs => fs.all rnN) = true := by rfl
theorem rn_nr {fs : List Value} (h : fs.all rnN = true) : fs.map (ip_v θ) = fs := by
  induction fs with
  | nil => rfl
  | cons v fs ih =>
    rw [List.all_cons, Bool.and_eq_true] at h
    show ip_v θ v :: fs.map (ip_v θ) = v :: fs
    rw [ih h.2]
    cases v <;> first | rfl | exact absurd h.1 Bool.false_ne_true
theorem rn_xnw (h : rnK θ η N) (hN : N ≤ hp.1) : ip_xnw cn idx pc (rnL θ L) (rnH θ η hp) (rnS θ st) = (ip_xnw cn idx pc L hp st).map (rnA θ η) := by
  unfold ip_xnw
  cases ip_ln cn idx with
  | none => rfl
  | some ci =>
    show (ip_df[ci]?).map (fun fs => (.inl (pc, rnL θ L, .ref hp.1 :: rnS θ st, ip_new (rnH θ η hp) fs.length (.inr (ci, fs))) : ip_A)) = Option.map (rnA θ η) ((ip_df[ci]?).map (fun fs => (.inl (pc, L, .ref hp.1 :: st, ip_new hp fs.length (.inr (ci, fs))) : ip_A)))
    cases hf : ip_df[ci]? with
    | none => rfl
    | some fs =>
      have e := rn_nx (L := L) (pc := pc) (r := st) h hN (w := fs.length) (c := .inr (ci, fs))
      have e2 : rnC θ (.inr (ci, fs)) = .inr (ci, fs) := by
        show (Sum.inr (ci, fs.map (ip_v θ)) : ip_C) = _
        rw [rn_nr (List.all_eq_true.mp rn_df fs (List.mem_of_getElem? hf))]
      rw [e2] at e
      exact e
/-! calls, returns -/
theorem rn_inv (h : rnK θ η N) {q : Nat × Nat × Nat} : ip_inv (rnH θ η hp) q (rnS θ st) = (ip_inv hp q st).map (rnA θ η) := by
  have l : (rnS θ st).length = st.length := by
    unfold rnS
    rw [List.length_map]
  have d1 : (rnS θ st).drop q.2.2 = rnS θ (st.drop q.2.2) := by simp only [rnS, List.map_drop]
  have t1 : ((rnS θ st).take q.2.2).reverse = rnS θ ((st.take q.2.2).reverse) := by simp only [rnS, List.map_take, List.map_reverse]
  unfold ip_inv
  rw [l, d1, t1]
  by_cases h1 : st.length < q.2.2
  · rw [if_pos h1, if_pos h1]
    rfl
  · rw [if_neg h1, if_neg h1]
    by_cases h2 : q.1 = 1 ∨ q.1 = 4
    · rw [if_pos h2, if_pos h2, rn_rs, rn_if]
      rfl
    · rw [if_neg h2, if_neg h2]
      match st.drop q.2.2 with
      | [] => rfl
      | .ref b :: r =>
        have e : (fun z : ip_I => ip_isO (rnH θ η hp) (θ b) z.1) = fun z => ip_isO hp b z.1 := funext fun z => rn_isO h
        show (if ip_rs (rnS θ r) = true ∧ (q.1 = 2 ∨ q.1 = 5 ∨ ((ip_M[q.2.1]?).map (fun z => ip_isO (rnH θ η hp) (θ b) z.1)) = some true) then some (.inr (.inr (q.2.1, .ref (θ b) :: rnS θ ((st.take q.2.2).reverse), rnS θ r)) : ip_A) else none) = Option.map (rnA θ η) (if ip_rs r = true ∧ (q.1 = 2 ∨ q.1 = 5 ∨ ((ip_M[q.2.1]?).map (fun z => ip_isO hp b z.1)) = some true) then some (.inr (.inr (q.2.1, .ref b :: (st.take q.2.2).reverse, r)) : ip_A) else none)
        rw [e, rn_rs, rn_if]
        rfl
      | .int x :: r => rfl
      | .long x :: r => rfl
      | .float x :: r => rfl
      | .double x :: r => rfl
      | .null :: r => rfl
      | .retAddr x :: r => rfl
theorem rn_lm (h : rnK θ η N) {c : Nat × Nat × Nat → Prop} [∀ q, Decidable (c q)] : (ip_lm cn idx).bind (fun q => if c q then ip_inv (rnH θ η hp) q (rnS θ st) else none) = ((ip_lm cn idx).bind (fun q => if c q then ip_inv hp q st else none)).map (rnA θ η) := by
  cases ip_lm cn idx with
  | none => rfl
  | some q =>
    show (if c q then ip_inv (rnH θ η hp) q (rnS θ st) else none) = Option.map (rnA θ η) (if c q then ip_inv hp q st else none)
    rw [rn_inv h, rn_if]
    rfl
theorem rn_xvi (h : rnK θ η N) : ip_xvi cn idx (rnH θ η hp) (rnS θ st) = (ip_xvi cn idx hp st).map (rnA θ η) := rn_lm h (c := fun q => q.1 = 0 ∨ q.1 = 3)
theorem rn_xcp (h : rnK θ η N) : ip_xcp d pc (rnL θ L) (rnH θ η hp) (rnS θ st) = (ip_xcp d pc L hp st).map (rnA θ η) := by
  match st with
  | [] => rfl
  | [x] => cases x <;> rfl
  | [x, y] => cases x <;> cases y <;> rfl
  | [x, y, z] =>
    cases x <;> first | rfl | skip
    cases y <;> first | rfl | skip
    cases z <;> rfl
  | [x, y, z, u] =>
    cases x <;> first | rfl | skip
    cases y <;> first | rfl | skip
    cases z <;> first | rfl | skip
    cases u <;> rfl
  | x :: y :: z :: u :: v :: r =>
    cases x <;> first | rfl | skip
    cases y <;> first | rfl | skip
    cases z <;> first | rfl | skip
    cases u <;> first | rfl | skip
    cases v <;> first | rfl | skip
    rename_i n dp a1 sp a0
    show (if 0 < d ∧ ip_rs (rnS θ r) = true then (ip_cp (rnH θ η hp) (θ a0) sp (θ a1) dp n).map (fun h => (.inl (pc, rnL θ L, rnS θ r, h) : ip_A)) else none) = Option.map (rnA θ η) (if 0 < d ∧ ip_rs r = true then (ip_cp hp a0 sp a1 dp n).map (fun h => (.inl (pc, L, r, h) : ip_A)) else none)
    rw [rn_rs, rn_cp h, rn_if]
    have e : ((ip_cp hp a0 sp a1 dp n).map (rnH θ η)).map (fun h => (.inl (pc, rnL θ L, rnS θ r, h) : ip_A)) = ((ip_cp hp a0 sp a1 dp n).map (fun h => (.inl (pc, L, r, h) : ip_A))).map (rnA θ η) := rn_m2 (fun v => rfl)
    rw [e]
    rfl
theorem rn_xmm {f : Int32 → Int32 → Int32} : ip_xmm f d pc (rnL θ L) (rnH θ η hp) (rnS θ st) = (ip_xmm f d pc L hp st).map (rnA θ η) := by
  match st with
  | [] => rfl
  | [x] => cases x <;> rfl
  | x :: y :: r =>
    cases x <;> cases y <;> first | rfl | skip
    rename_i y x
    show (if 0 < d ∧ ip_rs (rnS θ r) = true then some (.inl (pc, rnL θ L, .int (f x y) :: rnS θ r, rnH θ η hp) : ip_A) else none) = Option.map (rnA θ η) (if 0 < d ∧ ip_rs r = true then some (.inl (pc, L, .int (f x y) :: r, hp) : ip_A) else none)
    rw [rn_rs, rn_if]
    rfl
theorem rn_xst (h : rnK θ η N) : ip_xst d cn idx pc (rnL θ L) (rnH θ η hp) (rnS θ st) = (ip_xst d cn idx pc L hp st).map (rnA θ η) := by
  unfold ip_xst
  match ip_ls cn idx with
  | none => exact rn_lm h (c := fun q => q.1 = 1 ∨ q.1 = 4)
  | some 0 => exact rn_lm h (c := fun q => q.1 = 1 ∨ q.1 = 4)
  | some 1 => exact rn_xcp h
  | some 2 => exact rn_xmm
  | some 3 => exact rn_xmm
  | some (k + 4) => exact rn_lm h (c := fun q => q.1 = 1 ∨ q.1 = 4)
theorem rn_xoi : ip_xoi d pc (rnL θ L) (rnH θ η hp) (rnS θ st) = (ip_xoi d pc L hp st).map (rnA θ η) := by
  match st with
  | [] => rfl
  | .ref a :: r =>
    show (if 0 < d ∧ ip_rs (rnS θ r) = true then some (.inl (pc, rnL θ L, rnS θ r, rnH θ η hp) : ip_A) else none) = Option.map (rnA θ η) (if 0 < d ∧ ip_rs r = true then some (.inl (pc, L, r, hp) : ip_A) else none)
    rw [rn_rs, rn_if]
    rfl
  | .int x :: r => rfl
  | .long x :: r => rfl
  | .float x :: r => rfl
  | .double x :: r => rfl
  | .null :: r => rfl
  | .retAddr x :: r => rfl
theorem rn_xsp (h : rnK θ η N) : ip_xsp d cn idx pc (rnL θ L) (rnH θ η hp) (rnS θ st) = (ip_xsp d cn idx pc L hp st).map (rnA θ η) := by
  unfold ip_xsp
  match ip_ls cn idx with
  | none => exact rn_lm h (c := fun q => q.1 = 2 ∨ q.1 = 5)
  | some 0 => exact rn_xoi
  | some (k + 1) => exact rn_lm h (c := fun q => q.1 = 2 ∨ q.1 = 5)
theorem rn_ret {rt : Option FieldType} : ip_ret rt (rnS θ st) = (ip_ret rt st).map (rnA θ η) := by
  match st with
  | [] => rfl
  | [x] =>
    cases x <;> first | rfl | skip
    rename_i v
    show (if rt = some .int ∨ (rt = some .boolean ∧ (v = 0 ∨ v = 1)) then some (.inr (.inl (some (.int v))) : ip_A) else none) = Option.map (rnA θ η) (if rt = some .int ∨ (rt = some .boolean ∧ (v = 0 ∨ v = 1)) then some (.inr (.inl (some (.int v))) : ip_A) else none)
    rw [rn_if]
    rfl
  | x :: y :: r => cases x <;> rfl
theorem rn_lret {rt : Option FieldType} : ip_lret rt (rnS θ st) = (ip_lret rt st).map (rnA θ η) := by
  match st with
  | [] => rfl
  | [x] =>
    cases x <;> first | rfl | skip
    rename_i v
    show (if rt = some .long then some (.inr (.inl (some (.long v))) : ip_A) else none) = Option.map (rnA θ η) (if rt = some .long then some (.inr (.inl (some (.long v))) : ip_A) else none)
    rw [rn_if]
    rfl
  | x :: y :: r => cases x <;> rfl
theorem rn_vret {rt : Option FieldType} : ip_vret rt (rnS θ st) = (ip_vret rt st).map (rnA θ η) := by
  match st with
  | [] =>
    show (if rt = none then some (.inr (.inl none) : ip_A) else none) = Option.map (rnA θ η) (if rt = none then some (.inr (.inl none) : ip_A) else none)
    rw [rn_if]
    rfl
  | x :: r => rfl
set_option maxHeartbeats 2000000 in
theorem rn_act (h : rnK θ η N) (hN : N ≤ hp.1) {i : Instr} {ini : Bool} {rt : Option FieldType} {len : Nat} : ip_act d cn ini rt i pc len (rnL θ L) (rnS θ st) (rnH θ η hp) = (ip_act d cn ini rt i pc len L st hp).map (rnA θ η) := by
  cases i
  case iadd => exact rn_sg rn_ii
  case isub => exact rn_sg rn_ii
  case imul => exact rn_sg rn_ii
  case iand => exact rn_sg rn_ii
  case idiv => exact rn_sg rn_id
  case irem => exact rn_sg rn_id
  case ineg => exact rn_sg (rn_i1 (fun _ => rfl))
  case ladd => exact rn_sg (rn_ll (fun _ _ => rfl))
  case lsub => exact rn_sg (rn_ll (fun _ _ => rfl))
  case lmul => exact rn_sg (rn_ll (fun _ _ => rfl))
  case land => exact rn_sg (rn_ll (fun _ _ => rfl))
  case lor => exact rn_sg (rn_ll (fun _ _ => rfl))
  case lxor => exact rn_sg (rn_ll (fun _ _ => rfl))
  case lcmp => exact rn_sg (rn_ll (fun _ _ => rfl))
  case ldiv => exact rn_sg rn_ld2
  case lrem => exact rn_sg rn_ld2
  case lneg => exact rn_sg (rn_l1 (fun _ => rfl))
  case l2i => exact rn_sg (rn_l1 (fun _ => rfl))
  case lshl => exact rn_sg rn_li
  case lushr => exact rn_sg rn_li
  case i2l => exact rn_sg (rn_i1 (fun _ => rfl))
  case i2b => exact rn_sg (rn_i1 (fun _ => rfl))
  case dup => exact rn_sg rn_dup
  case dup2 => exact rn_sg rn_dup2
  case iconst n => rfl
  case bipush n => rfl
  case sipush n => rfl
  case lconst n => rfl
  case ldc2_w idx => exact rn_m1 (fun _ => rfl)
  case iload_n n => exact rn_sg rn_iload
  case iload n => exact rn_sg rn_iload
  case lload_n n => exact rn_sg rn_lload
  case lload n => exact rn_sg rn_lload
  case aload_n n => exact rn_sg rn_aload
  case aload n => exact rn_sg rn_aload
  case istore_n n => exact rn_lg rn_istore
  case istore n => exact rn_lg rn_istore
  case lstore_n n => exact rn_lg rn_lstore
  case lstore n => exact rn_lg rn_lstore
  case astore_n n => exact rn_lg rn_astore
  case astore n => exact rn_lg rn_astore
  case iinc k n =>
    show (if len = 3 then (ip_iinc (rnL θ L) k n).map (fun L => (.inl (pc + 3, L, rnS θ st, rnH θ η hp) : ip_A)) else none) = Option.map (rnA θ η) (if len = 3 then (ip_iinc L k n).map (fun L => (.inl (pc + 3, L, st, hp) : ip_A)) else none)
    rw [rn_iinc, rn_if]
    have e : ((ip_iinc L k n).map (rnL θ)).map (fun L => (.inl (pc + 3, L, rnS θ st, rnH θ η hp) : ip_A)) = ((ip_iinc L k n).map (fun L => (.inl (pc + 3, L, st, hp) : ip_A))).map (rnA θ η) := rn_m2 (fun v => rfl)
    rw [e]
    rfl
  case ifCond cnd off => cases cnd <;> exact rn_b1
  case if_icmp cnd off => cases cnd <;> exact rn_b2
  case goto off => exact rn_m1 (fun _ => rfl)
  case tableswitch a b c d => exact rn_tsw
  case lookupswitch a b => exact rn_lsw
  case getfield idx => exact rn_xgf h
  case putfield idx => exact rn_xpf h
  case getstatic idx =>
    show (if ip_lg cn idx = true then some (.inl (pc + 3, rnL θ L, .ref 1 :: rnS θ st, rnH θ η hp) : ip_A) else none) = Option.map (rnA θ η) (if ip_lg cn idx = true then some (.inl (pc + 3, L, .ref 1 :: st, hp) : ip_A) else none)
    rw [rn_if]
    show _ = (if _ then some (.inl (pc + 3, rnL θ L, .ref (θ 1) :: rnS θ st, rnH θ η hp) : ip_A) else none)
    rw [h.2.2.1]
  case new idx => exact rn_xnw h hN
  case iaload => exact rn_xia h
  case baload => exact rn_xba h
  case laload => exact rn_xja h
  case aaload => exact rn_xaa h
  case iastore => exact rn_xis h
  case bastore => exact rn_xbs h
  case lastore => exact rn_xjs h
  case aastore => exact rn_xas h
  case arraylength => exact rn_xlen h
  case newarray t => exact rn_xna h hN
  case anewarray idx => exact rn_xan h hN
  case multianewarray idx dims => exact rn_xmu h hN
  case invokevirtual idx => exact rn_xvi h
  case invokestatic idx => exact rn_xst h
  case invokespecial idx => exact rn_xsp h
  case ireturn => exact rn_ret
  case lreturn => exact rn_lret
  case return_ => exact rn_vret
  all_goals rfl
theorem rn_one (h : rnK θ η N) (hN : N ≤ hp.1) {m : Nat} : ip_one d m pc (rnL θ L) (rnS θ st) (rnH θ η hp) = (ip_one d m pc L st hp).map (rnA θ η) := by
  unfold ip_one
  cases ip_M[m]? with
  | none => rfl
  | some q =>
    dsimp only
    cases decode q.2.2.1 pc with
    | error e => rfl
    | ok x =>
      obtain ⟨i, len⟩ := x
      dsimp only
      rw [rn_act h hN, rn_if]
      rfl
def rnG (v : Value) : List (Option Value) := if v.category = 2 then [some v, none] else [some v]
theorem rn_fm {as : List Value} : (rnS θ as).flatMap rnG = (as.flatMap rnG).map (Option.map (ip_v θ)) := by
  induction as with
  | nil => rfl
  | cons v as ih =>
    show ((ip_v θ v) :: rnS θ as).flatMap rnG = _
    rw [List.flatMap_cons, List.flatMap_cons, List.map_append, ih]
    congr 1
    unfold rnG
    rw [ip_v_cat]
    by_cases hv : v.category = 2
    · rw [if_pos hv, if_pos hv]
      rfl
    · rw [if_neg hv, if_neg hv]
      rfl
theorem rn_in0 {m : Nat} {as : List Value} : ip_in0 m (rnS θ as) = (ip_in0 m as).map (rnL θ) := by
  unfold ip_in0
  cases ip_M[m]? with
  | none => rfl
  | some q =>
    show (if ((rnS θ as).flatMap rnG).length ≤ q.2.2.2.1 then some ((rnS θ as).flatMap rnG ++ List.replicate (q.2.2.2.1 - ((rnS θ as).flatMap rnG).length) none) else none) = Option.map (rnL θ) (if (as.flatMap rnG).length ≤ q.2.2.2.1 then some (as.flatMap rnG ++ List.replicate (q.2.2.2.1 - (as.flatMap rnG).length) none) else none)
    rw [rn_fm, List.length_map, rn_if]
    show _ = (if _ then some (List.map (Option.map (ip_v θ)) (as.flatMap rnG ++ List.replicate (q.2.2.2.1 - (as.flatMap rnG).length) none)) else none)
    rw [List.map_append, List.map_replicate]
    rfl
theorem rn_tl {v : Option Value} : (v.map (ip_v θ)).toList ++ rnS θ r = rnS θ (v.toList ++ r) := by cases v <;> rfl
theorem rn_run (h : rnK θ η N) : ∀ (n d m pc : Nat) (L : ip_L) (st : List Value) (hp : ip_H), N ≤ hp.1 → ip_run n d m pc (rnL θ L) (rnS θ st) (rnH θ η hp) = (ip_run n d m pc L st hp).map (fun r => (r.1.map (ip_v θ), rnH θ η r.2)) := by
  intro n
  induction n with
  | zero =>
    intro d m pc L st hp hN
    rfl
  | succ n ih =>
    intro d m pc L st hp hN
    rw [ip_run_s, ip_run_s, rn_one h hN]
    cases ho : ip_one d m pc L st hp with
    | none => rfl
    | some a =>
      match a, ho with
      | .inl (pc', L', st', hp'), ho =>
        obtain ⟨q, i, len, -, -, -, ha⟩ := ip_one_inv ho
        exact ih _ _ _ _ _ _ (Nat.le_trans hN (act_grow ha).1)
      | .inr (.inl v), ho => rfl
      | .inr (.inr (m', as, r)), ho =>
        match d with
        | 0 => rfl
        | d' + 1 =>
          show (ip_in0 m' (rnS θ as)).bind (fun L0 => (ip_run n d' m' 0 L0 [] (rnH θ η hp)).bind fun x => ip_run n (d' + 1) m (pc + 3) (rnL θ L) (x.1.toList ++ rnS θ r) x.2) = Option.map (fun r => (r.1.map (ip_v θ), rnH θ η r.2)) ((ip_in0 m' as).bind fun L0 => (ip_run n d' m' 0 L0 [] hp).bind fun x => ip_run n (d' + 1) m (pc + 3) L (x.1.toList ++ r) x.2)
          rw [rn_in0]
          cases ip_in0 m' as with
          | none => rfl
          | some L0 =>
            have e1 : ip_run n d' m' 0 (rnL θ L0) [] (rnH θ η hp) = (ip_run n d' m' 0 L0 [] hp).map (fun r => (r.1.map (ip_v θ), rnH θ η r.2)) := ih d' m' 0 L0 [] hp hN
            show (ip_run n d' m' 0 (rnL θ L0) [] (rnH θ η hp)).bind (fun x => ip_run n (d' + 1) m (pc + 3) (rnL θ L) (x.1.toList ++ rnS θ r) x.2) = Option.map (fun r => (r.1.map (ip_v θ), rnH θ η r.2)) ((ip_run n d' m' 0 L0 [] hp).bind fun x => ip_run n (d' + 1) m (pc + 3) L (x.1.toList ++ r) x.2)
            rw [e1]
            cases hx : ip_run n d' m' 0 L0 [] hp with
            | none => rfl
            | some x =>
              have e2 := ih (d' + 1) m (pc + 3) L (x.1.toList ++ r) x.2 (Nat.le_trans hN (run_grow _ _ _ _ _ _ _ _ hx).1)
              rw [← rn_tl] at e2
              exact e2
theorem rn_go (h : rnK θ η N) (hN : N ≤ hp.1) {m : Nat} {x : ip_R} (hr : ip_go d m pc L st hp = some x) : ip_go d m pc (rnL θ L) (rnS θ st) (rnH θ η hp) = some (x.1.map (ip_v θ), rnH θ η x.2) := by
  obtain ⟨n, hn⟩ := ip_go_iff.mp hr
  exact ip_go_iff.mpr ⟨n, by rw [rn_run h _ _ _ _ _ _ _ hN, hn]; rfl⟩
end RN
