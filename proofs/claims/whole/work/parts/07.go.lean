/-! runs of the pure machine as equations -/
theorem ip_run_s (n d m pc : Nat) (L : ip_L) (st : List Value) (hp : ip_H) : ip_run (n + 1) d m pc L st hp = match ip_one d m pc L st hp with
    | none => none
    | some (.inl q) => ip_run n d m q.1 q.2.1 q.2.2.1 q.2.2.2
    | some (.inr (.inl v)) => some (v, hp)
    | some (.inr (.inr q)) => match d with
      | 0 => none
      | d' + 1 => (ip_in0 q.1 q.2.1).bind fun L0 => (ip_run n d' q.1 0 L0 [] hp).bind fun x => ip_run n (d' + 1) m (pc + 3) L (x.1.toList ++ q.2.2) x.2 := by
  rw [ip_run]
  rfl
theorem ip_mono : ∀ (n d m pc : Nat) (L : ip_L) (st : List Value) (hp : ip_H) (r : ip_R), ip_run n d m pc L st hp = some r → ip_run (n + 1) d m pc L st hp = some r := by
  intro n
  induction n with
  | zero =>
    intro d m pc L st hp r h
    cases h
  | succ n ih =>
    intro d m pc L st hp r h
    rw [ip_run_s] at h ⊢
    cases ho : ip_one d m pc L st hp with
    | none => rw [ho] at h; cases h
    | some a =>
      rw [ho] at h
      match a, h with
      | .inl q, h => exact ih _ _ _ _ _ _ _ h
      | .inr (.inl v), h => exact h
      | .inr (.inr q), h =>
        match d, h with
        | 0, h => cases h
        | d' + 1, h =>
          obtain ⟨L0, h1, h2⟩ := Option.bind_eq_some_iff.mp h
          obtain ⟨x, h3, h4⟩ := Option.bind_eq_some_iff.mp h2
          exact Option.bind_eq_some_iff.mpr ⟨L0, h1, Option.bind_eq_some_iff.mpr ⟨x, ih _ _ _ _ _ _ _ h3, ih _ _ _ _ _ _ _ h4⟩⟩
theorem ip_mono' {n k d m pc : Nat} {L : ip_L} {st : List Value} {hp : ip_H} {r : ip_R} (h : ip_run n d m pc L st hp = some r) (hk : n ≤ k) : ip_run k d m pc L st hp = some r := by
  obtain ⟨j, rfl⟩ := Nat.le.dest hk
  induction j with
  | zero => exact h
  | succ j ih => exact ip_mono _ _ _ _ _ _ _ _ (ih (Nat.le_add_right _ _))
theorem ip_ex (d m pc : Nat) (L : ip_L) (st : List Value) (hp : ip_H) : ∃ o : Option ip_R, ∀ r, o = some r ↔ ∃ n, ip_run n d m pc L st hp = some r := by
  by_cases h : ∃ r n, ip_run n d m pc L st hp = some r
  · obtain ⟨r, n, h⟩ := h
    refine ⟨some r, fun r' => ⟨fun e => ⟨n, by rw [← e]; exact h⟩, fun ⟨k, hk⟩ => ?_⟩⟩
    have h1 := ip_mono' h (Nat.le_max_left n k)
    have h2 := ip_mono' hk (Nat.le_max_right n k)
    rw [← h1, h2]
  · exact ⟨none, fun r' => ⟨fun e => (by cases e), fun ⟨k, hk⟩ => absurd ⟨r', k, hk⟩ h⟩⟩
noncomputable def ip_go (d m pc : Nat) (L : ip_L) (st : List Value) (hp : ip_H) : Option ip_R := Classical.choose (ip_ex d m pc L st hp)
theorem ip_go_iff {d m pc : Nat} {L : ip_L} {st : List Value} {hp : ip_H} {r : ip_R} : ip_go d m pc L st hp = some r ↔ ∃ n, ip_run n d m pc L st hp = some r := Classical.choose_spec (ip_ex d m pc L st hp) r
noncomputable def ip_call (d m : Nat) (as : List Value) (hp : ip_H) : Option ip_R := (ip_in0 m as).bind fun L0 => ip_go d m 0 L0 [] hp
theorem go_none {d m pc : Nat} {L : ip_L} {st : List Value} {hp : ip_H} (h : ip_one d m pc L st hp = none) : ip_go d m pc L st hp = none := by
  cases hg : ip_go d m pc L st hp with
  | none => rfl
  | some r =>
    obtain ⟨n, hn⟩ := ip_go_iff.mp hg
    cases n with
    | zero => cases hn
    | succ n => rw [ip_run_s, h] at hn; cases hn
theorem go_step {d m pc : Nat} {L : ip_L} {st : List Value} {hp : ip_H} {pc' : Nat} {L' : ip_L} {st' : List Value} {hp' : ip_H} (h : ip_one d m pc L st hp = some (.inl (pc', L', st', hp'))) : ip_go d m pc L st hp = ip_go d m pc' L' st' hp' := by
  refine Option.ext fun r => ?_
  rw [ip_go_iff, ip_go_iff]
  constructor
  · rintro ⟨n, hn⟩
    cases n with
    | zero => cases hn
    | succ n => rw [ip_run_s, h] at hn; exact ⟨n, hn⟩
  · rintro ⟨n, hn⟩
    exact ⟨n + 1, by rw [ip_run_s, h]; exact hn⟩
theorem go_ret {d m pc : Nat} {L : ip_L} {st : List Value} {hp : ip_H} {v : Option Value} (h : ip_one d m pc L st hp = some (.inr (.inl v))) : ip_go d m pc L st hp = some (v, hp) :=
  ip_go_iff.mpr ⟨1, by rw [ip_run_s, h]⟩
theorem go_call {d m pc : Nat} {L : ip_L} {st : List Value} {hp : ip_H} {m' : Nat} {as r : List Value} (h : ip_one (d + 1) m pc L st hp = some (.inr (.inr (m', as, r)))) :
    ip_go (d + 1) m pc L st hp = (ip_call d m' as hp).bind fun x => ip_go (d + 1) m (pc + 3) L (x.1.toList ++ r) x.2 := by
  refine Option.ext fun y => ?_
  rw [ip_go_iff]
  constructor
  · rintro ⟨n, hn⟩
    cases n with
    | zero => cases hn
    | succ n =>
      rw [ip_run_s, h] at hn
      obtain ⟨L0, h1, h2⟩ := Option.bind_eq_some_iff.mp hn
      obtain ⟨x, h3, h4⟩ := Option.bind_eq_some_iff.mp h2
      exact Option.bind_eq_some_iff.mpr ⟨x, Option.bind_eq_some_iff.mpr ⟨L0, h1, ip_go_iff.mpr ⟨n, h3⟩⟩, ip_go_iff.mpr ⟨n, h4⟩⟩
  · intro hy
    obtain ⟨x, hc, h4⟩ := Option.bind_eq_some_iff.mp hy
    obtain ⟨L0, h1, h3⟩ := Option.bind_eq_some_iff.mp hc
    obtain ⟨n1, h3⟩ := ip_go_iff.mp h3
    obtain ⟨n2, h4⟩ := ip_go_iff.mp h4
    refine ⟨max n1 n2 + 1, ?_⟩
    rw [ip_run_s, h]
    exact Option.bind_eq_some_iff.mpr ⟨L0, h1, Option.bind_eq_some_iff.mpr ⟨x, ip_mono' h3 (Nat.le_max_left _ _), ip_mono' h4 (Nat.le_max_right _ _)⟩⟩
theorem go_bind {α : Type} {d m pc : Nat} {L : ip_L} {st : List Value} {hp : ip_H} {o : Option α} {f : α → Nat × ip_L × List Value × ip_H} (h : ip_one d m pc L st hp = o.map (fun v => .inl (f v))) : ip_go d m pc L st hp = o.bind (fun v => ip_go d m (f v).1 (f v).2.1 (f v).2.2.1 (f v).2.2.2) := by
  cases o with
  | none => exact go_none h
  | some v => exact go_step h
theorem ip_one_eq {d m pc len : Nat} {L : ip_L} {st : List Value} {hp : ip_H} {q : ip_I} {i : Instr} (hm : ip_M[m]? = some q) (hd : decode q.2.2.1 pc = .ok (i, len)) (hl : ip_il i len = true) : ip_one d m pc L st hp = ip_act d q.1 (q.2.1.name == "<init>") q.2.2.2.2 i pc len L st hp := by
  simp only [ip_one, hm, hd, hl, if_true]
theorem ip_one_inv {d m pc : Nat} {L : ip_L} {st : List Value} {hp : ip_H} {a : ip_A} (h : ip_one d m pc L st hp = some a) : ∃ q i len, ip_M[m]? = some q ∧ decode q.2.2.1 pc = .ok (i, len) ∧ ip_il i len = true ∧ ip_act d q.1 (q.2.1.name == "<init>") q.2.2.2.2 i pc len L st hp = some a := by
  unfold ip_one at h
  split at h
  · cases h
  · rename_i q hq
    split at h
    · cases h
    · rename_i i len hd
      split at h
      · rename_i hl
        exact ⟨q, i, len, hq, hd, hl, h⟩
      · cases h
