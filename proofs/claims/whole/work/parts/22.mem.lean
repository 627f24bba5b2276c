/-! the memory behind the two constructors, by its layout: what each cell is never changes; ints, longs by cell and place; the one reference that is set anew (Walker.trace) -/
abbrev ip_Mm : Type := (Nat → Nat → Int32) × (Nat → Nat → Int64) × Nat
/-- a cell's shape: an array of numbers (type, length); an array of references (type, length, the references); an object (class; of each field 0: int, 1: long, 2: Walker.trace, k + 3: the cell k) -/
abbrev ip_Sh : Type := (Nat × Nat) ⊕ (Nat × List Nat) ⊕ (Nat × List Nat)
def ip_ly0 : List ip_Sh := [.inr (.inr (8, [44, 6, 42, 43, 88, 0, 0])), .inr (.inr (0, [7, 8, 9, 0, 0])), .inr (.inl (5, [7, 11, 15, 19, 23, 27, 31, 35])), .inl (1, 24), .inl (1, 16), .inr (.inr (3, [11, 12, 13, 0])), .inl (1, 20), .inl (2, 20), .inl (1, 20), .inr (.inr (3, [15, 16, 17, 0])), .inl (1, 20), .inl (2, 20), .inl (1, 20), .inr (.inr (3, [19, 20, 21, 0])), .inl (1, 20), .inl (2, 20), .inl (1, 20), .inr (.inr (3, [23, 24, 25, 0])), .inl (1, 20), .inl (2, 20), .inl (1, 20), .inr (.inr (3, [27, 28, 29, 0])), .inl (1, 20), .inl (2, 20), .inl (1, 20), .inr (.inr (3, [31, 32, 33, 0])), .inl (1, 20), .inl (2, 20), .inl (1, 20), .inr (.inr (3, [35, 36, 37, 0])), .inl (1, 20), .inl (2, 20), .inl (1, 20), .inr (.inr (3, [39, 40, 41, 0])), .inl (1, 20), .inl (2, 20), .inl (1, 20), .inl (2, 54), .inr (.inl (6, [88, 109, 130, 151, 172, 193, 214, 235])), .inr (.inr (7, [6, 45, 46, 53, 54, 55, 2, 0, 1]))]
def ip_ly1 : List ip_Sh := [.inl (2, 66), .inr (.inl (8, [44, 45, 46, 47, 48, 49])), .inl (2, 66), .inl (2, 66), .inl (2, 66), .inl (2, 66), .inl (2, 66), .inl (2, 66), .inl (1, 6), .inr (.inl (4, [73, 75, 77, 79, 81, 83])), .inr (.inr (6, [0, 0, 1, 0, 56, 57, 65, 0, 0, 0, 0, 0, 1, 66, 70, 74, 75])), .inl (2, 54), .inr (.inl (7, [55, 56, 57, 58, 59, 60, 61])), .inl (1, 100), .inl (1, 100), .inl (1, 100), .inl (1, 100), .inl (1, 100), .inl (1, 100), .inl (1, 100), .inl (2, 100), .inr (.inr (5, [67, 68, 69, 0])), .inl (1, 48), .inl (1, 48), .inl (1, 48), .inr (.inr (4, [71, 72, 73, 0])), .inl (1, 40), .inl (2, 40), .inl (2, 40), .inl (2, 6), .inl (2, 6), .inr (.inr (1, [77, 0, 0, 0, 0, 1, 0, 1])), .inl (2, 12), .inr (.inr (1, [79, 0, 0, 0, 0, 1, 0, 1])), .inl (2, 12), .inr (.inr (1, [81, 0, 0, 0, 0, 1, 0, 1])), .inl (2, 12), .inr (.inr (1, [83, 0, 0, 0, 0, 1, 0, 1])), .inl (2, 12), .inr (.inr (1, [85, 0, 0, 0, 0, 1, 0, 1]))]
def ip_ly2 : List ip_Sh := [.inl (2, 12), .inr (.inr (1, [87, 0, 0, 0, 0, 1, 0, 1])), .inl (2, 12), .inr (.inr (2, [89, 90, 0])), .inl (0, 64), .inl (1, 19), .inr (.inr (6, [0, 0, 1, 0, 92, 93, 101, 0, 0, 0, 0, 0, 1, 102, 106, 110, 111])), .inl (2, 54), .inr (.inl (7, [91, 92, 93, 94, 95, 96, 97])), .inl (1, 100), .inl (1, 100), .inl (1, 100), .inl (1, 100), .inl (1, 100), .inl (1, 100), .inl (1, 100), .inl (2, 100), .inr (.inr (5, [103, 104, 105, 0])), .inl (1, 48), .inl (1, 48), .inl (1, 48), .inr (.inr (4, [107, 108, 109, 0])), .inl (1, 40), .inl (2, 40), .inl (2, 40), .inl (2, 6), .inl (2, 6), .inr (.inr (6, [0, 0, 1, 0, 113, 114, 122, 0, 0, 0, 0, 0, 1, 123, 127, 131, 132])), .inl (2, 54), .inr (.inl (7, [112, 113, 114, 115, 116, 117, 118])), .inl (1, 100), .inl (1, 100), .inl (1, 100), .inl (1, 100), .inl (1, 100), .inl (1, 100), .inl (1, 100), .inl (2, 100), .inr (.inr (5, [124, 125, 126, 0])), .inl (1, 48)]
def ip_ly3 : List ip_Sh := [.inl (1, 48), .inl (1, 48), .inr (.inr (4, [128, 129, 130, 0])), .inl (1, 40), .inl (2, 40), .inl (2, 40), .inl (2, 6), .inl (2, 6), .inr (.inr (6, [0, 0, 1, 0, 134, 135, 143, 0, 0, 0, 0, 0, 1, 144, 148, 152, 153])), .inl (2, 54), .inr (.inl (7, [133, 134, 135, 136, 137, 138, 139])), .inl (1, 100), .inl (1, 100), .inl (1, 100), .inl (1, 100), .inl (1, 100), .inl (1, 100), .inl (1, 100), .inl (2, 100), .inr (.inr (5, [145, 146, 147, 0])), .inl (1, 48), .inl (1, 48), .inl (1, 48), .inr (.inr (4, [149, 150, 151, 0])), .inl (1, 40), .inl (2, 40), .inl (2, 40), .inl (2, 6), .inl (2, 6), .inr (.inr (6, [0, 0, 1, 0, 155, 156, 164, 0, 0, 0, 0, 0, 1, 165, 169, 173, 174])), .inl (2, 54), .inr (.inl (7, [154, 155, 156, 157, 158, 159, 160])), .inl (1, 100), .inl (1, 100), .inl (1, 100), .inl (1, 100), .inl (1, 100), .inl (1, 100), .inl (1, 100), .inl (2, 100)]
def ip_ly4 : List ip_Sh := [.inr (.inr (5, [166, 167, 168, 0])), .inl (1, 48), .inl (1, 48), .inl (1, 48), .inr (.inr (4, [170, 171, 172, 0])), .inl (1, 40), .inl (2, 40), .inl (2, 40), .inl (2, 6), .inl (2, 6), .inr (.inr (6, [0, 0, 1, 0, 176, 177, 185, 0, 0, 0, 0, 0, 1, 186, 190, 194, 195])), .inl (2, 54), .inr (.inl (7, [175, 176, 177, 178, 179, 180, 181])), .inl (1, 100), .inl (1, 100), .inl (1, 100), .inl (1, 100), .inl (1, 100), .inl (1, 100), .inl (1, 100), .inl (2, 100), .inr (.inr (5, [187, 188, 189, 0])), .inl (1, 48), .inl (1, 48), .inl (1, 48), .inr (.inr (4, [191, 192, 193, 0])), .inl (1, 40), .inl (2, 40), .inl (2, 40), .inl (2, 6), .inl (2, 6), .inr (.inr (6, [0, 0, 1, 0, 197, 198, 206, 0, 0, 0, 0, 0, 1, 207, 211, 215, 216])), .inl (2, 54), .inr (.inl (7, [196, 197, 198, 199, 200, 201, 202])), .inl (1, 100), .inl (1, 100), .inl (1, 100), .inl (1, 100), .inl (1, 100), .inl (1, 100)]
def ip_ly5 : List ip_Sh := [.inl (1, 100), .inl (2, 100), .inr (.inr (5, [208, 209, 210, 0])), .inl (1, 48), .inl (1, 48), .inl (1, 48), .inr (.inr (4, [212, 213, 214, 0])), .inl (1, 40), .inl (2, 40), .inl (2, 40), .inl (2, 6), .inl (2, 6), .inr (.inr (6, [0, 0, 1, 0, 218, 219, 227, 0, 0, 0, 0, 0, 1, 228, 232, 236, 237])), .inl (2, 54), .inr (.inl (7, [217, 218, 219, 220, 221, 222, 223])), .inl (1, 100), .inl (1, 100), .inl (1, 100), .inl (1, 100), .inl (1, 100), .inl (1, 100), .inl (1, 100), .inl (2, 100), .inr (.inr (5, [229, 230, 231, 0])), .inl (1, 48), .inl (1, 48), .inl (1, 48), .inr (.inr (4, [233, 234, 235, 0])), .inl (1, 40), .inl (2, 40), .inl (2, 40), .inl (2, 6), .inl (2, 6), .inr (.inr (6, [0, 0, 1, 0, 239, 240, 248, 0, 0, 0, 0, 0, 1, 249, 253, 257, 258])), .inl (2, 54), .inr (.inl (7, [238, 239, 240, 241, 242, 243, 244])), .inl (1, 100), .inl (1, 100), .inl (1, 100), .inl (1, 100)]
def ip_ly6 : List ip_Sh := [.inl (1, 100), .inl (1, 100), .inl (1, 100), .inl (2, 100), .inr (.inr (5, [250, 251, 252, 0])), .inl (1, 48), .inl (1, 48), .inl (1, 48), .inr (.inr (4, [254, 255, 256, 0])), .inl (1, 40), .inl (2, 40), .inl (2, 40), .inl (2, 6), .inl (2, 6), .inr (.inr (9, [0, 260, 261, 262, 263, 0, 264, 265, 266, 267, 0, 0, 268, 269, 270, 271, 272, 273, 274, 275, 276, 277, 278, 279, 280, 281, 282, 283, 284, 285, 286, 287, 288, 289, 290, 291, 292, 293, 0, 0, 0, 0, 0, 0, 0, 0, 1, 1, 0, 0, 0, 294, 295, 296, 297, 298, 299, 300, 301, 302, 303, 304, 305, 306, 307, 308, 309, 0, 310, 311])), .inl (1, 8), .inl (1, 160), .inl (2, 160), .inl (1, 160), .inl (1, 24), .inl (1, 16), .inl (2, 48), .inl (2, 6), .inl (1, 8), .inl (1, 8), .inl (2, 8), .inl (1, 8), .inl (2, 384), .inl (2, 48), .inl (1, 8), .inl (1, 8), .inl (1, 8), .inl (2, 8), .inl (1, 8), .inl (1, 8), .inl (1, 5600), .inl (2, 800), .inl (1, 800), .inl (1, 808), .inl (1, 808)]
def ip_ly7 : List ip_Sh := [.inl (1, 808), .inl (1, 8), .inl (1, 1536), .inl (1, 8), .inl (1, 320), .inl (2, 320), .inl (2, 320), .inl (2, 48), .inl (2, 48), .inl (1, 7), .inl (1, 7), .inl (1, 7), .inl (1, 7), .inl (2, 7), .inl (1, 7), .inl (3, 7), .inl (1, 7), .inl (2, 84), .inl (2, 336), .inl (2, 42), .inl (2, 42), .inl (2, 42), .inl (1, 7), .inl (2, 48), .inl (2, 6), .inl (1, 100), .inl (1, 20)]
def ip_ly : List ip_Sh := ip_ly0 ++ (ip_ly1 ++ (ip_ly2 ++ (ip_ly3 ++ (ip_ly4 ++ (ip_ly5 ++ (ip_ly6 ++ (ip_ly7)))))))
def ip_sp (a : Nat) : Option ip_Sh := match a with
  | 0 => none
  | 1 => none
  | a + 2 => ip_ly[a]?
def ip_fv (M : ip_Mm) (a j k : Nat) : Value := match k with
  | 0 => .int (M.1 a j)
  | 1 => .long (M.2.1 a j)
  | 2 => .ref M.2.2
  | k + 3 => .ref k
def ip_fs (M : ip_Mm) (a : Nat) : Nat → List Nat → List Value
  | _, [] => []
  | j, k :: ks => ip_fv M a j k :: ip_fs M a (j + 1) ks
def ip_ce (M : ip_Mm) (a : Nat) : ip_Sh → ip_C
  | .inl (t, n) => if t = 2 then .inl (2, n, .inr (.inl (M.2.1 a))) else .inl (t, n, .inl (M.1 a))
  | .inr (.inl (t, rs)) => .inl (t, rs.length, .inr (.inr (.inr (.inr (fun i => rs[i]?)))))
  | .inr (.inr (ci, ks)) => .inr (ci, ip_fs M a 0 ks)
/-- the heap of a memory -/
def ip_hm (L : Nat) (xs : Nat → Int32) (M : ip_Mm) : ip_H := (309, 25966, fun a => if a = 0 then some (.inl (9, L, .inl xs)) else if a = 1 then some (.inl (9, 16, .inl ip_pp)) else (ip_sp a).map (ip_ce M a))
def uI (M : ip_Mm) (a k : Nat) (v : Int32) : ip_Mm := (fun b j => if b = a ∧ j = k then v else M.1 b j, M.2.1, M.2.2)
def uJ (M : ip_Mm) (a k : Nat) (v : Int64) : ip_Mm := (M.1, fun b j => if b = a ∧ j = k then v else M.2.1 b j, M.2.2)
def uT (M : ip_Mm) (r : Nat) : ip_Mm := (M.1, M.2.1, r)
def uC (M : ip_Mm) (a : Nat) (g : Nat → Int64) : ip_Mm := (M.1, fun b j => if b = a then g j else M.2.1 b j, M.2.2)
section MEM
variable {L : Nat} {xs : Nat → Int32} {M : ip_Mm} {a k : Nat}
theorem hm_at {s : ip_Sh} (h : ip_sp a = some s) : (ip_hm L xs M).2.2 a = some (ip_ce M a s) := by
  show (if a = 0 then _ else if a = 1 then _ else (ip_sp a).map (ip_ce M a)) = _
  have h0 : a ≠ 0 := fun e => by subst e; cases h
  have h1 : a ≠ 1 := fun e => by subst e; cases h
  rw [if_neg h0, if_neg h1, h]
  rfl
theorem fs_get {ks : List Nat} : ∀ {j : Nat}, (ip_fs M a j ks)[k]? = (ks[k]?).map (ip_fv M a (j + k)) := by
  induction ks generalizing k with
  | nil => intro j; rfl
  | cons x ks ih =>
    intro j
    cases k with
    | zero => rfl
    | succ k =>
      show (ip_fs M a (j + 1) ks)[k]? = (ks[k]?).map (ip_fv M a (j + (k + 1)))
      rw [ih, show j + 1 + k = j + (k + 1) by omega]
theorem fs_len {ks : List Nat} : ∀ {j : Nat}, (ip_fs M a j ks).length = ks.length := by
  induction ks with
  | nil => intro j; rfl
  | cons x ks ih => intro j; show (ip_fs M a (j + 1) ks).length + 1 = ks.length + 1; rw [ih]
theorem m_gf {ci κ : Nat} {ks : List Nat} (h : ip_sp a = some (.inr (.inr (ci, ks)))) (hk : ks[k]? = some κ) : ip_gf (ip_hm L xs M) ci k a = some (ip_fv M a k κ) := by
  unfold ip_gf
  rw [hm_at h]
  show (if ci = ci then (ip_fs M a 0 ks)[k]? else none) = _
  rw [if_pos rfl, fs_get, hk, Nat.zero_add]
  rfl
theorem m_isO {ci : Nat} {ks : List Nat} (h : ip_sp a = some (.inr (.inr (ci, ks)))) : ip_isO (ip_hm L xs M) a ci = true := by
  unfold ip_isO
  rw [hm_at h]
  show (ci == ci) = true
  exact beq_self_eq_true ci
theorem hm_ext {hp : ip_H} {M' : ip_Mm} (h1 : hp.1 = (ip_hm L xs M').1) (h2 : hp.2.1 = (ip_hm L xs M').2.1) (h3 : ∀ b, hp.2.2 b = (ip_hm L xs M').2.2 b) : hp = ip_hm L xs M' := by
  obtain ⟨x, y, f⟩ := hp
  have e : f = (ip_hm L xs M').2.2 := funext h3
  dsimp only at h1 h2
  subst h1
  subst h2
  subst e
  rfl
theorem set_hm {s : ip_Sh} {c : ip_C} {M' : ip_Mm} (h : ip_sp a = some s) (hc : c = ip_ce M' a s) (ho : ∀ b s', b ≠ a → ip_sp b = some s' → ip_ce M b s' = ip_ce M' b s') : ip_set (ip_hm L xs M) a c = ip_hm L xs M' := by
  refine hm_ext rfl rfl fun b => ?_
  show (if b = a then some c else (ip_hm L xs M).2.2 b) = _
  by_cases e : b = a
  · subst e
    rw [if_pos rfl, hc, hm_at h]
  · rw [if_neg e]
    show (if b = 0 then _ else if b = 1 then _ else (ip_sp b).map (ip_ce M b)) = (if b = 0 then _ else if b = 1 then _ else (ip_sp b).map (ip_ce M' b))
    cases hs : ip_sp b with
    | none => rfl
    | some s' =>
      have := ho b s' e hs
      simp only [Option.map_some, this]
theorem fs_uI_ne {b : Nat} {v : Int32} (h : b ≠ a) : ∀ {ks : List Nat} {j : Nat}, ip_fs (uI M a k v) b j ks = ip_fs M b j ks := by
  intro ks
  induction ks with
  | nil => intro j; rfl
  | cons x ks ih =>
    intro j
    show ip_fv _ b j x :: ip_fs _ b (j + 1) ks = ip_fv M b j x :: ip_fs M b (j + 1) ks
    rw [ih]
    congr 1
    match x with
    | 0 => show Value.int (if b = a ∧ j = k then v else M.1 b j) = .int (M.1 b j); rw [if_neg (fun z => h z.1)]
    | 1 => rfl
    | 2 => rfl
    | x + 3 => rfl
theorem ce_uI_ne {b : Nat} {v : Int32} {s : ip_Sh} (h : b ≠ a) : ip_ce M b s = ip_ce (uI M a k v) b s := by
  match s with
  | .inl (t, n) =>
    show (if t = 2 then _ else _) = (if t = 2 then _ else _)
    have e : (uI M a k v).1 b = M.1 b := funext fun j => if_neg (fun z => h z.1)
    rw [e]
    rfl
  | .inr (.inl (t, rs)) => rfl
  | .inr (.inr (ci, ks)) => show Sum.inr (ci, ip_fs M b 0 ks) = Sum.inr (ci, ip_fs _ b 0 ks); rw [fs_uI_ne h]
theorem fs_uJ_ne {b : Nat} {v : Int64} (h : b ≠ a) : ∀ {ks : List Nat} {j : Nat}, ip_fs (uJ M a k v) b j ks = ip_fs M b j ks := by
  intro ks
  induction ks with
  | nil => intro j; rfl
  | cons x ks ih =>
    intro j
    show ip_fv _ b j x :: ip_fs _ b (j + 1) ks = ip_fv M b j x :: ip_fs M b (j + 1) ks
    rw [ih]
    congr 1
    match x with
    | 0 => rfl
    | 1 => show Value.long (if b = a ∧ j = k then v else M.2.1 b j) = .long (M.2.1 b j); rw [if_neg (fun z => h z.1)]
    | 2 => rfl
    | x + 3 => rfl
theorem ce_uJ_ne {b : Nat} {v : Int64} {s : ip_Sh} (h : b ≠ a) : ip_ce M b s = ip_ce (uJ M a k v) b s := by
  match s with
  | .inl (t, n) =>
    show (if t = 2 then _ else _) = (if t = 2 then _ else _)
    have e : (uJ M a k v).2.1 b = M.2.1 b := funext fun j => if_neg (fun z => h z.1)
    rw [e]
    rfl
  | .inr (.inl (t, rs)) => rfl
  | .inr (.inr (ci, ks)) => show Sum.inr (ci, ip_fs M b 0 ks) = Sum.inr (ci, ip_fs _ b 0 ks); rw [fs_uJ_ne h]
theorem fs_uC {b : Nat} {g : Nat → Int64} (h : b ≠ a) : ∀ {ks : List Nat} {j : Nat}, ip_fs (uC M a g) b j ks = ip_fs M b j ks := by
  intro ks
  induction ks with
  | nil => intro j; rfl
  | cons x ks ih =>
    intro j
    show ip_fv _ b j x :: ip_fs _ b (j + 1) ks = ip_fv M b j x :: ip_fs M b (j + 1) ks
    rw [ih]
    congr 1
    match x with
    | 0 => rfl
    | 1 => show Value.long (if b = a then g j else M.2.1 b j) = .long (M.2.1 b j); rw [if_neg h]
    | 2 => rfl
    | x + 3 => rfl
theorem ce_uC_ne {b : Nat} {g : Nat → Int64} {s : ip_Sh} (h : b ≠ a) : ip_ce M b s = ip_ce (uC M a g) b s := by
  match s with
  | .inl (t, n) =>
    show (if t = 2 then _ else _) = (if t = 2 then _ else _)
    have e : (uC M a g).2.1 b = M.2.1 b := funext fun j => if_neg h
    rw [e]
    rfl
  | .inr (.inl (t, rs)) => rfl
  | .inr (.inr (ci, ks)) => show Sum.inr (ci, ip_fs M b 0 ks) = Sum.inr (ci, ip_fs _ b 0 ks); rw [fs_uC h]
theorem fs_uI {v : Int32} : ∀ {ks : List Nat} {j i : Nat}, ks[i]? = some 0 → j + i = k → ip_fs (uI M a k v) a j ks = (ip_fs M a j ks).set i (.int v) := by
  intro ks
  induction ks with
  | nil => intro j i h; cases h
  | cons x ks ih =>
    intro j i h e
    cases i with
    | zero =>
      cases h
      show Value.int (if a = a ∧ j = k then v else M.1 a j) :: ip_fs _ a (j + 1) ks = .int v :: ip_fs M a (j + 1) ks
      rw [if_pos ⟨rfl, e⟩]
      congr 1
      have key : ∀ (ks : List Nat) (j' : Nat), k < j' → ip_fs (uI M a k v) a j' ks = ip_fs M a j' ks := by
        intro ks
        induction ks with
        | nil => intro j' _; rfl
        | cons y ks ih2 =>
          intro j' hj
          show ip_fv _ a j' y :: ip_fs _ a (j' + 1) ks = ip_fv M a j' y :: ip_fs M a (j' + 1) ks
          rw [ih2 _ (by omega)]
          congr 1
          match y with
          | 0 => show Value.int (if a = a ∧ j' = k then v else M.1 a j') = .int (M.1 a j'); rw [if_neg (fun z => by omega)]
          | 1 => rfl
          | 2 => rfl
          | y + 3 => rfl
      exact key ks (j + 1) (by omega)
    | succ i =>
      show ip_fv _ a j x :: ip_fs _ a (j + 1) ks = ip_fv M a j x :: (ip_fs M a (j + 1) ks).set i (.int v)
      rw [ih h (by omega)]
      congr 1
      match x with
      | 0 => show Value.int (if a = a ∧ j = k then v else M.1 a j) = .int (M.1 a j); rw [if_neg (fun z => by omega)]
      | 1 => rfl
      | 2 => rfl
      | x + 3 => rfl
theorem fs_uJ {v : Int64} : ∀ {ks : List Nat} {j i : Nat}, ks[i]? = some 1 → j + i = k → ip_fs (uJ M a k v) a j ks = (ip_fs M a j ks).set i (.long v) := by
  intro ks
  induction ks with
  | nil => intro j i h; cases h
  | cons x ks ih =>
    intro j i h e
    cases i with
    | zero =>
      cases h
      show Value.long (if a = a ∧ j = k then v else M.2.1 a j) :: ip_fs _ a (j + 1) ks = .long v :: ip_fs M a (j + 1) ks
      rw [if_pos ⟨rfl, e⟩]
      congr 1
      have key : ∀ (ks : List Nat) (j' : Nat), k < j' → ip_fs (uJ M a k v) a j' ks = ip_fs M a j' ks := by
        intro ks
        induction ks with
        | nil => intro j' _; rfl
        | cons y ks ih2 =>
          intro j' hj
          show ip_fv _ a j' y :: ip_fs _ a (j' + 1) ks = ip_fv M a j' y :: ip_fs M a (j' + 1) ks
          rw [ih2 _ (by omega)]
          congr 1
          match y with
          | 0 => rfl
          | 1 => show Value.long (if a = a ∧ j' = k then v else M.2.1 a j') = .long (M.2.1 a j'); rw [if_neg (fun z => by omega)]
          | 2 => rfl
          | y + 3 => rfl
      exact key ks (j + 1) (by omega)
    | succ i =>
      show ip_fv _ a j x :: ip_fs _ a (j + 1) ks = ip_fv M a j x :: (ip_fs M a (j + 1) ks).set i (.long v)
      rw [ih h (by omega)]
      congr 1
      match x with
      | 0 => rfl
      | 1 => show Value.long (if a = a ∧ j = k then v else M.2.1 a j) = .long (M.2.1 a j); rw [if_neg (fun z => by omega)]
      | 2 => rfl
      | x + 3 => rfl
theorem m_pfI {ci : Nat} {ks : List Nat} {v : Int32} (h : ip_sp a = some (.inr (.inr (ci, ks)))) (hk : ks[k]? = some 0) : ip_pf (ip_hm L xs M) ci k a (.int v) = some (ip_hm L xs (uI M a k v)) := by
  unfold ip_pf
  rw [hm_at h]
  have hl : k < (ip_fs M a 0 ks).length := by rw [fs_len]; exact (List.getElem?_eq_some_iff.mp hk).1
  show (if ci = ci ∧ k < (ip_fs M a 0 ks).length then some _ else none) = _
  rw [if_pos ⟨rfl, hl⟩]
  refine congrArg some (set_hm h ?_ (fun b s' hb _ => ce_uI_ne hb))
  show Sum.inr (ci, _) = Sum.inr (ci, ip_fs (uI M a k v) a 0 ks)
  rw [fs_uI hk (Nat.zero_add k)]
theorem m_pfJ {ci : Nat} {ks : List Nat} {v : Int64} (h : ip_sp a = some (.inr (.inr (ci, ks)))) (hk : ks[k]? = some 1) : ip_pf (ip_hm L xs M) ci k a (.long v) = some (ip_hm L xs (uJ M a k v)) := by
  unfold ip_pf
  rw [hm_at h]
  have hl : k < (ip_fs M a 0 ks).length := by rw [fs_len]; exact (List.getElem?_eq_some_iff.mp hk).1
  show (if ci = ci ∧ k < (ip_fs M a 0 ks).length then some _ else none) = _
  rw [if_pos ⟨rfl, hl⟩]
  refine congrArg some (set_hm h ?_ (fun b s' hb _ => ce_uJ_ne hb))
  show Sum.inr (ci, _) = Sum.inr (ci, ip_fs (uJ M a k v) a 0 ks)
  rw [fs_uJ hk (Nat.zero_add k)]
theorem m_ia {n : Nat} {i : Int32} (h : ip_sp a = some (.inl (1, n))) : ip_ia (ip_hm L xs M) a i = if ip_in i n = true then some (M.1 a i.toNatClampNeg) else none := by
  unfold ip_ia
  rw [hm_at h]
  show (if (1 = 1 ∨ 1 = 9) ∧ ip_in i n = true then _ else _) = _
  simp
theorem m_ba {t n : Nat} {i : Int32} (ht : t = 0 ∨ t = 3) (h : ip_sp a = some (.inl (t, n))) : ip_ba (ip_hm L xs M) a i = if ip_in i n = true then some (M.1 a i.toNatClampNeg) else none := by
  unfold ip_ba
  rw [hm_at h]
  have e : ip_ce M a (.inl (t, n)) = .inl (t, n, .inl (M.1 a)) := if_neg (by omega)
  rw [e]
  show (if (t = 0 ∨ t = 3) ∧ ip_in i n = true then _ else _) = _
  simp [ht]
theorem m_ja {n : Nat} {i : Int32} (h : ip_sp a = some (.inl (2, n))) : ip_ja (ip_hm L xs M) a i = if ip_in i n = true then some (M.2.1 a i.toNatClampNeg) else none := by
  unfold ip_ja
  rw [hm_at h]
  show (if 2 = 2 ∧ ip_in i n = true then _ else _) = _
  simp
theorem m_aa {t : Nat} {rs : List Nat} {i : Int32} (ht : 3 < t ∧ t < 9) (h : ip_sp a = some (.inr (.inl (t, rs)))) : ip_aa (ip_hm L xs M) a i = if ip_in i rs.length = true then rs[i.toNatClampNeg]? else none := by
  unfold ip_aa
  rw [hm_at h]
  show (if (3 < t ∧ t < 9) ∧ ip_in i rs.length = true then _ else _) = _
  simp [ht]
theorem m_len1 {t n : Nat} (h : ip_sp a = some (.inl (t, n))) : ip_len (ip_hm L xs M) a = some n := by
  unfold ip_len
  rw [hm_at h]
  by_cases e : t = 2
  · subst e
    rfl
  · have e2 : ip_ce M a (.inl (t, n)) = .inl (t, n, .inl (M.1 a)) := if_neg e
    rw [e2]
theorem m_is {n : Nat} {i v : Int32} (h : ip_sp a = some (.inl (1, n))) : ip_is (ip_hm L xs M) a i v = if ip_in i n = true then some (ip_hm L xs (uI M a i.toNatClampNeg v)) else none := by
  unfold ip_is
  rw [hm_at h]
  show (if 1 = 1 ∧ ip_in i n = true then some (ip_set _ _ (.inl (1, n, .inl (upd (M.1 a) i.toNatClampNeg v)))) else none) = _
  by_cases hi : ip_in i n = true
  · rw [if_pos ⟨rfl, hi⟩, if_pos hi]
    refine congrArg some (set_hm h ?_ (fun b s' hb _ => ce_uI_ne hb))
    show _ = (Sum.inl (1, n, .inl ((uI M a i.toNatClampNeg v).1 a)) : ip_C)
    have e : (uI M a i.toNatClampNeg v).1 a = upd (M.1 a) i.toNatClampNeg v := by
      funext j
      show (if a = a ∧ j = i.toNatClampNeg then v else M.1 a j) = upd (M.1 a) i.toNatClampNeg v j
      unfold upd
      by_cases hj : j = i.toNatClampNeg
      · rw [if_pos ⟨rfl, hj⟩, if_pos hj]
      · rw [if_neg (fun z => hj z.2), if_neg hj]
    rw [e]
  · rw [if_neg (fun z => hi z.2), if_neg hi]
theorem m_js {n : Nat} {i : Int32} {v : Int64} (h : ip_sp a = some (.inl (2, n))) : ip_js (ip_hm L xs M) a i v = if ip_in i n = true then some (ip_hm L xs (uJ M a i.toNatClampNeg v)) else none := by
  unfold ip_js
  rw [hm_at h]
  show (if 2 = 2 ∧ ip_in i n = true then some (ip_set _ _ (.inl (2, n, .inr (.inl (vp_updL (M.2.1 a) i.toNatClampNeg v))))) else none) = _
  by_cases hi : ip_in i n = true
  · rw [if_pos ⟨rfl, hi⟩, if_pos hi]
    refine congrArg some (set_hm h ?_ (fun b s' hb _ => ce_uJ_ne hb))
    show _ = (Sum.inl (2, n, .inr (.inl ((uJ M a i.toNatClampNeg v).2.1 a))) : ip_C)
    have e : (uJ M a i.toNatClampNeg v).2.1 a = vp_updL (M.2.1 a) i.toNatClampNeg v := by
      funext j
      show (if a = a ∧ j = i.toNatClampNeg then v else M.2.1 a j) = vp_updL (M.2.1 a) i.toNatClampNeg v j
      unfold vp_updL
      by_cases hj : j = i.toNatClampNeg
      · rw [if_pos ⟨rfl, hj⟩, if_pos hj]
      · rw [if_neg (fun z => hj z.2), if_neg hj]
    rw [e]
  · rw [if_neg (fun z => hi z.2), if_neg hi]
theorem m_bs {t n : Nat} {i v : Int32} (ht : t = 0 ∨ t = 3) (h : ip_sp a = some (.inl (t, n))) : ip_bs (ip_hm L xs M) a i v = if ip_in i n = true then some (ip_hm L xs (uI M a i.toNatClampNeg (if t = 0 then vp_nar .byte v else vp_nar .boolean v))) else none := by
  unfold ip_bs
  rw [hm_at h]
  have e0 : ip_ce M a (.inl (t, n)) = .inl (t, n, .inl (M.1 a)) := if_neg (by omega)
  rw [e0]
  have key : ∀ w : Int32, ip_set (ip_hm L xs M) a (.inl (t, n, .inl (upd (M.1 a) i.toNatClampNeg w))) = ip_hm L xs (uI M a i.toNatClampNeg w) := by
    intro w
    refine set_hm h ?_ (fun b s' hb _ => ce_uI_ne hb)
    have e1 : ip_ce (uI M a i.toNatClampNeg w) a (.inl (t, n)) = .inl (t, n, .inl ((uI M a i.toNatClampNeg w).1 a)) := if_neg (by omega)
    rw [e1]
    have e : (uI M a i.toNatClampNeg w).1 a = upd (M.1 a) i.toNatClampNeg w := by
      funext j
      show (if a = a ∧ j = i.toNatClampNeg then w else M.1 a j) = upd (M.1 a) i.toNatClampNeg w j
      unfold upd
      by_cases hj : j = i.toNatClampNeg
      · rw [if_pos ⟨rfl, hj⟩, if_pos hj]
      · rw [if_neg (fun z => hj z.2), if_neg hj]
    rw [e]
  by_cases hi : ip_in i n = true
  · show (if ip_in i n = true then _ else none) = _
    rw [if_pos hi, if_pos hi]
    rcases ht with rfl | rfl
    · rw [if_pos rfl, if_pos rfl, key]
    · rw [if_neg (by decide), if_pos rfl, if_neg (by decide), key]
  · show (if ip_in i n = true then _ else none) = _
    rw [if_neg hi, if_neg hi]
theorem m_cp {a0 n0 n1 : Nat} {sp dp n : Int32} (h0 : ip_sp a0 = some (.inl (2, n0))) (h1 : ip_sp a = some (.inl (2, n1))) (hc : ¬ sp < 0 ∧ ¬ dp < 0 ∧ ¬ n < 0 ∧ sp.toNatClampNeg + n.toNatClampNeg ≤ n0 ∧ dp.toNatClampNeg + n.toNatClampNeg ≤ n1) : ip_cp (ip_hm L xs M) a0 sp a dp n = some (ip_hm L xs (uC M a (va_cpy (M.2.1 a0) (M.2.1 a) sp.toNatClampNeg dp.toNatClampNeg n.toNatClampNeg))) := by
  unfold ip_cp
  rw [hm_at h0, hm_at h1]
  show (if 2 = 2 ∧ 2 = 2 ∧ _ then _ else _) = _
  rw [if_pos ⟨rfl, rfl, hc⟩]
  refine congrArg some (set_hm h1 ?_ (fun b s' hb _ => ce_uC_ne hb))
  show _ = (Sum.inl (2, n1, .inr (.inl ((uC M a _).2.1 a))) : ip_C)
  have e : ∀ g : Nat → Int64, (uC M a g).2.1 a = g := fun g => funext fun j => if_pos rfl
  rw [e]
end MEM
