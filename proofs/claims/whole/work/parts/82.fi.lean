/-! the memory behind the constructors -/
theorem rf_7 {b : Nat} : rf 7 b = fun i => ([b, b + 1, b + 2, b + 3, b + 4, b + 5, b + 6] : List Nat)[i]? := by
  funext i
  match i with
  | 0 => rfl
  | 1 => rfl
  | 2 => rfl
  | 3 => rfl
  | 4 => rfl
  | 5 => rfl
  | 6 => rfl
  | i + 7 => exact if_neg (by omega)
theorem rf_6 : rf 6 44 = fun i => ([44, 45, 46, 47, 48, 49] : List Nat)[i]? := by
  funext i
  match i with
  | 0 => rfl
  | 1 => rfl
  | 2 => rfl
  | 3 => rfl
  | 4 => rfl
  | 5 => rfl
  | i + 6 => exact if_neg (by omega)
theorem rg_p : rg 7 4 8 = fun i => ([7, 11, 15, 19, 23, 27, 31, 35] : List Nat)[i]? := by
  funext i
  match i with
  | 0 => rfl
  | 1 => rfl
  | 2 => rfl
  | 3 => rfl
  | 4 => rfl
  | 5 => rfl
  | 6 => rfl
  | 7 => rfl
  | i + 8 => exact if_neg (by omega)
theorem rg_f : rg 73 2 6 = fun i => ([73, 75, 77, 79, 81, 83] : List Nat)[i]? := by
  funext i
  match i with
  | 0 => rfl
  | 1 => rfl
  | 2 => rfl
  | 3 => rfl
  | 4 => rfl
  | 5 => rfl
  | i + 6 => exact if_neg (by omega)
theorem rg_t : rg 88 21 8 = fun i => ([88, 109, 130, 151, 172, 193, 214, 235] : List Nat)[i]? := by
  funext i
  match i with
  | 0 => rfl
  | 1 => rfl
  | 2 => rfl
  | 3 => rfl
  | 4 => rfl
  | 5 => rfl
  | 6 => rfl
  | 7 => rfl
  | i + 8 => exact if_neg (by omega)
def trD (a : Nat) : List ip_C := [.inr (6, [.int 0, .int 0, .long 0, .int 0, .ref (a + 1), .ref (a + 2), .ref (a + 10), .int 0, .int 0, .int 0, .int 0, .int 0, .long 0, .ref (a + 11), .ref (a + 15), .ref (a + 19), .ref (a + 20)]), zJ 54, zF 7 7 (fun i => ([a + 3, a + 4, a + 5, a + 6, a + 7, a + 8, a + 9] : List Nat)[i]?), zI 100, zI 100, zI 100, zI 100, zI 100, zI 100, zI 100, zJ 100, .inr (5, [.ref (a + 12), .ref (a + 13), .ref (a + 14), .int 0]), zI 48, zI 48, zI 48, .inr (4, [.ref (a + 16), .ref (a + 17), .ref (a + 18), .int 0]), zI 40, zJ 40, zJ 40, zJ 6, zJ 6]
theorem trD_e {a : Nat} : trC a = trD a := by
  unfold trC trD
  rw [rf_7]
def tsD : Nat → List ip_C
  | 0 => []
  | i + 1 => tsD i ++ trD (88 + 21 * i)
theorem tsD_e : ∀ i, trs i = tsD i := by
  intro i
  induction i with
  | zero => rfl
  | succ i ih =>
    show trs i ++ trC (88 + 21 * i) = tsD i ++ trD (88 + 21 * i)
    rw [ih, trD_e]
def waD : List ip_C := [waO, zJ 66, zF 8 6 (fun i => ([44, 45, 46, 47, 48, 49] : List Nat)[i]?), zJ 66, zJ 66, zJ 66, zJ 66, zJ 66, zJ 66, zI 6]
def coD : List ip_C := oC (.ref 3) (.ref 39) (.ref 40) (.ref 41) (.ref 85) :: coO :: zF 5 8 (fun i => ([7, 11, 15, 19, 23, 27, 31, 35] : List Nat)[i]?) :: m5 :: q6 :: prs 8
def wlD : List ip_C := waD ++ zF 4 6 (fun i => ([73, 75, 77, 79, 81, 83] : List Nat)[i]?) :: (trD 52 ++ frs 6)
def clD : List ip_C := (coD ++ [zJ 54]) ++ zF 6 8 (fun i => ([88, 109, 130, 151, 172, 193, 214, 235] : List Nat)[i]?) :: (wlD ++ (liC ++ tsD 8))
theorem clD_e : clL 8 = clD := by
  have e1 : waT = waD := by unfold waT waD; rw [rf_6]
  have e2 : clW = wlD := by unfold clW wlD; rw [e1, rg_f, trD_e]
  have e3 : clA (.ref 3) (.ref 39) (.ref 40) (.ref 41) (.ref 85) = coD ++ [zJ 54] := by unfold clA coL coD; rw [rg_p]
  unfold clL clD
  rw [e2, e3, rg_t, tsD_e]
def M0f (c j : Nat) : Int32 := if c = 5 then (if 0 ≤ j ∧ j < 24 then -1 else 0) else if c = 6 then (if 0 ≤ j ∧ j < 16 then 1 else 0) else if c = 41 then (if j = 7 then -1 else 0) else if c = 73 ∨ c = 75 ∨ c = 77 ∨ c = 79 ∨ c = 81 ∨ c = 83 then (if j = 4 then -1 else 0) else if c = 262 then (upd (upd (upd (upd (upd (upd (upd (upd (upd (upd (upd (upd (upd (upd (upd (upd (fun _ => 0) 0 1) 1 1) 2 1) 3 1) 4 1) 5 1) 6 1) 7 1) 8 1) 9 1) 10 1) 11 1) 12 1) 13 1) 14 1) 15 1) j else 0
def M0 : ip_Mm := (M0f, fun _ _ => 0, 52)
def ceL (M : ip_Mm) : Nat → List ip_Sh → List ip_C
  | _, [] => []
  | a, s :: ss => ip_ce M a s :: ceL M (a + 1) ss
theorem ceL_get {M : ip_Mm} : ∀ (l : List ip_Sh) (a i : Nat), (ceL M a l)[i]? = (l[i]?).map (ip_ce M (a + i)) := by
  intro l
  induction l with
  | nil => intro a i; rfl
  | cons s ss ih =>
    intro a i
    match i with
    | 0 => rfl
    | i + 1 =>
      show (ceL M (a + 1) ss)[i]? = (ss[i]?).map (ip_ce M (a + (i + 1)))
      rw [ih, show a + 1 + i = a + (i + 1) by omega]
theorem ceL_app {M : ip_Mm} : ∀ (l l' : List ip_Sh) (a : Nat), ceL M a (l ++ l') = ceL M a l ++ ceL M (a + l.length) l' := by
  intro l
  induction l with
  | nil => intro l' a; rfl
  | cons s ss ih =>
    intro l' a
    show ip_ce M a s :: ceL M (a + 1) (ss ++ l') = _
    rw [ih, List.length_cons, show a + 1 + ss.length = a + (ss.length + 1) by omega]
    rfl
def gD : List ip_C := clD ++ Sum.inr (9, oR_52) :: reC
set_option maxRecDepth 100000 in
theorem gD_e : gD = ceL M0 2 ip_ly := by
  rfl
