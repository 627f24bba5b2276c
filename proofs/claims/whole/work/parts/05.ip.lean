/-! THE PURE MACHINE: cells by number (0: the script, 1: the static array POPS, from 2 on what the run makes), values with these numbers in the stead of addresses -/
/-- a cell: an array (number of its type: ip_at, 9: read only; length, contents), or an object (number of its class; fields) -/
abbrev ip_C : Type := (Nat × vp_A) ⊕ (Nat × List Value)
/-- the heap: the next number, the slots made, what each number holds -/
abbrev ip_H : Type := Nat × Nat × (Nat → Option ip_C)
abbrev ip_L : Type := List (Option Value)
abbrev ip_R : Type := Option Value × ip_H
def ip_set (hp : ip_H) (a : Nat) (c : ip_C) : ip_H := (hp.1, hp.2.1, fun b => if b = a then some c else hp.2.2 b)
def ip_new (hp : ip_H) (w : Nat) (c : ip_C) : ip_H := (hp.1 + 1, hp.2.1 + w, fun b => if b = hp.1 then some c else hp.2.2 b)
/-- n rows of k places each behind their outer array -/
def ip_mul (hp : ip_H) (t u n k : Nat) (z : vp_A) : ip_H := (hp.1 + 1 + n, hp.2.1 + n + n * k, fun b => if b = hp.1 then some (.inl (t, n, .inr (.inr (.inr (.inr (fun i => if i < n then some (hp.1 + 1 + i) else none)))))) else if hp.1 < b ∧ b < hp.1 + 1 + n then some (.inl (u, z)) else hp.2.2 b)
/-! links -/
def ip_lf (cn idx : Nat) : Option (Nat × Nat) := (ip_lfL.find? (fun e => e.1 == cn && e.2.1 == idx)).map (fun e => (e.2.2.1, e.2.2.2.1))
def ip_lm (cn idx : Nat) : Option (Nat × Nat × Nat) := (ip_lmL.find? (fun e => e.1 == cn && e.2.1 == idx)).map (fun e => (e.2.2.1, e.2.2.2.1, e.2.2.2.2.1))
def ip_ls (cn idx : Nat) : Option Nat := (ip_lsL.find? (fun e => e.1 == cn && e.2.1 == idx)).map (fun e => e.2.2.1)
def ip_lc (cn idx : Nat) : Option Int64 := (ip_lcL.find? (fun e => e.1 == cn && e.2.1 == idx)).map (fun e => e.2.2.1)
def ip_ln (cn idx : Nat) : Option Nat := (ip_lnL.find? (fun e => e.1 == cn && e.2.1 == idx)).map (fun e => e.2.2.1)
def ip_la (cn idx : Nat) : Option Nat := (ip_laL.find? (fun e => e.1 == cn && e.2.1 == idx)).map (fun e => e.2.2.1)
def ip_lu (cn idx : Nat) : Option (Nat × Nat) := (ip_luL.find? (fun e => e.1 == cn && e.2.1 == idx)).map (fun e => (e.2.2.1, e.2.2.2.1))
def ip_lg (cn idx : Nat) : Bool := ip_lgL.contains (cn, idx)
/-! places -/
def ip_ld (L : ip_L) (i : Nat) : Option Value := (L[i]?).join
def ip_kl (L : ip_L) (i : Nat) : ip_L := match i with
  | 0 => L
  | j + 1 => match L[j]? with
    | some (some v) => if v.category = 2 then L.set j none else L
    | _ => L
def ip_st1 (L : ip_L) (i : Nat) (v : Value) : Option ip_L := if i < L.length then some ((ip_kl L i).set i (some v)) else none
def ip_st2 (L : ip_L) (i : Nat) (v : Value) : Option ip_L := if i + 1 < L.length then some (((ip_kl L i).set i (some v)).set (i + 1) none) else none
def ip_ent (ml : Nat) (as : List Value) : ip_L := (as.flatMap fun v => if v.category = 2 then [some v, none] else [some v]) ++ List.replicate (ml - (as.flatMap fun v => if v.category = 2 then [some v, none] else [some v]).length) none
def ip_rs (st : List Value) : Bool := Nat.ble ((st.map fun v => v.category).sum) 8
def ip_tg (pc : Nat) (off : Int) : Option Nat := if 0 ≤ (pc : Int) + off then some ((pc : Int) + off).toNat else none
/-! heap reads and writes -/
def ip_gf (hp : ip_H) (ci k a : Nat) : Option Value := match hp.2.2 a with
  | some (.inr (c, fs)) => if c = ci then fs[k]? else none
  | _ => none
def ip_fit (ty : FieldType) (v : Value) : Bool := match ty, v with
  | .int, .int _ => true
  | .boolean, .int x => x == 0 || x == 1
  | .long, .long _ => true
  | .object _, .ref _ => true
  | .array _, .ref _ => true
  | _, _ => false
/-- fin: may a final field be set here -/
def ip_pf (hp : ip_H) (ci k a : Nat) (v : Value) : Option ip_H := match hp.2.2 a with
  | some (.inr (c, fs)) => if c = ci ∧ k < fs.length then some (ip_set hp a (.inr (c, fs.set k v))) else none
  | _ => none
def ip_in (i : Int32) (n : Nat) : Bool := decide (¬ (i < 0 ∨ n ≤ i.toNatClampNeg))
def ip_ia (hp : ip_H) (a : Nat) (i : Int32) : Option Int32 := match hp.2.2 a with
  | some (.inl (t, n, .inl f)) => if (t = 1 ∨ t = 9) ∧ ip_in i n = true then some (f i.toNatClampNeg) else none
  | _ => none
def ip_ba (hp : ip_H) (a : Nat) (i : Int32) : Option Int32 := match hp.2.2 a with
  | some (.inl (t, n, .inl f)) => if (t = 0 ∨ t = 3) ∧ ip_in i n = true then some (f i.toNatClampNeg) else none
  | _ => none
def ip_ja (hp : ip_H) (a : Nat) (i : Int32) : Option Int64 := match hp.2.2 a with
  | some (.inl (t, n, .inr (.inl f))) => if t = 2 ∧ ip_in i n = true then some (f i.toNatClampNeg) else none
  | _ => none
def ip_aa (hp : ip_H) (a : Nat) (i : Int32) : Option Nat := match hp.2.2 a with
  | some (.inl (t, n, .inr (.inr (.inr (.inr f))))) => if (3 < t ∧ t < 9) ∧ ip_in i n = true then f i.toNatClampNeg else none
  | _ => none
def ip_len (hp : ip_H) (a : Nat) : Option Nat := match hp.2.2 a with
  | some (.inl (_, n, _)) => some n
  | _ => none
def ip_is (hp : ip_H) (a : Nat) (i x : Int32) : Option ip_H := match hp.2.2 a with
  | some (.inl (t, n, .inl f)) => if t = 1 ∧ ip_in i n = true then some (ip_set hp a (.inl (t, n, .inl (upd f i.toNatClampNeg x)))) else none
  | _ => none
def ip_bs (hp : ip_H) (a : Nat) (i x : Int32) : Option ip_H := match hp.2.2 a with
  | some (.inl (t, n, .inl f)) => if ip_in i n = true then (if t = 0 then some (ip_set hp a (.inl (t, n, .inl (upd f i.toNatClampNeg (vp_nar .byte x))))) else if t = 3 then some (ip_set hp a (.inl (t, n, .inl (upd f i.toNatClampNeg (vp_nar .boolean x))))) else none) else none
  | _ => none
def ip_js (hp : ip_H) (a : Nat) (i : Int32) (x : Int64) : Option ip_H := match hp.2.2 a with
  | some (.inl (t, n, .inr (.inl f))) => if t = 2 ∧ ip_in i n = true then some (ip_set hp a (.inl (t, n, .inr (.inl (vp_updL f i.toNatClampNeg x))))) else none
  | _ => none
/-- the class of the objects that an array of a type holds -/
def ip_te (t : Nat) : Option Nat := match t with
  | 4 => some 1
  | 5 => some 3
  | 6 => some 6
  | _ => none
def ip_isO (hp : ip_H) (a ci : Nat) : Bool := match hp.2.2 a with
  | some (.inr (c, _)) => c == ci
  | _ => false
def ip_as (hp : ip_H) (a : Nat) (i : Int32) (v : Nat) : Option ip_H := match hp.2.2 a with
  | some (.inl (t, n, .inr (.inr (.inr (.inr f))))) => if ip_in i n = true then (match ip_te t with
    | some ci => if ip_isO hp v ci = true then some (ip_set hp a (.inl (t, n, .inr (.inr (.inr (.inr (va_up f i.toNatClampNeg (some v)))))))) else none
    | none => none) else none
  | _ => none
/-- arraycopy of longs -/
def ip_cp (hp : ip_H) (a0 : Nat) (sp : Int32) (a1 : Nat) (dp n : Int32) : Option ip_H := match hp.2.2 a0, hp.2.2 a1 with
  | some (.inl (t0, n0, .inr (.inl f))), some (.inl (t1, n1, .inr (.inl g))) => if t0 = 2 ∧ t1 = 2 ∧ ¬ sp < 0 ∧ ¬ dp < 0 ∧ ¬ n < 0 ∧ sp.toNatClampNeg + n.toNatClampNeg ≤ n0 ∧ dp.toNatClampNeg + n.toNatClampNeg ≤ n1 then some (ip_set hp a1 (.inl (t1, n1, .inr (.inl (va_cpy f g sp.toNatClampNeg dp.toNatClampNeg n.toNatClampNeg))))) else none
  | _, _ => none
/-- the type of an array by newarray, and its contents at first -/
def ip_na (t : ArrayType) : Option (Nat × ((Nat → Int32) ⊕ (Nat → Int64) ⊕ (Nat → UInt32) ⊕ (Nat → UInt64) ⊕ (Nat → Option Nat))) := match t with
  | .boolean => some (3, .inl (fun _ => 0))
  | .byte => some (0, .inl (fun _ => 0))
  | .int => some (1, .inl (fun _ => 0))
  | .long => some (2, .inr (.inl (fun _ => 0)))
  | _ => none
