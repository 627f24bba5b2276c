/-! what the class's cells and the reference's have in common: words, frames of rows -/
abbrev zK := Nat × Nat × (Nat → Nat) × (Nat → Nat → Nat) × (Nat → Nat → Int64) × (Nat → Nat → Int32) × (Nat → Nat → Int32) × (Nat → Nat)
def kNp (K : zK) : Nat := K.1
def kNa (K : zK) : Nat := K.2.1
def kSz (K : zK) : Nat → Nat := K.2.2.1
def kKd (K : zK) : Nat → Nat → Nat := K.2.2.2.1
def kOa (K : zK) : Nat → Nat → Int64 := K.2.2.2.2.1
def kOb (K : zK) : Nat → Nat → Int32 := K.2.2.2.2.2.1
def kMb (K : zK) : Nat → Nat → Int32 := K.2.2.2.2.2.2.1
def kPc (K : zK) : Nat → Nat := K.2.2.2.2.2.2.2
abbrev zG := Nat → Nat × Nat × Nat × Nat
def gX (G : zG) (l : Nat) : Nat := (G l).1
def gM (G : zG) (l : Nat) : Nat := (G l).2.1
def gC (G : zG) (l : Nat) : Nat := (G l).2.2.1
def gY (G : zG) (l : Nat) : Nat := (G l).2.2.2
/-- the contracts: in bounds; the class's; the reference's -/
def zKO (K : zK) : Prop := kNp K ≤ 8 ∧ kNa K ≤ 6 ∧ (∀ p, kSz K p ≤ 20) ∧ (∀ p i, kKd K p i < 16) ∧ (∀ k, 1 ≤ kPc K k ∧ kPc K k ≤ 50) ∧ (∀ a m, a < kNa K → m < 4 → kMb K a m = -1 ∨ ∃ p, p < kNp K ∧ kMb K a m = nI p)
def zKC (K : zK) (M : ip_Mm) : Prop := M.1 3 3 = nI (kNp K) ∧ M.1 3 4 = nI (kNa K) ∧ (∀ p, p < 8 → M.1 (7 + 4 * p) 3 = nI (kSz K p)) ∧ (∀ p i, p < 8 → i < 20 → M.1 (7 + 4 * p + 1) i = nI (kKd K p i) ∧ M.2.1 (7 + 4 * p + 2) i = kOa K p i ∧ M.1 (7 + 4 * p + 3) i = kOb K p i) ∧ (∀ a m, a < kNa K → m < 4 → M.1 5 (a * 4 + m) = kMb K a m) ∧ (∀ k, k < 16 → M.1 6 k = nI (kPc K k))
def zKR (K : zK) (M : ip_Mm) : Prop := M.1 256 0 = nI (kNp K) ∧ M.1 256 5 = nI (kNa K) ∧ (∀ p, p < 8 → M.1 257 p = nI (kSz K p)) ∧ (∀ p i, p < 8 → i < 20 → M.1 258 (20 * p + i) = nI (kKd K p i) ∧ M.2.1 259 (20 * p + i) = kOa K p i ∧ M.1 260 (20 * p + i) = kOb K p i) ∧ (∀ a m, a < kNa K → m < 4 → M.1 261 (4 * a + m) = kMb K a m) ∧ (∀ k, k < 16 → M.1 262 k = nI (kPc K k))
/-- all but the places pi, pj is as it was -/
def zU (pi pj : Nat → Nat → Prop) (M0 M : ip_Mm) : Prop := (∀ c j, ¬ pi c j → M.1 c j = M0.1 c j) ∧ (∀ c j, ¬ pj c j → M.2.1 c j = M0.2.1 c j) ∧ M.2.2 = M0.2.2
section ZU
variable {pi pj : Nat → Nat → Prop} {M0 M M1 : ip_Mm} {a b k i n o c p : Nat} {v : Int32} {w : Int64} {g : Nat → Int64}
theorem zU_r : zU pi pj M M := ⟨fun _ _ _ => rfl, fun _ _ _ => rfl, rfl⟩
theorem zU_t (h : zU pi pj M0 M) (h2 : zU pi pj M M1) : zU pi pj M0 M1 := ⟨fun c j z => (h2.1 c j z).trans (h.1 c j z), fun c j z => (h2.2.1 c j z).trans (h.2.1 c j z), h2.2.2.trans h.2.2⟩
theorem zU_I (h : zU pi pj M0 M) (hp : pi a k) : zU pi pj M0 (uI M a k v) := ⟨fun c j hn => by rw [uI_1, if_neg (fun z => hn (by rw [z.1, z.2]; exact hp))]; exact h.1 c j hn, h.2.1, h.2.2⟩
theorem zU_J (h : zU pi pj M0 M) (hp : pj a k) : zU pi pj M0 (uJ M a k w) := ⟨h.1, fun c j hn => by rw [uJ_2, if_neg (fun z => hn (by rw [z.1, z.2]; exact hp))]; exact h.2.1 c j hn, h.2.2⟩
theorem zU_C (h : zU pi pj M0 M) (hp : ∀ j, pj a j) : zU pi pj M0 (uC M a g) := ⟨h.1, fun c j hn => by rw [uC_2, if_neg (fun z => hn (by rw [z]; exact hp j))]; exact h.2.1 c j hn, h.2.2⟩
theorem zU_K (h : zU pi pj M0 M) (hp : ∀ j, o + i ≤ j → j < o + n → pj b j) : zU pi pj M0 (cpM M b o c p i n) := ⟨h.1, fun e j hn => by
  show (if e = b ∧ o + i ≤ j ∧ j < o + n then M.2.1 c (p + (j - o)) else M.2.1 e j) = _
  rw [if_neg (fun z => hn (by rw [z.1]; exact hp j z.2.1 z.2.2))]
  exact h.2.1 e j hn, h.2.2⟩
theorem zU_F (h : zU pi pj M0 M) (hp : ∀ j, i ≤ j → j < n → pj a j) : zU pi pj M0 (fJ M a i n w) := ⟨h.1, fun e j hn => by
  by_cases hz : e = a
  · subst hz
    by_cases hj : i ≤ j ∧ j < n
    · exact absurd (hp j hj.1 hj.2) hn
    · rw [rFJ1 (by omega)]; exact h.2.1 e j hn
  · rw [rFJ hz]; exact h.2.1 e j hn, h.2.2⟩
/-- the rows of the cells from lo on, below hi, are as they were -/
def sR (lo hi : Nat) (M M' : ip_Mm) : Prop := ∀ c, lo ≤ c → c < hi → M'.1 c = M.1 c ∧ M'.2.1 c = M.2.1 c
variable {lo hi : Nat}
theorem sR_r : sR lo hi M M := fun _ _ _ => ⟨rfl, rfl⟩
theorem sR_I (h : sR lo hi M M1) (ha : a < lo ∨ hi ≤ a) : sR lo hi M (uI M1 a k v) := fun c h1 h2 => ⟨by rw [rI (by omega)]; exact (h c h1 h2).1, (h c h1 h2).2⟩
theorem sR_J (h : sR lo hi M M1) (ha : a < lo ∨ hi ≤ a) : sR lo hi M (uJ M1 a k w) := fun c h1 h2 => ⟨(h c h1 h2).1, by rw [rJ (by omega)]; exact (h c h1 h2).2⟩
theorem sR_C (h : sR lo hi M M1) (ha : a < lo ∨ hi ≤ a) : sR lo hi M (uC M1 a g) := fun c h1 h2 => ⟨(h c h1 h2).1, by rw [rC (by omega)]; exact (h c h1 h2).2⟩
theorem sR_K (h : sR lo hi M M1) (ha : b < lo ∨ hi ≤ b) : sR lo hi M (cpM M1 b o c p i n) := fun e h1 h2 => ⟨(h e h1 h2).1, by rw [rK (by omega)]; exact (h e h1 h2).2⟩
theorem sR_F (h : sR lo hi M M1) (ha : a < lo ∨ hi ≤ a) : sR lo hi M (fJ M1 a i n w) := fun e h1 h2 => ⟨(h e h1 h2).1, by rw [rFJ (by omega)]; exact (h e h1 h2).2⟩
theorem sR_toM {wr : Bool} (ha : a + 14 < lo ∨ hi ≤ a + 11) : sR lo hi M (toM M a p n wr) := by
  unfold toM
  by_cases h1 : M.1 (a + 13) p = 0 ∧ M.1 (a + 14) p = 0 ∧ n < 48
  · simp only [if_pos h1]
    cases wr
    · exact sR_I (sR_I (sR_I sR_r (by omega)) (by omega)) (by omega)
    · exact sR_I (sR_I (sR_I sR_r (by omega)) (by omega)) (by omega)
  · simp only [if_neg h1]
    cases wr
    · exact sR_I sR_r (by omega)
    · exact sR_I sR_r (by omega)
theorem zU_toM {ta : Nat} {wr : Bool} (h : zU pi pj M0 M) (hp : ∀ c j, ta + 11 ≤ c → c ≤ ta + 14 → pi c j) : zU pi pj M0 (toM M ta p n wr) := by
  unfold toM
  by_cases h1 : M.1 (ta + 13) p = 0 ∧ M.1 (ta + 14) p = 0 ∧ n < 48
  · simp only [if_pos h1]
    cases wr
    · exact zU_I (zU_I (zU_I h (hp _ _ (by omega) (by omega))) (hp _ _ (by omega) (by omega))) (hp _ _ (by omega) (by omega))
    · exact zU_I (zU_I (zU_I h (hp _ _ (by omega) (by omega))) (hp _ _ (by omega) (by omega))) (hp _ _ (by omega) (by omega))
  · simp only [if_neg h1]
    cases wr
    · exact zU_I h (hp _ _ (by omega) (by omega))
    · exact zU_I h (hp _ _ (by omega) (by omega))
end ZU
theorem tr_om {ta : Nat} (h : isTr ta) : ta = 52 ∨ (88 ≤ ta ∧ ta ≤ 235) := by
  unfold isTr at h
  omega
/-- where the class's walk writes; where the reference's does -/
def cI (ta c j : Nat) : Prop := (42 ≤ c ∧ c ≤ 50) ∨ (73 ≤ c ∧ c ≤ 84) ∨ (c = ta ∧ 7 ≤ j ∧ j ≤ 9) ∨ (ta + 3 ≤ c ∧ c ≤ ta + 18)
def cJ (ta c j : Nat) : Prop := (42 ≤ c ∧ c ≤ 50) ∨ (73 ≤ c ∧ c ≤ 84) ∨ (c = 41 ∧ j = 8) ∨ (ta + 3 ≤ c ∧ c ≤ ta + 18)
def dI (rc t c j : Nat) : Prop := (c = 256 ∧ 40 ≤ j ∧ j ≤ 50) ∨ (291 ≤ c ∧ c ≤ 298) ∨ c = 304 ∨ (rc = 1 ∧ ((c = 277 ∧ 700 * t ≤ j ∧ j < 700 * t + 700) ∨ (c = 279 ∧ 100 * t ≤ j ∧ j < 100 * t + 100) ∨ (280 ≤ c ∧ c ≤ 282 ∧ 101 * t ≤ j ∧ j < 101 * t + 101) ∨ (c = 283 ∧ j = t) ∨ (c = 284 ∧ 192 * t ≤ j ∧ j < 192 * t + 192) ∨ (c = 285 ∧ j = t) ∨ (c = 286 ∧ 40 * t ≤ j ∧ j < 40 * t + 40)))
def dJ (rc t c j : Nat) : Prop := c = 263 ∨ c = 264 ∨ (c = 256 ∧ 46 ≤ j ∧ j ≤ 47) ∨ c = 295 ∨ (299 ≤ c ∧ c ≤ 303) ∨ (rc = 1 ∧ ((c = 278 ∧ 100 * t ≤ j ∧ j < 100 * t + 100) ∨ (287 ≤ c ∧ c ≤ 288 ∧ 40 * t ≤ j ∧ j < 40 * t + 40) ∨ (289 ≤ c ∧ c ≤ 290 ∧ 6 * t ≤ j ∧ j < 6 * t + 6)))
/-- the class's frames, n of them -/
def zWf (K : zK) (n : Nat) (G : zG) (M : ip_Mm) : Prop := ∀ l, l < n → gX G l < kNa K ∧ gM G l < 4 ∧ gC G l < kNp K ∧ gY G l ≤ 1 ∧ M.1 (73 + 2 * l) 2 = nI (gX G l) ∧ M.1 (73 + 2 * l) 3 = nI (gM G l) ∧ M.1 (73 + 2 * l) 4 = (if l = 0 then -1 else nI (gX G (l - 1))) ∧ (∃ h, h ≤ 12 ∧ M.1 (73 + 2 * l) 1 = nI h) ∧ (∃ p, p ≤ kSz K (gC G l) ∧ M.1 (73 + 2 * l) 6 = nI p) ∧ M.2.1 (73 + 2 * l) 7 = 0
def zFr (n : Nat) (G : zG) (Mc Mr : ip_Mm) : Prop := ∀ l, l < n → Mr.1 291 l = nI (gX G l) ∧ Mr.1 292 l = nI (gM G l) ∧ Mr.1 293 l = nI (gC G l) ∧ Mr.1 294 l = Mc.1 (73 + 2 * l) 6 ∧ Mr.2.1 295 l = Mc.2.1 (73 + 2 * l) 5 ∧ Mr.1 298 l = Mc.1 (73 + 2 * l) 1 ∧ ∀ i, i < 12 → Mr.2.1 299 (12 * l + i) = Mc.2.1 (73 + 2 * l + 1) i
/-- the stacks, of frames that are dead too -/
def zSk (Mc Mr : ip_Mm) : Prop := ∀ l i, l < 6 → i < 12 → Mr.2.1 299 (12 * l + i) = Mc.2.1 (73 + 2 * l + 1) i
/-- cells, balances, flows -/
def zSt (rc t : Nat) (Mc Mr : ip_Mm) : Prop := (∀ a c, a < 6 → c < 8 → Mr.2.1 263 (8 * a + c) = Mc.2.1 42 (a * 9 + c)) ∧ (∀ a, a < 6 → Mr.2.1 264 a = Mc.2.1 42 (a * 9 + 8)) ∧ (rc = 1 → ∀ a, a < 6 → Mr.2.1 289 (6 * t + a) = Mc.2.1 42 (54 + a) ∧ Mr.2.1 290 (6 * t + a) = Mc.2.1 42 (60 + a))
/-- the reference's scalars -/
def zSc (rc t lim dp N S fl : Nat) (hl x : Int32) (M : ip_Mm) : Prop := M.1 256 38 = nI rc ∧ (rc = 1 → M.1 256 39 = nI t) ∧ M.1 256 40 = hl ∧ M.1 256 41 = 0 ∧ M.1 256 42 = nI lim ∧ M.1 256 43 = nI S ∧ M.1 256 44 = nI N ∧ M.1 256 45 = nI fl ∧ M.1 256 50 = nI dp ∧ M.1 256 49 = x ∧ ∃ g, g ≤ N + 1 ∧ M.1 256 48 = nI g
/-- the steps kept, m of them -/
def zRg (ta k : Nat) (M : ip_Mm) : Prop := (∃ a, a ≤ 6 ∧ M.1 (ta + 3 + 0) k = nI a) ∧ (∃ a, a < 6 ∧ M.1 (ta + 3 + 1) k = nI a) ∧ (∃ a, a < 4 ∧ M.1 (ta + 3 + 2) k = nI a) ∧ (∃ a, a < 20 ∧ M.1 (ta + 3 + 3) k = nI a) ∧ (∃ a, a < 16 ∧ M.1 (ta + 3 + 4) k = nI a) ∧ (∃ a, a < 9 ∧ M.1 (ta + 3 + 6) k = nI a)
theorem zRg_c {ta k : Nat} {M M' : ip_Mm} (h : zRg ta k M) (e : ∀ w, w < 7 → M.1 (ta + 3 + w) k = M'.1 (ta + 3 + w) k) : zRg ta k M' := by
  unfold zRg
  rw [← e 0 (by omega), ← e 1 (by omega), ← e 2 (by omega), ← e 3 (by omega), ← e 4 (by omega), ← e 6 (by omega)]
  exact h
def zSp (ta t m : Nat) (Mc Mr : ip_Mm) : Prop := ∀ k, k < m → (∀ w, w < 7 → Mr.1 277 (7 * (100 * t + k) + w) = Mc.1 (ta + 3 + w) k) ∧ Mr.2.1 278 (100 * t + k) = Mc.2.1 (ta + 10) k ∧ zRg ta k Mc
/-- touches: the class's in order; the reference's -/
def zTW (ta N : Nat) (M : ip_Mm) : Prop := ∃ tc, tc ≤ 48 ∧ M.1 (ta + 11) 3 = nI tc ∧ (∀ i, i < tc → ∃ p, p < 48 ∧ M.1 (ta + 12) i = nI p ∧ ¬ (M.1 (ta + 13) p = 0 ∧ M.1 (ta + 14) p = 0)) ∧ (∀ p, p < 48 → ¬ (M.1 (ta + 13) p = 0 ∧ M.1 (ta + 14) p = 0) → ∃ i, i < tc ∧ M.1 (ta + 12) i = nI p) ∧ (∀ i j, i < j → j < tc → M.1 (ta + 12) i ≠ M.1 (ta + 12) j) ∧ (∀ p, p < 48 → ∃ r w, r ≤ N ∧ w ≤ N ∧ M.1 (ta + 13) p = nI r ∧ M.1 (ta + 14) p = nI w)
def zTo (ta t : Nat) (Mc Mr : ip_Mm) : Prop := Mr.1 283 t = Mc.1 (ta + 11) 3 ∧ ∀ tc i x c, tc ≤ 48 → Mc.1 (ta + 11) 3 = nI tc → i < tc → x < 6 → c < 8 → Mc.1 (ta + 12) i = nI (8 * x + c) → Mr.1 284 (4 * (48 * t + i)) = nI x ∧ Mr.1 284 (4 * (48 * t + i) + 1) = nI c ∧ Mr.1 284 (4 * (48 * t + i) + 2) = Mc.1 (ta + 13) (8 * x + c) ∧ Mr.1 284 (4 * (48 * t + i) + 3) = Mc.1 (ta + 14) (8 * x + c)
def zTe (ta t : Nat) (Mc Mr : ip_Mm) : Prop := Mr.1 285 t = Mc.1 (ta + 15) 3 ∧ ∀ i, i < 40 → Mr.1 286 (40 * t + i) = Mc.1 (ta + 16) i ∧ Mr.2.1 287 (40 * t + i) = Mc.2.1 (ta + 17) i ∧ Mr.2.1 288 (40 * t + i) = Mc.2.1 (ta + 18) i
/-- what is kept for a try -/
def zKp (rc dp : Nat) (G : zG) (Mc Mr : ip_Mm) : Prop := ∀ l, l < dp → Mr.1 291 l = nI (gX G l) ∧ Mr.1 292 l = nI (gM G l) ∧ Mr.1 297 l = nI (gY G l) ∧ (gY G l = 1 → 0 < l ∧ (∀ a c, a < 6 → c < 8 → Mr.2.1 300 (48 * l + (8 * a + c)) = Mc.2.1 (44 + (l - 1)) (a * 9 + c)) ∧ (∀ a, a < 6 → Mr.2.1 301 (6 * l + a) = Mc.2.1 (44 + (l - 1)) (a * 9 + 8)) ∧ (rc = 1 → Mr.1 304 l = Mc.1 50 (l - 1) ∧ ∀ a, a < 6 → Mr.2.1 302 (6 * l + a) = Mc.2.1 (44 + (l - 1)) (54 + a) ∧ Mr.2.1 303 (6 * l + a) = Mc.2.1 (44 + (l - 1)) (60 + a)))
def zK0 (rc : Nat) (M0 M : ip_Mm) : Prop := (∀ i, i < 48 → M.2.1 300 i = M0.2.1 263 i) ∧ (∀ i, i < 6 → M.2.1 301 i = M0.2.1 264 i) ∧ (rc = 1 → M.1 304 0 = 0 ∧ ∀ i, i < 6 → M.2.1 302 i = 0 ∧ M.2.1 303 i = 0)
/-- chains of frames -/
def zCv (t g n : Nat) (M : ip_Mm) (c : Nat → Nat) : Prop := ∀ l, l < n → c l < g ∧ M.1 282 (101 * t + c l) = (if l = 0 then -1 else nI (c (l - 1)))
def zFt (t m g : Nat) (M : ip_Mm) (de : Nat → Nat) (ch : Nat → Nat → Nat) : Prop := (∀ k, k < m → 1 ≤ de k ∧ de k ≤ 6 ∧ M.1 277 (7 * (100 * t + k)) = nI (de k) ∧ M.1 279 (100 * t + k) = nI (ch k (de k - 1)) ∧ zCv t g (de k) M (ch k) ∧ M.1 277 (7 * (100 * t + k) + 1) = M.1 280 (101 * t + ch k (de k - 1)) ∧ M.1 277 (7 * (100 * t + k) + 2) = M.1 281 (101 * t + ch k (de k - 1))) ∧ (0 < m → de 0 = 1) ∧ (∀ k, k + 1 < m → de (k + 1) ≤ de k + 1 ∧ ∀ l, l < de k → l < de (k + 1) → ch (k + 1) l = ch k l)
def zFl (t m dp : Nat) (M : ip_Mm) : Prop := ∃ (g : Nat) (de : Nat → Nat) (ch : Nat → Nat → Nat) (cu : Nat → Nat), g ≤ 101 ∧ M.1 256 48 = nI g ∧ zFt t m g M de ch ∧ zCv t g dp M cu ∧ (∀ l, l < dp → M.1 296 l = nI (cu l) ∧ M.1 280 (101 * t + cu l) = M.1 291 l ∧ M.1 281 (101 * t + cu l) = M.1 292 l) ∧ (m = 0 → dp ≤ 1) ∧ (0 < m → dp ≤ de (m - 1) + 1 ∧ ∀ l, l < de (m - 1) → l < dp → cu l = ch (m - 1) l)
def zRc (ta t m dp : Nat) (Mc Mr : ip_Mm) : Prop := zSp ta t m Mc Mr ∧ zTo ta t Mc Mr ∧ zTe ta t Mc Mr ∧ zFl t m dp Mr
section FR0
variable {K : zK} {G : zG} {M M' Mc Mc' Mr Mr' M0 : ip_Mm} {n ta t rc m dp N : Nat}
theorem zWf_f (h : zWf K n G M) (hn : n ≤ 6) (hc : sR 73 85 M M') : zWf K n G M' := by
  intro l hl
  have c1 := hc (73 + 2 * l) (by omega) (by omega)
  rw [c1.1, c1.2]
  exact h l hl
theorem zFr_f (h : zFr n G Mc Mr) (hn : n ≤ 6) (hc : sR 73 85 Mc Mc') (hr : sR 291 300 Mr Mr') : zFr n G Mc' Mr' := by
  intro l hl
  have c1 := hc (73 + 2 * l) (by omega) (by omega)
  have c2 := hc (73 + 2 * l + 1) (by omega) (by omega)
  rw [c1.1, c1.2, c2.2, (hr 291 (by omega) (by omega)).1, (hr 292 (by omega) (by omega)).1, (hr 293 (by omega) (by omega)).1, (hr 294 (by omega) (by omega)).1, (hr 295 (by omega) (by omega)).2, (hr 298 (by omega) (by omega)).1, (hr 299 (by omega) (by omega)).2]
  exact h l hl
theorem zSk_f (h : zSk Mc Mr) (hc : sR 73 85 Mc Mc') (hr : sR 299 300 Mr Mr') : zSk Mc' Mr' := by
  intro l i hl hi
  rw [(hc (73 + 2 * l + 1) (by omega) (by omega)).2, (hr 299 (by omega) (by omega)).2]
  exact h l i hl hi
theorem zSt_f (h : zSt rc t Mc Mr) (hc : sR 42 43 Mc Mc') (h1 : sR 263 265 Mr Mr') (h2 : sR 289 291 Mr Mr') : zSt rc t Mc' Mr' := by
  unfold zSt
  rw [(hc 42 (by omega) (by omega)).2, (h1 263 (by omega) (by omega)).2, (h1 264 (by omega) (by omega)).2, (h2 289 (by omega) (by omega)).2, (h2 290 (by omega) (by omega)).2]
  exact h
theorem zSp_f (h : zSp ta t m Mc Mr) (hc : sR (ta + 3) (ta + 11) Mc Mc') (hr : sR 277 279 Mr Mr') : zSp ta t m Mc' Mr' := by
  intro k hk
  rw [(hr 277 (by omega) (by omega)).1, (hr 278 (by omega) (by omega)).2, (hc (ta + 10) (by omega) (by omega)).2]
  refine ⟨fun w hw => ?_, (h k hk).2.1, zRg_c (h k hk).2.2 (fun w hw => by rw [(hc (ta + 3 + w) (by omega) (by omega)).1])⟩
  rw [(hc (ta + 3 + w) (by omega) (by omega)).1]
  exact (h k hk).1 w hw
theorem zTW_f (h : zTW ta N M) (hc : sR (ta + 11) (ta + 15) M M') : zTW ta N M' := by
  unfold zTW
  rw [(hc (ta + 11) (by omega) (by omega)).1, (hc (ta + 12) (by omega) (by omega)).1, (hc (ta + 13) (by omega) (by omega)).1, (hc (ta + 14) (by omega) (by omega)).1]
  exact h
theorem zTW_m {N' : Nat} (h : zTW ta N M) (hn : N ≤ N') : zTW ta N' M := by
  obtain ⟨tc, h1, h2, h3, h4, h5, h6⟩ := h
  exact ⟨tc, h1, h2, h3, h4, h5, fun p hp => by
    obtain ⟨r, w, a, b, c, e⟩ := h6 p hp
    exact ⟨r, w, by omega, by omega, c, e⟩⟩
theorem zTo_f (h : zTo ta t Mc Mr) (hc : sR (ta + 11) (ta + 15) Mc Mc') (hr : sR 283 285 Mr Mr') : zTo ta t Mc' Mr' := by
  unfold zTo
  rw [(hc (ta + 11) (by omega) (by omega)).1, (hc (ta + 12) (by omega) (by omega)).1, (hc (ta + 13) (by omega) (by omega)).1, (hc (ta + 14) (by omega) (by omega)).1, (hr 283 (by omega) (by omega)).1, (hr 284 (by omega) (by omega)).1]
  exact h
theorem zTe_f (h : zTe ta t Mc Mr) (hc : sR (ta + 15) (ta + 19) Mc Mc') (hr : sR 285 289 Mr Mr') : zTe ta t Mc' Mr' := by
  unfold zTe
  rw [(hc (ta + 15) (by omega) (by omega)).1, (hc (ta + 16) (by omega) (by omega)).1, (hc (ta + 17) (by omega) (by omega)).2, (hc (ta + 18) (by omega) (by omega)).2, (hr 285 (by omega) (by omega)).1, (hr 286 (by omega) (by omega)).1, (hr 287 (by omega) (by omega)).2, (hr 288 (by omega) (by omega)).2]
  exact h
theorem zKp_f (h : zKp rc dp G Mc Mr) (hd : dp ≤ 6) (hc : sR 44 51 Mc Mc') (h0 : sR 291 293 Mr Mr') (h1 : sR 297 298 Mr Mr') (h2 : sR 300 305 Mr Mr') : zKp rc dp G Mc' Mr' := by
  intro l hl
  rw [(h0 291 (by omega) (by omega)).1, (h0 292 (by omega) (by omega)).1, (hc (44 + (l - 1)) (by omega) (by omega)).2, (hc 50 (by omega) (by omega)).1, (h1 297 (by omega) (by omega)).1, (h2 300 (by omega) (by omega)).2, (h2 301 (by omega) (by omega)).2, (h2 302 (by omega) (by omega)).2, (h2 303 (by omega) (by omega)).2, (h2 304 (by omega) (by omega)).1]
  exact h l hl
theorem zK0_f (h : zK0 rc M0 M) (h2 : sR 300 305 M M') : zK0 rc M0 M' := by
  unfold zK0
  rw [(h2 300 (by omega) (by omega)).2, (h2 301 (by omega) (by omega)).2, (h2 302 (by omega) (by omega)).2, (h2 303 (by omega) (by omega)).2, (h2 304 (by omega) (by omega)).1]
  exact h
theorem zFl_f (h : zFl t m dp M) (h1 : sR 277 283 M M') (h2 : sR 291 293 M M') (h3 : sR 296 297 M M') (h4 : M'.1 256 48 = M.1 256 48) : zFl t m dp M' := by
  unfold zFl zFt zCv
  rw [(h1 277 (by omega) (by omega)).1, (h1 279 (by omega) (by omega)).1, (h1 280 (by omega) (by omega)).1, (h1 281 (by omega) (by omega)).1, (h1 282 (by omega) (by omega)).1, (h2 291 (by omega) (by omega)).1, (h2 292 (by omega) (by omega)).1, (h3 296 (by omega) (by omega)).1, h4]
  exact h
theorem zRc_f (h : zRc ta t m dp Mc Mr) (hc : sR (ta + 3) (ta + 19) Mc Mc') (h1 : sR 277 289 Mr Mr') (h2 : sR 291 293 Mr Mr') (h3 : sR 296 297 Mr Mr') (h4 : Mr'.1 256 48 = Mr.1 256 48) : zRc ta t m dp Mc' Mr' :=
  ⟨zSp_f h.1 (fun c a b => hc c (by omega) (by omega)) (fun c a b => h1 c (by omega) (by omega)), zTo_f h.2.1 (fun c a b => hc c (by omega) (by omega)) (fun c a b => h1 c (by omega) (by omega)), zTe_f h.2.2.1 (fun c a b => hc c (by omega) (by omega)) (fun c a b => h1 c (by omega) (by omega)), zFl_f h.2.2.2 (fun c a b => h1 c (by omega) (by omega)) h2 h3 h4⟩
end FR0
