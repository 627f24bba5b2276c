/-! the invariant at the start; the law on the pure machine -/
theorem m0_0 {c j : Nat} (h1 : c ≠ 5) (h2 : c ≠ 6) (h3 : c ≠ 41) (h4 : c < 73 ∨ 83 < c) (h5 : c ≠ 262) : M0.1 c j = 0 := by
  show M0f c j = 0
  unfold M0f
  rw [if_neg h1, if_neg h2, if_neg h3, if_neg (by omega), if_neg h5]
theorem m0_262 {k : Nat} (h : k < 16) : M0.1 262 k = 1 := by
  rcases (show k = 0 ∨ k = 1 ∨ k = 2 ∨ k = 3 ∨ k = 4 ∨ k = 5 ∨ k = 6 ∨ k = 7 ∨ k = 8 ∨ k = 9 ∨ k = 10 ∨ k = 11 ∨ k = 12 ∨ k = 13 ∨ k = 14 ∨ k = 15 by omega) with rfl | rfl | rfl | rfl | rfl | rfl | rfl | rfl | rfl | rfl | rfl | rfl | rfl | rfl | rfl | rfl <;> rfl
theorem m0_iv : zIv M0 := by
  refine ⟨(0, 0, fun _ => 0, fun _ _ => 0, fun _ _ => 0, fun _ _ => 0, fun _ _ => -1, fun _ => 1), 0, 0, ⟨by decide, by decide, fun _ => (show 0 ≤ 20 by decide), fun _ _ => (show 0 < 16 by decide), fun _ => ⟨(show 1 ≤ 1 by decide), (show 1 ≤ 50 by decide)⟩, fun a m ha => absurd ha (Nat.not_lt_zero _)⟩, ⟨rfl, rfl, fun p hp => ?_, fun p i hp hi => ⟨?_, rfl, ?_⟩, fun a m ha => absurd ha (Nat.not_lt_zero _), fun k hk => ?_⟩, ⟨rfl, rfl, fun p hp => ?_, fun p i hp hi => ⟨?_, rfl, ?_⟩, fun a m ha => absurd ha (Nat.not_lt_zero _), fun k hk => ?_⟩, ⟨fun p hp => rfl, fun a m h1 h2 h3 => ?_⟩, ⟨fun a c ha hc => rfl, fun a ha => rfl⟩, ⟨by decide, by decide, rfl, rfl, rfl, rfl⟩, fun t ht => absurd ht (Nat.not_lt_zero _), fun t ht i hi => ⟨?_, rfl, rfl⟩, fun l i hl hi => rfl, fun l hl => ⟨0, by decide, ?_⟩, ⟨0, by decide, rfl, rfl, fun i hi => absurd hi (Nat.not_lt_zero _)⟩⟩
  · rw [m0_0 (by omega) (by omega) (by omega) (by omega) (by omega)]; rfl
  · rw [m0_0 (by omega) (by omega) (by omega) (by omega) (by omega)]; rfl
  · rw [m0_0 (by omega) (by omega) (by omega) (by omega) (by omega)]; rfl
  · show M0f 6 k = _
    unfold M0f
    rw [if_neg (by decide), if_pos rfl, if_pos ⟨Nat.zero_le _, hk⟩]
    rfl
  · rw [m0_0 (by omega) (by omega) (by omega) (by omega) (by omega)]; rfl
  · rw [m0_0 (by omega) (by omega) (by omega) (by omega) (by omega)]; rfl
  · rw [m0_0 (by omega) (by omega) (by omega) (by omega) (by omega)]; rfl
  · rw [m0_262 hk]; rfl
  · show M0f 5 _ = _
    unfold M0f
    rw [if_pos rfl, if_pos ⟨Nat.zero_le _, by omega⟩]
  · rw [m0_0 (by omega) (by omega) (by omega) (by omega) (by omega), m0_0 (by omega) (by omega) (by omega) (by omega) (by omega)]
  · rw [m0_0 (by omega) (by omega) (by omega) (by omega) (by omega)]; rfl
theorem hm_sp {L : Nat} {xs : Nat → Int32} {M : ip_Mm} {c : Nat} (h : 2 ≤ c) : (ip_hm L xs M).2.2 c = (ip_sp c).map (ip_ce M c) := by
  show (if c = 0 then _ else if c = 1 then _ else (ip_sp c).map (ip_ce M c)) = _
  rw [if_neg (by omega), if_neg (by omega)]
theorem h_end {L : Nat} {xs : Nat → Int32} : ha L xs 25966 (clL 8 ++ Sum.inr (9, oR_52) :: reC) = rnH rnT rnE (ip_hm L xs M0) := by
  symm
  refine ha_x ?_ rfl (fun a => ?_) rfl rfl
  · show 309 = (clL 8 ++ Sum.inr (9, oR_52) :: reC).length + 2
    rw [List.length_append, clL_len]
    rfl
  · show ((ip_hm L xs M0).2.2 (rnE (a + 2))).map (rnC rnT) = (clL 8 ++ Sum.inr (9, oR_52) :: reC)[a]?
    rw [hm_sp re_2, clD_e, show clD ++ Sum.inr (9, oR_52) :: reC = gD from rfl, gD_e, List.getElem?_map, ly_e]
    cases ip_sp (rnE (a + 2)) with
    | none => rfl
    | some s => exact congrArg some ceR_e
theorem h_0 {L : Nat} {xs : Nat → Int32} : ip_h0 L xs = ha L xs 0 [] := by
  refine ha_x rfl rfl (fun a => ?_) rfl rfl
  unfold ip_h0
  dsimp only
  rw [if_neg (by omega), if_neg (by omega)]
  rfl
theorem pure_law : ip_pure := by
  intro L xs hL
  have n0 : ip_new (ha L xs 0 []) 7 (.inr (8, [.null, .null, .null, .null, .null, .int 0, .int 0])) = ha L xs 7 [oC .null .null .null .null .null] := ha_n
  have a0 : (ha L xs 0 []).1 = 2 := rfl
  have k0 := k_CI (d := 1395) (L := L) (xs := xs) (w := 7)
  have n1 : ip_new (ha L xs (7 + 11780) (clL 8)) 70 (.inr (9, [.int 0, .null, .null, .null, .null, .int 0, .null, .null, .null, .null, .int 0, .int 0, .null, .null, .null, .null, .null, .null, .null, .null, .null, .null, .null, .null, .null, .null, .null, .null, .null, .null, .null, .null, .null, .null, .null, .null, .null, .null, .int 0, .int 0, .int 0, .int 0, .int 0, .int 0, .int 0, .int 0, .long 0, .long 0, .int 0, .int 0, .int 0, .null, .null, .null, .null, .null, .null, .null, .null, .null, .null, .null, .null, .null, .null, .null, .null, .int 0, .null, .null])) = ha L xs 11857 (clL 8 ++ [.inr (9, oR_0)]) := ha_n
  have a1 : (ha L xs (7 + 11780) (clL 8)).1 = 256 := by rw [ha_1, clL_len]
  have k1 := k_RI (d := 1398) (L := L) (xs := xs) (P := clL 8) (by rw [clL_len])
  rw [h_end] at k1
  obtain ⟨M', e⟩ := lp_law (d := 1339) (xs := xs) hL 513 0 M0 (by omega) (by omega) m0_iv
  have e := rn_go rn_K (show 85 ≤ (ip_hm L xs M0).1 from (by decide : 85 ≤ 309)) e
  refine ⟨rnH rnT rnE (ip_hm L xs M'), ?_, (show 309 ≤ 600002 by decide), (show 25966 ≤ 7302250 by decide)⟩
  rw [h_0]
  have st : ip_call 1400 mlaw [.ref 0] (ha L xs 0 []) = ip_go 1400 mlaw 18 [some (.ref 0), some (.ref 2), some (.ref 256), some (.int 0)] [] (rnH rnT rnE (ip_hm L xs M0)) := by
    show ip_call (1399 + 1) mlaw [.ref 0] (ha L xs 0 []) = ip_go (1399 + 1) mlaw 18 [some (.ref 0), some (.ref 2), some (.ref 256), some (.int 0)] [] (rnH rnT rnE (ip_hm L xs M0))
    have k0' : ip_call 1399 mC_init [.ref 2] (ha L xs 7 [oC .null .null .null .null .null]) = some (none, ha L xs (7 + 11780) (clL 8)) := k0
    have k1' : ip_call 1399 mR_init [.ref 256] (ha L xs 11857 (clL 8 ++ [.inr (9, oR_0)])) = some (none, rnH rnT rnE (ip_hm L xs M0)) := k1
    simp only [in146, e146_0, e146_3, e146_4, e146_7, e146_8, e146_11, e146_12, e146_15, e146_16, e146_17, n0, a0, k0', n1, a1, k1', Option.bind_some, Option.bind_none, Option.toList_some, Option.toList_none, List.cons_append, List.nil_append, if_true, if_false, ite_true, ite_false, bd_ite, eq_self, not_true_eq_false, not_false_eq_true, true_or, or_true, or_self, k1_i, k1_j, k1_a, k1_n]
  exact st.trans e
