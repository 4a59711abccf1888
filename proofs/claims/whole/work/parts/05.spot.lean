theorem dS_tile_0 : decode cS_tile 0 = .ok (.iload_n 0, 1) := by decide +kernel
theorem dS_tile_1 : decode cS_tile 1 = .ok (.bipush 8, 2) := by decide +kernel
theorem dS_tile_3 : decode cS_tile 3 = .ok (.iload_n 1, 1) := by decide +kernel
theorem dS_tile_4 : decode cS_tile 4 = .ok (.imul, 1) := by decide +kernel
theorem dS_tile_5 : decode cS_tile 5 = .ok (.iadd, 1) := by decide +kernel
theorem dS_tile_6 : decode cS_tile 6 = .ok (.ireturn, 1) := by decide +kernel
theorem dS_place_0 : decode cS_place 0 = .ok (.iload_n 0, 1) := by decide +kernel
theorem dS_place_1 : decode cS_place 1 = .ok (.bipush 64, 2) := by decide +kernel
theorem dS_place_3 : decode cS_place 3 = .ok (.iload_n 1, 1) := by decide +kernel
theorem dS_place_4 : decode cS_place 4 = .ok (.imul, 1) := by decide +kernel
theorem dS_place_5 : decode cS_place 5 = .ok (.iadd, 1) := by decide +kernel
theorem dS_place_6 : decode cS_place 6 = .ok (.ireturn, 1) := by decide +kernel
theorem dS_run_0 : decode cS_run 0 = .ok (.iload_n 0, 1) := by decide +kernel
theorem dS_run_1 : decode cS_run 1 = .ok (.sipush 512, 3) := by decide +kernel
theorem dS_run_4 : decode cS_run 4 = .ok (.iload_n 1, 1) := by decide +kernel
theorem dS_run_5 : decode cS_run 5 = .ok (.imul, 1) := by decide +kernel
theorem dS_run_6 : decode cS_run 6 = .ok (.iadd, 1) := by decide +kernel
theorem dS_run_7 : decode cS_run 7 = .ok (.ireturn, 1) := by decide +kernel
theorem dS_exit_0 : decode cS_exit 0 = .ok (.iload_n 0, 1) := by decide +kernel
theorem dS_exit_1 : decode cS_exit 1 = .ok (.bipush 64, 2) := by decide +kernel
theorem dS_exit_3 : decode cS_exit 3 = .ok (.iload_n 1, 1) := by decide +kernel
theorem dS_exit_4 : decode cS_exit 4 = .ok (.imul, 1) := by decide +kernel
theorem dS_exit_5 : decode cS_exit 5 = .ok (.iadd, 1) := by decide +kernel
theorem dS_exit_6 : decode cS_exit 6 = .ok (.ireturn, 1) := by decide +kernel
theorem dS_tileOf_0 : decode cS_tileOf 0 = .ok (.iload_n 0, 1) := by decide +kernel
theorem dS_tileOf_1 : decode cS_tileOf 1 = .ok (.bipush 63, 2) := by decide +kernel
theorem dS_tileOf_3 : decode cS_tileOf 3 = .ok (.iand, 1) := by decide +kernel
theorem dS_tileOf_4 : decode cS_tileOf 4 = .ok (.ireturn, 1) := by decide +kernel
theorem dS_placeOf_0 : decode cS_placeOf 0 = .ok (.iload_n 0, 1) := by decide +kernel
theorem dS_placeOf_1 : decode cS_placeOf 1 = .ok (.sipush 511, 3) := by decide +kernel
theorem dS_placeOf_4 : decode cS_placeOf 4 = .ok (.iand, 1) := by decide +kernel
theorem dS_placeOf_5 : decode cS_placeOf 5 = .ok (.ireturn, 1) := by decide +kernel
theorem dS_pieceOf_0 : decode cS_pieceOf 0 = .ok (.iload_n 0, 1) := by decide +kernel
theorem dS_pieceOf_1 : decode cS_pieceOf 1 = .ok (.sipush 511, 3) := by decide +kernel
theorem dS_pieceOf_4 : decode cS_pieceOf 4 = .ok (.iand, 1) := by decide +kernel
theorem dS_pieceOf_5 : decode cS_pieceOf 5 = .ok (.bipush 64, 2) := by decide +kernel
theorem dS_pieceOf_7 : decode cS_pieceOf 7 = .ok (.idiv, 1) := by decide +kernel
theorem dS_pieceOf_8 : decode cS_pieceOf 8 = .ok (.ireturn, 1) := by decide +kernel
theorem dS_edgeOf_0 : decode cS_edgeOf 0 = .ok (.iload_n 0, 1) := by decide +kernel
theorem dS_edgeOf_1 : decode cS_edgeOf 1 = .ok (.sipush 512, 3) := by decide +kernel
theorem dS_edgeOf_4 : decode cS_edgeOf 4 = .ok (.idiv, 1) := by decide +kernel
theorem dS_edgeOf_5 : decode cS_edgeOf 5 = .ok (.ireturn, 1) := by decide +kernel
theorem dS_opposite_0 : decode cS_opposite 0 = .ok (.iload_n 0, 1) := by decide +kernel
theorem dS_opposite_1 : decode cS_opposite 1 = .ok (.iconst 2, 1) := by decide +kernel
theorem dS_opposite_2 : decode cS_opposite 2 = .ok (.ixor, 1) := by decide +kernel
theorem dS_opposite_3 : decode cS_opposite 3 = .ok (.ireturn, 1) := by decide +kernel
theorem dS_hasEdge_0 : decode cS_hasEdge 0 = .ok (.getstatic 9, 3) := by decide +kernel
theorem dS_hasEdge_3 : decode cS_hasEdge 3 = .ok (.iload_n 0, 1) := by decide +kernel
theorem dS_hasEdge_4 : decode cS_hasEdge 4 = .ok (.iaload, 1) := by decide +kernel
theorem dS_hasEdge_5 : decode cS_hasEdge 5 = .ok (.iload_n 1, 1) := by decide +kernel
theorem dS_hasEdge_6 : decode cS_hasEdge 6 = .ok (.if_icmp .eq 12, 3) := by decide +kernel
theorem dS_hasEdge_9 : decode cS_hasEdge 9 = .ok (.getstatic 15, 3) := by decide +kernel
theorem dS_hasEdge_12 : decode cS_hasEdge 12 = .ok (.iload_n 0, 1) := by decide +kernel
theorem dS_hasEdge_13 : decode cS_hasEdge 13 = .ok (.iaload, 1) := by decide +kernel
theorem dS_hasEdge_14 : decode cS_hasEdge 14 = .ok (.iload_n 1, 1) := by decide +kernel
theorem dS_hasEdge_15 : decode cS_hasEdge 15 = .ok (.if_icmp .ne 7, 3) := by decide +kernel
theorem dS_hasEdge_18 : decode cS_hasEdge 18 = .ok (.iconst 1, 1) := by decide +kernel
theorem dS_hasEdge_19 : decode cS_hasEdge 19 = .ok (.goto 4, 3) := by decide +kernel
theorem dS_hasEdge_22 : decode cS_hasEdge 22 = .ok (.iconst 0, 1) := by decide +kernel
theorem dS_hasEdge_23 : decode cS_hasEdge 23 = .ok (.ireturn, 1) := by decide +kernel
theorem dS_otherEdge_0 : decode cS_otherEdge 0 = .ok (.getstatic 9, 3) := by decide +kernel
theorem dS_otherEdge_3 : decode cS_otherEdge 3 = .ok (.iload_n 0, 1) := by decide +kernel
theorem dS_otherEdge_4 : decode cS_otherEdge 4 = .ok (.iaload, 1) := by decide +kernel
theorem dS_otherEdge_5 : decode cS_otherEdge 5 = .ok (.getstatic 15, 3) := by decide +kernel
theorem dS_otherEdge_8 : decode cS_otherEdge 8 = .ok (.iload_n 0, 1) := by decide +kernel
theorem dS_otherEdge_9 : decode cS_otherEdge 9 = .ok (.iaload, 1) := by decide +kernel
theorem dS_otherEdge_10 : decode cS_otherEdge 10 = .ok (.iadd, 1) := by decide +kernel
theorem dS_otherEdge_11 : decode cS_otherEdge 11 = .ok (.iload_n 1, 1) := by decide +kernel
theorem dS_otherEdge_12 : decode cS_otherEdge 12 = .ok (.isub, 1) := by decide +kernel
theorem dS_otherEdge_13 : decode cS_otherEdge 13 = .ok (.ireturn, 1) := by decide +kernel
theorem dS_entryOf_0 : decode cS_entryOf 0 = .ok (.iload_n 0, 1) := by decide +kernel
theorem dS_entryOf_1 : decode cS_entryOf 1 = .ok (.invokestatic 18, 3) := by decide +kernel
theorem dS_entryOf_4 : decode cS_entryOf 4 = .ok (.iload_n 0, 1) := by decide +kernel
theorem dS_entryOf_5 : decode cS_entryOf 5 = .ok (.invokestatic 22, 3) := by decide +kernel
theorem dS_entryOf_8 : decode cS_entryOf 8 = .ok (.invokestatic 25, 3) := by decide +kernel
theorem dS_entryOf_11 : decode cS_entryOf 11 = .ok (.ireturn, 1) := by decide +kernel
theorem lfS_9 : Cond.fieldLink R_S 9 "RailYard$Spot" "FIRST_EDGE" "[I" ∈ bigW := bw 308 (by decide +kernel) rfl
theorem lfS_15 : Cond.fieldLink R_S 15 "RailYard$Spot" "SECOND_EDGE" "[I" ∈ bigW := bw 310 (by decide +kernel) rfl
theorem lmS_18 : Cond.methodLink R_S 18 yS_pieceOf ∈ bigW := bw 357 (by decide +kernel) rfl
theorem lmS_22 : Cond.methodLink R_S 22 yS_edgeOf ∈ bigW := bw 360 (by decide +kernel) rfl
theorem lmS_25 : Cond.methodLink R_S 25 yS_otherEdge ∈ bigW := bw 361 (by decide +kernel) rfl
theorem miS_pieceOf : MI yS_pieceOf cS_pieceOf 1 (some .int) 1 := ⟨bw 359 (by decide +kernel) rfl, bw 49 (by decide +kernel) rfl, ⟨by decide +kernel, by decide +kernel⟩, by decide +kernel, by decide⟩
theorem msS_pieceOf : Cond.static yS_pieceOf ∈ bigW := bw 358 (by decide +kernel) rfl
theorem miS_edgeOf : MI yS_edgeOf cS_edgeOf 1 (some .int) 1 := ⟨bw 324 (by decide +kernel) rfl, bw 49 (by decide +kernel) rfl, ⟨by decide +kernel, by decide +kernel⟩, by decide +kernel, by decide⟩
theorem msS_edgeOf : Cond.static yS_edgeOf ∈ bigW := bw 323 (by decide +kernel) rfl
theorem miS_otherEdge : MI yS_otherEdge cS_otherEdge 2 (some .int) 2 := ⟨bw 363 (by decide +kernel) rfl, bw 49 (by decide +kernel) rfl, ⟨by decide +kernel, by decide +kernel⟩, by decide +kernel, by decide⟩
theorem msS_otherEdge : Cond.static yS_otherEdge ∈ bigW := bw 362 (by decide +kernel) rfl
/-! bits as numbers -/
theorem nb_and (a b : Nat) : nI a &&& nI b = nI (a &&& b) := by
  apply Int32.toBitVec_inj.1
  show BitVec.ofNat 32 a &&& BitVec.ofNat 32 b = BitVec.ofNat 32 (a &&& b)
  apply BitVec.eq_of_getLsbD_eq
  intro i hi
  simp [hi]
theorem nb_or (a b : Nat) : nI a ||| nI b = nI (a ||| b) := by
  apply Int32.toBitVec_inj.1
  show BitVec.ofNat 32 a ||| BitVec.ofNat 32 b = BitVec.ofNat 32 (a ||| b)
  apply BitVec.eq_of_getLsbD_eq
  intro i hi
  simp [hi]
theorem nb_xor (a b : Nat) : nI a ^^^ nI b = nI (a ^^^ b) := by
  apply Int32.toBitVec_inj.1
  show BitVec.ofNat 32 a ^^^ BitVec.ofNat 32 b = BitVec.ofNat 32 (a ^^^ b)
  apply BitVec.eq_of_getLsbD_eq
  intro i hi
  simp [hi]
theorem iand_nn {a b : Int} (ha : 0 ≤ a) (hb : 0 ≤ b) (ha2 : a < 2147483648) : iand a b = ((a.toNat &&& b.toNat : Nat) : Int) := by
  unfold iand
  rw [iR_n ha, iR_n hb, nb_and]
  have := @Nat.and_le_left a.toNat b.toNat
  exact nI_toInt (by omega)
theorem ior_nn {a b : Int} (ha : 0 ≤ a) (hb : 0 ≤ b) (ha2 : a < 2147483648) (hb2 : b < 2147483648) : ior a b = ((a.toNat ||| b.toNat : Nat) : Int) := by
  unfold ior
  rw [iR_n ha, iR_n hb, nb_or]
  exact nI_toInt (Nat.or_lt_two_pow (n := 31) (by omega) (by omega))
theorem ixor_nn {a b : Int} (ha : 0 ≤ a) (hb : 0 ≤ b) (ha2 : a < 2147483648) (hb2 : b < 2147483648) : ixor a b = ((a.toNat ^^^ b.toNat : Nat) : Int) := by
  unfold ixor
  rw [iR_n ha, iR_n hb, nb_xor]
  exact nI_toInt (Nat.xor_lt_two_pow (n := 31) (by omega) (by omega))
theorem iand_63 {a : Int} (h : 0 ≤ a ∧ a < 2147483648) : iand a 63 = a % 64 := by
  rw [iand_nn h.1 (by decide) h.2]
  show ((a.toNat &&& (2 ^ 6 - 1) : Nat) : Int) = _
  rw [Nat.and_two_pow_sub_one_eq_mod]
  omega
theorem iand_511 {a : Int} (h : 0 ≤ a ∧ a < 2147483648) : iand a 511 = a % 512 := by
  rw [iand_nn h.1 (by decide) h.2]
  show ((a.toNat &&& (2 ^ 9 - 1) : Nat) : Int) = _
  rw [Nat.and_two_pow_sub_one_eq_mod]
  omega
theorem iand_1 {a : Int} (h : 0 ≤ a ∧ a < 2147483648) : iand a 1 = a % 2 := by
  rw [iand_nn h.1 (by decide) h.2]
  show ((a.toNat &&& (2 ^ 1 - 1) : Nat) : Int) = _
  rw [Nat.and_two_pow_sub_one_eq_mod]
  omega
theorem ixor_2 {a : Int} (h : 0 ≤ a ∧ a < 4) : ixor a 2 = (a + 2) % 4 := by
  rcases (show a = 0 ∨ a = 1 ∨ a = 2 ∨ a = 3 by omega) with rfl | rfl | rfl | rfl <;> decide +kernel
def p2 (n : Int) : Int := ((2 ^ n.toNat : Nat) : Int)
theorem ishl_nat : ∀ n, n < 31 → ishl 1 ((n : Nat) : Int) = ((2 ^ n : Nat) : Int) := by decide +kernel
theorem ishl_1 {n : Int} (h : 0 ≤ n ∧ n < 31) : ishl 1 n = p2 n := by
  have := ishl_nat n.toNat (by omega)
  rw [Int.toNat_of_nonneg h.1] at this
  exact this
theorem sm_nat : ∀ n, n < 32 → ((nI n &&& 31).toBitVec.smod 32).toNat = n := by decide +kernel
theorem ishr_nn {a n : Int} (ha : 0 ≤ a ∧ a < 2147483648) (hn : 0 ≤ n ∧ n < 32) : ishr a n = ((a.toNat / 2 ^ n.toNat : Nat) : Int) := by
  unfold ishr
  rw [iR_n ha.1, iR_n hn.1, pk_shrN (by omega) _ n.toNat (sm_nat n.toNat (by omega))]
  have := Nat.div_le_self a.toNat (2 ^ n.toNat)
  exact nI_toInt (by omega)
/-- bit n of a -/
def tb (a n : Int) : Prop := a.toNat.testBit n.toNat = true
theorem bit_1 {a n : Int} (ha : 0 ≤ a ∧ a < 2147483648) (hn : 0 ≤ n ∧ n < 32) : iand (ishr a n) 1 = bz (tb a n) := by
  rw [ishr_nn ha hn, iand_1 ⟨Int.natCast_nonneg _, by
    have := Nat.div_le_self a.toNat (2 ^ n.toNat)
    omega⟩]
  unfold tb
  rw [Nat.testBit_eq_decide_div_mod_eq, decide_eq_true_eq]
  generalize a.toNat / 2 ^ n.toNat = z
  by_cases h : z % 2 = 1
  · rw [bz_t h]; omega
  · rw [bz_f h]; omega

theorem ctS_tile {G : vG} {l : Launch} {w : RW} {x y : Int} (h : -1000 ≤ x ∧ x ≤ 1000 ∧ -1000 ≤ y ∧ y ≤ 1000) : CTi G l yS_tile cS_tile 2 .int 0 [.inl x, .inl y] w (fun r u => r = x + 8 * y ∧ w = u) := by
  refine CTi.int (by decide) (Nat.le_of_ble_eq_true rfl) ?_
  intro X Q F hX hR
  subst hX
  show V G X 2 Q 0 [some (.inl x), some (.inl y)] [] w
  refine V_iload_n (i := 0) F dS_tile_0 rfl rfl ?_
  refine V_bipush F dS_tile_1 (by decide) ?_
  refine V_iload_n (i := 1) F dS_tile_3 rfl rfl ?_
  refine V_imul F dS_tile_4 (by omega) ?_
  refine V_iadd F dS_tile_5 (by omega) ?_
  exact hR _ _ _ _ dS_tile_6 (⟨rfl, rfl⟩)
theorem ctS_place {G : vG} {l : Launch} {w : RW} {x y : Int} (h : -1000 ≤ x ∧ x ≤ 1000 ∧ -1000 ≤ y ∧ y ≤ 1000) : CTi G l yS_place cS_place 2 .int 0 [.inl x, .inl y] w (fun r u => r = x + 64 * y ∧ w = u) := by
  refine CTi.int (by decide) (Nat.le_of_ble_eq_true rfl) ?_
  intro X Q F hX hR
  subst hX
  show V G X 2 Q 0 [some (.inl x), some (.inl y)] [] w
  refine V_iload_n (i := 0) F dS_place_0 rfl rfl ?_
  refine V_bipush F dS_place_1 (by decide) ?_
  refine V_iload_n (i := 1) F dS_place_3 rfl rfl ?_
  refine V_imul F dS_place_4 (by omega) ?_
  refine V_iadd F dS_place_5 (by omega) ?_
  exact hR _ _ _ _ dS_place_6 (⟨rfl, rfl⟩)
theorem ctS_run {G : vG} {l : Launch} {w : RW} {x y : Int} (h : -1000 ≤ x ∧ x ≤ 1000 ∧ -1000 ≤ y ∧ y ≤ 1000) : CTi G l yS_run cS_run 2 .int 0 [.inl x, .inl y] w (fun r u => r = x + 512 * y ∧ w = u) := by
  refine CTi.int (by decide) (Nat.le_of_ble_eq_true rfl) ?_
  intro X Q F hX hR
  subst hX
  show V G X 2 Q 0 [some (.inl x), some (.inl y)] [] w
  refine V_iload_n (i := 0) F dS_run_0 rfl rfl ?_
  refine V_sipush F dS_run_1 (by decide) ?_
  refine V_iload_n (i := 1) F dS_run_4 rfl rfl ?_
  refine V_imul F dS_run_5 (by omega) ?_
  refine V_iadd F dS_run_6 (by omega) ?_
  exact hR _ _ _ _ dS_run_7 (⟨rfl, rfl⟩)
theorem ctS_exit {G : vG} {l : Launch} {w : RW} {x y : Int} (h : -1000 ≤ x ∧ x ≤ 1000 ∧ -1000 ≤ y ∧ y ≤ 1000) : CTi G l yS_exit cS_exit 2 .int 0 [.inl x, .inl y] w (fun r u => r = x + 64 * y ∧ w = u) := by
  refine CTi.int (by decide) (Nat.le_of_ble_eq_true rfl) ?_
  intro X Q F hX hR
  subst hX
  show V G X 2 Q 0 [some (.inl x), some (.inl y)] [] w
  refine V_iload_n (i := 0) F dS_exit_0 rfl rfl ?_
  refine V_bipush F dS_exit_1 (by decide) ?_
  refine V_iload_n (i := 1) F dS_exit_3 rfl rfl ?_
  refine V_imul F dS_exit_4 (by omega) ?_
  refine V_iadd F dS_exit_5 (by omega) ?_
  exact hR _ _ _ _ dS_exit_6 (⟨rfl, rfl⟩)
theorem ctS_tileOf {G : vG} {l : Launch} {w : RW} {x : Int} (h : 0 ≤ x ∧ x < 100000) : CTi G l yS_tileOf cS_tileOf 1 .int 0 [.inl x] w (fun r u => r = x % 64 ∧ w = u) := by
  refine CTi.int (by decide) (Nat.le_of_ble_eq_true rfl) ?_
  intro X Q F hX hR
  subst hX
  show V G X 1 Q 0 [some (.inl x)] [] w
  refine V_iload_n (i := 0) F dS_tileOf_0 rfl rfl ?_
  refine V_bipush F dS_tileOf_1 (by decide) ?_
  refine V_iand F _ dS_tileOf_3 (iand_63 (by omega)) ?_
  exact hR _ _ _ _ dS_tileOf_4 (⟨rfl, rfl⟩)
theorem ctS_placeOf {G : vG} {l : Launch} {w : RW} {x : Int} (h : 0 ≤ x ∧ x < 100000) : CTi G l yS_placeOf cS_placeOf 1 .int 0 [.inl x] w (fun r u => r = x % 512 ∧ w = u) := by
  refine CTi.int (by decide) (Nat.le_of_ble_eq_true rfl) ?_
  intro X Q F hX hR
  subst hX
  show V G X 1 Q 0 [some (.inl x)] [] w
  refine V_iload_n (i := 0) F dS_placeOf_0 rfl rfl ?_
  refine V_sipush F dS_placeOf_1 (by decide) ?_
  refine V_iand F _ dS_placeOf_4 (iand_511 (by omega)) ?_
  exact hR _ _ _ _ dS_placeOf_5 (⟨rfl, rfl⟩)
theorem ctS_pieceOf {G : vG} {l : Launch} {w : RW} {x : Int} (h : 0 ≤ x ∧ x < 100000) : CTi G l yS_pieceOf cS_pieceOf 1 .int 0 [.inl x] w (fun r u => r = x % 512 / 64 ∧ w = u) := by
  refine CTi.int (by decide) (Nat.le_of_ble_eq_true rfl) ?_
  intro X Q F hX hR
  subst hX
  show V G X 1 Q 0 [some (.inl x)] [] w
  refine V_iload_n (i := 0) F dS_pieceOf_0 rfl rfl ?_
  refine V_sipush F dS_pieceOf_1 (by decide) ?_
  refine V_iand F _ dS_pieceOf_4 (iand_511 (by omega)) ?_
  refine V_bipush F dS_pieceOf_5 (by decide) ?_
  refine V_idiv F dS_pieceOf_7 (by omega) ?_
  exact hR _ _ _ _ dS_pieceOf_8 (⟨rfl, rfl⟩)
theorem ctS_edgeOf {G : vG} {l : Launch} {w : RW} {x : Int} (h : 0 ≤ x ∧ x < 100000) : CTi G l yS_edgeOf cS_edgeOf 1 .int 0 [.inl x] w (fun r u => r = x / 512 ∧ w = u) := by
  refine CTi.int (by decide) (Nat.le_of_ble_eq_true rfl) ?_
  intro X Q F hX hR
  subst hX
  show V G X 1 Q 0 [some (.inl x)] [] w
  refine V_iload_n (i := 0) F dS_edgeOf_0 rfl rfl ?_
  refine V_sipush F dS_edgeOf_1 (by decide) ?_
  refine V_idiv F dS_edgeOf_4 (by omega) ?_
  exact hR _ _ _ _ dS_edgeOf_5 (⟨rfl, rfl⟩)
theorem ctS_opposite {G : vG} {l : Launch} {w : RW} {x : Int} (h : 0 ≤ x ∧ x < 4) : CTi G l yS_opposite cS_opposite 1 .int 0 [.inl x] w (fun r u => r = (x + 2) % 4 ∧ w = u) := by
  refine CTi.int (by decide) (Nat.le_of_ble_eq_true rfl) ?_
  intro X Q F hX hR
  subst hX
  show V G X 1 Q 0 [some (.inl x)] [] w
  refine V_iload_n (i := 0) F dS_opposite_0 rfl rfl ?_
  refine V_iconst F dS_opposite_1 (by decide) ?_
  refine V_ixor F _ dS_opposite_2 (ixor_2 h) ?_
  exact hR _ _ _ _ dS_opposite_3 (⟨rfl, rfl⟩)
def hsE (p e : Int) : Prop := stt 0 p = e ∨ stt 1 p = e
theorem ctS_hasEdge {G : vG} {l : Launch} {w : RW} {p e : Int} (h : 0 ≤ p ∧ p < 6) : CTi G l yS_hasEdge cS_hasEdge 2 .boolean 0 [.inl p, .inl e] w (fun r u => r = bz (hsE p e) ∧ w = u) := by
  refine CTi.bool (by decide) (Nat.le_of_ble_eq_true rfl) ?_
  intro X Q F hX hR
  subst hX
  show V G X 2 Q 0 [some (.inl p), some (.inl e)] [] w
  refine V_gets F 0 dS_hasEdge_0 (by decide) lfS_9 ?_
  refine V_iload_n (i := 0) F dS_hasEdge_3 rfl rfl ?_
  first
    | refine V_sald F dS_hasEdge_4 (by decide) (by omega) (stt_in _ _) ?_
    | refine V_iald F dS_hasEdge_4 (by first | rfl | assumption) rfl (by omega) ?_
  refine V_iload_n (i := 1) F dS_hasEdge_5 rfl rfl ?_
  refine V_icmp_eq F 18 dS_hasEdge_6 (by decide) (fun h6 => ?_) (fun h6 => ?_)
  · refine V_iconst F dS_hasEdge_18 (by decide) ?_
    refine V_goto F 23 dS_hasEdge_19 (by decide) ?_
    exact hR _ _ _ _ dS_hasEdge_23 (by first | exact Or.inl rfl | exact Or.inr rfl | exact bz_01 _ | assumption) (by first | exact ⟨(bz_t (by unfold hsE; omega)).symm, rfl⟩ | exact ⟨(bz_f (by unfold hsE; omega)).symm, rfl⟩)
  · refine V_gets F 1 dS_hasEdge_9 (by decide) lfS_15 ?_
    refine V_iload_n (i := 0) F dS_hasEdge_12 rfl rfl ?_
    first
      | refine V_sald F dS_hasEdge_13 (by decide) (by omega) (stt_in _ _) ?_
      | refine V_iald F dS_hasEdge_13 (by first | rfl | assumption) rfl (by omega) ?_
    refine V_iload_n (i := 1) F dS_hasEdge_14 rfl rfl ?_
    refine V_icmp_ne F 22 dS_hasEdge_15 (by decide) (fun h15 => ?_) (fun h15 => ?_)
    · refine V_iconst F dS_hasEdge_22 (by decide) ?_
      exact hR _ _ _ _ dS_hasEdge_23 (by first | exact Or.inl rfl | exact Or.inr rfl | exact bz_01 _ | assumption) (by first | exact ⟨(bz_t (by unfold hsE; omega)).symm, rfl⟩ | exact ⟨(bz_f (by unfold hsE; omega)).symm, rfl⟩)
    · refine V_iconst F dS_hasEdge_18 (by decide) ?_
      refine V_goto F 23 dS_hasEdge_19 (by decide) ?_
      exact hR _ _ _ _ dS_hasEdge_23 (by first | exact Or.inl rfl | exact Or.inr rfl | exact bz_01 _ | assumption) (by first | exact ⟨(bz_t (by unfold hsE; omega)).symm, rfl⟩ | exact ⟨(bz_f (by unfold hsE; omega)).symm, rfl⟩)
def otE (p e : Int) : Int := stt 0 p + stt 1 p - e
theorem ctS_otherEdge {G : vG} {l : Launch} {w : RW} {p e : Int} (h : 0 ≤ p ∧ p < 6) (he : -1000 ≤ e ∧ e ≤ 1000) : CTi G l yS_otherEdge cS_otherEdge 2 .int 0 [.inl p, .inl e] w (fun r u => r = otE p e ∧ w = u) := by
  refine CTi.int (by decide) (Nat.le_of_ble_eq_true rfl) ?_
  intro X Q F hX hR
  subst hX
  show V G X 2 Q 0 [some (.inl p), some (.inl e)] [] w
  have s0 := stt_rng 0 p
  have s1 := stt_rng 1 p
  refine V_gets F 0 dS_otherEdge_0 (by decide) lfS_9 ?_
  refine V_iload_n (i := 0) F dS_otherEdge_3 rfl rfl ?_
  first
    | refine V_sald F dS_otherEdge_4 (by decide) (by omega) (stt_in _ _) ?_
    | refine V_iald F dS_otherEdge_4 (by first | rfl | assumption) rfl (by omega) ?_
  refine V_gets F 1 dS_otherEdge_5 (by decide) lfS_15 ?_
  refine V_iload_n (i := 0) F dS_otherEdge_8 rfl rfl ?_
  first
    | refine V_sald F dS_otherEdge_9 (by decide) (by omega) (stt_in _ _) ?_
    | refine V_iald F dS_otherEdge_9 (by first | rfl | assumption) rfl (by omega) ?_
  refine V_iadd F dS_otherEdge_10 (by omega) ?_
  refine V_iload_n (i := 1) F dS_otherEdge_11 rfl rfl ?_
  refine V_isub F dS_otherEdge_12 (by omega) ?_
  exact hR _ _ _ _ dS_otherEdge_13 (⟨rfl, rfl⟩)
theorem ctS_entryOf {G : vG} {l : Launch} {w : RW} {x : Int} (h : 0 ≤ x ∧ x < 100000) (h2 : x % 512 / 64 < 6) : CTi G l yS_entryOf cS_entryOf 1 .int 1 [.inl x] w (fun r u => r = otE (x % 512 / 64) (x / 512) ∧ w = u) := by
  refine CTi.int (by decide) (Nat.le_of_ble_eq_true rfl) ?_
  intro X Q F hX hR
  subst hX
  show V G X 1 Q 0 [some (.inl x)] [] w
  refine V_iload_n (i := 0) F dS_entryOf_0 rfl rfl ?_
  refine V_callSi F dS_entryOf_1 lmS_18 miS_pieceOf msS_pieceOf (ctS_pieceOf (by omega)) (by decide) rfl (Nat.le_of_ble_eq_true rfl) (fun r u hr => ?_)
  obtain ⟨rfl, rfl⟩ := hr
  refine V_iload_n (i := 0) F dS_entryOf_4 rfl rfl ?_
  refine V_callSi F dS_entryOf_5 lmS_22 miS_edgeOf msS_edgeOf (ctS_edgeOf (by omega)) (by decide) rfl (Nat.le_of_ble_eq_true rfl) (fun r u hr => ?_)
  obtain ⟨rfl, rfl⟩ := hr
  refine V_callSi F dS_entryOf_8 lmS_25 miS_otherEdge msS_otherEdge (ctS_otherEdge (by omega) (by omega)) (by decide) rfl (Nat.le_of_ble_eq_true rfl) (fun r u hr => ?_)
  obtain ⟨rfl, rfl⟩ := hr
  exact hR _ _ _ _ dS_entryOf_11 (⟨rfl, rfl⟩)
