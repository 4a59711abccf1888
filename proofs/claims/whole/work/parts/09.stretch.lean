theorem dA_fill_0 : decode cA_fill 0 = .ok (.iconst 0, 1) := by decide +kernel
theorem dA_fill_1 : decode cA_fill 1 = .ok (.istore_n 2, 1) := by decide +kernel
theorem dA_fill_2 : decode cA_fill 2 = .ok (.aload_n 0, 1) := by decide +kernel
theorem dA_fill_3 : decode cA_fill 3 = .ok (.arraylength, 1) := by decide +kernel
theorem dA_fill_4 : decode cA_fill 4 = .ok (.istore_n 3, 1) := by decide +kernel
theorem dA_fill_5 : decode cA_fill 5 = .ok (.iload_n 2, 1) := by decide +kernel
theorem dA_fill_6 : decode cA_fill 6 = .ok (.iload_n 3, 1) := by decide +kernel
theorem dA_fill_7 : decode cA_fill 7 = .ok (.if_icmp .ge 13, 3) := by decide +kernel
theorem dA_fill_10 : decode cA_fill 10 = .ok (.aload_n 0, 1) := by decide +kernel
theorem dA_fill_11 : decode cA_fill 11 = .ok (.iload_n 2, 1) := by decide +kernel
theorem dA_fill_12 : decode cA_fill 12 = .ok (.iload_n 1, 1) := by decide +kernel
theorem dA_fill_13 : decode cA_fill 13 = .ok (.iastore, 1) := by decide +kernel
theorem dA_fill_14 : decode cA_fill 14 = .ok (.iinc 2 1, 3) := by decide +kernel
theorem dA_fill_17 : decode cA_fill 17 = .ok (.goto (-12), 3) := by decide +kernel
theorem dA_fill_20 : decode cA_fill 20 = .ok (.return_, 1) := by decide +kernel
theorem dR_add_0 : decode cR_add 0 = .ok (.aload_n 0, 1) := by decide +kernel
theorem dR_add_1 : decode cR_add 1 = .ok (.getfield 18, 3) := by decide +kernel
theorem dR_add_4 : decode cR_add 4 = .ok (.sipush 257, 3) := by decide +kernel
theorem dR_add_7 : decode cR_add 7 = .ok (.if_icmp .ge 23, 3) := by decide +kernel
theorem dR_add_10 : decode cR_add 10 = .ok (.aload_n 0, 1) := by decide +kernel
theorem dR_add_11 : decode cR_add 11 = .ok (.getfield 9, 3) := by decide +kernel
theorem dR_add_14 : decode cR_add 14 = .ok (.aload_n 0, 1) := by decide +kernel
theorem dR_add_15 : decode cR_add 15 = .ok (.getfield 18, 3) := by decide +kernel
theorem dR_add_18 : decode cR_add 18 = .ok (.iload_n 1, 1) := by decide +kernel
theorem dR_add_19 : decode cR_add 19 = .ok (.iastore, 1) := by decide +kernel
theorem dR_add_20 : decode cR_add 20 = .ok (.aload_n 0, 1) := by decide +kernel
theorem dR_add_21 : decode cR_add 21 = .ok (.dup, 1) := by decide +kernel
theorem dR_add_22 : decode cR_add 22 = .ok (.getfield 18, 3) := by decide +kernel
theorem dR_add_25 : decode cR_add 25 = .ok (.iconst 1, 1) := by decide +kernel
theorem dR_add_26 : decode cR_add 26 = .ok (.iadd, 1) := by decide +kernel
theorem dR_add_27 : decode cR_add 27 = .ok (.putfield 18, 3) := by decide +kernel
theorem dR_add_30 : decode cR_add 30 = .ok (.return_, 1) := by decide +kernel
theorem dR_firstBefore_0 : decode cR_firstBefore 0 = .ok (.iload_n 1, 1) := by decide +kernel
theorem dR_firstBefore_1 : decode cR_firstBefore 1 = .ok (.invokestatic 30, 3) := by decide +kernel
theorem dR_firstBefore_4 : decode cR_firstBefore 4 = .ok (.istore_n 2, 1) := by decide +kernel
theorem dR_firstBefore_5 : decode cR_firstBefore 5 = .ok (.aload_n 0, 1) := by decide +kernel
theorem dR_firstBefore_6 : decode cR_firstBefore 6 = .ok (.iload_n 1, 1) := by decide +kernel
theorem dR_firstBefore_7 : decode cR_firstBefore 7 = .ok (.invokestatic 36, 3) := by decide +kernel
theorem dR_firstBefore_10 : decode cR_firstBefore 10 = .ok (.iload_n 2, 1) := by decide +kernel
theorem dR_firstBefore_11 : decode cR_firstBefore 11 = .ok (.invokevirtual 39, 3) := by decide +kernel
theorem dR_firstBefore_14 : decode cR_firstBefore 14 = .ok (.istore_n 3, 1) := by decide +kernel
theorem dR_firstBefore_15 : decode cR_firstBefore 15 = .ok (.iload_n 2, 1) := by decide +kernel
theorem dR_firstBefore_16 : decode cR_firstBefore 16 = .ok (.invokestatic 45, 3) := by decide +kernel
theorem dR_firstBefore_19 : decode cR_firstBefore 19 = .ok (.istore 4, 2) := by decide +kernel
theorem dR_firstBefore_21 : decode cR_firstBefore 21 = .ok (.iconst 0, 1) := by decide +kernel
theorem dR_firstBefore_22 : decode cR_firstBefore 22 = .ok (.istore 5, 2) := by decide +kernel
theorem dR_firstBefore_24 : decode cR_firstBefore 24 = .ok (.iload 5, 2) := by decide +kernel
theorem dR_firstBefore_26 : decode cR_firstBefore 26 = .ok (.bipush 6, 2) := by decide +kernel
theorem dR_firstBefore_28 : decode cR_firstBefore 28 = .ok (.if_icmp .ge 38, 3) := by decide +kernel
theorem dR_firstBefore_31 : decode cR_firstBefore 31 = .ok (.iload_n 3, 1) := by decide +kernel
theorem dR_firstBefore_32 : decode cR_firstBefore 32 = .ok (.iconst (-1), 1) := by decide +kernel
theorem dR_firstBefore_33 : decode cR_firstBefore 33 = .ok (.if_icmp .eq 33, 3) := by decide +kernel
theorem dR_firstBefore_36 : decode cR_firstBefore 36 = .ok (.aload_n 0, 1) := by decide +kernel
theorem dR_firstBefore_37 : decode cR_firstBefore 37 = .ok (.iload_n 3, 1) := by decide +kernel
theorem dR_firstBefore_38 : decode cR_firstBefore 38 = .ok (.iload 5, 2) := by decide +kernel
theorem dR_firstBefore_40 : decode cR_firstBefore 40 = .ok (.iload 4, 2) := by decide +kernel
theorem dR_firstBefore_42 : decode cR_firstBefore 42 = .ok (.invokevirtual 48, 3) := by decide +kernel
theorem dR_firstBefore_45 : decode cR_firstBefore 45 = .ok (.ifCond .eq 15, 3) := by decide +kernel
theorem dR_firstBefore_48 : decode cR_firstBefore 48 = .ok (.iload_n 3, 1) := by decide +kernel
theorem dR_firstBefore_49 : decode cR_firstBefore 49 = .ok (.iload 5, 2) := by decide +kernel
theorem dR_firstBefore_51 : decode cR_firstBefore 51 = .ok (.invokestatic 52, 3) := by decide +kernel
theorem dR_firstBefore_54 : decode cR_firstBefore 54 = .ok (.iload 4, 2) := by decide +kernel
theorem dR_firstBefore_56 : decode cR_firstBefore 56 = .ok (.invokestatic 55, 3) := by decide +kernel
theorem dR_firstBefore_59 : decode cR_firstBefore 59 = .ok (.ireturn, 1) := by decide +kernel
theorem dR_firstBefore_60 : decode cR_firstBefore 60 = .ok (.iinc 5 1, 3) := by decide +kernel
theorem dR_firstBefore_63 : decode cR_firstBefore 63 = .ok (.goto (-39), 3) := by decide +kernel
theorem dR_firstBefore_66 : decode cR_firstBefore 66 = .ok (.iconst (-1), 1) := by decide +kernel
theorem dR_firstBefore_67 : decode cR_firstBefore 67 = .ok (.ireturn, 1) := by decide +kernel
theorem lfR_18 : Cond.fieldLink R_R 18 "RailYard$Stretch" "count" "I" ∈ bigW := bw 96 (by decide +kernel) rfl
theorem lfR_9 : Cond.fieldLink R_R 9 "RailYard$Stretch" "runs" "[I" ∈ bigW := bw 93 (by decide +kernel) rfl
theorem lmR_48 : Cond.methodLink R_R 48 yG_meets ∈ bigW := bw 374 (by decide +kernel) rfl
theorem lmR_52 : Cond.methodLink R_R 52 yS_place ∈ bigW := bw 379 (by decide +kernel) rfl
theorem lmR_55 : Cond.methodLink R_R 55 yS_run ∈ bigW := bw 380 (by decide +kernel) rfl
theorem lmR_30 : Cond.methodLink R_R 30 yS_entryOf ∈ bigW := bw 354 (by decide +kernel) rfl
theorem lmR_36 : Cond.methodLink R_R 36 yS_tileOf ∈ bigW := bw 364 (by decide +kernel) rfl
theorem lmR_39 : Cond.methodLink R_R 39 yG_across ∈ bigW := bw 367 (by decide +kernel) rfl
theorem lmR_45 : Cond.methodLink R_R 45 yS_opposite ∈ bigW := bw 371 (by decide +kernel) rfl
theorem miG_meets : MI yG_meets cG_meets 4 (some .boolean) 3 := ⟨bw 377 (by decide +kernel) rfl, bw 44 (by decide +kernel) rfl, ⟨by decide +kernel, by decide +kernel⟩, by decide +kernel, by decide⟩
theorem mvG_meets : MV yG_meets := ⟨bw 375 (by decide +kernel) rfl, bw 376 (by decide +kernel) rfl⟩
theorem miS_run : MI yS_run cS_run 2 (some .int) 2 := ⟨bw 314 (by decide +kernel) rfl, bw 49 (by decide +kernel) rfl, ⟨by decide +kernel, by decide +kernel⟩, by decide +kernel, by decide⟩
theorem msS_run : Cond.static yS_run ∈ bigW := bw 313 (by decide +kernel) rfl
theorem miS_entryOf : MI yS_entryOf cS_entryOf 1 (some .int) 1 := ⟨bw 356 (by decide +kernel) rfl, bw 49 (by decide +kernel) rfl, ⟨by decide +kernel, by decide +kernel⟩, by decide +kernel, by decide⟩
theorem msS_entryOf : Cond.static yS_entryOf ∈ bigW := bw 355 (by decide +kernel) rfl
theorem miS_tileOf : MI yS_tileOf cS_tileOf 1 (some .int) 1 := ⟨bw 366 (by decide +kernel) rfl, bw 49 (by decide +kernel) rfl, ⟨by decide +kernel, by decide +kernel⟩, by decide +kernel, by decide⟩
theorem msS_tileOf : Cond.static yS_tileOf ∈ bigW := bw 365 (by decide +kernel) rfl
theorem miG_across : MI yG_across cG_across 5 (some .int) 2 := ⟨bw 370 (by decide +kernel) rfl, bw 44 (by decide +kernel) rfl, ⟨by decide +kernel, by decide +kernel⟩, by decide +kernel, by decide⟩
theorem mvG_across : MV yG_across := ⟨bw 368 (by decide +kernel) rfl, bw 369 (by decide +kernel) rfl⟩
theorem miS_opposite : MI yS_opposite cS_opposite 1 (some .int) 1 := ⟨bw 373 (by decide +kernel) rfl, bw 49 (by decide +kernel) rfl, ⟨by decide +kernel, by decide +kernel⟩, by decide +kernel, by decide⟩
theorem msS_opposite : Cond.static yS_opposite ∈ bigW := bw 372 (by decide +kernel) rfl
theorem upw_f {w : RW} {k k' : Nat} {i z : Int} (h : k' ≠ k) : upw w k i z k' = w k' := by
  funext j
  exact upw_k h
def flw (w : RW) (k : Nat) (n v : Int) : RW := fun j i => if j = k ∧ 0 ≤ i ∧ i < n then v else w j i
theorem flw_0 (w : RW) (k : Nat) (v : Int) : flw w k 0 v = w := by
  funext j i
  unfold flw
  rw [if_neg (by omega)]
theorem flw_s (w : RW) (k : Nat) {n : Int} (v : Int) (h : 0 ≤ n) : upw (flw w k n v) k n v = flw w k (n + 1) v := by
  funext j i
  unfold upw flw
  by_cases h1 : j = k ∧ i = n
  · rw [if_pos h1, if_pos ⟨h1.1, by omega, by omega⟩]
  · rw [if_neg h1]
    by_cases h2 : j = k ∧ 0 ≤ i ∧ i < n
    · rw [if_pos h2, if_pos ⟨h2.1, by omega, by omega⟩]
    · rw [if_neg h2, if_neg (fun q => by
        by_cases h3 : i = n
        · exact h1 ⟨q.1, h3⟩
        · exact h2 ⟨q.1, by omega, by omega⟩)]
theorem lpA_fill {G : vG} {X : vX} {Q : State → Prop} {w : RW} {k n : Nat} {v : Int} (hk : shp[k]? = some (.inl (0, n))) (hn : n < 1000) (F : FX G X cA_fill yA_fill.cls 4 0) (hR : RetV G X cA_fill 4 Q (fun u => flw w k n v = u)) : ∀ (m : Nat) (i : Int), 0 ≤ i → i ≤ n → (n : Int) - i < m → V G X 4 Q 5 [some (.inr k), some (.inl v), some (.inl i), some (.inl (n : Int))] [] (flw w k i v) := by
  intro m
  induction m with
  | zero => intro i h1 h2 h3; omega
  | succ m ih =>
    intro i h1 h2 h3
    refine V_iload_n (i := 2) F dA_fill_5 rfl rfl ?_
    refine V_iload_n (i := 3) F dA_fill_6 rfl rfl ?_
    refine V_icmp_ge F 20 dA_fill_7 (by decide) (fun h7 => ?_) (fun h7 => ?_)
    · exact hR _ _ _ dA_fill_20 (by rw [show i = (n : Int) by omega])
    · refine V_aload_n (i := 0) F dA_fill_10 rfl rfl ?_
      refine V_iload_n (i := 2) F dA_fill_11 rfl rfl ?_
      refine V_iload_n (i := 1) F dA_fill_12 rfl rfl ?_
      refine V_iast F dA_fill_13 (by first | rfl | assumption) rfl (by omega) ?_
      refine V_iinc F dA_fill_14 (by decide) rfl (by omega) (by simp only [List.set_cons_zero, List.set_cons_succ]; exact rfl) ?_
      refine V_goto F 5 dA_fill_17 (by decide) ?_
      rw [flw_s w k v (by omega)]
      exact ih (i + 1) (by omega) (by omega) (by omega)
theorem ctA_fill {G : vG} {l : Launch} {w : RW} {k n : Nat} {v : Int} (hk : shp[k]? = some (.inl (0, n))) (hn : n < 1000) : CTv G l yA_fill cA_fill 4 0 [.inr k, .inl v] w (fun u => flw w k n v = u) := by
  refine CTv.intro (by decide) (Nat.le_of_ble_eq_true rfl) ?_
  intro X Q F hX hR
  subst hX
  show V G X 4 Q 0 [some (.inr k), some (.inl v), none, none] [] w
  refine V_iconst F dA_fill_0 (by decide) ?_
  refine V_istore_n (i := 2) F dA_fill_1 rfl (by decide) (by simp only [List.set_cons_zero, List.set_cons_succ]; exact rfl) ?_
  refine V_aload_n (i := 0) F dA_fill_2 rfl rfl ?_
  refine V_alen F dA_fill_3 hk rfl (by omega) ?_
  refine V_istore_n (i := 3) F dA_fill_4 rfl (by decide) (by simp only [List.set_cons_zero, List.set_cons_succ]; exact rfl) ?_
  have hlp := lpA_fill hk hn F hR (n + 1) 0 (by omega) (by omega) (by omega)
  rw [flw_0] at hlp
  exact hlp
theorem ctR_add {G : vG} {l : Launch} {w : RW} {x : Int} (h : 0 ≤ w 73 2 ∧ w 73 2 < 257) : CTv G l yR_add cR_add 2 0 [.inr 73, .inl x] w (fun u => upw (upw w 74 (w 73 2) x) 73 2 (w 73 2 + 1) = u) := by
  refine CTv.intro (by decide) (Nat.le_of_ble_eq_true rfl) ?_
  intro X Q F hX hR
  subst hX
  show V G X 2 Q 0 [some (.inr 73), some (.inl x)] [] w
  refine V_aload_n (i := 0) F dR_add_0 rfl rfl ?_
  refine V_geti (ci := 2) (C := R_R) (T := T_R) (N := 3) F dR_add_1 (by first | rfl | assumption) rfl (j := 2) 2 rfl (by decide) rfl lfR_18 ?_
  refine V_sipush F dR_add_4 (by decide) ?_
  refine V_icmp_ge F 30 dR_add_7 (by decide) (fun h7 => ?_) (fun h7 => ?_)
  · exact hR _ _ _ dR_add_30 (by first | (exfalso; omega) | rfl)
  · refine V_aload_n (i := 0) F dR_add_10 rfl rfl ?_
    refine V_getr (ci := 2) (C := R_R) (T := T_R) (N := 3) F dR_add_11 (by first | rfl | assumption) rfl (j := 0) (by decide) rfl lfR_9 ?_
    refine V_aload_n (i := 0) F dR_add_14 rfl rfl ?_
    refine V_geti (ci := 2) (C := R_R) (T := T_R) (N := 3) F dR_add_15 (by first | rfl | assumption) rfl (j := 2) 2 rfl (by decide) rfl lfR_18 ?_
    refine V_iload_n (i := 1) F dR_add_18 rfl rfl ?_
    refine V_iast F dR_add_19 (by first | rfl | assumption) rfl (by omega) ?_
    refine V_aload_n (i := 0) F dR_add_20 rfl rfl ?_
    refine V_dup F dR_add_21 ?_
    refine V_geti (ci := 2) (C := R_R) (T := T_R) (N := 3) F dR_add_22 (by first | rfl | assumption) rfl (j := 2) 2 rfl (by decide) rfl lfR_18 ?_
    rw [upw_k (by decide)]
    refine V_iconst F dR_add_25 (by decide) ?_
    refine V_iadd F dR_add_26 (by omega) ?_
    refine V_puti (ci := 2) (C := R_R) (T := T_R) (N := 3) F dR_add_27 (by first | rfl | assumption) rfl (j := 2) 2 rfl (by decide) rfl rfl rfl lfR_18 ?_
    exact hR _ _ _ dR_add_30 (by first | (exfalso; omega) | rfl)
/-- a run: tile + 64 piece + 512 edge, the edge one of the piece's -/
def okR (x : Int) : Prop := 0 ≤ x ∧ x % 64 < 48 ∧ x % 512 / 64 < 6 ∧ x / 512 < 4 ∧ hsE (x % 512 / 64) (x / 512)
theorem otE_rng {p e : Int} (hp : 0 ≤ p ∧ p < 6) (h : hsE p e) : 0 ≤ otE p e ∧ otE p e < 4 := by
  have h0 := stt_e (i := 0) (by omega) hp
  have h1 := stt_e (i := 1) (by omega) hp
  unfold otE
  unfold hsE at h
  omega
/-- the first of six -/
noncomputable def fst6 (P : Int → Prop) : Int := cif (P 0) 0 (cif (P 1) 1 (cif (P 2) 2 (cif (P 3) 3 (cif (P 4) 4 (cif (P 5) 5 (-1))))))
theorem fst6_no {P : Int → Prop} (h : ∀ j, 0 ≤ j → j < 6 → ¬ P j) : fst6 P = -1 := by
  unfold fst6
  rw [cif_f (h 0 (by omega) (by omega)), cif_f (h 1 (by omega) (by omega)), cif_f (h 2 (by omega) (by omega)), cif_f (h 3 (by omega) (by omega)), cif_f (h 4 (by omega) (by omega)), cif_f (h 5 (by omega) (by omega))]
theorem fst6_at {P : Int → Prop} {i : Int} (hi : 0 ≤ i ∧ i < 6) (hp : P i) (h : ∀ j, 0 ≤ j → j < i → ¬ P j) : fst6 P = i := by
  unfold fst6
  rcases (show i = 0 ∨ i = 1 ∨ i = 2 ∨ i = 3 ∨ i = 4 ∨ i = 5 by omega) with rfl | rfl | rfl | rfl | rfl | rfl
  · rw [cif_t hp]
  · rw [cif_f (h 0 (by omega) (by omega)), cif_t hp]
  · rw [cif_f (h 0 (by omega) (by omega)), cif_f (h 1 (by omega) (by omega)), cif_t hp]
  · rw [cif_f (h 0 (by omega) (by omega)), cif_f (h 1 (by omega) (by omega)), cif_f (h 2 (by omega) (by omega)), cif_t hp]
  · rw [cif_f (h 0 (by omega) (by omega)), cif_f (h 1 (by omega) (by omega)), cif_f (h 2 (by omega) (by omega)), cif_f (h 3 (by omega) (by omega)), cif_t hp]
  · rw [cif_f (h 0 (by omega) (by omega)), cif_f (h 1 (by omega) (by omega)), cif_f (h 2 (by omega) (by omega)), cif_f (h 3 (by omega) (by omega)), cif_f (h 4 (by omega) (by omega)), cif_t hp]
theorem fst6_or (P : Int → Prop) : (fst6 P = -1 ∧ ∀ j, 0 ≤ j → j < 6 → ¬ P j) ∨ (0 ≤ fst6 P ∧ fst6 P < 6 ∧ P (fst6 P) ∧ ∀ j, 0 ≤ j → j < fst6 P → ¬ P j) := by
  by_cases h : ∀ j, 0 ≤ j → j < 6 → ¬ P j
  · exact Or.inl ⟨fst6_no h, h⟩
  · right
    have hex : ∃ n : Nat, (n : Int) < 6 ∧ P (n : Int) := by
      apply Classical.byContradiction
      intro hc
      exact h (fun j h0 h1 hp => hc ⟨j.toNat, by omega, by rw [Int.toNat_of_nonneg h0]; exact hp⟩)
    obtain ⟨n, ⟨hn, hp⟩, hm⟩ := pk_least _ hex
    have hl : ∀ j, 0 ≤ j → j < (n : Int) → ¬ P j := fun j h0 h1 hp2 => hm j.toNat (by omega) ⟨by omega, by rw [Int.toNat_of_nonneg h0]; exact hp2⟩
    rw [fst6_at ⟨by omega, hn⟩ hp hl]
    exact ⟨by omega, hn, hp, hl⟩
/-- the tile and edge before a run, and the first run that leads to it -/
noncomputable def fbT (w : RW) (x : Int) : Int := acr (w 2 0) (w 2 1) (x % 64) (otE (x % 512 / 64) (x / 512))
def fbE (x : Int) : Int := (otE (x % 512 / 64) (x / 512) + 2) % 4
def fbP (w : RW) (x j : Int) : Prop := tb (w 3 (fbT w x)) j ∧ hsE j (fbE x)
noncomputable def fbf (w : RW) (x : Int) : Int := cif (fbT w x = -1 ∨ fst6 (fbP w x) = -1) (-1) (fbT w x + 64 * fst6 (fbP w x) + 512 * fbE x)
theorem lpR_firstBefore {G : vG} {X : vX} {Q : State → Prop} {w : RW} {x : Int} (hx : okR x) (hb : w 2 0 ≤ 8 ∧ w 2 1 ≤ 6) (hw : ∀ t, 0 ≤ t → t < 48 → 0 ≤ w 3 t) (F : FX G X cR_firstBefore yR_firstBefore.cls 6 2) (hR : RetI G X cR_firstBefore 6 Q (fun r u => r = fbf w x ∧ w = u)) (e : Int) : ∀ (m : Nat) (i : Int), 0 ≤ i → i ≤ 6 → 6 - i < m → (∀ j, 0 ≤ j → j < i → ¬ fbP w x j) → V G X 6 Q 24 [some (.inr 2), some (.inl x), some (.inl e), some (.inl (fbT w x)), some (.inl (fbE x)), some (.inl i)] [] w := by
  have hT : fbT w x = -1 ∨ (0 ≤ fbT w x ∧ fbT w x < 48) := acr_rng (by omega) (by omega)
  have hE : 0 ≤ fbE x ∧ fbE x < 4 := by unfold fbE; omega
  intro m
  induction m with
  | zero => intro i h1 h2 h3; omega
  | succ m ih =>
    intro i h1 h2 h3 hn
    refine V_iload F dR_firstBefore_24 rfl ?_
    refine V_bipush F dR_firstBefore_26 (by decide) ?_
    refine V_icmp_ge F 66 dR_firstBefore_28 (by decide) (fun h28 => ?_) (fun h28 => ?_)
    · first | (replace h28 := bz_ne0.mp h28) | (replace h28 := bz_eq0.mp h28) | skip
      refine V_iconst F dR_firstBefore_66 (by decide) ?_
      exact hR _ _ _ _ dR_firstBefore_67 (by first | exact ⟨(cif_t (Or.inl h33)).symm, rfl⟩ | exact ⟨(cif_t (Or.inr (fst6_no (fun j h1 h2 => hn j h1 (by omega))))).symm, rfl⟩ | exact ⟨by unfold fbf; rw [fst6_at (i := i) (by omega) h45 hn, cif_f (by omega)], rfl⟩)
    · first | (replace h28 := bz_ne0.mp h28) | (replace h28 := bz_eq0.mp h28) | skip
      refine V_iload_n (i := 3) F dR_firstBefore_31 rfl rfl ?_
      refine V_iconst F dR_firstBefore_32 (by decide) ?_
      refine V_icmp_eq F 66 dR_firstBefore_33 (by decide) (fun h33 => ?_) (fun h33 => ?_)
      · first | (replace h33 := bz_ne0.mp h33) | (replace h33 := bz_eq0.mp h33) | skip
        refine V_iconst F dR_firstBefore_66 (by decide) ?_
        exact hR _ _ _ _ dR_firstBefore_67 (by first | exact ⟨(cif_t (Or.inl h33)).symm, rfl⟩ | exact ⟨(cif_t (Or.inr (fst6_no (fun j h1 h2 => hn j h1 (by omega))))).symm, rfl⟩ | exact ⟨by unfold fbf; rw [fst6_at (i := i) (by omega) h45 hn, cif_f (by omega)], rfl⟩)
      · first | (replace h33 := bz_ne0.mp h33) | (replace h33 := bz_eq0.mp h33) | skip
        refine V_aload_n (i := 0) F dR_firstBefore_36 rfl rfl ?_
        refine V_iload_n (i := 3) F dR_firstBefore_37 rfl rfl ?_
        refine V_iload F dR_firstBefore_38 rfl ?_
        refine V_iload F dR_firstBefore_40 rfl ?_
        refine V_callVi F dR_firstBefore_42 lmR_48 miG_meets mvG_meets (ctG_meets (by omega) (by omega) (hw _ (by omega) (by omega))) (by decide) (by first | rfl | assumption) rfl rfl (Nat.le_of_ble_eq_true rfl) (fun r u hr => ?_)
        obtain ⟨rfl, rfl⟩ := hr
        refine V_if_eq F 60 dR_firstBefore_45 (by decide) (fun h45 => ?_) (fun h45 => ?_)
        · first | (replace h45 := bz_ne0.mp h45) | (replace h45 := bz_eq0.mp h45) | skip
          refine V_iinc F dR_firstBefore_60 (by decide) rfl (by omega) (by simp only [List.set_cons_zero, List.set_cons_succ]; exact rfl) ?_
          refine V_goto F 24 dR_firstBefore_63 (by decide) ?_
          exact ih (i + 1) (by omega) (by omega) (by omega) (fun j h1 h2 => by
            by_cases hj : j = i
            · rw [hj]; assumption
            · exact hn j h1 (by omega))
        · first | (replace h45 := bz_ne0.mp h45) | (replace h45 := bz_eq0.mp h45) | skip
          refine V_iload_n (i := 3) F dR_firstBefore_48 rfl rfl ?_
          refine V_iload F dR_firstBefore_49 rfl ?_
          refine V_callSi F dR_firstBefore_51 lmR_52 miS_place msS_place (ctS_place (by omega)) (by decide) rfl (Nat.le_of_ble_eq_true rfl) (fun r u hr => ?_)
          obtain ⟨rfl, rfl⟩ := hr
          refine V_iload F dR_firstBefore_54 rfl ?_
          refine V_callSi F dR_firstBefore_56 lmR_55 miS_run msS_run (ctS_run (by omega)) (by decide) rfl (Nat.le_of_ble_eq_true rfl) (fun r u hr => ?_)
          obtain ⟨rfl, rfl⟩ := hr
          exact hR _ _ _ _ dR_firstBefore_59 (by first | exact ⟨(cif_t (Or.inl h33)).symm, rfl⟩ | exact ⟨(cif_t (Or.inr (fst6_no (fun j h1 h2 => hn j h1 (by omega))))).symm, rfl⟩ | exact ⟨by unfold fbf; rw [fst6_at (i := i) (by omega) h45 hn, cif_f (by omega)], rfl⟩)
theorem ctR_firstBefore {G : vG} {l : Launch} {w : RW} {x : Int} (hx : okR x) (hb : w 2 0 ≤ 8 ∧ w 2 1 ≤ 6) (hw : ∀ t, 0 ≤ t → t < 48 → 0 ≤ w 3 t) : CTi G l yR_firstBefore cR_firstBefore 6 .int 2 [.inr 2, .inl x] w (fun r u => r = fbf w x ∧ w = u) := by
  refine CTi.int (by decide) (Nat.le_of_ble_eq_true rfl) ?_
  intro X Q F hX hR
  subst hX
  show V G X 6 Q 0 [some (.inr 2), some (.inl x), none, none, none, none] [] w
  have hx0 := hx
  obtain ⟨x1, x2, x3, x4, x5⟩ := hx
  have hO := otE_rng (by omega) x5
  refine V_iload_n (i := 1) F dR_firstBefore_0 rfl rfl ?_
  refine V_callSi F dR_firstBefore_1 lmR_30 miS_entryOf msS_entryOf (ctS_entryOf (by omega) (by omega)) (by decide) rfl (Nat.le_of_ble_eq_true rfl) (fun r u hr => ?_)
  obtain ⟨rfl, rfl⟩ := hr
  refine V_istore_n (i := 2) F dR_firstBefore_4 rfl (by decide) (by simp only [List.set_cons_zero, List.set_cons_succ]; exact rfl) ?_
  refine V_aload_n (i := 0) F dR_firstBefore_5 rfl rfl ?_
  refine V_iload_n (i := 1) F dR_firstBefore_6 rfl rfl ?_
  refine V_callSi F dR_firstBefore_7 lmR_36 miS_tileOf msS_tileOf (ctS_tileOf (by omega)) (by decide) rfl (Nat.le_of_ble_eq_true rfl) (fun r u hr => ?_)
  obtain ⟨rfl, rfl⟩ := hr
  refine V_iload_n (i := 2) F dR_firstBefore_10 rfl rfl ?_
  refine V_callVi F dR_firstBefore_11 lmR_39 miG_across mvG_across (ctG_across (by omega) hO) (by decide) (by first | rfl | assumption) rfl rfl (Nat.le_of_ble_eq_true rfl) (fun r u hr => ?_)
  obtain ⟨rfl, rfl⟩ := hr
  refine V_istore_n (i := 3) F dR_firstBefore_14 rfl (by decide) (by simp only [List.set_cons_zero, List.set_cons_succ]; exact rfl) ?_
  refine V_iload_n (i := 2) F dR_firstBefore_15 rfl rfl ?_
  refine V_callSi F dR_firstBefore_16 lmR_45 miS_opposite msS_opposite (ctS_opposite hO) (by decide) rfl (Nat.le_of_ble_eq_true rfl) (fun r u hr => ?_)
  obtain ⟨rfl, rfl⟩ := hr
  refine V_istore F dR_firstBefore_19 (by decide) (by simp only [List.set_cons_zero, List.set_cons_succ]; exact rfl) ?_
  refine V_iconst F dR_firstBefore_21 (by decide) ?_
  refine V_istore F dR_firstBefore_22 (by decide) (by simp only [List.set_cons_zero, List.set_cons_succ]; exact rfl) ?_
  exact lpR_firstBefore hx0 hb hw F hR _ 7 0 (by omega) (by omega) (by omega) (fun j h1 h2 => by omega)
