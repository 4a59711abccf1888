theorem dX_growCargo_0 : decode cX_growCargo 0 = .ok (.iconst 0, 1) := by decide +kernel
theorem dX_growCargo_1 : decode cX_growCargo 1 = .ok (.istore_n 1, 1) := by decide +kernel
theorem dX_growCargo_2 : decode cX_growCargo 2 = .ok (.iload_n 1, 1) := by decide +kernel
theorem dX_growCargo_3 : decode cX_growCargo 3 = .ok (.aload_n 0, 1) := by decide +kernel
theorem dX_growCargo_4 : decode cX_growCargo 4 = .ok (.getfield 41, 3) := by decide +kernel
theorem dX_growCargo_7 : decode cX_growCargo 7 = .ok (.getfield 102, 3) := by decide +kernel
theorem dX_growCargo_10 : decode cX_growCargo 10 = .ok (.if_icmp .ge 33, 3) := by decide +kernel
theorem dX_growCargo_13 : decode cX_growCargo 13 = .ok (.aload_n 0, 1) := by decide +kernel
theorem dX_growCargo_14 : decode cX_growCargo 14 = .ok (.getfield 41, 3) := by decide +kernel
theorem dX_growCargo_17 : decode cX_growCargo 17 = .ok (.dup, 1) := by decide +kernel
theorem dX_growCargo_18 : decode cX_growCargo 18 = .ok (.getfield 210, 3) := by decide +kernel
theorem dX_growCargo_21 : decode cX_growCargo 21 = .ok (.aload_n 0, 1) := by decide +kernel
theorem dX_growCargo_22 : decode cX_growCargo 22 = .ok (.getfield 41, 3) := by decide +kernel
theorem dX_growCargo_25 : decode cX_growCargo 25 = .ok (.getfield 106, 3) := by decide +kernel
theorem dX_growCargo_28 : decode cX_growCargo 28 = .ok (.iload_n 1, 1) := by decide +kernel
theorem dX_growCargo_29 : decode cX_growCargo 29 = .ok (.aaload, 1) := by decide +kernel
theorem dX_growCargo_30 : decode cX_growCargo 30 = .ok (.invokevirtual 227, 3) := by decide +kernel
theorem dX_growCargo_33 : decode cX_growCargo 33 = .ok (.iadd, 1) := by decide +kernel
theorem dX_growCargo_34 : decode cX_growCargo 34 = .ok (.putfield 210, 3) := by decide +kernel
theorem dX_growCargo_37 : decode cX_growCargo 37 = .ok (.iinc 1 1, 3) := by decide +kernel
theorem dX_growCargo_40 : decode cX_growCargo 40 = .ok (.goto (-38), 3) := by decide +kernel
theorem dX_growCargo_43 : decode cX_growCargo 43 = .ok (.return_, 1) := by decide +kernel
theorem dX_isDue_0 : decode cX_isDue 0 = .ok (.aload_n 1, 1) := by decide +kernel
theorem dX_isDue_1 : decode cX_isDue 1 = .ok (.invokevirtual 259, 3) := by decide +kernel
theorem dX_isDue_4 : decode cX_isDue 4 = .ok (.invokestatic 169, 3) := by decide +kernel
theorem dX_isDue_7 : decode cX_isDue 7 = .ok (.aload_n 0, 1) := by decide +kernel
theorem dX_isDue_8 : decode cX_isDue 8 = .ok (.getfield 41, 3) := by decide +kernel
theorem dX_isDue_11 : decode cX_isDue 11 = .ok (.getfield 106, 3) := by decide +kernel
theorem dX_isDue_14 : decode cX_isDue 14 = .ok (.aload_n 1, 1) := by decide +kernel
theorem dX_isDue_15 : decode cX_isDue 15 = .ok (.invokevirtual 206, 3) := by decide +kernel
theorem dX_isDue_18 : decode cX_isDue 18 = .ok (.aaload, 1) := by decide +kernel
theorem dX_isDue_19 : decode cX_isDue 19 = .ok (.getfield 193, 3) := by decide +kernel
theorem dX_isDue_22 : decode cX_isDue 22 = .ok (.if_icmp .eq 5, 3) := by decide +kernel
theorem dX_isDue_25 : decode cX_isDue 25 = .ok (.iconst 0, 1) := by decide +kernel
theorem dX_isDue_26 : decode cX_isDue 26 = .ok (.ireturn, 1) := by decide +kernel
theorem dX_isDue_27 : decode cX_isDue 27 = .ok (.aload_n 1, 1) := by decide +kernel
theorem dX_isDue_28 : decode cX_isDue 28 = .ok (.invokevirtual 161, 3) := by decide +kernel
theorem dX_isDue_31 : decode cX_isDue 31 = .ok (.ifCond .gt 10, 3) := by decide +kernel
theorem dX_isDue_34 : decode cX_isDue 34 = .ok (.aload_n 1, 1) := by decide +kernel
theorem dX_isDue_35 : decode cX_isDue 35 = .ok (.getfield 252, 3) := by decide +kernel
theorem dX_isDue_38 : decode cX_isDue 38 = .ok (.ifCond .ne 7, 3) := by decide +kernel
theorem dX_isDue_41 : decode cX_isDue 41 = .ok (.iconst 1, 1) := by decide +kernel
theorem dX_isDue_42 : decode cX_isDue 42 = .ok (.goto 4, 3) := by decide +kernel
theorem dX_isDue_45 : decode cX_isDue 45 = .ok (.iconst 0, 1) := by decide +kernel
theorem dX_isDue_46 : decode cX_isDue 46 = .ok (.ireturn, 1) := by decide +kernel
theorem dX_standsWaiting_0 : decode cX_standsWaiting 0 = .ok (.aload_n 1, 1) := by decide +kernel
theorem dX_standsWaiting_1 : decode cX_standsWaiting 1 = .ok (.getfield 149, 3) := by decide +kernel
theorem dX_standsWaiting_4 : decode cX_standsWaiting 4 = .ok (.ifCond .le 36, 3) := by decide +kernel
theorem dX_standsWaiting_7 : decode cX_standsWaiting 7 = .ok (.aload_n 1, 1) := by decide +kernel
theorem dX_standsWaiting_8 : decode cX_standsWaiting 8 = .ok (.getfield 158, 3) := by decide +kernel
theorem dX_standsWaiting_11 : decode cX_standsWaiting 11 = .ok (.ifCond .ne 29, 3) := by decide +kernel
theorem dX_standsWaiting_14 : decode cX_standsWaiting 14 = .ok (.aload_n 1, 1) := by decide +kernel
theorem dX_standsWaiting_15 : decode cX_standsWaiting 15 = .ok (.getfield 155, 3) := by decide +kernel
theorem dX_standsWaiting_18 : decode cX_standsWaiting 18 = .ok (.ifCond .ne 22, 3) := by decide +kernel
theorem dX_standsWaiting_21 : decode cX_standsWaiting 21 = .ok (.aload_n 1, 1) := by decide +kernel
theorem dX_standsWaiting_22 : decode cX_standsWaiting 22 = .ok (.invokevirtual 161, 3) := by decide +kernel
theorem dX_standsWaiting_25 : decode cX_standsWaiting 25 = .ok (.ifCond .ne 15, 3) := by decide +kernel
theorem dX_standsWaiting_28 : decode cX_standsWaiting 28 = .ok (.aload_n 0, 1) := by decide +kernel
theorem dX_standsWaiting_29 : decode cX_standsWaiting 29 = .ok (.aload_n 1, 1) := by decide +kernel
theorem dX_standsWaiting_30 : decode cX_standsWaiting 30 = .ok (.invokevirtual 234, 3) := by decide +kernel
theorem dX_standsWaiting_33 : decode cX_standsWaiting 33 = .ok (.ifCond .ne 7, 3) := by decide +kernel
theorem dX_standsWaiting_36 : decode cX_standsWaiting 36 = .ok (.iconst 1, 1) := by decide +kernel
theorem dX_standsWaiting_37 : decode cX_standsWaiting 37 = .ok (.goto 4, 3) := by decide +kernel
theorem dX_standsWaiting_40 : decode cX_standsWaiting 40 = .ok (.iconst 0, 1) := by decide +kernel
theorem dX_standsWaiting_41 : decode cX_standsWaiting 41 = .ok (.ireturn, 1) := by decide +kernel
theorem dX_makeRequest_0 : decode cX_makeRequest 0 = .ok (.aload_n 0, 1) := by decide +kernel
theorem dX_makeRequest_1 : decode cX_makeRequest 1 = .ok (.getfield 41, 3) := by decide +kernel
theorem dX_makeRequest_4 : decode cX_makeRequest 4 = .ok (.getfield 129, 3) := by decide +kernel
theorem dX_makeRequest_7 : decode cX_makeRequest 7 = .ok (.iload_n 1, 1) := by decide +kernel
theorem dX_makeRequest_8 : decode cX_makeRequest 8 = .ok (.aaload, 1) := by decide +kernel
theorem dX_makeRequest_9 : decode cX_makeRequest 9 = .ok (.astore_n 2, 1) := by decide +kernel
theorem dX_makeRequest_10 : decode cX_makeRequest 10 = .ok (.aload_n 2, 1) := by decide +kernel
theorem dX_makeRequest_11 : decode cX_makeRequest 11 = .ok (.invokevirtual 206, 3) := by decide +kernel
theorem dX_makeRequest_14 : decode cX_makeRequest 14 = .ok (.istore_n 3, 1) := by decide +kernel
theorem dX_makeRequest_15 : decode cX_makeRequest 15 = .ok (.aload_n 0, 1) := by decide +kernel
theorem dX_makeRequest_16 : decode cX_makeRequest 16 = .ok (.getfield 41, 3) := by decide +kernel
theorem dX_makeRequest_19 : decode cX_makeRequest 19 = .ok (.getfield 106, 3) := by decide +kernel
theorem dX_makeRequest_22 : decode cX_makeRequest 22 = .ok (.iload_n 3, 1) := by decide +kernel
theorem dX_makeRequest_23 : decode cX_makeRequest 23 = .ok (.aaload, 1) := by decide +kernel
theorem dX_makeRequest_24 : decode cX_makeRequest 24 = .ok (.getfield 193, 3) := by decide +kernel
theorem dX_makeRequest_27 : decode cX_makeRequest 27 = .ok (.istore 4, 2) := by decide +kernel
theorem dX_makeRequest_29 : decode cX_makeRequest 29 = .ok (.aload_n 0, 1) := by decide +kernel
theorem dX_makeRequest_30 : decode cX_makeRequest 30 = .ok (.getfield 12, 3) := by decide +kernel
theorem dX_makeRequest_33 : decode cX_makeRequest 33 = .ok (.aload_n 0, 1) := by decide +kernel
theorem dX_makeRequest_34 : decode cX_makeRequest 34 = .ok (.getfield 41, 3) := by decide +kernel
theorem dX_makeRequest_37 : decode cX_makeRequest 37 = .ok (.getfield 48, 3) := by decide +kernel
theorem dX_makeRequest_40 : decode cX_makeRequest 40 = .ok (.iload_n 3, 1) := by decide +kernel
theorem dX_makeRequest_41 : decode cX_makeRequest 41 = .ok (.iload 4, 2) := by decide +kernel
theorem dX_makeRequest_43 : decode cX_makeRequest 43 = .ok (.invokevirtual 195, 3) := by decide +kernel
theorem dX_makeRequest_46 : decode cX_makeRequest 46 = .ok (.aload_n 0, 1) := by decide +kernel
theorem dX_makeRequest_47 : decode cX_makeRequest 47 = .ok (.getfield 19, 3) := by decide +kernel
theorem dX_makeRequest_50 : decode cX_makeRequest 50 = .ok (.iconst 0, 1) := by decide +kernel
theorem dX_makeRequest_51 : decode cX_makeRequest 51 = .ok (.putfield 122, 3) := by decide +kernel
theorem dX_makeRequest_54 : decode cX_makeRequest 54 = .ok (.aload_n 2, 1) := by decide +kernel
theorem dX_makeRequest_55 : decode cX_makeRequest 55 = .ok (.invokevirtual 259, 3) := by decide +kernel
theorem dX_makeRequest_58 : decode cX_makeRequest 58 = .ok (.istore 5, 2) := by decide +kernel
theorem dX_makeRequest_60 : decode cX_makeRequest 60 = .ok (.iconst 0, 1) := by decide +kernel
theorem dX_makeRequest_61 : decode cX_makeRequest 61 = .ok (.istore 6, 2) := by decide +kernel
theorem dX_makeRequest_63 : decode cX_makeRequest 63 = .ok (.iload 6, 2) := by decide +kernel
theorem dX_makeRequest_65 : decode cX_makeRequest 65 = .ok (.sipush 257, 3) := by decide +kernel
theorem dX_makeRequest_68 : decode cX_makeRequest 68 = .ok (.if_icmp .ge 76, 3) := by decide +kernel
theorem dX_makeRequest_71 : decode cX_makeRequest 71 = .ok (.aload_n 0, 1) := by decide +kernel
theorem dX_makeRequest_72 : decode cX_makeRequest 72 = .ok (.getfield 12, 3) := by decide +kernel
theorem dX_makeRequest_75 : decode cX_makeRequest 75 = .ok (.aload_n 0, 1) := by decide +kernel
theorem dX_makeRequest_76 : decode cX_makeRequest 76 = .ok (.getfield 41, 3) := by decide +kernel
theorem dX_makeRequest_79 : decode cX_makeRequest 79 = .ok (.getfield 48, 3) := by decide +kernel
theorem dX_makeRequest_82 : decode cX_makeRequest 82 = .ok (.iload 5, 2) := by decide +kernel
theorem dX_makeRequest_84 : decode cX_makeRequest 84 = .ok (.iload_n 3, 1) := by decide +kernel
theorem dX_makeRequest_85 : decode cX_makeRequest 85 = .ok (.iload 4, 2) := by decide +kernel
theorem dX_makeRequest_87 : decode cX_makeRequest 87 = .ok (.invokevirtual 262, 3) := by decide +kernel
theorem dX_makeRequest_90 : decode cX_makeRequest 90 = .ok (.istore 5, 2) := by decide +kernel
theorem dX_makeRequest_92 : decode cX_makeRequest 92 = .ok (.iload 5, 2) := by decide +kernel
theorem dX_makeRequest_94 : decode cX_makeRequest 94 = .ok (.iconst (-1), 1) := by decide +kernel
theorem dX_makeRequest_95 : decode cX_makeRequest 95 = .ok (.if_icmp .ne 6, 3) := by decide +kernel
theorem dX_makeRequest_98 : decode cX_makeRequest 98 = .ok (.goto 46, 3) := by decide +kernel
theorem dX_makeRequest_101 : decode cX_makeRequest 101 = .ok (.aload_n 0, 1) := by decide +kernel
theorem dX_makeRequest_102 : decode cX_makeRequest 102 = .ok (.getfield 19, 3) := by decide +kernel
theorem dX_makeRequest_105 : decode cX_makeRequest 105 = .ok (.iload 5, 2) := by decide +kernel
theorem dX_makeRequest_107 : decode cX_makeRequest 107 = .ok (.invokevirtual 266, 3) := by decide +kernel
theorem dX_makeRequest_110 : decode cX_makeRequest 110 = .ok (.iload 5, 2) := by decide +kernel
theorem dX_makeRequest_112 : decode cX_makeRequest 112 = .ok (.invokestatic 169, 3) := by decide +kernel
theorem dX_makeRequest_115 : decode cX_makeRequest 115 = .ok (.iload 4, 2) := by decide +kernel
theorem dX_makeRequest_117 : decode cX_makeRequest 117 = .ok (.if_icmp .eq 27, 3) := by decide +kernel
theorem dX_makeRequest_120 : decode cX_makeRequest 120 = .ok (.aload_n 0, 1) := by decide +kernel
theorem dX_makeRequest_121 : decode cX_makeRequest 121 = .ok (.getfield 41, 3) := by decide +kernel
theorem dX_makeRequest_124 : decode cX_makeRequest 124 = .ok (.getfield 48, 3) := by decide +kernel
theorem dX_makeRequest_127 : decode cX_makeRequest 127 = .ok (.iload 5, 2) := by decide +kernel
theorem dX_makeRequest_129 : decode cX_makeRequest 129 = .ok (.invokevirtual 96, 3) := by decide +kernel
theorem dX_makeRequest_132 : decode cX_makeRequest 132 = .ok (.ifCond .eq 6, 3) := by decide +kernel
theorem dX_makeRequest_135 : decode cX_makeRequest 135 = .ok (.goto 9, 3) := by decide +kernel
theorem dX_makeRequest_138 : decode cX_makeRequest 138 = .ok (.iinc 6 1, 3) := by decide +kernel
theorem dX_makeRequest_141 : decode cX_makeRequest 141 = .ok (.goto (-78), 3) := by decide +kernel
theorem dX_makeRequest_144 : decode cX_makeRequest 144 = .ok (.aload_n 0, 1) := by decide +kernel
theorem dX_makeRequest_145 : decode cX_makeRequest 145 = .ok (.getfield 19, 3) := by decide +kernel
theorem dX_makeRequest_148 : decode cX_makeRequest 148 = .ok (.aload_n 0, 1) := by decide +kernel
theorem dX_makeRequest_149 : decode cX_makeRequest 149 = .ok (.getfield 41, 3) := by decide +kernel
theorem dX_makeRequest_152 : decode cX_makeRequest 152 = .ok (.getfield 48, 3) := by decide +kernel
theorem dX_makeRequest_155 : decode cX_makeRequest 155 = .ok (.iload_n 1, 1) := by decide +kernel
theorem dX_makeRequest_156 : decode cX_makeRequest 156 = .ok (.invokevirtual 125, 3) := by decide +kernel
theorem dX_makeRequest_159 : decode cX_makeRequest 159 = .ok (.ireturn, 1) := by decide +kernel
theorem lmX_227 : Cond.methodLink R_X 227 yT_grow ∈ bigW := bw 434 (by decide +kernel) rfl
theorem lmX_259 : Cond.methodLink R_X 259 yN_last ∈ bigW := bw 463 (by decide +kernel) rfl
theorem lmX_169 : Cond.methodLink R_X 169 yS_placeOf ∈ bigW := bw 418 (by decide +kernel) rfl
theorem lfX_252 : Cond.fieldLinkNest R_X 252 "RailYard$Train" "hasLoaded" "Z" hostN ∈ nestW := nw 192 (by decide +kernel) rfl
theorem lmX_234 : Cond.methodLink R_X 234 yX_isDue ∈ bigW := bw 459 (by decide +kernel) rfl
theorem lmX_262 : Cond.methodLink R_X 262 yW_next ∈ bigW := bw 509 (by decide +kernel) rfl
theorem lfX_19 : Cond.fieldLink R_X 19 "RailYard" "wish" "LRailYard$Stretch;" ∈ bigW := bw 250 (by decide +kernel) rfl
theorem lmX_266 : Cond.methodLink R_X 266 yR_add ∈ bigW := bw 520 (by decide +kernel) rfl
theorem lfX_122 : Cond.fieldLinkNest R_X 122 "RailYard$Stretch" "count" "I" hostN ∈ nestW := nw 98 (by decide +kernel) rfl
theorem lmX_125 : Cond.methodLink R_X 125 yR_against ∈ bigW := bw 381 (by decide +kernel) rfl
theorem miT_grow : MI yT_grow cT_grow 2 (some .int) 0 := ⟨bw 437 (by decide +kernel) rfl, bw 46 (by decide +kernel) rfl, ⟨by decide +kernel, by decide +kernel⟩, by decide +kernel, by decide⟩
theorem mvT_grow : MV yT_grow := ⟨bw 435 (by decide +kernel) rfl, bw 436 (by decide +kernel) rfl⟩
theorem miN_last : MI yN_last cN_last 1 (some .int) 0 := ⟨bw 466 (by decide +kernel) rfl, bw 47 (by decide +kernel) rfl, ⟨by decide +kernel, by decide +kernel⟩, by decide +kernel, by decide⟩
theorem mvN_last : MV yN_last := ⟨bw 464 (by decide +kernel) rfl, bw 465 (by decide +kernel) rfl⟩
theorem miX_isDue : MI yX_isDue cX_isDue 2 (some .boolean) 1 := ⟨bw 462 (by decide +kernel) rfl, bw 39 (by decide +kernel) rfl, ⟨by decide +kernel, by decide +kernel⟩, by decide +kernel, by decide⟩
theorem mvX_isDue : MV yX_isDue := ⟨bw 461 (by decide +kernel) rfl, bw 3 (by decide +kernel) rfl⟩
theorem miW_next : MI yW_next cW_next 12 (some .int) 4 := ⟨bw 512 (by decide +kernel) rfl, bw 40 (by decide +kernel) rfl, ⟨by decide +kernel, by decide +kernel⟩, by decide +kernel, by decide⟩
theorem mvW_next : MV yW_next := ⟨bw 510 (by decide +kernel) rfl, bw 511 (by decide +kernel) rfl⟩
theorem miR_against : MI yR_against cR_against 9 (some .int) 2 := ⟨bw 384 (by decide +kernel) rfl, bw 41 (by decide +kernel) rfl, ⟨by decide +kernel, by decide +kernel⟩, by decide +kernel, by decide⟩
theorem mvR_against : MV yR_against := ⟨bw 382 (by decide +kernel) rfl, bw 383 (by decide +kernel) rfl⟩
def gInc (w : RW) (s : Int) : Int := if 500 - w (7 + s.toNat) 2 < w (7 + s.toNat) 1 then 500 - w (7 + s.toNat) 2 else w (7 + s.toNat) 1
def gSum (w : RW) : Nat → Int
  | 0 => 0
  | n + 1 => gSum w n + gInc w (n : Int)
def grI (w u : RW) (n : Int) : Prop := (∀ j, j ≠ 1 → (∀ s, 0 ≤ s → s < n → j ≠ 7 + s.toNat) → u j = w j) ∧ (u 1 5 = w 1 5 + gSum w n.toNat ∧ ∀ f, f ≠ 5 → u 1 f = w 1 f) ∧ ∀ s, 0 ≤ s → s < n → u (7 + s.toNat) 2 = w (7 + s.toNat) 2 + gInc w s ∧ ∀ f, f ≠ 2 → u (7 + s.toNat) f = w (7 + s.toNat) f
theorem gSum_rng {w : RW} {n : Nat} (h : ∀ s, 0 ≤ s → s < (n : Int) → 0 ≤ w (7 + s.toNat) 1 ∧ w (7 + s.toNat) 1 ≤ 50 ∧ 0 ≤ w (7 + s.toNat) 2 ∧ w (7 + s.toNat) 2 ≤ 500) : 0 ≤ gSum w n ∧ gSum w n ≤ 50 * n := by
  induction n with
  | zero => exact ⟨Int.le_refl 0, Int.le_refl 0⟩
  | succ n ih =>
    have h1 := ih (fun s s1 s2 => h s s1 (by omega))
    have h2 := h (n : Int) (by omega) (by omega)
    show 0 ≤ gSum w n + gInc w n ∧ gSum w n + gInc w n ≤ _
    have : 0 ≤ gInc w n ∧ gInc w n ≤ 50 := by unfold gInc; split <;> omega
    omega
theorem lpX_growCargo {G : vG} {X : vX} {Q : State → Prop} {w : RW} (hn : 0 ≤ w 1 3 ∧ w 1 3 ≤ 6) (hm : 0 ≤ w 1 5 ∧ w 1 5 ≤ 1000000000) (hst : ∀ s, 0 ≤ s → s < w 1 3 → 0 ≤ w (7 + s.toNat) 1 ∧ w (7 + s.toNat) 1 ≤ 50 ∧ 0 ≤ w (7 + s.toNat) 2 ∧ w (7 + s.toNat) 2 ≤ 500) (F : FX G X cX_growCargo yX_growCargo.cls 2 2) (hR : RetV G X cX_growCargo 2 Q (fun u => grI w u (w 1 3))) : ∀ (m : Nat) (i : Int) (u0 : RW), 0 ≤ i → i ≤ w 1 3 → w 1 3 - i < m → grI w u0 i → V G X 2 Q 2 [some (.inr 0), some (.inl i)] [] u0 := by
  intro m
  induction m with
  | zero => intro i u0 h1 h2 h3; omega
  | succ m ih =>
    intro i u0 h1 h2 h3 hI
    refine V_iload_n (i := 1) F dX_growCargo_2 rfl rfl ?_
    refine V_aload_n (i := 0) F dX_growCargo_3 rfl rfl ?_
    refine V_getr (ci := 6) (C := R_X) (T := T_X) (N := 5) F dX_growCargo_4 (by first | rfl | assumption) rfl (j := 0) (by decide) rfl lfX_41 ?_
    refine V_getiN (ci := 5) (C := R_Y) (T := T_Y) (N := 8) F dX_growCargo_7 (by first | rfl | assumption) rfl (j := 3) 3 rfl (by decide) rfl lfX_102 ?_
    rw [hI.2.1.2 3 (by decide)]
    refine V_icmp_ge F 43 dX_growCargo_10 (by decide) (fun h10 => ?_) (fun h10 => ?_)
    · exact hR _ _ _ dX_growCargo_43 (by rw [show i = w 1 3 by omega] at hI; exact hI)
    · have b1 := st7_at (i := i) (by omega)
      have b2 := st7_sh (i := i) (by omega)
      have hs := gSum_rng (w := w) (n := i.toNat) (fun s s1 s2 => hst s s1 (by omega))
      have hi : 0 ≤ gInc w i ∧ gInc w i ≤ 50 := by have := hst i h1 (by omega); unfold gInc; split <;> omega
      refine V_aload_n (i := 0) F dX_growCargo_13 rfl rfl ?_
      refine V_getr (ci := 6) (C := R_X) (T := T_X) (N := 5) F dX_growCargo_14 (by first | rfl | assumption) rfl (j := 0) (by decide) rfl lfX_41 ?_
      refine V_dup F dX_growCargo_17 ?_
      refine V_getiN (ci := 5) (C := R_Y) (T := T_Y) (N := 8) F dX_growCargo_18 (by first | rfl | assumption) rfl (j := 5) 5 rfl (by decide) rfl lfX_210 ?_
      rw [hI.2.1.1]
      refine V_aload_n (i := 0) F dX_growCargo_21 rfl rfl ?_
      refine V_getr (ci := 6) (C := R_X) (T := T_X) (N := 5) F dX_growCargo_22 (by first | rfl | assumption) rfl (j := 0) (by decide) rfl lfX_41 ?_
      refine V_getrN (ci := 5) (C := R_Y) (T := T_Y) (N := 8) F dX_growCargo_25 (by first | rfl | assumption) rfl (j := 1) (by decide) rfl lfX_106 ?_
      refine V_iload_n (i := 1) F dX_growCargo_28 rfl rfl ?_
      first
        | refine V_aald F dX_growCargo_29 (by first | rfl | assumption) rfl (by omega) (by first | rfl | assumption) ?_
        | refine V_aaldA F dX_growCargo_29 (by first | rfl | assumption) rfl (by omega) (by first | rfl | assumption) ?_
      refine V_callVi F dX_growCargo_30 lmX_227 miT_grow mvT_grow (ctT_grow (w := u0) b2 (by rw [hI.1 (7 + i.toNat) (by omega) (fun s s1 s2 => by omega)]; have := hst i h1 (by omega); omega)) (by decide) (by first | rfl | assumption) rfl rfl (Nat.le_of_ble_eq_true rfl) (fun r u hr => ?_)
      obtain ⟨rfl, rfl⟩ := hr
      rw [hI.1 (7 + i.toNat) (by omega) (fun s s1 s2 => by omega)]
      show V _ _ _ _ _ _ (.inl (gInc w i) :: _) (upw u0 (7 + i.toNat) 2 (w (7 + i.toNat) 2 + gInc w i))
      refine V_iadd F dX_growCargo_33 (by omega) ?_
      refine V_putiN (ci := 5) (C := R_Y) (T := T_Y) (N := 8) F dX_growCargo_34 (by first | rfl | assumption) rfl (j := 5) 5 rfl (by decide) rfl rfl rfl lfX_210 ?_
      refine V_iinc F dX_growCargo_37 (by decide) rfl (by omega) (by simp only [List.set_cons_zero, List.set_cons_succ]; exact rfl) ?_
      refine V_goto F 2 dX_growCargo_40 (by decide) ?_
      refine ih (i + 1) _ (by omega) (by omega) (by omega) ⟨fun j j1 j2 => ?_, ⟨?_, fun f hf => ?_⟩, fun s s1 s2 => ?_⟩
      · rw [upw_f j1, upw_f (j2 i h1 (by omega))]
        exact hI.1 j j1 (fun s s1 s2 => j2 s s1 (by omega))
      · rw [upw_s, show (i + 1).toNat = i.toNat + 1 by omega]
        show _ = w 1 5 + (gSum w i.toNat + gInc w (i.toNat : Int))
        rw [Int.toNat_of_nonneg h1]
        omega
      · rw [upw_i hf, upw_k (by omega)]; exact hI.2.1.2 f hf
      · rw [upw_f (by omega)]
        by_cases hs' : s = i
        · subst hs'
          rw [upw_s]
          refine ⟨rfl, fun f hf => ?_⟩
          rw [upw_i hf, hI.1 (7 + s.toNat) (by omega) (fun s' a b => by omega)]
        · rw [upw_f (by omega)]
          exact hI.2.2 s s1 (by omega)
theorem ctX_growCargo {G : vG} {l : Launch} {w : RW} (hn : 0 ≤ w 1 3 ∧ w 1 3 ≤ 6) (hm : 0 ≤ w 1 5 ∧ w 1 5 ≤ 1000000000) (hst : ∀ s, 0 ≤ s → s < w 1 3 → 0 ≤ w (7 + s.toNat) 1 ∧ w (7 + s.toNat) 1 ≤ 50 ∧ 0 ≤ w (7 + s.toNat) 2 ∧ w (7 + s.toNat) 2 ≤ 500) : CTv G l yX_growCargo cX_growCargo 2 2 [.inr 0] w (fun u => grI w u (w 1 3)) := by
  refine CTv.intro (by decide) (Nat.le_of_ble_eq_true rfl) ?_
  intro X Q F hX hR
  subst hX
  show V G X 2 Q 0 [some (.inr 0), none] [] w
  refine V_iconst F dX_growCargo_0 (by decide) ?_
  refine V_istore_n (i := 1) F dX_growCargo_1 rfl (by decide) (by simp only [List.set_cons_zero, List.set_cons_succ]; exact rfl) ?_
  exact lpX_growCargo hn hm hst F hR ((w 1 3).toNat + 1) 0 w (by omega) (by omega) (by omega) ⟨fun j _ _ => rfl, ⟨by show w 1 5 = w 1 5 + 0; omega, fun f _ => rfl⟩, fun s s1 s2 => by omega⟩
/-- the train's goal, and whether it is due there -/
def gTr (w : RW) (t : Int) : Int := w (26 + t.toNat) (w (14 + t.toNat) 8)
def duC (w : RW) (t : Int) : Prop := w (20 + t.toNat) (w (14 + t.toNat) 1 - 1) % 512 = w (7 + (gTr w t).toNat) 0 ∧ (0 < w (14 + t.toNat) 1 - w (14 + t.toNat) 2 ∨ w (14 + t.toNat) 9 = 0)
theorem ctX_isDue {G : vG} {l : Launch} {w : RW} {t : Int} (ht : 0 ≤ t ∧ t < w 1 4) (hc : cOK w) (ho : 0 < w (14 + t.toNat) 7) : CTi G l yX_isDue cX_isDue 2 .boolean 1 [.inr 0, .inr (14 + t.toNat)] w (fun r u => r = bz (duC w t) ∧ w = u) := by
  refine CTi.bool (by decide) (Nat.le_of_ble_eq_true rfl) ?_
  intro X Q F hX hR
  subst hX
  show V G X 2 Q 0 [some (.inr 0), some (.inr (14 + t.toNat))] [] w
  obtain ⟨k1, k2, k3, k4, k5, k6⟩ := hc
  obtain ⟨t1, t2, t3, t4, t5⟩ := k6 t ht.1 ht.2
  have b2 := tr14_sh (i := t) (by omega)
  have b3 := rn20_sh (i := t) (by omega)
  have b4 := od26_sh (i := t) (by omega)
  have hg : 0 ≤ gTr w t ∧ gTr w t < w 1 3 := t5 _ (by omega) (by omega)
  have b5 := st7_at (i := gTr w t) (by omega)
  have b6 := st7_sh (i := gTr w t) (by omega)
  have hla := t4 (w (14 + t.toNat) 1 - 1) (by omega) (by omega)
  have hla1 := hla.1
  have hla3 := hla.2.2.2.1
  refine V_aload_n (i := 1) F dX_isDue_0 rfl rfl ?_
  refine V_callVi F dX_isDue_1 lmX_259 miN_last mvN_last (ctN_last b2 b3 b4 (by omega)) (by decide) (by first | rfl | assumption) rfl rfl (Nat.le_of_ble_eq_true rfl) (fun r u hr => ?_)
  obtain ⟨rfl, rfl⟩ := hr
  refine V_callSi F dX_isDue_4 lmX_169 miS_placeOf msS_placeOf (ctS_placeOf (by omega)) (by decide) rfl (Nat.le_of_ble_eq_true rfl) (fun r u hr => ?_)
  obtain ⟨rfl, rfl⟩ := hr
  refine V_aload_n (i := 0) F dX_isDue_7 rfl rfl ?_
  refine V_getr (ci := 6) (C := R_X) (T := T_X) (N := 5) F dX_isDue_8 (by first | rfl | assumption) rfl (j := 0) (by decide) rfl lfX_41 ?_
  refine V_getrN (ci := 5) (C := R_Y) (T := T_Y) (N := 8) F dX_isDue_11 (by first | rfl | assumption) rfl (j := 1) (by decide) rfl lfX_106 ?_
  refine V_aload_n (i := 1) F dX_isDue_14 rfl rfl ?_
  refine V_callVi F dX_isDue_15 lmX_206 miN_goesFor mvN_goesFor (ctN_goesFor b2 b3 b4 (by omega)) (by decide) (by first | rfl | assumption) rfl rfl (Nat.le_of_ble_eq_true rfl) (fun r u hr => ?_)
  obtain ⟨rfl, rfl⟩ := hr
  rw [if_pos (by omega)]
  show V _ _ _ _ _ _ (.inl (gTr w t) :: _) _
  first
    | refine V_aald F dX_isDue_18 (by first | rfl | assumption) rfl (by omega) (by first | rfl | assumption) ?_
    | refine V_aaldA F dX_isDue_18 (by first | rfl | assumption) rfl (by omega) (by first | rfl | assumption) ?_
  refine V_getiN (ci := 1) (C := R_T) (T := T_T) (N := 3) F dX_isDue_19 (by first | rfl | assumption) rfl (j := 0) 0 rfl (by decide) rfl lfX_193 ?_
  refine V_icmp_eq F 27 dX_isDue_22 (by decide) (fun h22 => ?_) (fun h22 => ?_)
  · refine V_aload_n (i := 1) F dX_isDue_27 rfl rfl ?_
    refine V_callVi F dX_isDue_28 lmX_161 miN_ahead mvN_ahead (ctN_ahead b2 b3 b4 (by omega)) (by decide) (by first | rfl | assumption) rfl rfl (Nat.le_of_ble_eq_true rfl) (fun r u hr => ?_)
    obtain ⟨rfl, rfl⟩ := hr
    refine V_if_gt F 41 dX_isDue_31 (by decide) (fun h31 => ?_) (fun h31 => ?_)
    · refine V_iconst F dX_isDue_41 (by decide) ?_
      refine V_goto F 46 dX_isDue_42 (by decide) ?_
      exact hR _ _ _ _ dX_isDue_46 (by first | exact Or.inl rfl | exact Or.inr rfl | exact bz_01 _ | assumption) (by first | exact ⟨(bz_t (by unfold duC; omega)).symm, rfl⟩ | exact ⟨(bz_f (by unfold duC; omega)).symm, rfl⟩)
    · refine V_aload_n (i := 1) F dX_isDue_34 rfl rfl ?_
      refine V_getiN (ci := 3) (C := R_N) (T := T_N) (N := 10) F dX_isDue_35 (by first | rfl | assumption) rfl (j := 9) 9 rfl (by decide) rfl lfX_252 ?_
      refine V_if_ne F 45 dX_isDue_38 (by decide) (fun h38 => ?_) (fun h38 => ?_)
      · refine V_iconst F dX_isDue_45 (by decide) ?_
        exact hR _ _ _ _ dX_isDue_46 (by first | exact Or.inl rfl | exact Or.inr rfl | exact bz_01 _ | assumption) (by first | exact ⟨(bz_t (by unfold duC; omega)).symm, rfl⟩ | exact ⟨(bz_f (by unfold duC; omega)).symm, rfl⟩)
      · refine V_iconst F dX_isDue_41 (by decide) ?_
        refine V_goto F 46 dX_isDue_42 (by decide) ?_
        exact hR _ _ _ _ dX_isDue_46 (by first | exact Or.inl rfl | exact Or.inr rfl | exact bz_01 _ | assumption) (by first | exact ⟨(bz_t (by unfold duC; omega)).symm, rfl⟩ | exact ⟨(bz_f (by unfold duC; omega)).symm, rfl⟩)
  · refine V_iconst F dX_isDue_25 (by decide) ?_
    exact hR _ _ _ _ dX_isDue_26 (by first | exact Or.inl rfl | exact Or.inr rfl | exact bz_01 _ | assumption) (by first | exact ⟨(bz_t (by unfold duC; omega)).symm, rfl⟩ | exact ⟨(bz_f (by unfold duC; omega)).symm, rfl⟩)
def swC (w : RW) (t : Int) : Prop := 0 < w (14 + t.toNat) 7 ∧ w (14 + t.toNat) 4 = 0 ∧ w (14 + t.toNat) 3 = 0 ∧ w (14 + t.toNat) 1 - w (14 + t.toNat) 2 = 0 ∧ ¬ duC w t
theorem ctX_standsWaiting {G : vG} {l : Launch} {w : RW} {t : Int} (ht : 0 ≤ t ∧ t < w 1 4) (hc : cOK w) : CTi G l yX_standsWaiting cX_standsWaiting 2 .boolean 2 [.inr 0, .inr (14 + t.toNat)] w (fun r u => r = bz (swC w t) ∧ w = u) := by
  refine CTi.bool (by decide) (Nat.le_of_ble_eq_true rfl) ?_
  intro X Q F hX hR
  subst hX
  show V G X 2 Q 0 [some (.inr 0), some (.inr (14 + t.toNat))] [] w
  have hc0 := hc
  obtain ⟨k1, k2, k3, k4, k5, k6⟩ := hc
  obtain ⟨t1, t2, t3, t4, t5⟩ := k6 t ht.1 ht.2
  have b2 := tr14_sh (i := t) (by omega)
  have b3 := rn20_sh (i := t) (by omega)
  have b4 := od26_sh (i := t) (by omega)
  refine V_aload_n (i := 1) F dX_standsWaiting_0 rfl rfl ?_
  refine V_getiN (ci := 3) (C := R_N) (T := T_N) (N := 10) F dX_standsWaiting_1 (by first | rfl | assumption) rfl (j := 7) 7 rfl (by decide) rfl lfX_149 ?_
  refine V_if_le F 40 dX_standsWaiting_4 (by decide) (fun h4 => ?_) (fun h4 => ?_)
  · first | (replace h4 := bz_ne0.mp h4) | (replace h4 := bz_eq0.mp h4) | skip
    refine V_iconst F dX_standsWaiting_40 (by decide) ?_
    exact hR _ _ _ _ dX_standsWaiting_41 (by first | exact Or.inl rfl | exact Or.inr rfl | exact bz_01 _ | assumption) (by first | exact ⟨(bz_t ⟨by omega, by omega, by omega, by omega, h33⟩).symm, rfl⟩ | exact ⟨(bz_f (fun z => by have z1 := z.1; have z2 := z.2.1; have z3 := z.2.2.1; have z4 := z.2.2.2.1; omega)).symm, rfl⟩ | exact ⟨(bz_f (fun z => z.2.2.2.2 h33)).symm, rfl⟩)
  · first | (replace h4 := bz_ne0.mp h4) | (replace h4 := bz_eq0.mp h4) | skip
    refine V_aload_n (i := 1) F dX_standsWaiting_7 rfl rfl ?_
    refine V_getiN (ci := 3) (C := R_N) (T := T_N) (N := 10) F dX_standsWaiting_8 (by first | rfl | assumption) rfl (j := 4) 4 rfl (by decide) rfl lfX_158 ?_
    refine V_if_ne F 40 dX_standsWaiting_11 (by decide) (fun h11 => ?_) (fun h11 => ?_)
    · first | (replace h11 := bz_ne0.mp h11) | (replace h11 := bz_eq0.mp h11) | skip
      refine V_iconst F dX_standsWaiting_40 (by decide) ?_
      exact hR _ _ _ _ dX_standsWaiting_41 (by first | exact Or.inl rfl | exact Or.inr rfl | exact bz_01 _ | assumption) (by first | exact ⟨(bz_t ⟨by omega, by omega, by omega, by omega, h33⟩).symm, rfl⟩ | exact ⟨(bz_f (fun z => by have z1 := z.1; have z2 := z.2.1; have z3 := z.2.2.1; have z4 := z.2.2.2.1; omega)).symm, rfl⟩ | exact ⟨(bz_f (fun z => z.2.2.2.2 h33)).symm, rfl⟩)
    · first | (replace h11 := bz_ne0.mp h11) | (replace h11 := bz_eq0.mp h11) | skip
      refine V_aload_n (i := 1) F dX_standsWaiting_14 rfl rfl ?_
      refine V_getiN (ci := 3) (C := R_N) (T := T_N) (N := 10) F dX_standsWaiting_15 (by first | rfl | assumption) rfl (j := 3) 3 rfl (by decide) rfl lfX_155 ?_
      refine V_if_ne F 40 dX_standsWaiting_18 (by decide) (fun h18 => ?_) (fun h18 => ?_)
      · first | (replace h18 := bz_ne0.mp h18) | (replace h18 := bz_eq0.mp h18) | skip
        refine V_iconst F dX_standsWaiting_40 (by decide) ?_
        exact hR _ _ _ _ dX_standsWaiting_41 (by first | exact Or.inl rfl | exact Or.inr rfl | exact bz_01 _ | assumption) (by first | exact ⟨(bz_t ⟨by omega, by omega, by omega, by omega, h33⟩).symm, rfl⟩ | exact ⟨(bz_f (fun z => by have z1 := z.1; have z2 := z.2.1; have z3 := z.2.2.1; have z4 := z.2.2.2.1; omega)).symm, rfl⟩ | exact ⟨(bz_f (fun z => z.2.2.2.2 h33)).symm, rfl⟩)
      · first | (replace h18 := bz_ne0.mp h18) | (replace h18 := bz_eq0.mp h18) | skip
        refine V_aload_n (i := 1) F dX_standsWaiting_21 rfl rfl ?_
        refine V_callVi F dX_standsWaiting_22 lmX_161 miN_ahead mvN_ahead (ctN_ahead b2 b3 b4 (by omega)) (by decide) (by first | rfl | assumption) rfl rfl (Nat.le_of_ble_eq_true rfl) (fun r u hr => ?_)
        obtain ⟨rfl, rfl⟩ := hr
        refine V_if_ne F 40 dX_standsWaiting_25 (by decide) (fun h25 => ?_) (fun h25 => ?_)
        · first | (replace h25 := bz_ne0.mp h25) | (replace h25 := bz_eq0.mp h25) | skip
          refine V_iconst F dX_standsWaiting_40 (by decide) ?_
          exact hR _ _ _ _ dX_standsWaiting_41 (by first | exact Or.inl rfl | exact Or.inr rfl | exact bz_01 _ | assumption) (by first | exact ⟨(bz_t ⟨by omega, by omega, by omega, by omega, h33⟩).symm, rfl⟩ | exact ⟨(bz_f (fun z => by have z1 := z.1; have z2 := z.2.1; have z3 := z.2.2.1; have z4 := z.2.2.2.1; omega)).symm, rfl⟩ | exact ⟨(bz_f (fun z => z.2.2.2.2 h33)).symm, rfl⟩)
        · first | (replace h25 := bz_ne0.mp h25) | (replace h25 := bz_eq0.mp h25) | skip
          refine V_aload_n (i := 0) F dX_standsWaiting_28 rfl rfl ?_
          refine V_aload_n (i := 1) F dX_standsWaiting_29 rfl rfl ?_
          refine V_callVi F dX_standsWaiting_30 lmX_234 miX_isDue mvX_isDue (ctX_isDue ht hc0 (by omega)) (by decide) (by first | rfl | assumption) rfl rfl (Nat.le_of_ble_eq_true rfl) (fun r u hr => ?_)
          obtain ⟨rfl, rfl⟩ := hr
          refine V_if_ne F 40 dX_standsWaiting_33 (by decide) (fun h33 => ?_) (fun h33 => ?_)
          · first | (replace h33 := bz_ne0.mp h33) | (replace h33 := bz_eq0.mp h33) | skip
            refine V_iconst F dX_standsWaiting_40 (by decide) ?_
            exact hR _ _ _ _ dX_standsWaiting_41 (by first | exact Or.inl rfl | exact Or.inr rfl | exact bz_01 _ | assumption) (by first | exact ⟨(bz_t ⟨by omega, by omega, by omega, by omega, h33⟩).symm, rfl⟩ | exact ⟨(bz_f (fun z => by have z1 := z.1; have z2 := z.2.1; have z3 := z.2.2.1; have z4 := z.2.2.2.1; omega)).symm, rfl⟩ | exact ⟨(bz_f (fun z => z.2.2.2.2 h33)).symm, rfl⟩)
          · first | (replace h33 := bz_ne0.mp h33) | (replace h33 := bz_eq0.mp h33) | skip
            refine V_iconst F dX_standsWaiting_36 (by decide) ?_
            refine V_goto F 41 dX_standsWaiting_37 (by decide) ?_
            exact hR _ _ _ _ dX_standsWaiting_41 (by first | exact Or.inl rfl | exact Or.inr rfl | exact bz_01 _ | assumption) (by first | exact ⟨(bz_t ⟨by omega, by omega, by omega, by omega, h33⟩).symm, rfl⟩ | exact ⟨(bz_f (fun z => by have z1 := z.1; have z2 := z.2.1; have z3 := z.2.2.1; have z4 := z.2.2.2.1; omega)).symm, rfl⟩ | exact ⟨(bz_f (fun z => z.2.2.2.2 h33)).symm, rfl⟩)
def enC (w : RW) (g x : Int) : Prop := x % 512 = g ∨ tb (w 4 (x % 512)) (x / 512)
def prv (u : RW) (x0 i : Int) : Int := if i = 0 then x0 else u 74 (i - 1)
def mrI (v u : RW) (s g x0 i : Int) : Prop := (∀ j, j ≠ 73 → j ≠ 74 → u j = v j) ∧ u 73 2 = i ∧ ∀ j, 0 ≤ j → j < i → okR (u 74 j) ∧ nxQ v s g (prv u x0 j) (u 74 j) ∧ ¬ enC v g (u 74 j)
/-- the wish is the way on from x0: it ends where it must, or there is none -/
def mrE (v u : RW) (s g x0 : Int) : Prop := (∀ j, j ≠ 73 → j ≠ 74 → u j = v j) ∧ (0 ≤ u 73 2 ∧ u 73 2 ≤ 257) ∧ (∀ j, 0 ≤ j → j < u 73 2 → okR (u 74 j) ∧ nxQ v s g (prv u x0 j) (u 74 j)) ∧ (∀ j, 0 ≤ j → j < u 73 2 - 1 → ¬ enC v g (u 74 j)) ∧ ((1 ≤ u 73 2 ∧ enC v g (u 74 (u 73 2 - 1))) ∨ ((∀ j, 0 ≤ j → j < u 73 2 → ¬ enC v g (u 74 j)) ∧ (nxQ v s g (prv u x0 (u 73 2)) (-1) ∨ u 73 2 = 257)))
theorem nxQ_ok {w : RW} {s g x b : Int} (hx : 0 ≤ x) (hb : w 2 0 ≤ 8 ∧ w 2 1 ≤ 6) (h : nxQ w s g x b) : b = -1 ∨ okR b := by
  rcases h with ⟨_, h⟩ | ⟨hT, z, ⟨h, _⟩ | ⟨p, p1, p2, p3, p4, _⟩⟩
  · exact Or.inl h
  · exact Or.inl h
  · have := nxT_rng (w := w) (x := x) hb
    rw [p4]
    exact Or.inr (nxR_ok hx (by omega) ⟨p1, p2⟩ p3.2).1
theorem nxQ_c {w u : RW} {s g x b : Int} (h2 : u 2 = w 2) (h3 : u 3 = w 3) (h4 : u 4 = w 4) (hL : u (65 + s.toNat) = w (65 + s.toNat)) : nxQ u s g x b ↔ nxQ w s g x b := by
  unfold nxQ nxB nxS rsT nxP nxR nxT
  rw [h2, h3, h4, hL]
theorem mrI_B {v u : RW} {s g x0 i : Int} (hi : 0 ≤ i ∧ i ≤ 257) (h : mrI v u s g x0 i) (hn : nxQ v s g (prv u x0 i) (-1) ∨ i = 257) : mrE v u s g x0 := by
  obtain ⟨h1, h2, h3⟩ := h
  refine ⟨h1, by omega, fun j j1 j2 => ⟨(h3 j j1 (by omega)).1, (h3 j j1 (by omega)).2.1⟩, fun j j1 j2 => (h3 j j1 (by omega)).2.2, Or.inr ⟨fun j j1 j2 => (h3 j j1 (by omega)).2.2, ?_⟩⟩
  rw [h2]
  exact hn
def mrW (u : RW) (y : Int) : RW := upw (upw u 74 (u 73 2) y) 73 2 (u 73 2 + 1)
theorem mrI_add {v u : RW} {s g x0 i y : Int} (hi : 0 ≤ i) (h : mrI v u s g x0 i) : (∀ j, j ≠ 73 → j ≠ 74 → mrW u y j = v j) ∧ mrW u y 73 2 = i + 1 ∧ mrW u y 74 i = y ∧ (∀ j, j < i → mrW u y 74 j = u 74 j) ∧ ∀ j, 0 ≤ j → j ≤ i → prv (mrW u y) x0 j = prv u x0 j := by
  obtain ⟨h1, h2, h3⟩ := h
  have e : ∀ j, j < i → mrW u y 74 j = u 74 j := fun j hj => by unfold mrW; rw [upw_f (by decide), upw_i (by omega)]
  refine ⟨fun j j1 j2 => ?_, ?_, ?_, e, fun j j1 j2 => ?_⟩
  · unfold mrW; rw [upw_f j1, upw_f j2]; exact h1 j j1 j2
  · unfold mrW; rw [upw_s, h2]
  · unfold mrW; rw [upw_f (by decide), h2, upw_s]
  · unfold prv
    by_cases hj : j = 0
    · rw [if_pos hj, if_pos hj]
    · rw [if_neg hj, if_neg hj, e (j - 1) (by omega)]
theorem mrI_go {v u : RW} {s g x0 i y : Int} (hi : 0 ≤ i) (h : mrI v u s g x0 i) (hq : nxQ v s g (prv u x0 i) y) (hok : okR y) (hne : ¬ enC v g y) : mrI v (mrW u y) s g x0 (i + 1) := by
  obtain ⟨a1, a2, a3, a4, a5⟩ := mrI_add (y := y) hi h
  refine ⟨a1, a2, fun j j1 j2 => ?_⟩
  by_cases hj : j = i
  · subst hj
    rw [a3, a5 j j1 (by omega)]
    exact ⟨hok, hq, hne⟩
  · rw [a4 j (by omega), a5 j j1 (by omega)]
    exact h.2.2 j j1 (by omega)
theorem mrI_C {v u : RW} {s g x0 i y : Int} (hi : 0 ≤ i ∧ i < 257) (h : mrI v u s g x0 i) (hq : nxQ v s g (prv u x0 i) y) (hok : okR y) (he : enC v g y) : mrE v (mrW u y) s g x0 := by
  obtain ⟨a1, a2, a3, a4, a5⟩ := mrI_add (y := y) hi.1 h
  refine ⟨a1, by omega, fun j j1 j2 => ?_, fun j j1 j2 => ?_, Or.inl ⟨by omega, ?_⟩⟩
  · by_cases hj : j = i
    · subst hj
      rw [a3, a5 j j1 (by omega)]
      exact ⟨hok, hq⟩
    · rw [a4 j (by omega), a5 j j1 (by omega)]
      exact ⟨(h.2.2 j j1 (by omega)).1, (h.2.2 j j1 (by omega)).2.1⟩
  · rw [a4 j (by omega)]
    exact (h.2.2 j j1 (by omega)).2.2
  · rw [a2, show i + 1 - 1 = i by omega, a3]
    exact he
theorem prv_s {v u : RW} {s g x0 i y : Int} (hi : 0 ≤ i) (h : mrI v u s g x0 i) : prv (mrW u y) x0 (i + 1) = y := by
  obtain ⟨a1, a2, a3, a4, a5⟩ := mrI_add (y := y) hi h
  unfold prv
  rw [if_neg (by omega), show i + 1 - 1 = i by omega, a3]
theorem lpX_makeRequest {G : vG} {X : vX} {Q : State → Prop} {v : RW} {t s g x0 : Int} {kt : Nat} (hb : v 2 0 ≤ 8 ∧ v 2 1 ≤ 6) (hw : ∀ t, 0 ≤ t → t < 48 → 0 ≤ v 3 t) (hl : ∀ p, 0 ≤ p → p < 384 → 0 ≤ v 4 p) (hs : 0 ≤ s ∧ s < 6) (hr0 : ∀ e, 0 ≤ e → e < 256 → 0 ≤ v (65 + s.toNat) e ∧ v (65 + s.toNat) e ≤ 1048576) (F : FX G X cX_makeRequest yX_makeRequest.cls 7 4) (K : ∀ (x i : Int) (u : RW), mrE v u s g x0 → V G X 7 Q 144 [some (.inr 0), some (.inl t), some (.inr kt), some (.inl s), some (.inl g), some (.inl x), some (.inl i)] [] u) : ∀ (m : Nat) (i x : Int) (u0 : RW), 0 ≤ i → i ≤ 257 → 257 - i < m → mrI v u0 s g x0 i → x = prv u0 x0 i → okR x → V G X 7 Q 63 [some (.inr 0), some (.inl t), some (.inr kt), some (.inl s), some (.inl g), some (.inl x), some (.inl i)] [] u0 := by
  intro m
  induction m with
  | zero => intro i x u0 h1 h2 h3; omega
  | succ m ih =>
    intro i x u0 h1 h2 h3 hI hxe hx
    refine V_iload F dX_makeRequest_63 rfl ?_
    refine V_sipush F dX_makeRequest_65 (by decide) ?_
    refine V_icmp_ge F 144 dX_makeRequest_68 (by decide) (fun h68 => ?_) (fun h68 => ?_)
    · first | (replace h68 := bz_ne0.mp h68) | (replace h68 := bz_eq0.mp h68) | skip
      first
      | exact K _ _ _ (mrI_B ⟨h1, h2⟩ hI (Or.inr (by omega)))
      | exact K _ _ _ (mrI_B ⟨h1, h2⟩ hI (Or.inl (by rw [← hxe, ← h95]; exact hq)))
      | exact K _ _ _ (mrI_C ⟨h1, by omega⟩ hI (by rw [← hxe]; exact hq) ⟨y1, y2, y3, y4, y5⟩ (Or.inl h117))
      | exact K _ _ _ (mrI_C ⟨h1, by omega⟩ hI (by rw [← hxe]; exact hq) ⟨y1, y2, y3, y4, y5⟩ (Or.inr h132))
    · first | (replace h68 := bz_ne0.mp h68) | (replace h68 := bz_eq0.mp h68) | skip
      have e2 := hI.1 2 (by decide) (by decide)
      have e3 := hI.1 3 (by decide) (by decide)
      have e4 := hI.1 4 (by decide) (by decide)
      have eL := hI.1 (65 + s.toNat) (by omega) (by omega)
      refine V_aload_n (i := 0) F dX_makeRequest_71 rfl rfl ?_
      refine V_getr (ci := 6) (C := R_X) (T := T_X) (N := 5) F dX_makeRequest_72 (by first | rfl | assumption) rfl (j := 2) (by decide) rfl lfX_12 ?_
      refine V_aload_n (i := 0) F dX_makeRequest_75 rfl rfl ?_
      refine V_getr (ci := 6) (C := R_X) (T := T_X) (N := 5) F dX_makeRequest_76 (by first | rfl | assumption) rfl (j := 0) (by decide) rfl lfX_41 ?_
      refine V_getrN (ci := 5) (C := R_Y) (T := T_Y) (N := 8) F dX_makeRequest_79 (by first | rfl | assumption) rfl (j := 0) (by decide) rfl lfX_48 ?_
      refine V_iload F dX_makeRequest_82 rfl ?_
      refine V_iload_n (i := 3) F dX_makeRequest_84 rfl rfl ?_
      refine V_iload F dX_makeRequest_85 rfl ?_
      refine V_callVi F dX_makeRequest_87 lmX_262 miW_next mvW_next (ctW_next (w := u0) hx hs (by rw [e2]; exact hb) (by rw [e3]; exact hw) (by rw [e4]; exact hl) (by rw [eL]; exact hr0)) (by decide) (by first | rfl | assumption) rfl rfl (Nat.le_of_ble_eq_true rfl) (fun y u hr => ?_)
      obtain ⟨hq, rfl⟩ := hr
      replace hq := (nxQ_c e2 e3 e4 eL).mp hq
      have hyo := nxQ_ok hx.1 hb hq
      refine V_istore F dX_makeRequest_90 (by decide) (by simp only [List.set_cons_zero, List.set_cons_succ]; exact rfl) ?_
      refine V_iload F dX_makeRequest_92 rfl ?_
      refine V_iconst F dX_makeRequest_94 (by decide) ?_
      refine V_icmp_ne F 101 dX_makeRequest_95 (by decide) (fun h95 => ?_) (fun h95 => ?_)
      · first | (replace h95 := bz_ne0.mp h95) | (replace h95 := bz_eq0.mp h95) | skip
        have hok : okR y := by rcases hyo with h | h
                               · exact absurd h h95
                               · exact h
        obtain ⟨y1, y2, y3, y4, y5⟩ := hok
        have hadd := mrI_add (y := y) h1 hI
        have m4 : mrW u0 y 4 = v 4 := hadd.1 4 (by decide) (by decide)
        refine V_aload_n (i := 0) F dX_makeRequest_101 rfl rfl ?_
        refine V_getr (ci := 6) (C := R_X) (T := T_X) (N := 5) F dX_makeRequest_102 (by first | rfl | assumption) rfl (j := 3) (by decide) rfl lfX_19 ?_
        refine V_iload F dX_makeRequest_105 rfl ?_
        refine V_callVv F dX_makeRequest_107 lmX_266 miR_add mvR_add (ctR_add (w := u0) (by have := hI.2.1; omega)) (by decide) (by first | rfl | assumption) rfl rfl (Nat.le_of_ble_eq_true rfl) (fun u2 hr2 => ?_)
        subst hr2
        show V _ _ _ _ _ _ _ (mrW u0 y)
        refine V_iload F dX_makeRequest_110 rfl ?_
        refine V_callSi F dX_makeRequest_112 lmX_169 miS_placeOf msS_placeOf (ctS_placeOf (w := mrW u0 y) (by omega)) (by decide) rfl (Nat.le_of_ble_eq_true rfl) (fun r3 u3 hr3 => ?_)
        obtain ⟨rfl, rfl⟩ := hr3
        refine V_iload F dX_makeRequest_115 rfl ?_
        refine V_icmp_eq F 144 dX_makeRequest_117 (by decide) (fun h117 => ?_) (fun h117 => ?_)
        · first | (replace h117 := bz_ne0.mp h117) | (replace h117 := bz_eq0.mp h117) | skip
          first
          | exact K _ _ _ (mrI_B ⟨h1, h2⟩ hI (Or.inr (by omega)))
          | exact K _ _ _ (mrI_B ⟨h1, h2⟩ hI (Or.inl (by rw [← hxe, ← h95]; exact hq)))
          | exact K _ _ _ (mrI_C ⟨h1, by omega⟩ hI (by rw [← hxe]; exact hq) ⟨y1, y2, y3, y4, y5⟩ (Or.inl h117))
          | exact K _ _ _ (mrI_C ⟨h1, by omega⟩ hI (by rw [← hxe]; exact hq) ⟨y1, y2, y3, y4, y5⟩ (Or.inr h132))
        · first | (replace h117 := bz_ne0.mp h117) | (replace h117 := bz_eq0.mp h117) | skip
          refine V_aload_n (i := 0) F dX_makeRequest_120 rfl rfl ?_
          refine V_getr (ci := 6) (C := R_X) (T := T_X) (N := 5) F dX_makeRequest_121 (by first | rfl | assumption) rfl (j := 0) (by decide) rfl lfX_41 ?_
          refine V_getrN (ci := 5) (C := R_Y) (T := T_Y) (N := 8) F dX_makeRequest_124 (by first | rfl | assumption) rfl (j := 0) (by decide) rfl lfX_48 ?_
          refine V_iload F dX_makeRequest_127 rfl ?_
          refine V_callVi F dX_makeRequest_129 lmX_96 miG_isLit mvG_isLit (ctG_isLit (w := mrW u0 y) (by omega) (by omega) (by rw [m4]; exact hl _ (by omega) (by omega))) (by decide) (by first | rfl | assumption) rfl rfl (Nat.le_of_ble_eq_true rfl) (fun r4 u4 hr4 => ?_)
          obtain ⟨rfl, rfl⟩ := hr4
          rw [m4]
          refine V_if_eq F 138 dX_makeRequest_132 (by decide) (fun h132 => ?_) (fun h132 => ?_)
          · first | (replace h132 := bz_ne0.mp h132) | (replace h132 := bz_eq0.mp h132) | skip
            refine V_iinc F dX_makeRequest_138 (by decide) rfl (by omega) (by simp only [List.set_cons_zero, List.set_cons_succ]; exact rfl) ?_
            refine V_goto F 63 dX_makeRequest_141 (by decide) ?_
            exact ih (i + 1) _ _ (by omega) (by omega) (by omega) (mrI_go h1 hI (by rw [← hxe]; exact hq) ⟨y1, y2, y3, y4, y5⟩ (fun z => z.elim h117 h132)) (prv_s h1 hI).symm ⟨y1, y2, y3, y4, y5⟩
          · first | (replace h132 := bz_ne0.mp h132) | (replace h132 := bz_eq0.mp h132) | skip
            refine V_goto F 144 dX_makeRequest_135 (by decide) ?_
            first
            | exact K _ _ _ (mrI_B ⟨h1, h2⟩ hI (Or.inr (by omega)))
            | exact K _ _ _ (mrI_B ⟨h1, h2⟩ hI (Or.inl (by rw [← hxe, ← h95]; exact hq)))
            | exact K _ _ _ (mrI_C ⟨h1, by omega⟩ hI (by rw [← hxe]; exact hq) ⟨y1, y2, y3, y4, y5⟩ (Or.inl h117))
            | exact K _ _ _ (mrI_C ⟨h1, by omega⟩ hI (by rw [← hxe]; exact hq) ⟨y1, y2, y3, y4, y5⟩ (Or.inr h132))
      · first | (replace h95 := bz_ne0.mp h95) | (replace h95 := bz_eq0.mp h95) | skip
        refine V_goto F 144 dX_makeRequest_98 (by decide) ?_
        first
        | exact K _ _ _ (mrI_B ⟨h1, h2⟩ hI (Or.inr (by omega)))
        | exact K _ _ _ (mrI_B ⟨h1, h2⟩ hI (Or.inl (by rw [← hxe, ← h95]; exact hq)))
        | exact K _ _ _ (mrI_C ⟨h1, by omega⟩ hI (by rw [← hxe]; exact hq) ⟨y1, y2, y3, y4, y5⟩ (Or.inl h117))
        | exact K _ _ _ (mrI_C ⟨h1, by omega⟩ hI (by rw [← hxe]; exact hq) ⟨y1, y2, y3, y4, y5⟩ (Or.inr h132))
/-- behind makeRequest: the sums are learnt, the wish laid, who stands against it told -/
def mqP (w u : RW) (t r : Int) : Prop := ∃ v u1, lnP w v (gTr w t) (w (7 + (gTr w t).toNat) 0) ∧ mrE v u1 (gTr w t) (w (7 + (gTr w t).toNat) 0) (w (20 + t.toNat) (w (14 + t.toNat) 1 - 1)) ∧ agF r t (agS u1 (u1 73 2) t) ∧ ∀ j, j ≠ 75 → u j = u1 j
theorem ctX_makeRequest {G : vG} {l : Launch} {w : RW} {t : Int} (ht : 0 ≤ t ∧ t < w 1 4) (hc : cOK w) (ho : 0 < w (14 + t.toNat) 7) (hw : wOK w) : CTi G l yX_makeRequest cX_makeRequest 7 .int 4 [.inr 0, .inl t] w (fun r u => mqP w u t r) := by
  refine CTi.int (by decide) (Nat.le_of_ble_eq_true rfl) ?_
  intro X Q F hX hR
  subst hX
  show V G X 7 Q 0 [some (.inr 0), some (.inl t), none, none, none, none, none] [] w
  obtain ⟨k1, k2, k3, k4, k5, k6⟩ := hc
  obtain ⟨t1, t2, t3, t4, t5⟩ := k6 t ht.1 ht.2
  have b2 := tr14_sh (i := t) (by omega)
  have b3 := rn20_sh (i := t) (by omega)
  have b4 := od26_sh (i := t) (by omega)
  have b0 := tr14_at (i := t) (by omega)
  have hg : 0 ≤ gTr w t ∧ gTr w t < w 1 3 := t5 _ (by omega) (by omega)
  have b5 := st7_at (i := gTr w t) (by omega)
  have b6 := st7_sh (i := gTr w t) (by omega)
  have hla := t4 (w (14 + t.toNat) 1 - 1) (by omega) (by omega)
  have hla1 := hla.1
  have hla3 := hla.2.2.2.1
  refine V_aload_n (i := 0) F dX_makeRequest_0 rfl rfl ?_
  refine V_getr (ci := 6) (C := R_X) (T := T_X) (N := 5) F dX_makeRequest_1 (by first | rfl | assumption) rfl (j := 0) (by decide) rfl lfX_41 ?_
  refine V_getrN (ci := 5) (C := R_Y) (T := T_Y) (N := 8) F dX_makeRequest_4 (by first | rfl | assumption) rfl (j := 2) (by decide) rfl lfX_129 ?_
  refine V_iload_n (i := 1) F dX_makeRequest_7 rfl rfl ?_
  first
    | refine V_aald F dX_makeRequest_8 (by first | rfl | assumption) rfl (by omega) (by first | rfl | assumption) ?_
    | refine V_aaldA F dX_makeRequest_8 (by first | rfl | assumption) rfl (by omega) (by first | rfl | assumption) ?_
  refine V_astore_n (i := 2) F dX_makeRequest_9 rfl (by decide) (by simp only [List.set_cons_zero, List.set_cons_succ]; exact rfl) ?_
  have b1 := b2
  refine V_aload_n (i := 2) F dX_makeRequest_10 rfl rfl ?_
  refine V_callVi F dX_makeRequest_11 lmX_206 miN_goesFor mvN_goesFor (ctN_goesFor b2 b3 b4 (by omega)) (by decide) (by first | rfl | assumption) rfl rfl (Nat.le_of_ble_eq_true rfl) (fun r u hr => ?_)
  obtain ⟨rfl, rfl⟩ := hr
  rw [if_pos (by omega)]
  show V _ _ _ _ _ _ (.inl (gTr w t) :: _) _
  refine V_istore_n (i := 3) F dX_makeRequest_14 rfl (by decide) (by simp only [List.set_cons_zero, List.set_cons_succ]; exact rfl) ?_
  have g1 := (k5 _ hg.1 hg.2).1
  refine V_aload_n (i := 0) F dX_makeRequest_15 rfl rfl ?_
  refine V_getr (ci := 6) (C := R_X) (T := T_X) (N := 5) F dX_makeRequest_16 (by first | rfl | assumption) rfl (j := 0) (by decide) rfl lfX_41 ?_
  refine V_getrN (ci := 5) (C := R_Y) (T := T_Y) (N := 8) F dX_makeRequest_19 (by first | rfl | assumption) rfl (j := 1) (by decide) rfl lfX_106 ?_
  refine V_iload_n (i := 3) F dX_makeRequest_22 rfl rfl ?_
  first
    | refine V_aald F dX_makeRequest_23 (by first | rfl | assumption) rfl (by omega) (by first | rfl | assumption) ?_
    | refine V_aaldA F dX_makeRequest_23 (by first | rfl | assumption) rfl (by omega) (by first | rfl | assumption) ?_
  refine V_getiN (ci := 1) (C := R_T) (T := T_T) (N := 3) F dX_makeRequest_24 (by first | rfl | assumption) rfl (j := 0) 0 rfl (by decide) rfl lfX_193 ?_
  refine V_istore F dX_makeRequest_27 (by decide) (by simp only [List.set_cons_zero, List.set_cons_succ]; exact rfl) ?_
  refine V_aload_n (i := 0) F dX_makeRequest_29 rfl rfl ?_
  refine V_getr (ci := 6) (C := R_X) (T := T_X) (N := 5) F dX_makeRequest_30 (by first | rfl | assumption) rfl (j := 2) (by decide) rfl lfX_12 ?_
  refine V_aload_n (i := 0) F dX_makeRequest_33 rfl rfl ?_
  refine V_getr (ci := 6) (C := R_X) (T := T_X) (N := 5) F dX_makeRequest_34 (by first | rfl | assumption) rfl (j := 0) (by decide) rfl lfX_41 ?_
  refine V_getrN (ci := 5) (C := R_Y) (T := T_Y) (N := 8) F dX_makeRequest_37 (by first | rfl | assumption) rfl (j := 0) (by decide) rfl lfX_48 ?_
  refine V_iload_n (i := 3) F dX_makeRequest_40 rfl rfl ?_
  refine V_iload F dX_makeRequest_41 rfl ?_
  refine V_callVv F dX_makeRequest_43 lmX_195 miW_learn mvW_learn (ctW_learn (by omega) (by omega) (fun z z1 z2 => (k2 z z1 (by omega)).1) (fun q q1 q2 => (k3 q q1 q2).1) g1.1 g1.2.1 g1.2.2 hw.2.2.1 ⟨hw.1, hw.2.1⟩) (by decide) (by first | rfl | assumption) rfl rfl (Nat.le_of_ble_eq_true rfl) (fun v hln => ?_)
  have fr := lnP_frame hln
  have e14 := fr (14 + t.toNat) (by omega) (by omega) (by omega) (by omega)
  have e20 := fr (20 + t.toNat) (by omega) (by omega) (by omega) (by omega)
  refine V_aload_n (i := 0) F dX_makeRequest_46 rfl rfl ?_
  refine V_getr (ci := 6) (C := R_X) (T := T_X) (N := 5) F dX_makeRequest_47 (by first | rfl | assumption) rfl (j := 3) (by decide) rfl lfX_19 ?_
  refine V_iconst F dX_makeRequest_50 (by decide) ?_
  refine V_putiN (ci := 2) (C := R_R) (T := T_R) (N := 3) F dX_makeRequest_51 (by first | rfl | assumption) rfl (j := 2) 2 rfl (by decide) rfl rfl rfl lfX_122 ?_
  refine V_aload_n (i := 2) F dX_makeRequest_54 rfl rfl ?_
  refine V_callVi F dX_makeRequest_55 lmX_259 miN_last mvN_last (ctN_last (w := upw v 73 2 0) b2 b3 b4 (by rw [upw_k (by omega), e14]; omega)) (by decide) (by first | rfl | assumption) rfl rfl (Nat.le_of_ble_eq_true rfl) (fun r u hr => ?_)
  obtain ⟨rfl, rfl⟩ := hr
  rw [upw_k (by omega), upw_k (by omega), e14, e20]
  refine V_istore F dX_makeRequest_58 (by decide) (by simp only [List.set_cons_zero, List.set_cons_succ]; exact rfl) ?_
  refine V_iconst F dX_makeRequest_60 (by decide) ?_
  refine V_istore F dX_makeRequest_61 (by decide) (by simp only [List.set_cons_zero, List.set_cons_succ]; exact rfl) ?_
  have e2 := fr 2 (by decide) (by decide) (by decide) (by omega)
  have e3 := fr 3 (by decide) (by decide) (by decide) (by omega)
  have e4 := fr 4 (by decide) (by decide) (by decide) (by omega)
  have e5 := fr 5 (by decide) (by decide) (by decide) (by omega)
  have hlr : ∀ e, 0 ≤ e → e < 256 → 0 ≤ v (65 + (gTr w t).toNat) e ∧ v (65 + (gTr w t).toNat) e ≤ 1048576 := by
    rcases hln with ⟨q1, q2⟩ | ⟨_, _, _, _, q2⟩
    · rw [← q2]; exact (hw.2.2.2 _ hg.1 (by omega) q1).2.1
    · exact q2.1
  refine lpX_makeRequest (v := v) (x0 := w (20 + t.toNat) (w (14 + t.toNat) 1 - 1)) (by rw [e2]; omega) (by rw [e3]; exact fun z z1 z2 => (k2 z z1 (by omega)).1) (by rw [e4]; exact fun q q1 q2 => (k3 q q1 q2).1) (by omega) hlr F (fun x i u1 hE => ?_) 258 0 _ _ (by omega) (by omega) (by omega) ⟨fun j j1 j2 => upw_f j1, upw_s _ _ _ _, fun j j1 j2 => by omega⟩ rfl hla
  refine V_aload_n (i := 0) F dX_makeRequest_144 rfl rfl ?_
  refine V_getr (ci := 6) (C := R_X) (T := T_X) (N := 5) F dX_makeRequest_145 (by first | rfl | assumption) rfl (j := 3) (by decide) rfl lfX_19 ?_
  refine V_aload_n (i := 0) F dX_makeRequest_148 rfl rfl ?_
  refine V_getr (ci := 6) (C := R_X) (T := T_X) (N := 5) F dX_makeRequest_149 (by first | rfl | assumption) rfl (j := 0) (by decide) rfl lfX_41 ?_
  refine V_getrN (ci := 5) (C := R_Y) (T := T_Y) (N := 8) F dX_makeRequest_152 (by first | rfl | assumption) rfl (j := 0) (by decide) rfl lfX_48 ?_
  refine V_iload_n (i := 1) F dX_makeRequest_155 rfl rfl ?_
  refine V_callVi F dX_makeRequest_156 lmX_125 miR_against mvR_against (ctR_against (w := u1) (by omega) hE.2.1 (fun j j1 j2 => (hE.2.2.1 j j1 j2).1) (by rw [hE.1 5 (by decide) (by decide), e5]; exact fun q q1 q2 => (k3 q q1 q2).2.2)) (by decide) (by first | rfl | assumption) rfl rfl (Nat.le_of_ble_eq_true rfl) (fun r u hr => ?_)
  exact hR _ _ _ _ dX_makeRequest_159 ⟨v, u1, hln, hE, hr.1, hr.2⟩
