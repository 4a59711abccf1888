theorem dG_copyFrom_0 : decode cG_copyFrom 0 = .ok (.aload_n 1, 1) := by decide +kernel
theorem dG_copyFrom_1 : decode cG_copyFrom 1 = .ok (.getfield 9, 3) := by decide +kernel
theorem dG_copyFrom_4 : decode cG_copyFrom 4 = .ok (.iconst 0, 1) := by decide +kernel
theorem dG_copyFrom_5 : decode cG_copyFrom 5 = .ok (.aload_n 0, 1) := by decide +kernel
theorem dG_copyFrom_6 : decode cG_copyFrom 6 = .ok (.getfield 9, 3) := by decide +kernel
theorem dG_copyFrom_9 : decode cG_copyFrom 9 = .ok (.iconst 0, 1) := by decide +kernel
theorem dG_copyFrom_10 : decode cG_copyFrom 10 = .ok (.bipush 64, 2) := by decide +kernel
theorem dG_copyFrom_12 : decode cG_copyFrom 12 = .ok (.invokestatic 34, 3) := by decide +kernel
theorem dG_copyFrom_15 : decode cG_copyFrom 15 = .ok (.aload_n 1, 1) := by decide +kernel
theorem dG_copyFrom_16 : decode cG_copyFrom 16 = .ok (.getfield 15, 3) := by decide +kernel
theorem dG_copyFrom_19 : decode cG_copyFrom 19 = .ok (.iconst 0, 1) := by decide +kernel
theorem dG_copyFrom_20 : decode cG_copyFrom 20 = .ok (.aload_n 0, 1) := by decide +kernel
theorem dG_copyFrom_21 : decode cG_copyFrom 21 = .ok (.getfield 15, 3) := by decide +kernel
theorem dG_copyFrom_24 : decode cG_copyFrom 24 = .ok (.iconst 0, 1) := by decide +kernel
theorem dG_copyFrom_25 : decode cG_copyFrom 25 = .ok (.sipush 384, 3) := by decide +kernel
theorem dG_copyFrom_28 : decode cG_copyFrom 28 = .ok (.invokestatic 34, 3) := by decide +kernel
theorem dG_copyFrom_31 : decode cG_copyFrom 31 = .ok (.aload_n 1, 1) := by decide +kernel
theorem dG_copyFrom_32 : decode cG_copyFrom 32 = .ok (.getfield 18, 3) := by decide +kernel
theorem dG_copyFrom_35 : decode cG_copyFrom 35 = .ok (.iconst 0, 1) := by decide +kernel
theorem dG_copyFrom_36 : decode cG_copyFrom 36 = .ok (.aload_n 0, 1) := by decide +kernel
theorem dG_copyFrom_37 : decode cG_copyFrom 37 = .ok (.getfield 18, 3) := by decide +kernel
theorem dG_copyFrom_40 : decode cG_copyFrom 40 = .ok (.iconst 0, 1) := by decide +kernel
theorem dG_copyFrom_41 : decode cG_copyFrom 41 = .ok (.sipush 384, 3) := by decide +kernel
theorem dG_copyFrom_44 : decode cG_copyFrom 44 = .ok (.invokestatic 34, 3) := by decide +kernel
theorem dG_copyFrom_47 : decode cG_copyFrom 47 = .ok (.return_, 1) := by decide +kernel
theorem dN_copyFrom_0 : decode cN_copyFrom 0 = .ok (.aload_n 1, 1) := by decide +kernel
theorem dN_copyFrom_1 : decode cN_copyFrom 1 = .ok (.getfield 9, 3) := by decide +kernel
theorem dN_copyFrom_4 : decode cN_copyFrom 4 = .ok (.iconst 0, 1) := by decide +kernel
theorem dN_copyFrom_5 : decode cN_copyFrom 5 = .ok (.aload_n 0, 1) := by decide +kernel
theorem dN_copyFrom_6 : decode cN_copyFrom 6 = .ok (.getfield 9, 3) := by decide +kernel
theorem dN_copyFrom_9 : decode cN_copyFrom 9 = .ok (.iconst 0, 1) := by decide +kernel
theorem dN_copyFrom_10 : decode cN_copyFrom 10 = .ok (.bipush 96, 2) := by decide +kernel
theorem dN_copyFrom_12 : decode cN_copyFrom 12 = .ok (.invokestatic 48, 3) := by decide +kernel
theorem dN_copyFrom_15 : decode cN_copyFrom 15 = .ok (.aload_n 0, 1) := by decide +kernel
theorem dN_copyFrom_16 : decode cN_copyFrom 16 = .ok (.aload_n 1, 1) := by decide +kernel
theorem dN_copyFrom_17 : decode cN_copyFrom 17 = .ok (.getfield 27, 3) := by decide +kernel
theorem dN_copyFrom_20 : decode cN_copyFrom 20 = .ok (.putfield 27, 3) := by decide +kernel
theorem dN_copyFrom_23 : decode cN_copyFrom 23 = .ok (.aload_n 0, 1) := by decide +kernel
theorem dN_copyFrom_24 : decode cN_copyFrom 24 = .ok (.aload_n 1, 1) := by decide +kernel
theorem dN_copyFrom_25 : decode cN_copyFrom 25 = .ok (.getfield 24, 3) := by decide +kernel
theorem dN_copyFrom_28 : decode cN_copyFrom 28 = .ok (.putfield 24, 3) := by decide +kernel
theorem dN_copyFrom_31 : decode cN_copyFrom 31 = .ok (.aload_n 0, 1) := by decide +kernel
theorem dN_copyFrom_32 : decode cN_copyFrom 32 = .ok (.aload_n 1, 1) := by decide +kernel
theorem dN_copyFrom_33 : decode cN_copyFrom 33 = .ok (.getfield 29, 3) := by decide +kernel
theorem dN_copyFrom_36 : decode cN_copyFrom 36 = .ok (.putfield 29, 3) := by decide +kernel
theorem dN_copyFrom_39 : decode cN_copyFrom 39 = .ok (.aload_n 0, 1) := by decide +kernel
theorem dN_copyFrom_40 : decode cN_copyFrom 40 = .ok (.aload_n 1, 1) := by decide +kernel
theorem dN_copyFrom_41 : decode cN_copyFrom 41 = .ok (.getfield 32, 3) := by decide +kernel
theorem dN_copyFrom_44 : decode cN_copyFrom 44 = .ok (.putfield 32, 3) := by decide +kernel
theorem dN_copyFrom_47 : decode cN_copyFrom 47 = .ok (.aload_n 0, 1) := by decide +kernel
theorem dN_copyFrom_48 : decode cN_copyFrom 48 = .ok (.aload_n 1, 1) := by decide +kernel
theorem dN_copyFrom_49 : decode cN_copyFrom 49 = .ok (.getfield 35, 3) := by decide +kernel
theorem dN_copyFrom_52 : decode cN_copyFrom 52 = .ok (.putfield 35, 3) := by decide +kernel
theorem dN_copyFrom_55 : decode cN_copyFrom 55 = .ok (.aload_n 1, 1) := by decide +kernel
theorem dN_copyFrom_56 : decode cN_copyFrom 56 = .ok (.getfield 15, 3) := by decide +kernel
theorem dN_copyFrom_59 : decode cN_copyFrom 59 = .ok (.iconst 0, 1) := by decide +kernel
theorem dN_copyFrom_60 : decode cN_copyFrom 60 = .ok (.aload_n 0, 1) := by decide +kernel
theorem dN_copyFrom_61 : decode cN_copyFrom 61 = .ok (.getfield 15, 3) := by decide +kernel
theorem dN_copyFrom_64 : decode cN_copyFrom 64 = .ok (.iconst 0, 1) := by decide +kernel
theorem dN_copyFrom_65 : decode cN_copyFrom 65 = .ok (.bipush 6, 2) := by decide +kernel
theorem dN_copyFrom_67 : decode cN_copyFrom 67 = .ok (.invokestatic 48, 3) := by decide +kernel
theorem dN_copyFrom_70 : decode cN_copyFrom 70 = .ok (.aload_n 0, 1) := by decide +kernel
theorem dN_copyFrom_71 : decode cN_copyFrom 71 = .ok (.aload_n 1, 1) := by decide +kernel
theorem dN_copyFrom_72 : decode cN_copyFrom 72 = .ok (.getfield 38, 3) := by decide +kernel
theorem dN_copyFrom_75 : decode cN_copyFrom 75 = .ok (.putfield 38, 3) := by decide +kernel
theorem dN_copyFrom_78 : decode cN_copyFrom 78 = .ok (.aload_n 0, 1) := by decide +kernel
theorem dN_copyFrom_79 : decode cN_copyFrom 79 = .ok (.aload_n 1, 1) := by decide +kernel
theorem dN_copyFrom_80 : decode cN_copyFrom 80 = .ok (.getfield 41, 3) := by decide +kernel
theorem dN_copyFrom_83 : decode cN_copyFrom 83 = .ok (.putfield 41, 3) := by decide +kernel
theorem dN_copyFrom_86 : decode cN_copyFrom 86 = .ok (.aload_n 0, 1) := by decide +kernel
theorem dN_copyFrom_87 : decode cN_copyFrom 87 = .ok (.aload_n 1, 1) := by decide +kernel
theorem dN_copyFrom_88 : decode cN_copyFrom 88 = .ok (.getfield 44, 3) := by decide +kernel
theorem dN_copyFrom_91 : decode cN_copyFrom 91 = .ok (.putfield 44, 3) := by decide +kernel
theorem dN_copyFrom_94 : decode cN_copyFrom 94 = .ok (.return_, 1) := by decide +kernel
theorem dY_copyFrom_0 : decode cY_copyFrom 0 = .ok (.aload_n 0, 1) := by decide +kernel
theorem dY_copyFrom_1 : decode cY_copyFrom 1 = .ok (.getfield 28, 3) := by decide +kernel
theorem dY_copyFrom_4 : decode cY_copyFrom 4 = .ok (.aload_n 1, 1) := by decide +kernel
theorem dY_copyFrom_5 : decode cY_copyFrom 5 = .ok (.getfield 28, 3) := by decide +kernel
theorem dY_copyFrom_8 : decode cY_copyFrom 8 = .ok (.invokevirtual 34, 3) := by decide +kernel
theorem dY_copyFrom_11 : decode cY_copyFrom 11 = .ok (.iconst 0, 1) := by decide +kernel
theorem dY_copyFrom_12 : decode cY_copyFrom 12 = .ok (.istore_n 2, 1) := by decide +kernel
theorem dY_copyFrom_13 : decode cY_copyFrom 13 = .ok (.iload_n 2, 1) := by decide +kernel
theorem dY_copyFrom_14 : decode cY_copyFrom 14 = .ok (.aload_n 1, 1) := by decide +kernel
theorem dY_copyFrom_15 : decode cY_copyFrom 15 = .ok (.getfield 38, 3) := by decide +kernel
theorem dY_copyFrom_18 : decode cY_copyFrom 18 = .ok (.if_icmp .ge 24, 3) := by decide +kernel
theorem dY_copyFrom_21 : decode cY_copyFrom 21 = .ok (.aload_n 0, 1) := by decide +kernel
theorem dY_copyFrom_22 : decode cY_copyFrom 22 = .ok (.getfield 11, 3) := by decide +kernel
theorem dY_copyFrom_25 : decode cY_copyFrom 25 = .ok (.iload_n 2, 1) := by decide +kernel
theorem dY_copyFrom_26 : decode cY_copyFrom 26 = .ok (.aaload, 1) := by decide +kernel
theorem dY_copyFrom_27 : decode cY_copyFrom 27 = .ok (.aload_n 1, 1) := by decide +kernel
theorem dY_copyFrom_28 : decode cY_copyFrom 28 = .ok (.getfield 11, 3) := by decide +kernel
theorem dY_copyFrom_31 : decode cY_copyFrom 31 = .ok (.iload_n 2, 1) := by decide +kernel
theorem dY_copyFrom_32 : decode cY_copyFrom 32 = .ok (.aaload, 1) := by decide +kernel
theorem dY_copyFrom_33 : decode cY_copyFrom 33 = .ok (.invokevirtual 42, 3) := by decide +kernel
theorem dY_copyFrom_36 : decode cY_copyFrom 36 = .ok (.iinc 2 1, 3) := by decide +kernel
theorem dY_copyFrom_39 : decode cY_copyFrom 39 = .ok (.goto (-26), 3) := by decide +kernel
theorem dY_copyFrom_42 : decode cY_copyFrom 42 = .ok (.iconst 0, 1) := by decide +kernel
theorem dY_copyFrom_43 : decode cY_copyFrom 43 = .ok (.istore_n 2, 1) := by decide +kernel
theorem dY_copyFrom_44 : decode cY_copyFrom 44 = .ok (.iload_n 2, 1) := by decide +kernel
theorem dY_copyFrom_45 : decode cY_copyFrom 45 = .ok (.aload_n 1, 1) := by decide +kernel
theorem dY_copyFrom_46 : decode cY_copyFrom 46 = .ok (.getfield 45, 3) := by decide +kernel
theorem dY_copyFrom_49 : decode cY_copyFrom 49 = .ok (.if_icmp .ge 24, 3) := by decide +kernel
theorem dY_copyFrom_52 : decode cY_copyFrom 52 = .ok (.aload_n 0, 1) := by decide +kernel
theorem dY_copyFrom_53 : decode cY_copyFrom 53 = .ok (.getfield 19, 3) := by decide +kernel
theorem dY_copyFrom_56 : decode cY_copyFrom 56 = .ok (.iload_n 2, 1) := by decide +kernel
theorem dY_copyFrom_57 : decode cY_copyFrom 57 = .ok (.aaload, 1) := by decide +kernel
theorem dY_copyFrom_58 : decode cY_copyFrom 58 = .ok (.aload_n 1, 1) := by decide +kernel
theorem dY_copyFrom_59 : decode cY_copyFrom 59 = .ok (.getfield 19, 3) := by decide +kernel
theorem dY_copyFrom_62 : decode cY_copyFrom 62 = .ok (.iload_n 2, 1) := by decide +kernel
theorem dY_copyFrom_63 : decode cY_copyFrom 63 = .ok (.aaload, 1) := by decide +kernel
theorem dY_copyFrom_64 : decode cY_copyFrom 64 = .ok (.invokevirtual 48, 3) := by decide +kernel
theorem dY_copyFrom_67 : decode cY_copyFrom 67 = .ok (.iinc 2 1, 3) := by decide +kernel
theorem dY_copyFrom_70 : decode cY_copyFrom 70 = .ok (.goto (-26), 3) := by decide +kernel
theorem dY_copyFrom_73 : decode cY_copyFrom 73 = .ok (.aload_n 0, 1) := by decide +kernel
theorem dY_copyFrom_74 : decode cY_copyFrom 74 = .ok (.aload_n 1, 1) := by decide +kernel
theorem dY_copyFrom_75 : decode cY_copyFrom 75 = .ok (.getfield 38, 3) := by decide +kernel
theorem dY_copyFrom_78 : decode cY_copyFrom 78 = .ok (.putfield 38, 3) := by decide +kernel
theorem dY_copyFrom_81 : decode cY_copyFrom 81 = .ok (.aload_n 0, 1) := by decide +kernel
theorem dY_copyFrom_82 : decode cY_copyFrom 82 = .ok (.aload_n 1, 1) := by decide +kernel
theorem dY_copyFrom_83 : decode cY_copyFrom 83 = .ok (.getfield 45, 3) := by decide +kernel
theorem dY_copyFrom_86 : decode cY_copyFrom 86 = .ok (.putfield 45, 3) := by decide +kernel
theorem dY_copyFrom_89 : decode cY_copyFrom 89 = .ok (.aload_n 0, 1) := by decide +kernel
theorem dY_copyFrom_90 : decode cY_copyFrom 90 = .ok (.aload_n 1, 1) := by decide +kernel
theorem dY_copyFrom_91 : decode cY_copyFrom 91 = .ok (.getfield 51, 3) := by decide +kernel
theorem dY_copyFrom_94 : decode cY_copyFrom 94 = .ok (.putfield 51, 3) := by decide +kernel
theorem dY_copyFrom_97 : decode cY_copyFrom 97 = .ok (.aload_n 0, 1) := by decide +kernel
theorem dY_copyFrom_98 : decode cY_copyFrom 98 = .ok (.aload_n 1, 1) := by decide +kernel
theorem dY_copyFrom_99 : decode cY_copyFrom 99 = .ok (.getfield 54, 3) := by decide +kernel
theorem dY_copyFrom_102 : decode cY_copyFrom 102 = .ok (.putfield 54, 3) := by decide +kernel
theorem dY_copyFrom_105 : decode cY_copyFrom 105 = .ok (.aload_n 0, 1) := by decide +kernel
theorem dY_copyFrom_106 : decode cY_copyFrom 106 = .ok (.aload_n 1, 1) := by decide +kernel
theorem dY_copyFrom_107 : decode cY_copyFrom 107 = .ok (.getfield 57, 3) := by decide +kernel
theorem dY_copyFrom_110 : decode cY_copyFrom 110 = .ok (.putfield 57, 3) := by decide +kernel
theorem dY_copyFrom_113 : decode cY_copyFrom 113 = .ok (.return_, 1) := by decide +kernel
theorem dX_save_0 : decode cX_save 0 = .ok (.aload_n 0, 1) := by decide +kernel
theorem dX_save_1 : decode cX_save 1 = .ok (.getfield 45, 3) := by decide +kernel
theorem dX_save_4 : decode cX_save 4 = .ok (.aload_n 0, 1) := by decide +kernel
theorem dX_save_5 : decode cX_save 5 = .ok (.getfield 41, 3) := by decide +kernel
theorem dX_save_8 : decode cX_save 8 = .ok (.invokevirtual 223, 3) := by decide +kernel
theorem dX_save_11 : decode cX_save 11 = .ok (.return_, 1) := by decide +kernel
theorem dX_restore_0 : decode cX_restore 0 = .ok (.aload_n 0, 1) := by decide +kernel
theorem dX_restore_1 : decode cX_restore 1 = .ok (.getfield 41, 3) := by decide +kernel
theorem dX_restore_4 : decode cX_restore 4 = .ok (.aload_n 0, 1) := by decide +kernel
theorem dX_restore_5 : decode cX_restore 5 = .ok (.getfield 45, 3) := by decide +kernel
theorem dX_restore_8 : decode cX_restore 8 = .ok (.invokevirtual 223, 3) := by decide +kernel
theorem dX_restore_11 : decode cX_restore 11 = .ok (.aload_n 0, 1) := by decide +kernel
theorem dX_restore_12 : decode cX_restore 12 = .ok (.getfield 12, 3) := by decide +kernel
theorem dX_restore_15 : decode cX_restore 15 = .ok (.invokevirtual 83, 3) := by decide +kernel
theorem dX_restore_18 : decode cX_restore 18 = .ok (.return_, 1) := by decide +kernel
theorem lmG_34 : Cond.methodLink R_G 34 arraycopyName ∈ bigW := bw 610 (by decide +kernel) rfl
theorem lfY_51 : Cond.fieldLink R_Y 51 "RailYard$Yard" "madeCargo" "I" ∈ bigW := bw 224 (by decide +kernel) rfl
theorem lfY_54 : Cond.fieldLink R_Y 54 "RailYard$Yard" "broughtCargo" "I" ∈ bigW := bw 226 (by decide +kernel) rfl
theorem lfY_57 : Cond.fieldLink R_Y 57 "RailYard$Yard" "time" "I" ∈ bigW := bw 228 (by decide +kernel) rfl
theorem lfY_19 : Cond.fieldLink R_Y 19 "RailYard$Yard" "trains" "[LRailYard$Train;" ∈ bigW := bw 218 (by decide +kernel) rfl
theorem lmY_48 : Cond.methodLink R_Y 48 yN_copyFrom ∈ bigW := bw 615 (by decide +kernel) rfl
theorem lmY_42 : Cond.methodLink R_Y 42 yT_copyFrom ∈ bigW := bw 611 (by decide +kernel) rfl
theorem lfY_28 : Cond.fieldLink R_Y 28 "RailYard$Yard" "grid" "LRailYard$Grid;" ∈ bigW := bw 214 (by decide +kernel) rfl
theorem lmY_34 : Cond.methodLink R_Y 34 yG_copyFrom ∈ bigW := bw 606 (by decide +kernel) rfl
theorem lfX_45 : Cond.fieldLink R_X 45 "RailYard" "kept" "LRailYard$Yard;" ∈ bigW := bw 248 (by decide +kernel) rfl
theorem lmX_223 : Cond.methodLink R_X 223 yY_copyFrom ∈ bigW := bw 602 (by decide +kernel) rfl
theorem miN_copyFrom : MI yN_copyFrom cN_copyFrom 2 none 1 := ⟨bw 618 (by decide +kernel) rfl, bw 47 (by decide +kernel) rfl, ⟨by decide +kernel, by decide +kernel⟩, by decide +kernel, by decide⟩
theorem mvN_copyFrom : MV yN_copyFrom := ⟨bw 616 (by decide +kernel) rfl, bw 617 (by decide +kernel) rfl⟩
theorem miT_copyFrom : MI yT_copyFrom cT_copyFrom 2 none 1 := ⟨bw 614 (by decide +kernel) rfl, bw 46 (by decide +kernel) rfl, ⟨by decide +kernel, by decide +kernel⟩, by decide +kernel, by decide⟩
theorem mvT_copyFrom : MV yT_copyFrom := ⟨bw 612 (by decide +kernel) rfl, bw 613 (by decide +kernel) rfl⟩
theorem miG_copyFrom : MI yG_copyFrom cG_copyFrom 2 none 1 := ⟨bw 609 (by decide +kernel) rfl, bw 44 (by decide +kernel) rfl, ⟨by decide +kernel, by decide +kernel⟩, by decide +kernel, by decide⟩
theorem mvG_copyFrom : MV yG_copyFrom := ⟨bw 607 (by decide +kernel) rfl, bw 608 (by decide +kernel) rfl⟩
theorem miY_copyFrom : MI yY_copyFrom cY_copyFrom 3 none 1 := ⟨bw 605 (by decide +kernel) rfl, bw 43 (by decide +kernel) rfl, ⟨by decide +kernel, by decide +kernel⟩, by decide +kernel, by decide⟩
theorem mvY_copyFrom : MV yY_copyFrom := ⟨bw 603 (by decide +kernel) rfl, bw 604 (by decide +kernel) rfl⟩
theorem cpw_ne {w : RW} {ks kd j : Nat} {a b n i : Int} (h : ¬ (j = kd ∧ b ≤ i ∧ i < b + n)) : cpw w ks kd a b n j i = w j i := by unfold cpw; exact if_neg h
theorem cpw_in {w : RW} {ks kd j : Nat} {a b n i : Int} (h : j = kd) (h2 : b ≤ i ∧ i < b + n) : cpw w ks kd a b n j i = w ks (a + (i - b)) := by unfold cpw; exact if_pos ⟨h, h2⟩
def cgP (w u : RW) (B O : Nat) : Prop := (∀ j, j ≠ B + 2 → j ≠ B + 3 → j ≠ B + 4 → u j = w j) ∧ (∀ i, 0 ≤ i → i < 64 → u (B + 2) i = w (O + 2) i) ∧ ∀ i, 0 ≤ i → i < 384 → u (B + 3) i = w (O + 3) i ∧ u (B + 4) i = w (O + 4) i
def cnP (w u : RW) (k r o k2 r2 o2 : Nat) : Prop := (∀ j, j ≠ k → j ≠ r → j ≠ o → u j = w j) ∧ (u k 1 = w k2 1 ∧ u k 2 = w k2 2 ∧ u k 3 = w k2 3 ∧ u k 4 = w k2 4 ∧ u k 5 = w k2 5 ∧ u k 7 = w k2 7 ∧ u k 8 = w k2 8 ∧ u k 9 = w k2 9) ∧ (∀ i, 0 ≤ i → i < 96 → u r i = w r2 i) ∧ ∀ i, 0 ≤ i → i < 6 → u o i = w o2 i
theorem ctG_copyFrom_s {G : vG} {l : Launch} {w : RW}  : CTv G l yG_copyFrom cG_copyFrom 2 1 [.inr 33, .inr 2] w (fun u => cgP w u 32 1) := by
  refine CTv.intro (by decide) (Nat.le_of_ble_eq_true rfl) ?_
  intro X Q F hX hR
  subst hX
  show V G X 2 Q 0 [some (.inr 33), some (.inr 2)] [] w
  refine V_aload_n (i := 1) F dG_copyFrom_0 rfl rfl ?_
  refine V_getr (ci := 0) (C := R_G) (T := T_G) (N := 5) F dG_copyFrom_1 (by first | rfl | assumption) rfl (j := 2) (by decide) rfl lfG_9 ?_
  refine V_iconst F dG_copyFrom_4 (by decide) ?_
  refine V_aload_n (i := 0) F dG_copyFrom_5 rfl rfl ?_
  refine V_getr (ci := 0) (C := R_G) (T := T_G) (N := 5) F dG_copyFrom_6 (by first | rfl | assumption) rfl (j := 2) (by decide) rfl lfG_9 ?_
  refine V_iconst F dG_copyFrom_9 (by decide) ?_
  refine V_bipush F dG_copyFrom_10 (by decide) ?_
  refine V_acopy F dG_copyFrom_12 (by decide) (Nat.le_of_ble_eq_true rfl) (by first | rfl | assumption) (by first | rfl | assumption) rfl (by omega) lmG_34 lw_ac1 lw_ac2 lw_ac3 ?_
  refine V_aload_n (i := 1) F dG_copyFrom_15 rfl rfl ?_
  refine V_getr (ci := 0) (C := R_G) (T := T_G) (N := 5) F dG_copyFrom_16 (by first | rfl | assumption) rfl (j := 3) (by decide) rfl lfG_15 ?_
  refine V_iconst F dG_copyFrom_19 (by decide) ?_
  refine V_aload_n (i := 0) F dG_copyFrom_20 rfl rfl ?_
  refine V_getr (ci := 0) (C := R_G) (T := T_G) (N := 5) F dG_copyFrom_21 (by first | rfl | assumption) rfl (j := 3) (by decide) rfl lfG_15 ?_
  refine V_iconst F dG_copyFrom_24 (by decide) ?_
  refine V_sipush F dG_copyFrom_25 (by decide) ?_
  refine V_acopy F dG_copyFrom_28 (by decide) (Nat.le_of_ble_eq_true rfl) (by first | rfl | assumption) (by first | rfl | assumption) rfl (by omega) lmG_34 lw_ac1 lw_ac2 lw_ac3 ?_
  refine V_aload_n (i := 1) F dG_copyFrom_31 rfl rfl ?_
  refine V_getr (ci := 0) (C := R_G) (T := T_G) (N := 5) F dG_copyFrom_32 (by first | rfl | assumption) rfl (j := 4) (by decide) rfl lfG_18 ?_
  refine V_iconst F dG_copyFrom_35 (by decide) ?_
  refine V_aload_n (i := 0) F dG_copyFrom_36 rfl rfl ?_
  refine V_getr (ci := 0) (C := R_G) (T := T_G) (N := 5) F dG_copyFrom_37 (by first | rfl | assumption) rfl (j := 4) (by decide) rfl lfG_18 ?_
  refine V_iconst F dG_copyFrom_40 (by decide) ?_
  refine V_sipush F dG_copyFrom_41 (by decide) ?_
  refine V_acopy F dG_copyFrom_44 (by decide) (Nat.le_of_ble_eq_true rfl) (by first | rfl | assumption) (by first | rfl | assumption) rfl (by omega) lmG_34 lw_ac1 lw_ac2 lw_ac3 ?_
  exact hR _ _ _ dG_copyFrom_47 (by
                refine ⟨fun j j1 j2 j3 => ?_, fun i i1 i2 => ?_, fun i i1 i2 => ⟨?_, ?_⟩⟩
                · rw [cpw_f j3, cpw_f j2, cpw_f j1]
                · (repeat (first | rw [upw_ne (by omega)] | rw [upw_eq (by omega) (by omega)] | rw [cpw_ne (by omega)] | rw [cpw_in (by omega) (by omega)])); congr 1; omega
                · (repeat (first | rw [upw_ne (by omega)] | rw [upw_eq (by omega) (by omega)] | rw [cpw_ne (by omega)] | rw [cpw_in (by omega) (by omega)])); congr 1; omega
                · (repeat (first | rw [upw_ne (by omega)] | rw [upw_eq (by omega) (by omega)] | rw [cpw_ne (by omega)] | rw [cpw_in (by omega) (by omega)])); congr 1; omega)
theorem ctG_copyFrom_r {G : vG} {l : Launch} {w : RW}  : CTv G l yG_copyFrom cG_copyFrom 2 1 [.inr 2, .inr 33] w (fun u => cgP w u 1 32) := by
  refine CTv.intro (by decide) (Nat.le_of_ble_eq_true rfl) ?_
  intro X Q F hX hR
  subst hX
  show V G X 2 Q 0 [some (.inr 2), some (.inr 33)] [] w
  refine V_aload_n (i := 1) F dG_copyFrom_0 rfl rfl ?_
  refine V_getr (ci := 0) (C := R_G) (T := T_G) (N := 5) F dG_copyFrom_1 (by first | rfl | assumption) rfl (j := 2) (by decide) rfl lfG_9 ?_
  refine V_iconst F dG_copyFrom_4 (by decide) ?_
  refine V_aload_n (i := 0) F dG_copyFrom_5 rfl rfl ?_
  refine V_getr (ci := 0) (C := R_G) (T := T_G) (N := 5) F dG_copyFrom_6 (by first | rfl | assumption) rfl (j := 2) (by decide) rfl lfG_9 ?_
  refine V_iconst F dG_copyFrom_9 (by decide) ?_
  refine V_bipush F dG_copyFrom_10 (by decide) ?_
  refine V_acopy F dG_copyFrom_12 (by decide) (Nat.le_of_ble_eq_true rfl) (by first | rfl | assumption) (by first | rfl | assumption) rfl (by omega) lmG_34 lw_ac1 lw_ac2 lw_ac3 ?_
  refine V_aload_n (i := 1) F dG_copyFrom_15 rfl rfl ?_
  refine V_getr (ci := 0) (C := R_G) (T := T_G) (N := 5) F dG_copyFrom_16 (by first | rfl | assumption) rfl (j := 3) (by decide) rfl lfG_15 ?_
  refine V_iconst F dG_copyFrom_19 (by decide) ?_
  refine V_aload_n (i := 0) F dG_copyFrom_20 rfl rfl ?_
  refine V_getr (ci := 0) (C := R_G) (T := T_G) (N := 5) F dG_copyFrom_21 (by first | rfl | assumption) rfl (j := 3) (by decide) rfl lfG_15 ?_
  refine V_iconst F dG_copyFrom_24 (by decide) ?_
  refine V_sipush F dG_copyFrom_25 (by decide) ?_
  refine V_acopy F dG_copyFrom_28 (by decide) (Nat.le_of_ble_eq_true rfl) (by first | rfl | assumption) (by first | rfl | assumption) rfl (by omega) lmG_34 lw_ac1 lw_ac2 lw_ac3 ?_
  refine V_aload_n (i := 1) F dG_copyFrom_31 rfl rfl ?_
  refine V_getr (ci := 0) (C := R_G) (T := T_G) (N := 5) F dG_copyFrom_32 (by first | rfl | assumption) rfl (j := 4) (by decide) rfl lfG_18 ?_
  refine V_iconst F dG_copyFrom_35 (by decide) ?_
  refine V_aload_n (i := 0) F dG_copyFrom_36 rfl rfl ?_
  refine V_getr (ci := 0) (C := R_G) (T := T_G) (N := 5) F dG_copyFrom_37 (by first | rfl | assumption) rfl (j := 4) (by decide) rfl lfG_18 ?_
  refine V_iconst F dG_copyFrom_40 (by decide) ?_
  refine V_sipush F dG_copyFrom_41 (by decide) ?_
  refine V_acopy F dG_copyFrom_44 (by decide) (Nat.le_of_ble_eq_true rfl) (by first | rfl | assumption) (by first | rfl | assumption) rfl (by omega) lmG_34 lw_ac1 lw_ac2 lw_ac3 ?_
  exact hR _ _ _ dG_copyFrom_47 (by
                refine ⟨fun j j1 j2 j3 => ?_, fun i i1 i2 => ?_, fun i i1 i2 => ⟨?_, ?_⟩⟩
                · rw [cpw_f j3, cpw_f j2, cpw_f j1]
                · (repeat (first | rw [upw_ne (by omega)] | rw [upw_eq (by omega) (by omega)] | rw [cpw_ne (by omega)] | rw [cpw_in (by omega) (by omega)])); congr 1; omega
                · (repeat (first | rw [upw_ne (by omega)] | rw [upw_eq (by omega) (by omega)] | rw [cpw_ne (by omega)] | rw [cpw_in (by omega) (by omega)])); congr 1; omega
                · (repeat (first | rw [upw_ne (by omega)] | rw [upw_eq (by omega) (by omega)] | rw [cpw_ne (by omega)] | rw [cpw_in (by omega) (by omega)])); congr 1; omega)
theorem ctN_copyFrom {G : vG} {l : Launch} {w : RW} {k r o k2 r2 o2 : Nat} (hk : shp[k]? = some (.inr (.inl (3, [some r, none, none, none, none, none, some o, none, none, none])))) (hr : shp[r]? = some (.inl (0, 96))) (ho : shp[o]? = some (.inl (0, 6))) (hk2 : shp[k2]? = some (.inr (.inl (3, [some r2, none, none, none, none, none, some o2, none, none, none])))) (hr2 : shp[r2]? = some (.inl (0, 96))) (ho2 : shp[o2]? = some (.inl (0, 6))) (hne : (k ≠ r ∧ k ≠ o ∧ r ≠ o) ∧ (k2 ≠ k ∧ k2 ≠ r ∧ k2 ≠ o) ∧ (r2 ≠ k ∧ r2 ≠ r ∧ r2 ≠ o) ∧ (o2 ≠ k ∧ o2 ≠ r ∧ o2 ≠ o)) (h9 : w k2 9 = 0 ∨ w k2 9 = 1) : CTv G l yN_copyFrom cN_copyFrom 2 1 [.inr k, .inr k2] w (fun u => cnP w u k r o k2 r2 o2) := by
  refine CTv.intro (by decide) (Nat.le_of_ble_eq_true rfl) ?_
  intro X Q F hX hR
  subst hX
  show V G X 2 Q 0 [some (.inr k), some (.inr k2)] [] w
  refine V_aload_n (i := 1) F dN_copyFrom_0 rfl rfl ?_
  refine V_getr (ci := 3) (C := R_N) (T := T_N) (N := 10) F dN_copyFrom_1 (by first | rfl | assumption) rfl (j := 0) (by decide) rfl lfN_9 ?_
  refine V_iconst F dN_copyFrom_4 (by decide) ?_
  refine V_aload_n (i := 0) F dN_copyFrom_5 rfl rfl ?_
  refine V_getr (ci := 3) (C := R_N) (T := T_N) (N := 10) F dN_copyFrom_6 (by first | rfl | assumption) rfl (j := 0) (by decide) rfl lfN_9 ?_
  refine V_iconst F dN_copyFrom_9 (by decide) ?_
  refine V_bipush F dN_copyFrom_10 (by decide) ?_
  refine V_acopy F dN_copyFrom_12 (by decide) (Nat.le_of_ble_eq_true rfl) (by first | rfl | assumption) (by first | rfl | assumption) rfl (by omega) lmN_48 lw_ac1 lw_ac2 lw_ac3 ?_
  refine V_aload_n (i := 0) F dN_copyFrom_15 rfl rfl ?_
  refine V_aload_n (i := 1) F dN_copyFrom_16 rfl rfl ?_
  refine V_geti (ci := 3) (C := R_N) (T := T_N) (N := 10) F dN_copyFrom_17 (by first | rfl | assumption) rfl (j := 1) 1 rfl (by decide) rfl lfN_27 ?_
  (repeat (first | rw [upw_ne (by omega)] | rw [upw_eq (by omega) (by omega)] | rw [cpw_ne (by omega)] | rw [cpw_in (by omega) (by omega)]))
  refine V_puti (ci := 3) (C := R_N) (T := T_N) (N := 10) F dN_copyFrom_20 (by first | rfl | assumption) rfl (j := 1) 1 rfl (by decide) rfl rfl rfl lfN_27 ?_
  refine V_aload_n (i := 0) F dN_copyFrom_23 rfl rfl ?_
  refine V_aload_n (i := 1) F dN_copyFrom_24 rfl rfl ?_
  refine V_geti (ci := 3) (C := R_N) (T := T_N) (N := 10) F dN_copyFrom_25 (by first | rfl | assumption) rfl (j := 2) 2 rfl (by decide) rfl lfN_24 ?_
  (repeat (first | rw [upw_ne (by omega)] | rw [upw_eq (by omega) (by omega)] | rw [cpw_ne (by omega)] | rw [cpw_in (by omega) (by omega)]))
  refine V_puti (ci := 3) (C := R_N) (T := T_N) (N := 10) F dN_copyFrom_28 (by first | rfl | assumption) rfl (j := 2) 2 rfl (by decide) rfl rfl rfl lfN_24 ?_
  refine V_aload_n (i := 0) F dN_copyFrom_31 rfl rfl ?_
  refine V_aload_n (i := 1) F dN_copyFrom_32 rfl rfl ?_
  refine V_geti (ci := 3) (C := R_N) (T := T_N) (N := 10) F dN_copyFrom_33 (by first | rfl | assumption) rfl (j := 3) 3 rfl (by decide) rfl lfN_29 ?_
  (repeat (first | rw [upw_ne (by omega)] | rw [upw_eq (by omega) (by omega)] | rw [cpw_ne (by omega)] | rw [cpw_in (by omega) (by omega)]))
  refine V_puti (ci := 3) (C := R_N) (T := T_N) (N := 10) F dN_copyFrom_36 (by first | rfl | assumption) rfl (j := 3) 3 rfl (by decide) rfl rfl rfl lfN_29 ?_
  refine V_aload_n (i := 0) F dN_copyFrom_39 rfl rfl ?_
  refine V_aload_n (i := 1) F dN_copyFrom_40 rfl rfl ?_
  refine V_geti (ci := 3) (C := R_N) (T := T_N) (N := 10) F dN_copyFrom_41 (by first | rfl | assumption) rfl (j := 4) 4 rfl (by decide) rfl lfN_32 ?_
  (repeat (first | rw [upw_ne (by omega)] | rw [upw_eq (by omega) (by omega)] | rw [cpw_ne (by omega)] | rw [cpw_in (by omega) (by omega)]))
  refine V_puti (ci := 3) (C := R_N) (T := T_N) (N := 10) F dN_copyFrom_44 (by first | rfl | assumption) rfl (j := 4) 4 rfl (by decide) rfl rfl rfl lfN_32 ?_
  refine V_aload_n (i := 0) F dN_copyFrom_47 rfl rfl ?_
  refine V_aload_n (i := 1) F dN_copyFrom_48 rfl rfl ?_
  refine V_geti (ci := 3) (C := R_N) (T := T_N) (N := 10) F dN_copyFrom_49 (by first | rfl | assumption) rfl (j := 5) 5 rfl (by decide) rfl lfN_35 ?_
  (repeat (first | rw [upw_ne (by omega)] | rw [upw_eq (by omega) (by omega)] | rw [cpw_ne (by omega)] | rw [cpw_in (by omega) (by omega)]))
  refine V_puti (ci := 3) (C := R_N) (T := T_N) (N := 10) F dN_copyFrom_52 (by first | rfl | assumption) rfl (j := 5) 5 rfl (by decide) rfl rfl rfl lfN_35 ?_
  refine V_aload_n (i := 1) F dN_copyFrom_55 rfl rfl ?_
  refine V_getr (ci := 3) (C := R_N) (T := T_N) (N := 10) F dN_copyFrom_56 (by first | rfl | assumption) rfl (j := 6) (by decide) rfl lfN_15 ?_
  refine V_iconst F dN_copyFrom_59 (by decide) ?_
  refine V_aload_n (i := 0) F dN_copyFrom_60 rfl rfl ?_
  refine V_getr (ci := 3) (C := R_N) (T := T_N) (N := 10) F dN_copyFrom_61 (by first | rfl | assumption) rfl (j := 6) (by decide) rfl lfN_15 ?_
  refine V_iconst F dN_copyFrom_64 (by decide) ?_
  refine V_bipush F dN_copyFrom_65 (by decide) ?_
  refine V_acopy F dN_copyFrom_67 (by decide) (Nat.le_of_ble_eq_true rfl) (by first | rfl | assumption) (by first | rfl | assumption) rfl (by omega) lmN_48 lw_ac1 lw_ac2 lw_ac3 ?_
  refine V_aload_n (i := 0) F dN_copyFrom_70 rfl rfl ?_
  refine V_aload_n (i := 1) F dN_copyFrom_71 rfl rfl ?_
  refine V_geti (ci := 3) (C := R_N) (T := T_N) (N := 10) F dN_copyFrom_72 (by first | rfl | assumption) rfl (j := 7) 7 rfl (by decide) rfl lfN_38 ?_
  (repeat (first | rw [upw_ne (by omega)] | rw [upw_eq (by omega) (by omega)] | rw [cpw_ne (by omega)] | rw [cpw_in (by omega) (by omega)]))
  refine V_puti (ci := 3) (C := R_N) (T := T_N) (N := 10) F dN_copyFrom_75 (by first | rfl | assumption) rfl (j := 7) 7 rfl (by decide) rfl rfl rfl lfN_38 ?_
  refine V_aload_n (i := 0) F dN_copyFrom_78 rfl rfl ?_
  refine V_aload_n (i := 1) F dN_copyFrom_79 rfl rfl ?_
  refine V_geti (ci := 3) (C := R_N) (T := T_N) (N := 10) F dN_copyFrom_80 (by first | rfl | assumption) rfl (j := 8) 8 rfl (by decide) rfl lfN_41 ?_
  (repeat (first | rw [upw_ne (by omega)] | rw [upw_eq (by omega) (by omega)] | rw [cpw_ne (by omega)] | rw [cpw_in (by omega) (by omega)]))
  refine V_puti (ci := 3) (C := R_N) (T := T_N) (N := 10) F dN_copyFrom_83 (by first | rfl | assumption) rfl (j := 8) 8 rfl (by decide) rfl rfl rfl lfN_41 ?_
  refine V_aload_n (i := 0) F dN_copyFrom_86 rfl rfl ?_
  refine V_aload_n (i := 1) F dN_copyFrom_87 rfl rfl ?_
  refine V_geti (ci := 3) (C := R_N) (T := T_N) (N := 10) F dN_copyFrom_88 (by first | rfl | assumption) rfl (j := 9) 9 rfl (by decide) rfl lfN_44 ?_
  have h9b : upw (upw (cpw (upw (upw (upw (upw (upw (cpw w r2 r 0 0 96) k 1 (w k2 1)) k 2 (w k2 2)) k 3 (w k2 3)) k 4 (w k2 4)) k 5 (w k2 5)) o2 o 0 0 6) k 7 (w k2 7)) k 8 (w k2 8) k2 9 = 0 ∨ upw (upw (cpw (upw (upw (upw (upw (upw (cpw w r2 r 0 0 96) k 1 (w k2 1)) k 2 (w k2 2)) k 3 (w k2 3)) k 4 (w k2 4)) k 5 (w k2 5)) o2 o 0 0 6) k 7 (w k2 7)) k 8 (w k2 8) k2 9 = 1 := by (repeat (first | rw [upw_ne (by omega)] | rw [upw_eq (by omega) (by omega)] | rw [cpw_ne (by omega)] | rw [cpw_in (by omega) (by omega)])); exact h9
  refine V_putz (ci := 3) (C := R_N) (T := T_N) (N := 10) F dN_copyFrom_91 (by first | rfl | assumption) rfl (j := 9) 9 rfl (by decide) rfl rfl rfl (by first | exact Or.inl rfl | exact Or.inr rfl | exact bz_01 _ | assumption) lfN_44 ?_
  exact hR _ _ _ dN_copyFrom_94 (by
                refine ⟨fun j j1 j2 j3 => ?_, ⟨?_, ?_, ?_, ?_, ?_, ?_, ?_, ?_⟩, fun i i1 i2 => ?_, fun i i1 i2 => ?_⟩
                · rw [upw_f j1, upw_f j1, upw_f j1, cpw_f j3, upw_f j1, upw_f j1, upw_f j1, upw_f j1, upw_f j1, cpw_f j2]
                · (repeat (first | rw [upw_ne (by omega)] | rw [upw_eq (by omega) (by omega)] | rw [cpw_ne (by omega)] | rw [cpw_in (by omega) (by omega)]))
                · (repeat (first | rw [upw_ne (by omega)] | rw [upw_eq (by omega) (by omega)] | rw [cpw_ne (by omega)] | rw [cpw_in (by omega) (by omega)]))
                · (repeat (first | rw [upw_ne (by omega)] | rw [upw_eq (by omega) (by omega)] | rw [cpw_ne (by omega)] | rw [cpw_in (by omega) (by omega)]))
                · (repeat (first | rw [upw_ne (by omega)] | rw [upw_eq (by omega) (by omega)] | rw [cpw_ne (by omega)] | rw [cpw_in (by omega) (by omega)]))
                · (repeat (first | rw [upw_ne (by omega)] | rw [upw_eq (by omega) (by omega)] | rw [cpw_ne (by omega)] | rw [cpw_in (by omega) (by omega)]))
                · (repeat (first | rw [upw_ne (by omega)] | rw [upw_eq (by omega) (by omega)] | rw [cpw_ne (by omega)] | rw [cpw_in (by omega) (by omega)]))
                · (repeat (first | rw [upw_ne (by omega)] | rw [upw_eq (by omega) (by omega)] | rw [cpw_ne (by omega)] | rw [cpw_in (by omega) (by omega)]))
                · (repeat (first | rw [upw_ne (by omega)] | rw [upw_eq (by omega) (by omega)] | rw [cpw_ne (by omega)] | rw [cpw_in (by omega) (by omega)]))
                · (repeat (first | rw [upw_ne (by omega)] | rw [upw_eq (by omega) (by omega)] | rw [cpw_ne (by omega)] | rw [cpw_in (by omega) (by omega)])); congr 1; omega
                · (repeat (first | rw [upw_ne (by omega)] | rw [upw_eq (by omega) (by omega)] | rw [cpw_ne (by omega)] | rw [cpw_in (by omega) (by omega)])); congr 1; omega)
def cyS (w u : RW) (B O : Nat) (n : Int) : Prop := ∀ s, 0 ≤ s → s < n → u (B + 6 + s.toNat) 0 = w (O + 6 + s.toNat) 0 ∧ u (B + 6 + s.toNat) 1 = w (O + 6 + s.toNat) 1 ∧ u (B + 6 + s.toNat) 2 = w (O + 6 + s.toNat) 2
def cyT (w u : RW) (B O : Nat) (n : Int) : Prop := ∀ t, 0 ≤ t → t < n → (u (B + 13 + t.toNat) 1 = w (O + 13 + t.toNat) 1 ∧ u (B + 13 + t.toNat) 2 = w (O + 13 + t.toNat) 2 ∧ u (B + 13 + t.toNat) 3 = w (O + 13 + t.toNat) 3 ∧ u (B + 13 + t.toNat) 4 = w (O + 13 + t.toNat) 4 ∧ u (B + 13 + t.toNat) 5 = w (O + 13 + t.toNat) 5 ∧ u (B + 13 + t.toNat) 7 = w (O + 13 + t.toNat) 7 ∧ u (B + 13 + t.toNat) 8 = w (O + 13 + t.toNat) 8 ∧ u (B + 13 + t.toNat) 9 = w (O + 13 + t.toNat) 9) ∧ (∀ i, 0 ≤ i → i < 96 → u (B + 19 + t.toNat) i = w (O + 19 + t.toNat) i) ∧ ∀ i, 0 ≤ i → i < 6 → u (B + 25 + t.toNat) i = w (O + 25 + t.toNat) i
def cyG (w u : RW) (B O : Nat) : Prop := (∀ j, j ≤ B → u j = w j) ∧ (∀ j, B + 31 ≤ j → u j = w j) ∧ u (B + 1) = w (B + 1) ∧ (∀ i, 0 ≤ i → i < 64 → u (B + 2) i = w (O + 2) i) ∧ ∀ i, 0 ≤ i → i < 384 → u (B + 3) i = w (O + 3) i ∧ u (B + 4) i = w (O + 4) i
/-- one yard's numbers are the other's -/
def cyP (w u : RW) (B O : Nat) : Prop := (∀ j, j < B → u j = w j) ∧ (∀ j, B + 31 ≤ j → u j = w j) ∧ u (B + 1) = w (B + 1) ∧ (∀ i, 0 ≤ i → i < 64 → u (B + 2) i = w (O + 2) i) ∧ (∀ i, 0 ≤ i → i < 384 → u (B + 3) i = w (O + 3) i ∧ u (B + 4) i = w (O + 4) i) ∧ cyS w u B O (w O 3) ∧ cyT w u B O (w O 4) ∧ u B 3 = w O 3 ∧ u B 4 = w O 4 ∧ u B 5 = w O 5 ∧ u B 6 = w O 6 ∧ u B 7 = w O 7
theorem lpY_cpT_s {G : vG} {X : vX} {Q : State → Prop} {w : RW} (hn : (0 ≤ w 1 3 ∧ w 1 3 ≤ 6) ∧ 0 ≤ w 1 4 ∧ w 1 4 ≤ 6) (h9 : ∀ t, 0 ≤ t → t < w 1 4 → w (14 + t.toNat) 9 = 0 ∨ w (14 + t.toNat) 9 = 1) (F : FX G X cY_copyFrom yY_copyFrom.cls 3 2) (hR : RetV G X cY_copyFrom 3 Q (fun u => cyP w u 32 1)) : ∀ (m : Nat) (i : Int) (u : RW), w 1 4 - i < m → (0 ≤ i) → (i ≤ w 1 4) → (cyG w u 32 1 ∧ cyS w u 32 1 (w 1 3) ∧ cyT w u 32 1 i) → V G X 3 Q 44 [some (.inr 32), some (.inr 1), some (.inl i)] [] u := by
  intro m
  induction m with
  | zero => intro i u hm0 h1 h2 hI; omega
  | succ m ih =>
    intro i u hm0 h1 h2 hI
    have eO : u 1 = w 1 := hI.1.1 1 (by decide)
    refine V_iload_n (i := 2) F dY_copyFrom_44 rfl rfl ?_
    refine V_aload_n (i := 1) F dY_copyFrom_45 rfl rfl ?_
    refine V_geti (ci := 5) (C := R_Y) (T := T_Y) (N := 8) F dY_copyFrom_46 (by first | rfl | assumption) rfl (j := 4) 4 rfl (by decide) rfl lfY_45 ?_
    rw [eO]
    refine V_icmp_ge F 73 dY_copyFrom_49 (by decide) (fun h49 => ?_) (fun h49 => ?_)
    · refine V_aload_n (i := 0) F dY_copyFrom_73 rfl rfl ?_
      refine V_aload_n (i := 1) F dY_copyFrom_74 rfl rfl ?_
      refine V_geti (ci := 5) (C := R_Y) (T := T_Y) (N := 8) F dY_copyFrom_75 (by first | rfl | assumption) rfl (j := 3) 3 rfl (by decide) rfl lfY_38 ?_
      (repeat (first | rw [upw_ne (by omega)] | rw [upw_eq (by omega) (by omega)] | rw [cpw_ne (by omega)] | rw [cpw_in (by omega) (by omega)]))
      rw [eO]
      refine V_puti (ci := 5) (C := R_Y) (T := T_Y) (N := 8) F dY_copyFrom_78 (by first | rfl | assumption) rfl (j := 3) 3 rfl (by decide) rfl rfl rfl lfY_38 ?_
      refine V_aload_n (i := 0) F dY_copyFrom_81 rfl rfl ?_
      refine V_aload_n (i := 1) F dY_copyFrom_82 rfl rfl ?_
      refine V_geti (ci := 5) (C := R_Y) (T := T_Y) (N := 8) F dY_copyFrom_83 (by first | rfl | assumption) rfl (j := 4) 4 rfl (by decide) rfl lfY_45 ?_
      (repeat (first | rw [upw_ne (by omega)] | rw [upw_eq (by omega) (by omega)] | rw [cpw_ne (by omega)] | rw [cpw_in (by omega) (by omega)]))
      rw [eO]
      refine V_puti (ci := 5) (C := R_Y) (T := T_Y) (N := 8) F dY_copyFrom_86 (by first | rfl | assumption) rfl (j := 4) 4 rfl (by decide) rfl rfl rfl lfY_45 ?_
      refine V_aload_n (i := 0) F dY_copyFrom_89 rfl rfl ?_
      refine V_aload_n (i := 1) F dY_copyFrom_90 rfl rfl ?_
      refine V_geti (ci := 5) (C := R_Y) (T := T_Y) (N := 8) F dY_copyFrom_91 (by first | rfl | assumption) rfl (j := 5) 5 rfl (by decide) rfl lfY_51 ?_
      (repeat (first | rw [upw_ne (by omega)] | rw [upw_eq (by omega) (by omega)] | rw [cpw_ne (by omega)] | rw [cpw_in (by omega) (by omega)]))
      rw [eO]
      refine V_puti (ci := 5) (C := R_Y) (T := T_Y) (N := 8) F dY_copyFrom_94 (by first | rfl | assumption) rfl (j := 5) 5 rfl (by decide) rfl rfl rfl lfY_51 ?_
      refine V_aload_n (i := 0) F dY_copyFrom_97 rfl rfl ?_
      refine V_aload_n (i := 1) F dY_copyFrom_98 rfl rfl ?_
      refine V_geti (ci := 5) (C := R_Y) (T := T_Y) (N := 8) F dY_copyFrom_99 (by first | rfl | assumption) rfl (j := 6) 6 rfl (by decide) rfl lfY_54 ?_
      (repeat (first | rw [upw_ne (by omega)] | rw [upw_eq (by omega) (by omega)] | rw [cpw_ne (by omega)] | rw [cpw_in (by omega) (by omega)]))
      rw [eO]
      refine V_puti (ci := 5) (C := R_Y) (T := T_Y) (N := 8) F dY_copyFrom_102 (by first | rfl | assumption) rfl (j := 6) 6 rfl (by decide) rfl rfl rfl lfY_54 ?_
      refine V_aload_n (i := 0) F dY_copyFrom_105 rfl rfl ?_
      refine V_aload_n (i := 1) F dY_copyFrom_106 rfl rfl ?_
      refine V_geti (ci := 5) (C := R_Y) (T := T_Y) (N := 8) F dY_copyFrom_107 (by first | rfl | assumption) rfl (j := 7) 7 rfl (by decide) rfl lfY_57 ?_
      (repeat (first | rw [upw_ne (by omega)] | rw [upw_eq (by omega) (by omega)] | rw [cpw_ne (by omega)] | rw [cpw_in (by omega) (by omega)]))
      rw [eO]
      refine V_puti (ci := 5) (C := R_Y) (T := T_Y) (N := 8) F dY_copyFrom_110 (by first | rfl | assumption) rfl (j := 7) 7 rfl (by decide) rfl rfl rfl lfY_57 ?_
      exact hR _ _ _ dY_copyFrom_113 (by
                    have hi : i = w 1 4 := by omega
                    rw [hi] at hI
                    refine ⟨fun j hj => ?_, fun j hj => ?_, ?_, fun k k1 k2 => ?_, fun k k1 k2 => ?_, fun s s1 s2 => ?_, fun t t1 t2 => ?_, ?_, ?_, ?_, ?_, ?_⟩
                    · repeat rw [upw_f (by omega)]
                      exact hI.1.1 j (by omega)
                    · repeat rw [upw_f (by omega)]
                      exact hI.1.2.1 j hj
                    · repeat rw [upw_f (by omega)]
                      exact hI.1.2.2.1
                    · repeat rw [upw_f (by omega)]
                      exact hI.1.2.2.2.1 k k1 k2
                    · repeat rw [upw_f (by omega)]
                      exact hI.1.2.2.2.2 k k1 k2
                    · repeat rw [upw_f (by omega)]
                      exact hI.2.1 s s1 s2
                    · repeat rw [upw_f (by omega)]
                      exact hI.2.2 t t1 t2
                    · (repeat (first | rw [upw_ne (by omega)] | rw [upw_eq (by omega) (by omega)] | rw [cpw_ne (by omega)] | rw [cpw_in (by omega) (by omega)]))
                    · (repeat (first | rw [upw_ne (by omega)] | rw [upw_eq (by omega) (by omega)] | rw [cpw_ne (by omega)] | rw [cpw_in (by omega) (by omega)]))
                    · (repeat (first | rw [upw_ne (by omega)] | rw [upw_eq (by omega) (by omega)] | rw [cpw_ne (by omega)] | rw [cpw_in (by omega) (by omega)]))
                    · (repeat (first | rw [upw_ne (by omega)] | rw [upw_eq (by omega) (by omega)] | rw [cpw_ne (by omega)] | rw [cpw_in (by omega) (by omega)]))
                    · (repeat (first | rw [upw_ne (by omega)] | rw [upw_eq (by omega) (by omega)] | rw [cpw_ne (by omega)] | rw [cpw_in (by omega) (by omega)])))
    · have a1 := tr45_at (i := i) (by omega)
      have a2 := tr45_sh (i := i) (by omega)
      have a3 := rn51_sh (i := i) (by omega)
      have a4 := od57_sh (i := i) (by omega)
      have c1 := tr14_at (i := i) (by omega)
      have c2 := tr14_sh (i := i) (by omega)
      have c3 := rn20_sh (i := i) (by omega)
      have c4 := od26_sh (i := i) (by omega)
      have e13 := hI.1.1 (14 + i.toNat) (by omega)
      have e19 := hI.1.1 (20 + i.toNat) (by omega)
      have e25 := hI.1.1 (26 + i.toNat) (by omega)
      refine V_aload_n (i := 0) F dY_copyFrom_52 rfl rfl ?_
      refine V_getr (ci := 5) (C := R_Y) (T := T_Y) (N := 8) F dY_copyFrom_53 (by first | rfl | assumption) rfl (j := 2) (by decide) rfl lfY_19 ?_
      refine V_iload_n (i := 2) F dY_copyFrom_56 rfl rfl ?_
      first
        | refine V_aald F dY_copyFrom_57 (by first | rfl | assumption) rfl (by omega) (by first | rfl | assumption) ?_
        | refine V_aaldA F dY_copyFrom_57 (by first | rfl | assumption) rfl (by omega) (by first | rfl | assumption) ?_
      refine V_aload_n (i := 1) F dY_copyFrom_58 rfl rfl ?_
      refine V_getr (ci := 5) (C := R_Y) (T := T_Y) (N := 8) F dY_copyFrom_59 (by first | rfl | assumption) rfl (j := 2) (by decide) rfl lfY_19 ?_
      refine V_iload_n (i := 2) F dY_copyFrom_62 rfl rfl ?_
      first
        | refine V_aald F dY_copyFrom_63 (by first | rfl | assumption) rfl (by omega) (by first | rfl | assumption) ?_
        | refine V_aaldA F dY_copyFrom_63 (by first | rfl | assumption) rfl (by omega) (by first | rfl | assumption) ?_
      refine V_callVv F dY_copyFrom_64 lmY_48 miN_copyFrom mvN_copyFrom (ctN_copyFrom a2 a3 a4 c2 c3 c4 (by omega) (by rw [e13]; exact h9 i h1 (by omega))) (by decide) (by first | rfl | assumption) rfl rfl (Nat.le_of_ble_eq_true rfl) (fun v hv => ?_)
      rw [show cnP u v (45 + i.toNat) (51 + i.toNat) (57 + i.toNat) (14 + i.toNat) (20 + i.toNat) (26 + i.toNat) = ((∀ j, j ≠ 45 + i.toNat → j ≠ 51 + i.toNat → j ≠ 57 + i.toNat → v j = u j) ∧ _) from rfl] at hv
      refine V_iinc F dY_copyFrom_67 (by decide) rfl (by omega) (by simp only [List.set_cons_zero, List.set_cons_succ]; exact rfl) ?_
      refine V_goto F 44 dY_copyFrom_70 (by decide) ?_
      obtain ⟨v1, v2, v3, v4⟩ := hv
      rw [e13] at v2
      rw [e19] at v3
      rw [e25] at v4
      refine ih (i + 1) _ (by omega) (by omega) (by omega) ⟨⟨fun j hj => by rw [v1 j (by omega) (by omega) (by omega)]; exact hI.1.1 j hj, fun j hj => by rw [v1 j (by omega) (by omega) (by omega)]; exact hI.1.2.1 j hj, by rw [v1 _ (by omega) (by omega) (by omega)]; exact hI.1.2.2.1, fun k k1 k2 => by rw [v1 _ (by omega) (by omega) (by omega)]; exact hI.1.2.2.2.1 k k1 k2, fun k k1 k2 => by rw [v1 _ (by omega) (by omega) (by omega), v1 _ (by omega) (by omega) (by omega)]; exact hI.1.2.2.2.2 k k1 k2⟩, fun s s1 s2 => by rw [v1 _ (by omega) (by omega) (by omega)]; exact hI.2.1 s s1 s2, fun t t1 t2 => ?_⟩
      by_cases e : t = i
      · subst e
        exact ⟨v2, v3, v4⟩
      · rw [v1 _ (by omega) (by omega) (by omega), v1 _ (by omega) (by omega) (by omega), v1 _ (by omega) (by omega) (by omega)]
        exact hI.2.2 t t1 (by omega)
theorem lpY_cpS_s {G : vG} {X : vX} {Q : State → Prop} {w : RW} (hn : (0 ≤ w 1 3 ∧ w 1 3 ≤ 6) ∧ 0 ≤ w 1 4 ∧ w 1 4 ≤ 6) (h9 : ∀ t, 0 ≤ t → t < w 1 4 → w (14 + t.toNat) 9 = 0 ∨ w (14 + t.toNat) 9 = 1) (F : FX G X cY_copyFrom yY_copyFrom.cls 3 2) (hR : RetV G X cY_copyFrom 3 Q (fun u => cyP w u 32 1)) : ∀ (m : Nat) (i : Int) (u : RW), w 1 3 - i < m → (0 ≤ i) → (i ≤ w 1 3) → (cyG w u 32 1 ∧ cyS w u 32 1 i) → V G X 3 Q 13 [some (.inr 32), some (.inr 1), some (.inl i)] [] u := by
  intro m
  induction m with
  | zero => intro i u hm0 h1 h2 hI; omega
  | succ m ih =>
    intro i u hm0 h1 h2 hI
    have eO : u 1 = w 1 := hI.1.1 1 (by decide)
    refine V_iload_n (i := 2) F dY_copyFrom_13 rfl rfl ?_
    refine V_aload_n (i := 1) F dY_copyFrom_14 rfl rfl ?_
    refine V_geti (ci := 5) (C := R_Y) (T := T_Y) (N := 8) F dY_copyFrom_15 (by first | rfl | assumption) rfl (j := 3) 3 rfl (by decide) rfl lfY_38 ?_
    rw [eO]
    refine V_icmp_ge F 42 dY_copyFrom_18 (by decide) (fun h18 => ?_) (fun h18 => ?_)
    · refine V_iconst F dY_copyFrom_42 (by decide) ?_
      refine V_istore_n (i := 2) F dY_copyFrom_43 rfl (by decide) (by simp only [List.set_cons_zero, List.set_cons_succ]; exact rfl) ?_
      exact lpY_cpT_s hn h9 F hR 7 0 u (by omega) (by omega) (by omega) ⟨hI.1, by rw [show i = w 1 3 by omega] at hI; exact hI.2, fun t t1 t2 => by omega⟩
    · have a1 := st38_at (i := i) (by omega)
      have a2 := st38_sh (i := i) (by omega)
      have c1 := st7_at (i := i) (by omega)
      have c2 := st7_sh (i := i) (by omega)
      have e6 := hI.1.1 (7 + i.toNat) (by omega)
      refine V_aload_n (i := 0) F dY_copyFrom_21 rfl rfl ?_
      refine V_getr (ci := 5) (C := R_Y) (T := T_Y) (N := 8) F dY_copyFrom_22 (by first | rfl | assumption) rfl (j := 1) (by decide) rfl lfY_11 ?_
      refine V_iload_n (i := 2) F dY_copyFrom_25 rfl rfl ?_
      first
        | refine V_aald F dY_copyFrom_26 (by first | rfl | assumption) rfl (by omega) (by first | rfl | assumption) ?_
        | refine V_aaldA F dY_copyFrom_26 (by first | rfl | assumption) rfl (by omega) (by first | rfl | assumption) ?_
      refine V_aload_n (i := 1) F dY_copyFrom_27 rfl rfl ?_
      refine V_getr (ci := 5) (C := R_Y) (T := T_Y) (N := 8) F dY_copyFrom_28 (by first | rfl | assumption) rfl (j := 1) (by decide) rfl lfY_11 ?_
      refine V_iload_n (i := 2) F dY_copyFrom_31 rfl rfl ?_
      first
        | refine V_aald F dY_copyFrom_32 (by first | rfl | assumption) rfl (by omega) (by first | rfl | assumption) ?_
        | refine V_aaldA F dY_copyFrom_32 (by first | rfl | assumption) rfl (by omega) (by first | rfl | assumption) ?_
      refine V_callVv F dY_copyFrom_33 lmY_42 miT_copyFrom mvT_copyFrom (ctT_copyFrom a2 c2 (by omega)) (by decide) (by first | rfl | assumption) rfl rfl (Nat.le_of_ble_eq_true rfl) (fun v hv => ?_)
      skip
      refine V_iinc F dY_copyFrom_36 (by decide) rfl (by omega) (by simp only [List.set_cons_zero, List.set_cons_succ]; exact rfl) ?_
      refine V_goto F 13 dY_copyFrom_39 (by decide) ?_
      obtain ⟨v1, v2⟩ := hv
      rw [e6] at v2
      refine ih (i + 1) _ (by omega) (by omega) (by omega) ⟨⟨fun j hj => by rw [v1 j (by omega)]; exact hI.1.1 j hj, fun j hj => by rw [v1 j (by omega)]; exact hI.1.2.1 j hj, by rw [v1 _ (by omega)]; exact hI.1.2.2.1, fun k k1 k2 => by rw [v1 _ (by omega)]; exact hI.1.2.2.2.1 k k1 k2, fun k k1 k2 => by rw [v1 _ (by omega), v1 _ (by omega)]; exact hI.1.2.2.2.2 k k1 k2⟩, fun s s1 s2 => ?_⟩
      by_cases e : s = i
      · subst e
        exact v2
      · rw [v1 _ (by omega)]
        exact hI.2 s s1 (by omega)
theorem ctY_copyFrom_s {G : vG} {l : Launch} {w : RW} (hn : (0 ≤ w 1 3 ∧ w 1 3 ≤ 6) ∧ 0 ≤ w 1 4 ∧ w 1 4 ≤ 6) (h9 : ∀ t, 0 ≤ t → t < w 1 4 → w (14 + t.toNat) 9 = 0 ∨ w (14 + t.toNat) 9 = 1) : CTv G l yY_copyFrom cY_copyFrom 3 2 [.inr 32, .inr 1] w (fun u => cyP w u 32 1) := by
  refine CTv.intro (by decide) (Nat.le_of_ble_eq_true rfl) ?_
  intro X Q F hX hR
  subst hX
  show V G X 3 Q 0 [some (.inr 32), some (.inr 1), none] [] w
  refine V_aload_n (i := 0) F dY_copyFrom_0 rfl rfl ?_
  refine V_getr (ci := 5) (C := R_Y) (T := T_Y) (N := 8) F dY_copyFrom_1 (by first | rfl | assumption) rfl (j := 0) (by decide) rfl lfY_28 ?_
  refine V_aload_n (i := 1) F dY_copyFrom_4 rfl rfl ?_
  refine V_getr (ci := 5) (C := R_Y) (T := T_Y) (N := 8) F dY_copyFrom_5 (by first | rfl | assumption) rfl (j := 0) (by decide) rfl lfY_28 ?_
  refine V_callVv F dY_copyFrom_8 lmY_34 miG_copyFrom mvG_copyFrom (ctG_copyFrom_s) (by decide) (by first | rfl | assumption) rfl rfl (Nat.le_of_ble_eq_true rfl) (fun u hv => ?_)
  skip
  refine V_iconst F dY_copyFrom_11 (by decide) ?_
  refine V_istore_n (i := 2) F dY_copyFrom_12 rfl (by decide) (by simp only [List.set_cons_zero, List.set_cons_succ]; exact rfl) ?_
  exact lpY_cpS_s hn h9 F hR 7 0 u (by omega) (by omega) (by omega) ⟨⟨fun j hj => hv.1 j (by omega) (by omega) (by omega), fun j hj => hv.1 j (by omega) (by omega) (by omega), hv.1 _ (by omega) (by omega) (by omega), hv.2.1, hv.2.2⟩, fun s s1 s2 => by omega⟩
theorem ctX_save {G : vG} {l : Launch} {w : RW} (hn : (0 ≤ w 1 3 ∧ w 1 3 ≤ 6) ∧ 0 ≤ w 1 4 ∧ w 1 4 ≤ 6) (h9 : ∀ t, 0 ≤ t → t < w 1 4 → w (14 + t.toNat) 9 = 0 ∨ w (14 + t.toNat) 9 = 1) : CTv G l yX_save cX_save 1 3 [.inr 0] w (fun u => cyP w u 32 1) := by
  refine CTv.intro (by decide) (Nat.le_of_ble_eq_true rfl) ?_
  intro X Q F hX hR
  subst hX
  show V G X 1 Q 0 [some (.inr 0)] [] w
  refine V_aload_n (i := 0) F dX_save_0 rfl rfl ?_
  refine V_getr (ci := 6) (C := R_X) (T := T_X) (N := 5) F dX_save_1 (by first | rfl | assumption) rfl (j := 1) (by decide) rfl lfX_45 ?_
  refine V_aload_n (i := 0) F dX_save_4 rfl rfl ?_
  refine V_getr (ci := 6) (C := R_X) (T := T_X) (N := 5) F dX_save_5 (by first | rfl | assumption) rfl (j := 0) (by decide) rfl lfX_41 ?_
  refine V_callVv F dX_save_8 lmX_223 miY_copyFrom mvY_copyFrom (ctY_copyFrom_s hn h9) (by decide) (by first | rfl | assumption) rfl rfl (Nat.le_of_ble_eq_true rfl) (fun u hr => ?_)
  skip
  exact hR _ _ _ dX_save_11 (hr)
theorem lpY_cpT_r {G : vG} {X : vX} {Q : State → Prop} {w : RW} (hn : (0 ≤ w 32 3 ∧ w 32 3 ≤ 6) ∧ 0 ≤ w 32 4 ∧ w 32 4 ≤ 6) (h9 : ∀ t, 0 ≤ t → t < w 32 4 → w (45 + t.toNat) 9 = 0 ∨ w (45 + t.toNat) 9 = 1) (F : FX G X cY_copyFrom yY_copyFrom.cls 3 2) (hR : RetV G X cY_copyFrom 3 Q (fun u => cyP w u 1 32)) : ∀ (m : Nat) (i : Int) (u : RW), w 32 4 - i < m → (0 ≤ i) → (i ≤ w 32 4) → (cyG w u 1 32 ∧ cyS w u 1 32 (w 32 3) ∧ cyT w u 1 32 i) → V G X 3 Q 44 [some (.inr 1), some (.inr 32), some (.inl i)] [] u := by
  intro m
  induction m with
  | zero => intro i u hm0 h1 h2 hI; omega
  | succ m ih =>
    intro i u hm0 h1 h2 hI
    have eO : u 32 = w 32 := hI.1.2.1 32 (by decide)
    refine V_iload_n (i := 2) F dY_copyFrom_44 rfl rfl ?_
    refine V_aload_n (i := 1) F dY_copyFrom_45 rfl rfl ?_
    refine V_geti (ci := 5) (C := R_Y) (T := T_Y) (N := 8) F dY_copyFrom_46 (by first | rfl | assumption) rfl (j := 4) 4 rfl (by decide) rfl lfY_45 ?_
    rw [eO]
    refine V_icmp_ge F 73 dY_copyFrom_49 (by decide) (fun h49 => ?_) (fun h49 => ?_)
    · refine V_aload_n (i := 0) F dY_copyFrom_73 rfl rfl ?_
      refine V_aload_n (i := 1) F dY_copyFrom_74 rfl rfl ?_
      refine V_geti (ci := 5) (C := R_Y) (T := T_Y) (N := 8) F dY_copyFrom_75 (by first | rfl | assumption) rfl (j := 3) 3 rfl (by decide) rfl lfY_38 ?_
      (repeat (first | rw [upw_ne (by omega)] | rw [upw_eq (by omega) (by omega)] | rw [cpw_ne (by omega)] | rw [cpw_in (by omega) (by omega)]))
      rw [eO]
      refine V_puti (ci := 5) (C := R_Y) (T := T_Y) (N := 8) F dY_copyFrom_78 (by first | rfl | assumption) rfl (j := 3) 3 rfl (by decide) rfl rfl rfl lfY_38 ?_
      refine V_aload_n (i := 0) F dY_copyFrom_81 rfl rfl ?_
      refine V_aload_n (i := 1) F dY_copyFrom_82 rfl rfl ?_
      refine V_geti (ci := 5) (C := R_Y) (T := T_Y) (N := 8) F dY_copyFrom_83 (by first | rfl | assumption) rfl (j := 4) 4 rfl (by decide) rfl lfY_45 ?_
      (repeat (first | rw [upw_ne (by omega)] | rw [upw_eq (by omega) (by omega)] | rw [cpw_ne (by omega)] | rw [cpw_in (by omega) (by omega)]))
      rw [eO]
      refine V_puti (ci := 5) (C := R_Y) (T := T_Y) (N := 8) F dY_copyFrom_86 (by first | rfl | assumption) rfl (j := 4) 4 rfl (by decide) rfl rfl rfl lfY_45 ?_
      refine V_aload_n (i := 0) F dY_copyFrom_89 rfl rfl ?_
      refine V_aload_n (i := 1) F dY_copyFrom_90 rfl rfl ?_
      refine V_geti (ci := 5) (C := R_Y) (T := T_Y) (N := 8) F dY_copyFrom_91 (by first | rfl | assumption) rfl (j := 5) 5 rfl (by decide) rfl lfY_51 ?_
      (repeat (first | rw [upw_ne (by omega)] | rw [upw_eq (by omega) (by omega)] | rw [cpw_ne (by omega)] | rw [cpw_in (by omega) (by omega)]))
      rw [eO]
      refine V_puti (ci := 5) (C := R_Y) (T := T_Y) (N := 8) F dY_copyFrom_94 (by first | rfl | assumption) rfl (j := 5) 5 rfl (by decide) rfl rfl rfl lfY_51 ?_
      refine V_aload_n (i := 0) F dY_copyFrom_97 rfl rfl ?_
      refine V_aload_n (i := 1) F dY_copyFrom_98 rfl rfl ?_
      refine V_geti (ci := 5) (C := R_Y) (T := T_Y) (N := 8) F dY_copyFrom_99 (by first | rfl | assumption) rfl (j := 6) 6 rfl (by decide) rfl lfY_54 ?_
      (repeat (first | rw [upw_ne (by omega)] | rw [upw_eq (by omega) (by omega)] | rw [cpw_ne (by omega)] | rw [cpw_in (by omega) (by omega)]))
      rw [eO]
      refine V_puti (ci := 5) (C := R_Y) (T := T_Y) (N := 8) F dY_copyFrom_102 (by first | rfl | assumption) rfl (j := 6) 6 rfl (by decide) rfl rfl rfl lfY_54 ?_
      refine V_aload_n (i := 0) F dY_copyFrom_105 rfl rfl ?_
      refine V_aload_n (i := 1) F dY_copyFrom_106 rfl rfl ?_
      refine V_geti (ci := 5) (C := R_Y) (T := T_Y) (N := 8) F dY_copyFrom_107 (by first | rfl | assumption) rfl (j := 7) 7 rfl (by decide) rfl lfY_57 ?_
      (repeat (first | rw [upw_ne (by omega)] | rw [upw_eq (by omega) (by omega)] | rw [cpw_ne (by omega)] | rw [cpw_in (by omega) (by omega)]))
      rw [eO]
      refine V_puti (ci := 5) (C := R_Y) (T := T_Y) (N := 8) F dY_copyFrom_110 (by first | rfl | assumption) rfl (j := 7) 7 rfl (by decide) rfl rfl rfl lfY_57 ?_
      exact hR _ _ _ dY_copyFrom_113 (by
                    have hi : i = w 32 4 := by omega
                    rw [hi] at hI
                    refine ⟨fun j hj => ?_, fun j hj => ?_, ?_, fun k k1 k2 => ?_, fun k k1 k2 => ?_, fun s s1 s2 => ?_, fun t t1 t2 => ?_, ?_, ?_, ?_, ?_, ?_⟩
                    · repeat rw [upw_f (by omega)]
                      exact hI.1.1 j (by omega)
                    · repeat rw [upw_f (by omega)]
                      exact hI.1.2.1 j hj
                    · repeat rw [upw_f (by omega)]
                      exact hI.1.2.2.1
                    · repeat rw [upw_f (by omega)]
                      exact hI.1.2.2.2.1 k k1 k2
                    · repeat rw [upw_f (by omega)]
                      exact hI.1.2.2.2.2 k k1 k2
                    · repeat rw [upw_f (by omega)]
                      exact hI.2.1 s s1 s2
                    · repeat rw [upw_f (by omega)]
                      exact hI.2.2 t t1 t2
                    · (repeat (first | rw [upw_ne (by omega)] | rw [upw_eq (by omega) (by omega)] | rw [cpw_ne (by omega)] | rw [cpw_in (by omega) (by omega)]))
                    · (repeat (first | rw [upw_ne (by omega)] | rw [upw_eq (by omega) (by omega)] | rw [cpw_ne (by omega)] | rw [cpw_in (by omega) (by omega)]))
                    · (repeat (first | rw [upw_ne (by omega)] | rw [upw_eq (by omega) (by omega)] | rw [cpw_ne (by omega)] | rw [cpw_in (by omega) (by omega)]))
                    · (repeat (first | rw [upw_ne (by omega)] | rw [upw_eq (by omega) (by omega)] | rw [cpw_ne (by omega)] | rw [cpw_in (by omega) (by omega)]))
                    · (repeat (first | rw [upw_ne (by omega)] | rw [upw_eq (by omega) (by omega)] | rw [cpw_ne (by omega)] | rw [cpw_in (by omega) (by omega)])))
    · have a1 := tr14_at (i := i) (by omega)
      have a2 := tr14_sh (i := i) (by omega)
      have a3 := rn20_sh (i := i) (by omega)
      have a4 := od26_sh (i := i) (by omega)
      have c1 := tr45_at (i := i) (by omega)
      have c2 := tr45_sh (i := i) (by omega)
      have c3 := rn51_sh (i := i) (by omega)
      have c4 := od57_sh (i := i) (by omega)
      have e13 := hI.1.2.1 (45 + i.toNat) (by omega)
      have e19 := hI.1.2.1 (51 + i.toNat) (by omega)
      have e25 := hI.1.2.1 (57 + i.toNat) (by omega)
      refine V_aload_n (i := 0) F dY_copyFrom_52 rfl rfl ?_
      refine V_getr (ci := 5) (C := R_Y) (T := T_Y) (N := 8) F dY_copyFrom_53 (by first | rfl | assumption) rfl (j := 2) (by decide) rfl lfY_19 ?_
      refine V_iload_n (i := 2) F dY_copyFrom_56 rfl rfl ?_
      first
        | refine V_aald F dY_copyFrom_57 (by first | rfl | assumption) rfl (by omega) (by first | rfl | assumption) ?_
        | refine V_aaldA F dY_copyFrom_57 (by first | rfl | assumption) rfl (by omega) (by first | rfl | assumption) ?_
      refine V_aload_n (i := 1) F dY_copyFrom_58 rfl rfl ?_
      refine V_getr (ci := 5) (C := R_Y) (T := T_Y) (N := 8) F dY_copyFrom_59 (by first | rfl | assumption) rfl (j := 2) (by decide) rfl lfY_19 ?_
      refine V_iload_n (i := 2) F dY_copyFrom_62 rfl rfl ?_
      first
        | refine V_aald F dY_copyFrom_63 (by first | rfl | assumption) rfl (by omega) (by first | rfl | assumption) ?_
        | refine V_aaldA F dY_copyFrom_63 (by first | rfl | assumption) rfl (by omega) (by first | rfl | assumption) ?_
      refine V_callVv F dY_copyFrom_64 lmY_48 miN_copyFrom mvN_copyFrom (ctN_copyFrom a2 a3 a4 c2 c3 c4 (by omega) (by rw [e13]; exact h9 i h1 (by omega))) (by decide) (by first | rfl | assumption) rfl rfl (Nat.le_of_ble_eq_true rfl) (fun v hv => ?_)
      rw [show cnP u v (14 + i.toNat) (20 + i.toNat) (26 + i.toNat) (45 + i.toNat) (51 + i.toNat) (57 + i.toNat) = ((∀ j, j ≠ 14 + i.toNat → j ≠ 20 + i.toNat → j ≠ 26 + i.toNat → v j = u j) ∧ _) from rfl] at hv
      refine V_iinc F dY_copyFrom_67 (by decide) rfl (by omega) (by simp only [List.set_cons_zero, List.set_cons_succ]; exact rfl) ?_
      refine V_goto F 44 dY_copyFrom_70 (by decide) ?_
      obtain ⟨v1, v2, v3, v4⟩ := hv
      rw [e13] at v2
      rw [e19] at v3
      rw [e25] at v4
      refine ih (i + 1) _ (by omega) (by omega) (by omega) ⟨⟨fun j hj => by rw [v1 j (by omega) (by omega) (by omega)]; exact hI.1.1 j hj, fun j hj => by rw [v1 j (by omega) (by omega) (by omega)]; exact hI.1.2.1 j hj, by rw [v1 _ (by omega) (by omega) (by omega)]; exact hI.1.2.2.1, fun k k1 k2 => by rw [v1 _ (by omega) (by omega) (by omega)]; exact hI.1.2.2.2.1 k k1 k2, fun k k1 k2 => by rw [v1 _ (by omega) (by omega) (by omega), v1 _ (by omega) (by omega) (by omega)]; exact hI.1.2.2.2.2 k k1 k2⟩, fun s s1 s2 => by rw [v1 _ (by omega) (by omega) (by omega)]; exact hI.2.1 s s1 s2, fun t t1 t2 => ?_⟩
      by_cases e : t = i
      · subst e
        exact ⟨v2, v3, v4⟩
      · rw [v1 _ (by omega) (by omega) (by omega), v1 _ (by omega) (by omega) (by omega), v1 _ (by omega) (by omega) (by omega)]
        exact hI.2.2 t t1 (by omega)
theorem lpY_cpS_r {G : vG} {X : vX} {Q : State → Prop} {w : RW} (hn : (0 ≤ w 32 3 ∧ w 32 3 ≤ 6) ∧ 0 ≤ w 32 4 ∧ w 32 4 ≤ 6) (h9 : ∀ t, 0 ≤ t → t < w 32 4 → w (45 + t.toNat) 9 = 0 ∨ w (45 + t.toNat) 9 = 1) (F : FX G X cY_copyFrom yY_copyFrom.cls 3 2) (hR : RetV G X cY_copyFrom 3 Q (fun u => cyP w u 1 32)) : ∀ (m : Nat) (i : Int) (u : RW), w 32 3 - i < m → (0 ≤ i) → (i ≤ w 32 3) → (cyG w u 1 32 ∧ cyS w u 1 32 i) → V G X 3 Q 13 [some (.inr 1), some (.inr 32), some (.inl i)] [] u := by
  intro m
  induction m with
  | zero => intro i u hm0 h1 h2 hI; omega
  | succ m ih =>
    intro i u hm0 h1 h2 hI
    have eO : u 32 = w 32 := hI.1.2.1 32 (by decide)
    refine V_iload_n (i := 2) F dY_copyFrom_13 rfl rfl ?_
    refine V_aload_n (i := 1) F dY_copyFrom_14 rfl rfl ?_
    refine V_geti (ci := 5) (C := R_Y) (T := T_Y) (N := 8) F dY_copyFrom_15 (by first | rfl | assumption) rfl (j := 3) 3 rfl (by decide) rfl lfY_38 ?_
    rw [eO]
    refine V_icmp_ge F 42 dY_copyFrom_18 (by decide) (fun h18 => ?_) (fun h18 => ?_)
    · refine V_iconst F dY_copyFrom_42 (by decide) ?_
      refine V_istore_n (i := 2) F dY_copyFrom_43 rfl (by decide) (by simp only [List.set_cons_zero, List.set_cons_succ]; exact rfl) ?_
      exact lpY_cpT_r hn h9 F hR 7 0 u (by omega) (by omega) (by omega) ⟨hI.1, by rw [show i = w 32 3 by omega] at hI; exact hI.2, fun t t1 t2 => by omega⟩
    · have a1 := st7_at (i := i) (by omega)
      have a2 := st7_sh (i := i) (by omega)
      have c1 := st38_at (i := i) (by omega)
      have c2 := st38_sh (i := i) (by omega)
      have e6 := hI.1.2.1 (38 + i.toNat) (by omega)
      refine V_aload_n (i := 0) F dY_copyFrom_21 rfl rfl ?_
      refine V_getr (ci := 5) (C := R_Y) (T := T_Y) (N := 8) F dY_copyFrom_22 (by first | rfl | assumption) rfl (j := 1) (by decide) rfl lfY_11 ?_
      refine V_iload_n (i := 2) F dY_copyFrom_25 rfl rfl ?_
      first
        | refine V_aald F dY_copyFrom_26 (by first | rfl | assumption) rfl (by omega) (by first | rfl | assumption) ?_
        | refine V_aaldA F dY_copyFrom_26 (by first | rfl | assumption) rfl (by omega) (by first | rfl | assumption) ?_
      refine V_aload_n (i := 1) F dY_copyFrom_27 rfl rfl ?_
      refine V_getr (ci := 5) (C := R_Y) (T := T_Y) (N := 8) F dY_copyFrom_28 (by first | rfl | assumption) rfl (j := 1) (by decide) rfl lfY_11 ?_
      refine V_iload_n (i := 2) F dY_copyFrom_31 rfl rfl ?_
      first
        | refine V_aald F dY_copyFrom_32 (by first | rfl | assumption) rfl (by omega) (by first | rfl | assumption) ?_
        | refine V_aaldA F dY_copyFrom_32 (by first | rfl | assumption) rfl (by omega) (by first | rfl | assumption) ?_
      refine V_callVv F dY_copyFrom_33 lmY_42 miT_copyFrom mvT_copyFrom (ctT_copyFrom a2 c2 (by omega)) (by decide) (by first | rfl | assumption) rfl rfl (Nat.le_of_ble_eq_true rfl) (fun v hv => ?_)
      skip
      refine V_iinc F dY_copyFrom_36 (by decide) rfl (by omega) (by simp only [List.set_cons_zero, List.set_cons_succ]; exact rfl) ?_
      refine V_goto F 13 dY_copyFrom_39 (by decide) ?_
      obtain ⟨v1, v2⟩ := hv
      rw [e6] at v2
      refine ih (i + 1) _ (by omega) (by omega) (by omega) ⟨⟨fun j hj => by rw [v1 j (by omega)]; exact hI.1.1 j hj, fun j hj => by rw [v1 j (by omega)]; exact hI.1.2.1 j hj, by rw [v1 _ (by omega)]; exact hI.1.2.2.1, fun k k1 k2 => by rw [v1 _ (by omega)]; exact hI.1.2.2.2.1 k k1 k2, fun k k1 k2 => by rw [v1 _ (by omega), v1 _ (by omega)]; exact hI.1.2.2.2.2 k k1 k2⟩, fun s s1 s2 => ?_⟩
      by_cases e : s = i
      · subst e
        exact v2
      · rw [v1 _ (by omega)]
        exact hI.2 s s1 (by omega)
theorem ctY_copyFrom_r {G : vG} {l : Launch} {w : RW} (hn : (0 ≤ w 32 3 ∧ w 32 3 ≤ 6) ∧ 0 ≤ w 32 4 ∧ w 32 4 ≤ 6) (h9 : ∀ t, 0 ≤ t → t < w 32 4 → w (45 + t.toNat) 9 = 0 ∨ w (45 + t.toNat) 9 = 1) : CTv G l yY_copyFrom cY_copyFrom 3 2 [.inr 1, .inr 32] w (fun u => cyP w u 1 32) := by
  refine CTv.intro (by decide) (Nat.le_of_ble_eq_true rfl) ?_
  intro X Q F hX hR
  subst hX
  show V G X 3 Q 0 [some (.inr 1), some (.inr 32), none] [] w
  refine V_aload_n (i := 0) F dY_copyFrom_0 rfl rfl ?_
  refine V_getr (ci := 5) (C := R_Y) (T := T_Y) (N := 8) F dY_copyFrom_1 (by first | rfl | assumption) rfl (j := 0) (by decide) rfl lfY_28 ?_
  refine V_aload_n (i := 1) F dY_copyFrom_4 rfl rfl ?_
  refine V_getr (ci := 5) (C := R_Y) (T := T_Y) (N := 8) F dY_copyFrom_5 (by first | rfl | assumption) rfl (j := 0) (by decide) rfl lfY_28 ?_
  refine V_callVv F dY_copyFrom_8 lmY_34 miG_copyFrom mvG_copyFrom (ctG_copyFrom_r) (by decide) (by first | rfl | assumption) rfl rfl (Nat.le_of_ble_eq_true rfl) (fun u hv => ?_)
  skip
  refine V_iconst F dY_copyFrom_11 (by decide) ?_
  refine V_istore_n (i := 2) F dY_copyFrom_12 rfl (by decide) (by simp only [List.set_cons_zero, List.set_cons_succ]; exact rfl) ?_
  exact lpY_cpS_r hn h9 F hR 7 0 u (by omega) (by omega) (by omega) ⟨⟨fun j hj => hv.1 j (by omega) (by omega) (by omega), fun j hj => hv.1 j (by omega) (by omega) (by omega), hv.1 _ (by omega) (by omega) (by omega), hv.2.1, hv.2.2⟩, fun s s1 s2 => by omega⟩
theorem ctX_restore {G : vG} {l : Launch} {w : RW} (hn : (0 ≤ w 32 3 ∧ w 32 3 ≤ 6) ∧ 0 ≤ w 32 4 ∧ w 32 4 ≤ 6) (h9 : ∀ t, 0 ≤ t → t < w 32 4 → w (45 + t.toNat) 9 = 0 ∨ w (45 + t.toNat) 9 = 1) : CTv G l yX_restore cX_restore 1 3 [.inr 0] w (fun u => ∃ v, cyP w v 1 32 ∧ upw v 63 1 0 = u) := by
  refine CTv.intro (by decide) (Nat.le_of_ble_eq_true rfl) ?_
  intro X Q F hX hR
  subst hX
  show V G X 1 Q 0 [some (.inr 0)] [] w
  refine V_aload_n (i := 0) F dX_restore_0 rfl rfl ?_
  refine V_getr (ci := 6) (C := R_X) (T := T_X) (N := 5) F dX_restore_1 (by first | rfl | assumption) rfl (j := 0) (by decide) rfl lfX_41 ?_
  refine V_aload_n (i := 0) F dX_restore_4 rfl rfl ?_
  refine V_getr (ci := 6) (C := R_X) (T := T_X) (N := 5) F dX_restore_5 (by first | rfl | assumption) rfl (j := 1) (by decide) rfl lfX_45 ?_
  refine V_callVv F dX_restore_8 lmX_223 miY_copyFrom mvY_copyFrom (ctY_copyFrom_r hn h9) (by decide) (by first | rfl | assumption) rfl rfl (Nat.le_of_ble_eq_true rfl) (fun v hv => ?_)
  skip
  refine V_aload_n (i := 0) F dX_restore_11 rfl rfl ?_
  refine V_getr (ci := 6) (C := R_X) (T := T_X) (N := 5) F dX_restore_12 (by first | rfl | assumption) rfl (j := 2) (by decide) rfl lfX_12 ?_
  refine V_callVv F dX_restore_15 lmX_83 miW_forget mvW_forget (ctW_forget) (by decide) (by first | rfl | assumption) rfl rfl (Nat.le_of_ble_eq_true rfl) (fun u hr => ?_)
  subst hr
  exact hR _ _ _ dX_restore_18 (⟨v, hv, rfl⟩)
