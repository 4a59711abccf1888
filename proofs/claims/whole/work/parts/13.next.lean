theorem dW_next_0 : decode cW_next 0 = .ok (.aload_n 1, 1) := by decide +kernel
theorem dW_next_1 : decode cW_next 1 = .ok (.iload_n 2, 1) := by decide +kernel
theorem dW_next_2 : decode cW_next 2 = .ok (.invokestatic 33, 3) := by decide +kernel
theorem dW_next_5 : decode cW_next 5 = .ok (.iload_n 2, 1) := by decide +kernel
theorem dW_next_6 : decode cW_next 6 = .ok (.invokestatic 36, 3) := by decide +kernel
theorem dW_next_9 : decode cW_next 9 = .ok (.invokevirtual 43, 3) := by decide +kernel
theorem dW_next_12 : decode cW_next 12 = .ok (.istore 5, 2) := by decide +kernel
theorem dW_next_14 : decode cW_next 14 = .ok (.iload_n 2, 1) := by decide +kernel
theorem dW_next_15 : decode cW_next 15 = .ok (.invokestatic 36, 3) := by decide +kernel
theorem dW_next_18 : decode cW_next 18 = .ok (.invokestatic 48, 3) := by decide +kernel
theorem dW_next_21 : decode cW_next 21 = .ok (.istore 6, 2) := by decide +kernel
theorem dW_next_23 : decode cW_next 23 = .ok (.iconst (-1), 1) := by decide +kernel
theorem dW_next_24 : decode cW_next 24 = .ok (.istore 7, 2) := by decide +kernel
theorem dW_next_26 : decode cW_next 26 = .ok (.ldc 51, 2) := by decide +kernel
theorem dW_next_28 : decode cW_next 28 = .ok (.istore 8, 2) := by decide +kernel
theorem dW_next_30 : decode cW_next 30 = .ok (.iconst 0, 1) := by decide +kernel
theorem dW_next_31 : decode cW_next 31 = .ok (.istore 9, 2) := by decide +kernel
theorem dW_next_33 : decode cW_next 33 = .ok (.iload 9, 2) := by decide +kernel
theorem dW_next_35 : decode cW_next 35 = .ok (.bipush 6, 2) := by decide +kernel
theorem dW_next_37 : decode cW_next 37 = .ok (.if_icmp .ge 80, 3) := by decide +kernel
theorem dW_next_40 : decode cW_next 40 = .ok (.iload 5, 2) := by decide +kernel
theorem dW_next_42 : decode cW_next 42 = .ok (.iconst (-1), 1) := by decide +kernel
theorem dW_next_43 : decode cW_next 43 = .ok (.if_icmp .eq 74, 3) := by decide +kernel
theorem dW_next_46 : decode cW_next 46 = .ok (.aload_n 1, 1) := by decide +kernel
theorem dW_next_47 : decode cW_next 47 = .ok (.iload 5, 2) := by decide +kernel
theorem dW_next_49 : decode cW_next 49 = .ok (.iload 9, 2) := by decide +kernel
theorem dW_next_51 : decode cW_next 51 = .ok (.iload 6, 2) := by decide +kernel
theorem dW_next_53 : decode cW_next 53 = .ok (.invokevirtual 52, 3) := by decide +kernel
theorem dW_next_56 : decode cW_next 56 = .ok (.ifCond .eq 55, 3) := by decide +kernel
theorem dW_next_59 : decode cW_next 59 = .ok (.iload 5, 2) := by decide +kernel
theorem dW_next_61 : decode cW_next 61 = .ok (.iload 9, 2) := by decide +kernel
theorem dW_next_63 : decode cW_next 63 = .ok (.invokestatic 56, 3) := by decide +kernel
theorem dW_next_66 : decode cW_next 66 = .ok (.iload 9, 2) := by decide +kernel
theorem dW_next_68 : decode cW_next 68 = .ok (.iload 6, 2) := by decide +kernel
theorem dW_next_70 : decode cW_next 70 = .ok (.invokestatic 59, 3) := by decide +kernel
theorem dW_next_73 : decode cW_next 73 = .ok (.invokestatic 62, 3) := by decide +kernel
theorem dW_next_76 : decode cW_next 76 = .ok (.istore 10, 2) := by decide +kernel
theorem dW_next_78 : decode cW_next 78 = .ok (.aload_n 1, 1) := by decide +kernel
theorem dW_next_79 : decode cW_next 79 = .ok (.iload 10, 2) := by decide +kernel
theorem dW_next_81 : decode cW_next 81 = .ok (.invokevirtual 65, 3) := by decide +kernel
theorem dW_next_84 : decode cW_next 84 = .ok (.aload_n 0, 1) := by decide +kernel
theorem dW_next_85 : decode cW_next 85 = .ok (.iload 10, 2) := by decide +kernel
theorem dW_next_87 : decode cW_next 87 = .ok (.iload_n 3, 1) := by decide +kernel
theorem dW_next_88 : decode cW_next 88 = .ok (.iload 4, 2) := by decide +kernel
theorem dW_next_90 : decode cW_next 90 = .ok (.invokevirtual 68, 3) := by decide +kernel
theorem dW_next_93 : decode cW_next 93 = .ok (.iadd, 1) := by decide +kernel
theorem dW_next_94 : decode cW_next 94 = .ok (.istore 11, 2) := by decide +kernel
theorem dW_next_96 : decode cW_next 96 = .ok (.iload 11, 2) := by decide +kernel
theorem dW_next_98 : decode cW_next 98 = .ok (.iload 8, 2) := by decide +kernel
theorem dW_next_100 : decode cW_next 100 = .ok (.if_icmp .ge 11, 3) := by decide +kernel
theorem dW_next_103 : decode cW_next 103 = .ok (.iload 10, 2) := by decide +kernel
theorem dW_next_105 : decode cW_next 105 = .ok (.istore 7, 2) := by decide +kernel
theorem dW_next_107 : decode cW_next 107 = .ok (.iload 11, 2) := by decide +kernel
theorem dW_next_109 : decode cW_next 109 = .ok (.istore 8, 2) := by decide +kernel
theorem dW_next_111 : decode cW_next 111 = .ok (.iinc 9 1, 3) := by decide +kernel
theorem dW_next_114 : decode cW_next 114 = .ok (.goto (-81), 3) := by decide +kernel
theorem dW_next_117 : decode cW_next 117 = .ok (.iload 7, 2) := by decide +kernel
theorem dW_next_119 : decode cW_next 119 = .ok (.ireturn, 1) := by decide +kernel
theorem dM_onward_0 : decode cM_onward 0 = .ok (.ldc 119, 2) := by decide +kernel
theorem dM_onward_2 : decode cM_onward 2 = .ok (.istore_n 3, 1) := by decide +kernel
theorem dM_onward_3 : decode cM_onward 3 = .ok (.iconst 0, 1) := by decide +kernel
theorem dM_onward_4 : decode cM_onward 4 = .ok (.istore 4, 2) := by decide +kernel
theorem dM_onward_6 : decode cM_onward 6 = .ok (.iload 4, 2) := by decide +kernel
theorem dM_onward_8 : decode cM_onward 8 = .ok (.bipush 6, 2) := by decide +kernel
theorem dM_onward_10 : decode cM_onward 10 = .ok (.if_icmp .ge 86, 3) := by decide +kernel
theorem dM_onward_13 : decode cM_onward 13 = .ok (.aload_n 0, 1) := by decide +kernel
theorem dM_onward_14 : decode cM_onward 14 = .ok (.iload_n 1, 1) := by decide +kernel
theorem dM_onward_15 : decode cM_onward 15 = .ok (.iload 4, 2) := by decide +kernel
theorem dM_onward_17 : decode cM_onward 17 = .ok (.invokevirtual 123, 3) := by decide +kernel
theorem dM_onward_20 : decode cM_onward 20 = .ok (.istore 5, 2) := by decide +kernel
theorem dM_onward_22 : decode cM_onward 22 = .ok (.iload 5, 2) := by decide +kernel
theorem dM_onward_24 : decode cM_onward 24 = .ok (.ifCond .lt 66, 3) := by decide +kernel
theorem dM_onward_27 : decode cM_onward 27 = .ok (.aload_n 0, 1) := by decide +kernel
theorem dM_onward_28 : decode cM_onward 28 = .ok (.getfield 29, 3) := by decide +kernel
theorem dM_onward_31 : decode cM_onward 31 = .ok (.sipush 576, 3) := by decide +kernel
theorem dM_onward_34 : decode cM_onward 34 = .ok (.iload_n 2, 1) := by decide +kernel
theorem dM_onward_35 : decode cM_onward 35 = .ok (.imul, 1) := by decide +kernel
theorem dM_onward_36 : decode cM_onward 36 = .ok (.iload 5, 2) := by decide +kernel
theorem dM_onward_38 : decode cM_onward 38 = .ok (.iadd, 1) := by decide +kernel
theorem dM_onward_39 : decode cM_onward 39 = .ok (.iaload, 1) := by decide +kernel
theorem dM_onward_40 : decode cM_onward 40 = .ok (.ldc 119, 2) := by decide +kernel
theorem dM_onward_42 : decode cM_onward 42 = .ok (.if_icmp .ge 48, 3) := by decide +kernel
theorem dM_onward_45 : decode cM_onward 45 = .ok (.aload_n 0, 1) := by decide +kernel
theorem dM_onward_46 : decode cM_onward 46 = .ok (.getfield 29, 3) := by decide +kernel
theorem dM_onward_49 : decode cM_onward 49 = .ok (.sipush 576, 3) := by decide +kernel
theorem dM_onward_52 : decode cM_onward 52 = .ok (.iload_n 2, 1) := by decide +kernel
theorem dM_onward_53 : decode cM_onward 53 = .ok (.imul, 1) := by decide +kernel
theorem dM_onward_54 : decode cM_onward 54 = .ok (.iload 5, 2) := by decide +kernel
theorem dM_onward_56 : decode cM_onward 56 = .ok (.iadd, 1) := by decide +kernel
theorem dM_onward_57 : decode cM_onward 57 = .ok (.iaload, 1) := by decide +kernel
theorem dM_onward_58 : decode cM_onward 58 = .ok (.aload_n 0, 1) := by decide +kernel
theorem dM_onward_59 : decode cM_onward 59 = .ok (.iload 5, 2) := by decide +kernel
theorem dM_onward_61 : decode cM_onward 61 = .ok (.invokevirtual 126, 3) := by decide +kernel
theorem dM_onward_64 : decode cM_onward 64 = .ok (.iadd, 1) := by decide +kernel
theorem dM_onward_65 : decode cM_onward 65 = .ok (.iload_n 3, 1) := by decide +kernel
theorem dM_onward_66 : decode cM_onward 66 = .ok (.if_icmp .ge 24, 3) := by decide +kernel
theorem dM_onward_69 : decode cM_onward 69 = .ok (.aload_n 0, 1) := by decide +kernel
theorem dM_onward_70 : decode cM_onward 70 = .ok (.getfield 29, 3) := by decide +kernel
theorem dM_onward_73 : decode cM_onward 73 = .ok (.sipush 576, 3) := by decide +kernel
theorem dM_onward_76 : decode cM_onward 76 = .ok (.iload_n 2, 1) := by decide +kernel
theorem dM_onward_77 : decode cM_onward 77 = .ok (.imul, 1) := by decide +kernel
theorem dM_onward_78 : decode cM_onward 78 = .ok (.iload 5, 2) := by decide +kernel
theorem dM_onward_80 : decode cM_onward 80 = .ok (.iadd, 1) := by decide +kernel
theorem dM_onward_81 : decode cM_onward 81 = .ok (.iaload, 1) := by decide +kernel
theorem dM_onward_82 : decode cM_onward 82 = .ok (.aload_n 0, 1) := by decide +kernel
theorem dM_onward_83 : decode cM_onward 83 = .ok (.iload 5, 2) := by decide +kernel
theorem dM_onward_85 : decode cM_onward 85 = .ok (.invokevirtual 126, 3) := by decide +kernel
theorem dM_onward_88 : decode cM_onward 88 = .ok (.iadd, 1) := by decide +kernel
theorem dM_onward_89 : decode cM_onward 89 = .ok (.istore_n 3, 1) := by decide +kernel
theorem dM_onward_90 : decode cM_onward 90 = .ok (.iinc 4 1, 3) := by decide +kernel
theorem dM_onward_93 : decode cM_onward 93 = .ok (.goto (-87), 3) := by decide +kernel
theorem dM_onward_96 : decode cM_onward 96 = .ok (.iload_n 3, 1) := by decide +kernel
theorem dM_onward_97 : decode cM_onward 97 = .ok (.ireturn, 1) := by decide +kernel
theorem dM_next_0 : decode cM_next 0 = .ok (.aload_n 0, 1) := by decide +kernel
theorem dM_next_1 : decode cM_next 1 = .ok (.iload_n 1, 1) := by decide +kernel
theorem dM_next_2 : decode cM_next 2 = .ok (.iload_n 2, 1) := by decide +kernel
theorem dM_next_3 : decode cM_next 3 = .ok (.invokevirtual 120, 3) := by decide +kernel
theorem dM_next_6 : decode cM_next 6 = .ok (.istore_n 3, 1) := by decide +kernel
theorem dM_next_7 : decode cM_next 7 = .ok (.iconst 0, 1) := by decide +kernel
theorem dM_next_8 : decode cM_next 8 = .ok (.istore 4, 2) := by decide +kernel
theorem dM_next_10 : decode cM_next 10 = .ok (.iload 4, 2) := by decide +kernel
theorem dM_next_12 : decode cM_next 12 = .ok (.bipush 6, 2) := by decide +kernel
theorem dM_next_14 : decode cM_next 14 = .ok (.if_icmp .ge 74, 3) := by decide +kernel
theorem dM_next_17 : decode cM_next 17 = .ok (.iload_n 3, 1) := by decide +kernel
theorem dM_next_18 : decode cM_next 18 = .ok (.ldc 119, 2) := by decide +kernel
theorem dM_next_20 : decode cM_next 20 = .ok (.if_icmp .ge 68, 3) := by decide +kernel
theorem dM_next_23 : decode cM_next 23 = .ok (.aload_n 0, 1) := by decide +kernel
theorem dM_next_24 : decode cM_next 24 = .ok (.iload_n 1, 1) := by decide +kernel
theorem dM_next_25 : decode cM_next 25 = .ok (.iload 4, 2) := by decide +kernel
theorem dM_next_27 : decode cM_next 27 = .ok (.invokevirtual 123, 3) := by decide +kernel
theorem dM_next_30 : decode cM_next 30 = .ok (.istore 5, 2) := by decide +kernel
theorem dM_next_32 : decode cM_next 32 = .ok (.iload 5, 2) := by decide +kernel
theorem dM_next_34 : decode cM_next 34 = .ok (.ifCond .lt 48, 3) := by decide +kernel
theorem dM_next_37 : decode cM_next 37 = .ok (.aload_n 0, 1) := by decide +kernel
theorem dM_next_38 : decode cM_next 38 = .ok (.getfield 29, 3) := by decide +kernel
theorem dM_next_41 : decode cM_next 41 = .ok (.sipush 576, 3) := by decide +kernel
theorem dM_next_44 : decode cM_next 44 = .ok (.iload_n 2, 1) := by decide +kernel
theorem dM_next_45 : decode cM_next 45 = .ok (.imul, 1) := by decide +kernel
theorem dM_next_46 : decode cM_next 46 = .ok (.iload 5, 2) := by decide +kernel
theorem dM_next_48 : decode cM_next 48 = .ok (.iadd, 1) := by decide +kernel
theorem dM_next_49 : decode cM_next 49 = .ok (.iaload, 1) := by decide +kernel
theorem dM_next_50 : decode cM_next 50 = .ok (.ldc 119, 2) := by decide +kernel
theorem dM_next_52 : decode cM_next 52 = .ok (.if_icmp .ge 30, 3) := by decide +kernel
theorem dM_next_55 : decode cM_next 55 = .ok (.aload_n 0, 1) := by decide +kernel
theorem dM_next_56 : decode cM_next 56 = .ok (.getfield 29, 3) := by decide +kernel
theorem dM_next_59 : decode cM_next 59 = .ok (.sipush 576, 3) := by decide +kernel
theorem dM_next_62 : decode cM_next 62 = .ok (.iload_n 2, 1) := by decide +kernel
theorem dM_next_63 : decode cM_next 63 = .ok (.imul, 1) := by decide +kernel
theorem dM_next_64 : decode cM_next 64 = .ok (.iload 5, 2) := by decide +kernel
theorem dM_next_66 : decode cM_next 66 = .ok (.iadd, 1) := by decide +kernel
theorem dM_next_67 : decode cM_next 67 = .ok (.iaload, 1) := by decide +kernel
theorem dM_next_68 : decode cM_next 68 = .ok (.aload_n 0, 1) := by decide +kernel
theorem dM_next_69 : decode cM_next 69 = .ok (.iload 5, 2) := by decide +kernel
theorem dM_next_71 : decode cM_next 71 = .ok (.invokevirtual 126, 3) := by decide +kernel
theorem dM_next_74 : decode cM_next 74 = .ok (.iadd, 1) := by decide +kernel
theorem dM_next_75 : decode cM_next 75 = .ok (.iload_n 3, 1) := by decide +kernel
theorem dM_next_76 : decode cM_next 76 = .ok (.if_icmp .ne 6, 3) := by decide +kernel
theorem dM_next_79 : decode cM_next 79 = .ok (.iload 5, 2) := by decide +kernel
theorem dM_next_81 : decode cM_next 81 = .ok (.ireturn, 1) := by decide +kernel
theorem dM_next_82 : decode cM_next 82 = .ok (.iinc 4 1, 3) := by decide +kernel
theorem dM_next_85 : decode cM_next 85 = .ok (.goto (-75), 3) := by decide +kernel
theorem dM_next_88 : decode cM_next 88 = .ok (.iconst (-1), 1) := by decide +kernel
theorem dM_next_89 : decode cM_next 89 = .ok (.ireturn, 1) := by decide +kernel
theorem lmW_52 : Cond.methodLink R_W 52 yG_meets ∈ bigW := bw 507 (by decide +kernel) rfl
theorem lmW_56 : Cond.methodLink R_W 56 yS_place ∈ bigW := bw 508 (by decide +kernel) rfl
theorem lmW_59 : Cond.methodLink R_W 59 yS_otherEdge ∈ bigW := bw 514 (by decide +kernel) rfl
theorem lmW_62 : Cond.methodLink R_W 62 yS_run ∈ bigW := bw 479 (by decide +kernel) rfl
theorem lmW_68 : Cond.methodLink R_W 68 yW_rest ∈ bigW := bw 515 (by decide +kernel) rfl
theorem lcW_51 : Cond.constant R_W 51 (Int32.ofInt 1048576) ∈ bigW := bw 475 (by decide +kernel) rfl
theorem lmM_123 : Cond.methodLink R_M 123 yM_behind ∈ bigW := bw 767 (by decide +kernel) rfl
theorem lfM_29 : Cond.fieldLink R_M 29 "RailYardModel" "far" "[I" ∈ bigW := bw 641 (by decide +kernel) rfl
theorem lcM_119 : Cond.constant R_M 119 (Int32.ofInt 1000000000) ∈ bigW := bw 762 (by decide +kernel) rfl
theorem lmM_126 : Cond.methodLink R_M 126 yM_cost ∈ bigW := bw 792 (by decide +kernel) rfl
theorem lmM_120 : Cond.methodLink R_M 120 yM_onward ∈ bigW := bw 763 (by decide +kernel) rfl
theorem miW_rest : MI yW_rest cW_rest 4 (some .int) 3 := ⟨bw 518 (by decide +kernel) rfl, bw 40 (by decide +kernel) rfl, ⟨by decide +kernel, by decide +kernel⟩, by decide +kernel, by decide⟩
theorem mvW_rest : MV yW_rest := ⟨bw 516 (by decide +kernel) rfl, bw 517 (by decide +kernel) rfl⟩
theorem miM_behind : MI yM_behind cM_behind 7 (some .int) 2 := ⟨bw 770 (by decide +kernel) rfl, bw 48 (by decide +kernel) rfl, ⟨by decide +kernel, by decide +kernel⟩, by decide +kernel, by decide⟩
theorem mvM_behind : MV yM_behind := ⟨bw 769 (by decide +kernel) rfl, bw 17 (by decide +kernel) rfl⟩
theorem miM_cost : MI yM_cost cM_cost 2 (some .int) 1 := ⟨bw 795 (by decide +kernel) rfl, bw 48 (by decide +kernel) rfl, ⟨by decide +kernel, by decide +kernel⟩, by decide +kernel, by decide⟩
theorem mvM_cost : MV yM_cost := ⟨bw 794 (by decide +kernel) rfl, bw 21 (by decide +kernel) rfl⟩
theorem miM_onward : MI yM_onward cM_onward 6 (some .int) 2 := ⟨bw 766 (by decide +kernel) rfl, bw 48 (by decide +kernel) rfl, ⟨by decide +kernel, by decide +kernel⟩, by decide +kernel, by decide⟩
theorem mvM_onward : MV yM_onward := ⟨bw 765 (by decide +kernel) rfl, bw 16 (by decide +kernel) rfl⟩
/-- the ways on from run x: tile, entry, the run on over piece p, its sum -/
noncomputable def nxT (w : RW) (x : Int) : Int := acr (w 2 0) (w 2 1) (x % 64) (x / 512)
def nxE (x : Int) : Int := (x / 512 + 2) % 4
def nxP (w : RW) (x p : Int) : Prop := tb (w 3 (nxT w x)) p ∧ hsE p (nxE x)
noncomputable def nxR (w : RW) (x p : Int) : Int := nxT w x + 64 * p + 512 * otE p (nxE x)
def rsT (w : RW) (s g x : Int) : Int := if x % 512 = g then 0 else w (65 + s.toNat) (x % 64 + 64 * (x / 512))
noncomputable def nxS (w : RW) (s g x p : Int) : Int := gco (w 4 (nxR w x p % 512)) (nxR w x p) + rsT w s g (nxR w x p)
/-- the best of the first n pieces -/
def nxB (w : RW) (s g x n b z : Int) : Prop := (b = -1 ∧ z = 1048576 ∧ ∀ p, 0 ≤ p → p < n → nxP w x p → 1048576 ≤ nxS w s g x p) ∨ ∃ p, 0 ≤ p ∧ p < n ∧ nxP w x p ∧ b = nxR w x p ∧ z = nxS w s g x p ∧ z < 1048576 ∧ (∀ j, 0 ≤ j → j < n → nxP w x j → z ≤ nxS w s g x j) ∧ ∀ j, 0 ≤ j → j < p → nxP w x j → z < nxS w s g x j
theorem nxB_keep {w : RW} {s g x n b z : Int} (h : nxB w s g x n b z) (hk : nxP w x n → z ≤ nxS w s g x n) : nxB w s g x (n + 1) b z := by
  rcases h with ⟨h1, h2, h3⟩ | ⟨p, h1, h2, h3, h4, h5, h6, h7, h8⟩
  · refine Or.inl ⟨h1, h2, fun j j1 j2 j3 => ?_⟩
    by_cases hj : j = n
    · rw [hj] at j3 ⊢; have := hk j3; omega
    · exact h3 j j1 (by omega) j3
  · refine Or.inr ⟨p, h1, by omega, h3, h4, h5, h6, fun j j1 j2 j3 => ?_, h8⟩
    by_cases hj : j = n
    · rw [hj] at j3 ⊢; exact hk j3
    · exact h7 j j1 (by omega) j3
theorem nxB_new {w : RW} {s g x n b z : Int} (h0 : 0 ≤ n) (h : nxB w s g x n b z) (hp : nxP w x n) (hz : nxS w s g x n < z) : nxB w s g x (n + 1) (nxR w x n) (nxS w s g x n) := by
  rcases h with ⟨h1, h2, h3⟩ | ⟨p, h1, h2, h3, h4, h5, h6, h7, h8⟩
  · refine Or.inr ⟨n, h0, by omega, hp, rfl, rfl, by omega, fun j j1 j2 j3 => ?_, fun j j1 j2 j3 => ?_⟩
    · by_cases hj : j = n
      · rw [hj]; omega
      · have := h3 j j1 (by omega) j3; omega
    · have := h3 j j1 j2 j3; omega
  · refine Or.inr ⟨n, h0, by omega, hp, rfl, rfl, by omega, fun j j1 j2 j3 => ?_, fun j j1 j2 j3 => ?_⟩
    · by_cases hj : j = n
      · rw [hj]; omega
      · have := h7 j j1 (by omega) j3; omega
    · have := h7 j j1 j2 j3; omega
def nxQ (w : RW) (s g x b : Int) : Prop := (nxT w x = -1 ∧ b = -1) ∨ (¬ nxT w x = -1 ∧ ∃ z, nxB w s g x 6 b z)
/-- the run on is a run -/
theorem nxR_ok {w : RW} {x p : Int} (hx : 0 ≤ x) (hT : 0 ≤ nxT w x ∧ nxT w x < 48) (hp : 0 ≤ p ∧ p < 6) (h : hsE p (nxE x)) : okR (nxR w x p) ∧ nxR w x p % 64 = nxT w x ∧ nxR w x p % 512 / 64 = p ∧ nxR w x p / 512 = otE p (nxE x) ∧ nxR w x p % 512 = nxT w x + 64 * p := by
  have hO := otE_rng hp h
  have e1 : nxR w x p % 64 = nxT w x := by unfold nxR; omega
  have e2 : nxR w x p % 512 / 64 = p := by unfold nxR; omega
  have e3 : nxR w x p / 512 = otE p (nxE x) := by unfold nxR; omega
  have e4 : nxR w x p % 512 = nxT w x + 64 * p := by unfold nxR; omega
  refine ⟨⟨by unfold nxR; omega, by omega, by omega, by omega, ?_⟩, e1, e2, e3, e4⟩
  rw [e2, e3]
  unfold hsE otE
  unfold hsE at h
  omega
theorem lpW_next {G : vG} {X : vX} {Q : State → Prop} {w : RW} {s g x : Int} (hx : okR x) (hs : 0 ≤ s ∧ s < 6) (hb : w 2 0 ≤ 8 ∧ w 2 1 ≤ 6) (hw : ∀ t, 0 ≤ t → t < 48 → 0 ≤ w 3 t) (hl : ∀ p, 0 ≤ p → p < 384 → 0 ≤ w 4 p) (hr0 : ∀ e, 0 ≤ e → e < 256 → 0 ≤ w (65 + s.toNat) e ∧ w (65 + s.toNat) e ≤ 1048576) (F : FX G X cW_next yW_next.cls 12 2) (hR : RetI G X cW_next 12 Q (fun r u => nxQ w s g x r ∧ w = u)) (hne : ¬ nxT w x = -1) : ∀ (m : Nat) (i b z : Int) (o1 o2 : Option RV), 0 ≤ i → i ≤ 6 → 6 - i < m → nxB w s g x i b z → V G X 12 Q 33 [some (.inr 63), some (.inr 2), some (.inl x), some (.inl s), some (.inl g), some (.inl (nxT w x)), some (.inl (nxE x)), some (.inl b), some (.inl z), some (.inl i), o1, o2] [] w := by
  have hT : nxT w x = -1 ∨ (0 ≤ nxT w x ∧ nxT w x < 48) := acr_rng (by omega) (by omega)
  have hE : 0 ≤ nxE x ∧ nxE x < 4 := by unfold nxE; omega
  intro m
  induction m with
  | zero => intro i b z o1 o2 h1 h2 h3; omega
  | succ m ih =>
    intro i b z o1 o2 h1 h2 h3 hB
    refine V_iload F dW_next_33 rfl ?_
    refine V_bipush F dW_next_35 (by decide) ?_
    refine V_icmp_ge F 117 dW_next_37 (by decide) (fun h37 => ?_) (fun h37 => ?_)
    · first | (replace h37 := bz_ne0.mp h37) | (replace h37 := bz_eq0.mp h37) | skip
      refine V_iload F dW_next_117 rfl ?_
      exact hR _ _ _ _ dW_next_119 (by first | exact ⟨Or.inr ⟨hne, z, by rw [show (6 : Int) = i by omega]; exact hB⟩, rfl⟩ | exact absurd h43 hne)
    · first | (replace h37 := bz_ne0.mp h37) | (replace h37 := bz_eq0.mp h37) | skip
      refine V_iload F dW_next_40 rfl ?_
      refine V_iconst F dW_next_42 (by decide) ?_
      refine V_icmp_eq F 117 dW_next_43 (by decide) (fun h43 => ?_) (fun h43 => ?_)
      · first | (replace h43 := bz_ne0.mp h43) | (replace h43 := bz_eq0.mp h43) | skip
        refine V_iload F dW_next_117 rfl ?_
        exact hR _ _ _ _ dW_next_119 (by first | exact ⟨Or.inr ⟨hne, z, by rw [show (6 : Int) = i by omega]; exact hB⟩, rfl⟩ | exact absurd h43 hne)
      · first | (replace h43 := bz_ne0.mp h43) | (replace h43 := bz_eq0.mp h43) | skip
        refine V_aload_n (i := 1) F dW_next_46 rfl rfl ?_
        refine V_iload F dW_next_47 rfl ?_
        refine V_iload F dW_next_49 rfl ?_
        refine V_iload F dW_next_51 rfl ?_
        refine V_callVi F dW_next_53 lmW_52 miG_meets mvG_meets (ctG_meets (by omega) (by omega) (hw _ (by omega) (by omega))) (by decide) (by first | rfl | assumption) rfl rfl (Nat.le_of_ble_eq_true rfl) (fun r u hr => ?_)
        obtain ⟨rfl, rfl⟩ := hr
        refine V_if_eq F 111 dW_next_56 (by decide) (fun h56 => ?_) (fun h56 => ?_)
        · first | (replace h56 := bz_ne0.mp h56) | (replace h56 := bz_eq0.mp h56) | skip
          refine V_iinc F dW_next_111 (by decide) rfl (by omega) (by simp only [List.set_cons_zero, List.set_cons_succ]; exact rfl) ?_
          refine V_goto F 33 dW_next_114 (by decide) ?_
          first
          | exact ih (i + 1) _ _ _ _ (by omega) (by omega) (by omega) (nxB_keep hB (fun q => absurd q h56))
          | exact ih (i + 1) _ _ _ _ (by omega) (by omega) (by omega) (nxB_keep hB (fun _ => by omega))
          | exact ih (i + 1) _ _ _ _ (by omega) (by omega) (by omega) (nxB_new (by omega) hB h56 (by omega))
        · first | (replace h56 := bz_ne0.mp h56) | (replace h56 := bz_eq0.mp h56) | skip
          obtain ⟨hok, e1, e2, e3, e4⟩ := nxR_ok (w := w) (x := x) (p := i) (by unfold okR at hx; omega) (by omega) (by omega) h56.2
          obtain ⟨y1, y2, y3, y4, y5⟩ := hok
          have hO := otE_rng (p := i) (by omega) h56.2
          refine V_iload F dW_next_59 rfl ?_
          refine V_iload F dW_next_61 rfl ?_
          refine V_callSi F dW_next_63 lmW_56 miS_place msS_place (ctS_place (by omega)) (by decide) rfl (Nat.le_of_ble_eq_true rfl) (fun r u hr => ?_)
          obtain ⟨rfl, rfl⟩ := hr
          refine V_iload F dW_next_66 rfl ?_
          refine V_iload F dW_next_68 rfl ?_
          refine V_callSi F dW_next_70 lmW_59 miS_otherEdge msS_otherEdge (ctS_otherEdge (by omega) (by omega)) (by decide) rfl (Nat.le_of_ble_eq_true rfl) (fun r u hr => ?_)
          obtain ⟨rfl, rfl⟩ := hr
          refine V_callSi F dW_next_73 lmW_62 miS_run msS_run (ctS_run (by omega)) (by decide) rfl (Nat.le_of_ble_eq_true rfl) (fun r u hr => ?_)
          obtain ⟨rfl, rfl⟩ := hr
          show V _ _ _ _ _ _ (.inl (nxR w x i) :: _) _
          refine V_istore F dW_next_76 (by decide) (by simp only [List.set_cons_zero, List.set_cons_succ]; exact rfl) ?_
          refine V_aload_n (i := 1) F dW_next_78 rfl rfl ?_
          refine V_iload F dW_next_79 rfl ?_
          refine V_callVi F dW_next_81 lmW_65 miG_cost mvG_cost (ctG_cost (by omega) (by omega) (hl _ (by omega) (by omega))) (by decide) (by first | rfl | assumption) rfl rfl (Nat.le_of_ble_eq_true rfl) (fun r u hr => ?_)
          obtain ⟨rfl, rfl⟩ := hr
          refine V_aload_n (i := 0) F dW_next_84 rfl rfl ?_
          refine V_iload F dW_next_85 rfl ?_
          refine V_iload_n (i := 3) F dW_next_87 rfl rfl ?_
          refine V_iload F dW_next_88 rfl ?_
          refine V_callVi F dW_next_90 lmW_68 miW_rest mvW_rest (ctW_rest (by omega) hs) (by decide) (by first | rfl | assumption) rfl rfl (Nat.le_of_ble_eq_true rfl) (fun r u hr => ?_)
          obtain ⟨rfl, rfl⟩ := hr
          show V _ _ _ _ _ _ (.inl (rsT w s g (nxR w x i)) :: _) _
          have hg := gco_rng (lit := w 4 (nxR w x i % 512)) (x := nxR w x i)
          have hrs : 0 ≤ rsT w s g (nxR w x i) ∧ rsT w s g (nxR w x i) ≤ 1048576 := by
            unfold rsT
            split
            · omega
            · exact hr0 _ (by omega) (by omega)
          refine V_iadd F dW_next_93 (by omega) ?_
          refine V_istore F dW_next_94 (by decide) (by simp only [List.set_cons_zero, List.set_cons_succ]; exact rfl) ?_
          show V _ _ _ _ _ [_, _, _, _, _, _, _, _, _, _, _, some (.inl (nxS w s g x i))] _ _
          refine V_iload F dW_next_96 rfl ?_
          refine V_iload F dW_next_98 rfl ?_
          refine V_icmp_ge F 111 dW_next_100 (by decide) (fun h100 => ?_) (fun h100 => ?_)
          · first | (replace h100 := bz_ne0.mp h100) | (replace h100 := bz_eq0.mp h100) | skip
            refine V_iinc F dW_next_111 (by decide) rfl (by omega) (by simp only [List.set_cons_zero, List.set_cons_succ]; exact rfl) ?_
            refine V_goto F 33 dW_next_114 (by decide) ?_
            first
            | exact ih (i + 1) _ _ _ _ (by omega) (by omega) (by omega) (nxB_keep hB (fun q => absurd q h56))
            | exact ih (i + 1) _ _ _ _ (by omega) (by omega) (by omega) (nxB_keep hB (fun _ => by omega))
            | exact ih (i + 1) _ _ _ _ (by omega) (by omega) (by omega) (nxB_new (by omega) hB h56 (by omega))
          · first | (replace h100 := bz_ne0.mp h100) | (replace h100 := bz_eq0.mp h100) | skip
            refine V_iload F dW_next_103 rfl ?_
            refine V_istore F dW_next_105 (by decide) (by simp only [List.set_cons_zero, List.set_cons_succ]; exact rfl) ?_
            refine V_iload F dW_next_107 rfl ?_
            refine V_istore F dW_next_109 (by decide) (by simp only [List.set_cons_zero, List.set_cons_succ]; exact rfl) ?_
            refine V_iinc F dW_next_111 (by decide) rfl (by omega) (by simp only [List.set_cons_zero, List.set_cons_succ]; exact rfl) ?_
            refine V_goto F 33 dW_next_114 (by decide) ?_
            first
            | exact ih (i + 1) _ _ _ _ (by omega) (by omega) (by omega) (nxB_keep hB (fun q => absurd q h56))
            | exact ih (i + 1) _ _ _ _ (by omega) (by omega) (by omega) (nxB_keep hB (fun _ => by omega))
            | exact ih (i + 1) _ _ _ _ (by omega) (by omega) (by omega) (nxB_new (by omega) hB h56 (by omega))
theorem ctW_next {G : vG} {l : Launch} {w : RW} {s g x : Int} (hx : okR x) (hs : 0 ≤ s ∧ s < 6) (hb : w 2 0 ≤ 8 ∧ w 2 1 ≤ 6) (hw : ∀ t, 0 ≤ t → t < 48 → 0 ≤ w 3 t) (hl : ∀ p, 0 ≤ p → p < 384 → 0 ≤ w 4 p) (hr0 : ∀ e, 0 ≤ e → e < 256 → 0 ≤ w (65 + s.toNat) e ∧ w (65 + s.toNat) e ≤ 1048576) : CTi G l yW_next cW_next 12 .int 2 [.inr 63, .inr 2, .inl x, .inl s, .inl g] w (fun r u => nxQ w s g x r ∧ w = u) := by
  refine CTi.int (by decide) (Nat.le_of_ble_eq_true rfl) ?_
  intro X Q F hX hR
  subst hX
  show V G X 12 Q 0 [some (.inr 63), some (.inr 2), some (.inl x), some (.inl s), some (.inl g), none, none, none, none, none, none, none] [] w
  have hx0 := hx
  obtain ⟨x1, x2, x3, x4, x5⟩ := hx
  refine V_aload_n (i := 1) F dW_next_0 rfl rfl ?_
  refine V_iload_n (i := 2) F dW_next_1 rfl rfl ?_
  refine V_callSi F dW_next_2 lmW_33 miS_tileOf msS_tileOf (ctS_tileOf (by omega)) (by decide) rfl (Nat.le_of_ble_eq_true rfl) (fun r u hr => ?_)
  obtain ⟨rfl, rfl⟩ := hr
  refine V_iload_n (i := 2) F dW_next_5 rfl rfl ?_
  refine V_callSi F dW_next_6 lmW_36 miS_edgeOf msS_edgeOf (ctS_edgeOf (by omega)) (by decide) rfl (Nat.le_of_ble_eq_true rfl) (fun r u hr => ?_)
  obtain ⟨rfl, rfl⟩ := hr
  refine V_callVi F dW_next_9 lmW_43 miG_across mvG_across (ctG_across (by omega) (by omega)) (by decide) (by first | rfl | assumption) rfl rfl (Nat.le_of_ble_eq_true rfl) (fun r u hr => ?_)
  obtain ⟨rfl, rfl⟩ := hr
  show V _ _ _ _ _ _ (.inl (nxT w x) :: _) _
  refine V_istore F dW_next_12 (by decide) (by simp only [List.set_cons_zero, List.set_cons_succ]; exact rfl) ?_
  refine V_iload_n (i := 2) F dW_next_14 rfl rfl ?_
  refine V_callSi F dW_next_15 lmW_36 miS_edgeOf msS_edgeOf (ctS_edgeOf (by omega)) (by decide) rfl (Nat.le_of_ble_eq_true rfl) (fun r u hr => ?_)
  obtain ⟨rfl, rfl⟩ := hr
  refine V_callSi F dW_next_18 lmW_48 miS_opposite msS_opposite (ctS_opposite (by omega)) (by decide) rfl (Nat.le_of_ble_eq_true rfl) (fun r u hr => ?_)
  obtain ⟨rfl, rfl⟩ := hr
  show V _ _ _ _ _ _ (.inl (nxE x) :: _) _
  refine V_istore F dW_next_21 (by decide) (by simp only [List.set_cons_zero, List.set_cons_succ]; exact rfl) ?_
  refine V_iconst F dW_next_23 (by decide) ?_
  refine V_istore F dW_next_24 (by decide) (by simp only [List.set_cons_zero, List.set_cons_succ]; exact rfl) ?_
  refine V_ldc F dW_next_26 lcW_51 ⟨by decide, by decide⟩ ?_
  refine V_istore F dW_next_28 (by decide) (by simp only [List.set_cons_zero, List.set_cons_succ]; exact rfl) ?_
  refine V_iconst F dW_next_30 (by decide) ?_
  refine V_istore F dW_next_31 (by decide) (by simp only [List.set_cons_zero, List.set_cons_succ]; exact rfl) ?_
  by_cases hne : nxT w x = -1
  rotate_left
  · exact lpW_next hx0 hs hb hw hl hr0 F hR hne 7 0 _ _ _ _ (by omega) (by omega) (by omega) (Or.inl ⟨rfl, rfl, fun p p1 p2 => by omega⟩)
  refine V_iload F dW_next_33 rfl ?_
  refine V_bipush F dW_next_35 (by decide) ?_
  refine V_icmp_ge F 117 dW_next_37 (by decide) (fun h37 => by first | omega | contradiction) (fun h37 => ?_)
  refine V_iload F dW_next_40 rfl ?_
  refine V_iconst F dW_next_42 (by decide) ?_
  refine V_icmp_eq F 117 dW_next_43 (by decide) (fun h43 => ?_) (fun h43 => by first | omega | contradiction)
  refine V_iload F dW_next_117 rfl ?_
  exact hR _ _ _ _ dW_next_119 (⟨Or.inl ⟨hne, rfl⟩, rfl⟩)
theorem bhd_rng {w : RW} {q k : Int} (hm : mOK w) (hk : 0 ≤ k ∧ k < 6) : bhd w q k = -1 ∨ (0 ≤ bhd w q k ∧ bhd w q k < 576) := by
  have hm1 := hm.1
  have hT : bhT w q = -1 ∨ (0 ≤ bhT w q ∧ bhT w q < 48) := acr_rng (by omega) (by omega)
  unfold bhd
  by_cases h : 0 ≤ bhT w q ∧ ¬ w 78 (6 * bhT w q + k) = 0 ∧ hsE k ((eoQ q + 2) % 4) ∧ opQ (w 79 (bhB w q k / 2)) (bhB w q k)
  · rw [cif_t h]
    right
    have := h.1
    unfold bhB
    split <;> omega
  · rw [cif_f h]
    exact Or.inl rfl
theorem mco_rng {m q : Int} : 7 ≤ mco m q ∧ mco m q ≤ 15 := by
  unfold mco
  by_cases h : tb m (q % 2)
  · rw [cif_t h]; split <;> omega
  · rw [cif_f h]; split <;> omega
/-- far's numbers are in their range -/
def frR (w : RW) (s : Int) : Prop := ∀ q, 0 ≤ q → q < 576 → 0 ≤ w 84 (576 * s + q) ∧ w 84 (576 * s + q) ≤ 1000000000
noncomputable def onS6 (w : RW) (s q k : Int) : Int := w 84 (576 * s + bhd w q k) + mco (w 79 (bhd w q k / 2)) (bhd w q k)
def onV (w : RW) (s q k : Int) : Prop := 0 ≤ bhd w q k ∧ w 84 (576 * s + bhd w q k) < 1000000000
/-- the least sum over the first n ways on -/
def onP (w : RW) (s q n r : Int) : Prop := (0 ≤ r ∧ r ≤ 1000000000) ∧ (∀ k, 0 ≤ k → k < n → onV w s q k → r ≤ onS6 w s q k) ∧ (r < 1000000000 → ∃ k, 0 ≤ k ∧ k < n ∧ onV w s q k ∧ r = onS6 w s q k)
theorem onP_keep {w : RW} {s q n r : Int} (h : onP w s q n r) (hk : onV w s q n → r ≤ onS6 w s q n) : onP w s q (n + 1) r := by
  refine ⟨h.1, fun k k1 k2 k3 => ?_, fun hr => ?_⟩
  · by_cases e : k = n
    · rw [e] at k3 ⊢; exact hk k3
    · exact h.2.1 k k1 (by omega) k3
  · obtain ⟨k, k1, k2, k3⟩ := h.2.2 hr
    exact ⟨k, k1, by omega, k3⟩
theorem onP_new {w : RW} {s q n r : Int} (h0 : 0 ≤ n) (h : onP w s q n r) (hv : onV w s q n) (hp : 0 ≤ onS6 w s q n) (hr : onS6 w s q n < r) : onP w s q (n + 1) (onS6 w s q n) := by
  refine ⟨by have := h.1; omega, fun k k1 k2 k3 => ?_, fun _ => ⟨n, h0, by omega, hv, rfl⟩⟩
  by_cases e : k = n
  · rw [e]; omega
  · have := h.2.1 k k1 (by omega) k3; omega
theorem lpM_onward {G : vG} {X : vX} {Q : State → Prop} {w : RW} {s q : Int} (hq : 0 ≤ q ∧ q < 576) (hs : 0 ≤ s ∧ s < 6) (hm : mOK w) (hf : frR w s) (F : FX G X cM_onward yM_onward.cls 6 3) (hR : RetI G X cM_onward 6 Q (fun r u => onP w s q 6 r ∧ w = u)) : ∀ (m : Nat) (i r : Int) (o : Option RV), 0 ≤ i → i ≤ 6 → 6 - i < m → onP w s q i r → V G X 6 Q 6 [some (.inr 77), some (.inl q), some (.inl s), some (.inl r), some (.inl i), o] [] w := by
  intro m
  induction m with
  | zero => intro i r o h1 h2 h3; omega
  | succ m ih =>
    intro i r o h1 h2 h3 hP
    refine V_iload F dM_onward_6 rfl ?_
    refine V_bipush F dM_onward_8 (by decide) ?_
    refine V_icmp_ge F 96 dM_onward_10 (by decide) (fun h10 => ?_) (fun h10 => ?_)
    · first | (replace h10 := bz_ne0.mp h10) | (replace h10 := bz_eq0.mp h10) | skip
      refine V_iload_n (i := 3) F dM_onward_96 rfl rfl ?_
      exact hR _ _ _ _ dM_onward_97 (by rw [show i = 6 by omega] at hP; exact ⟨hP, rfl⟩)
    · first | (replace h10 := bz_ne0.mp h10) | (replace h10 := bz_eq0.mp h10) | skip
      have hB := bhd_rng (q := q) hm (show 0 ≤ i ∧ i < 6 by omega)
      have hc := mco_rng (m := w 79 (bhd w q i / 2)) (q := bhd w q i)
      refine V_aload_n (i := 0) F dM_onward_13 rfl rfl ?_
      refine V_iload_n (i := 1) F dM_onward_14 rfl rfl ?_
      refine V_iload F dM_onward_15 rfl ?_
      refine V_callVi F dM_onward_17 lmM_123 miM_behind mvM_behind (ctM_behind hq (by omega) hm) (by decide) (by first | rfl | assumption) rfl rfl (Nat.le_of_ble_eq_true rfl) (fun r u hr => ?_)
      obtain ⟨rfl, rfl⟩ := hr
      refine V_istore F dM_onward_20 (by decide) (by simp only [List.set_cons_zero, List.set_cons_succ]; exact rfl) ?_
      refine V_iload F dM_onward_22 rfl ?_
      refine V_if_lt F 90 dM_onward_24 (by decide) (fun h24 => ?_) (fun h24 => ?_)
      · first | (replace h24 := bz_ne0.mp h24) | (replace h24 := bz_eq0.mp h24) | skip
        refine V_iinc F dM_onward_90 (by decide) rfl (by omega) (by simp only [List.set_cons_zero, List.set_cons_succ]; exact rfl) ?_
        refine V_goto F 6 dM_onward_93 (by decide) ?_
        first
        | exact ih (i + 1) _ _ (by omega) (by omega) (by omega) (onP_keep hP (fun z => by have := z.1; omega))
        | exact ih (i + 1) _ _ (by omega) (by omega) (by omega) (onP_keep hP (fun z => by have := z.2; omega))
        | exact ih (i + 1) _ _ (by omega) (by omega) (by omega) (onP_keep hP (fun z => by omega))
        | exact ih (i + 1) _ _ (by omega) (by omega) (by omega) (onP_new (by omega) hP ⟨by omega, by omega⟩ (by omega) (by omega))
      · first | (replace h24 := bz_ne0.mp h24) | (replace h24 := bz_eq0.mp h24) | skip
        have hfr := hf (bhd w q i) (by omega) (by omega)
        have hS : onS6 w s q i = w 84 (576 * s + bhd w q i) + mco (w 79 (bhd w q i / 2)) (bhd w q i) := rfl
        refine V_aload_n (i := 0) F dM_onward_27 rfl rfl ?_
        refine V_getr (ci := 7) (C := R_M) (T := T_M) (N := 32) F dM_onward_28 (by first | rfl | assumption) rfl (j := 9) (by decide) rfl lfM_29 ?_
        refine V_sipush F dM_onward_31 (by decide) ?_
        refine V_iload_n (i := 2) F dM_onward_34 rfl rfl ?_
        refine V_imul F dM_onward_35 (by omega) ?_
        refine V_iload F dM_onward_36 rfl ?_
        refine V_iadd F dM_onward_38 (by omega) ?_
        first
          | refine V_sald F dM_onward_39 (by decide) (by omega) (stt_in _ _) ?_
          | refine V_iald F dM_onward_39 (by first | rfl | assumption) rfl (by omega) ?_
        refine V_ldc F dM_onward_40 lcM_119 ⟨by decide, by decide⟩ ?_
        refine V_icmp_ge F 90 dM_onward_42 (by decide) (fun h42 => ?_) (fun h42 => ?_)
        · first | (replace h42 := bz_ne0.mp h42) | (replace h42 := bz_eq0.mp h42) | skip
          refine V_iinc F dM_onward_90 (by decide) rfl (by omega) (by simp only [List.set_cons_zero, List.set_cons_succ]; exact rfl) ?_
          refine V_goto F 6 dM_onward_93 (by decide) ?_
          first
          | exact ih (i + 1) _ _ (by omega) (by omega) (by omega) (onP_keep hP (fun z => by have := z.1; omega))
          | exact ih (i + 1) _ _ (by omega) (by omega) (by omega) (onP_keep hP (fun z => by have := z.2; omega))
          | exact ih (i + 1) _ _ (by omega) (by omega) (by omega) (onP_keep hP (fun z => by omega))
          | exact ih (i + 1) _ _ (by omega) (by omega) (by omega) (onP_new (by omega) hP ⟨by omega, by omega⟩ (by omega) (by omega))
        · first | (replace h42 := bz_ne0.mp h42) | (replace h42 := bz_eq0.mp h42) | skip
          refine V_aload_n (i := 0) F dM_onward_45 rfl rfl ?_
          refine V_getr (ci := 7) (C := R_M) (T := T_M) (N := 32) F dM_onward_46 (by first | rfl | assumption) rfl (j := 9) (by decide) rfl lfM_29 ?_
          refine V_sipush F dM_onward_49 (by decide) ?_
          refine V_iload_n (i := 2) F dM_onward_52 rfl rfl ?_
          refine V_imul F dM_onward_53 (by omega) ?_
          refine V_iload F dM_onward_54 rfl ?_
          refine V_iadd F dM_onward_56 (by omega) ?_
          first
            | refine V_sald F dM_onward_57 (by decide) (by omega) (stt_in _ _) ?_
            | refine V_iald F dM_onward_57 (by first | rfl | assumption) rfl (by omega) ?_
          refine V_aload_n (i := 0) F dM_onward_58 rfl rfl ?_
          refine V_iload F dM_onward_59 rfl ?_
          refine V_callVi F dM_onward_61 lmM_126 miM_cost mvM_cost (ctM_cost (by omega) hm) (by decide) (by first | rfl | assumption) rfl rfl (Nat.le_of_ble_eq_true rfl) (fun r u hr => ?_)
          obtain ⟨rfl, rfl⟩ := hr
          refine V_iadd F dM_onward_64 (by omega) ?_
          refine V_iload_n (i := 3) F dM_onward_65 rfl rfl ?_
          refine V_icmp_ge F 90 dM_onward_66 (by decide) (fun h66 => ?_) (fun h66 => ?_)
          · first | (replace h66 := bz_ne0.mp h66) | (replace h66 := bz_eq0.mp h66) | skip
            refine V_iinc F dM_onward_90 (by decide) rfl (by omega) (by simp only [List.set_cons_zero, List.set_cons_succ]; exact rfl) ?_
            refine V_goto F 6 dM_onward_93 (by decide) ?_
            first
            | exact ih (i + 1) _ _ (by omega) (by omega) (by omega) (onP_keep hP (fun z => by have := z.1; omega))
            | exact ih (i + 1) _ _ (by omega) (by omega) (by omega) (onP_keep hP (fun z => by have := z.2; omega))
            | exact ih (i + 1) _ _ (by omega) (by omega) (by omega) (onP_keep hP (fun z => by omega))
            | exact ih (i + 1) _ _ (by omega) (by omega) (by omega) (onP_new (by omega) hP ⟨by omega, by omega⟩ (by omega) (by omega))
          · first | (replace h66 := bz_ne0.mp h66) | (replace h66 := bz_eq0.mp h66) | skip
            refine V_aload_n (i := 0) F dM_onward_69 rfl rfl ?_
            refine V_getr (ci := 7) (C := R_M) (T := T_M) (N := 32) F dM_onward_70 (by first | rfl | assumption) rfl (j := 9) (by decide) rfl lfM_29 ?_
            refine V_sipush F dM_onward_73 (by decide) ?_
            refine V_iload_n (i := 2) F dM_onward_76 rfl rfl ?_
            refine V_imul F dM_onward_77 (by omega) ?_
            refine V_iload F dM_onward_78 rfl ?_
            refine V_iadd F dM_onward_80 (by omega) ?_
            first
              | refine V_sald F dM_onward_81 (by decide) (by omega) (stt_in _ _) ?_
              | refine V_iald F dM_onward_81 (by first | rfl | assumption) rfl (by omega) ?_
            refine V_aload_n (i := 0) F dM_onward_82 rfl rfl ?_
            refine V_iload F dM_onward_83 rfl ?_
            refine V_callVi F dM_onward_85 lmM_126 miM_cost mvM_cost (ctM_cost (by omega) hm) (by decide) (by first | rfl | assumption) rfl rfl (Nat.le_of_ble_eq_true rfl) (fun r u hr => ?_)
            obtain ⟨rfl, rfl⟩ := hr
            refine V_iadd F dM_onward_88 (by omega) ?_
            refine V_istore_n (i := 3) F dM_onward_89 rfl (by decide) (by simp only [List.set_cons_zero, List.set_cons_succ]; exact rfl) ?_
            refine V_iinc F dM_onward_90 (by decide) rfl (by omega) (by simp only [List.set_cons_zero, List.set_cons_succ]; exact rfl) ?_
            refine V_goto F 6 dM_onward_93 (by decide) ?_
            first
            | exact ih (i + 1) _ _ (by omega) (by omega) (by omega) (onP_keep hP (fun z => by have := z.1; omega))
            | exact ih (i + 1) _ _ (by omega) (by omega) (by omega) (onP_keep hP (fun z => by have := z.2; omega))
            | exact ih (i + 1) _ _ (by omega) (by omega) (by omega) (onP_keep hP (fun z => by omega))
            | exact ih (i + 1) _ _ (by omega) (by omega) (by omega) (onP_new (by omega) hP ⟨by omega, by omega⟩ (by omega) (by omega))
theorem ctM_onward {G : vG} {l : Launch} {w : RW} {s q : Int} (hq : 0 ≤ q ∧ q < 576) (hs : 0 ≤ s ∧ s < 6) (hm : mOK w) (hf : frR w s) : CTi G l yM_onward cM_onward 6 .int 3 [.inr 77, .inl q, .inl s] w (fun r u => onP w s q 6 r ∧ w = u) := by
  refine CTi.int (by decide) (Nat.le_of_ble_eq_true rfl) ?_
  intro X Q F hX hR
  subst hX
  show V G X 6 Q 0 [some (.inr 77), some (.inl q), some (.inl s), none, none, none] [] w
  refine V_ldc F dM_onward_0 lcM_119 ⟨by decide, by decide⟩ ?_
  refine V_istore_n (i := 3) F dM_onward_2 rfl (by decide) (by simp only [List.set_cons_zero, List.set_cons_succ]; exact rfl) ?_
  refine V_iconst F dM_onward_3 (by decide) ?_
  refine V_istore F dM_onward_4 (by decide) (by simp only [List.set_cons_zero, List.set_cons_succ]; exact rfl) ?_
  exact lpM_onward hq hs hm hf F hR 7 0 _ _ (by omega) (by omega) (by omega) ⟨by omega, fun k k1 k2 => by omega, fun h => by omega⟩
def nxM (w : RW) (s q b : Int) : Prop := ∃ r, onP w s q 6 r ∧ ((r = 1000000000 ∧ b = -1) ∨ (r < 1000000000 ∧ ∃ k, 0 ≤ k ∧ k < 6 ∧ onV w s q k ∧ onS6 w s q k = r ∧ b = bhd w q k ∧ ∀ j, 0 ≤ j → j < k → onV w s q j → ¬ onS6 w s q j = r))
theorem lpM_next {G : vG} {X : vX} {Q : State → Prop} {w : RW} {s q : Int} (hq : 0 ≤ q ∧ q < 576) (hs : 0 ≤ s ∧ s < 6) (hm : mOK w) (hf : frR w s) (F : FX G X cM_next yM_next.cls 6 4) (hR : RetI G X cM_next 6 Q (fun b u => nxM w s q b ∧ w = u)) {r : Int} (hP : onP w s q 6 r) : ∀ (m : Nat) (i : Int) (o : Option RV), 0 ≤ i → i ≤ 6 → 6 - i < m → (∀ j, 0 ≤ j → j < i → onV w s q j → ¬ onS6 w s q j = r) → V G X 6 Q 10 [some (.inr 77), some (.inl q), some (.inl s), some (.inl r), some (.inl i), o] [] w := by
  intro m
  induction m with
  | zero => intro i o h1 h2 h3; omega
  | succ m ih =>
    intro i o h1 h2 h3 hn
    refine V_iload F dM_next_10 rfl ?_
    refine V_bipush F dM_next_12 (by decide) ?_
    refine V_icmp_ge F 88 dM_next_14 (by decide) (fun h14 => ?_) (fun h14 => ?_)
    · first | (replace h14 := bz_ne0.mp h14) | (replace h14 := bz_eq0.mp h14) | skip
      refine V_iconst F dM_next_88 (by decide) ?_
      exact hR _ _ _ _ dM_next_89 (by
        refine ⟨⟨r, hP, ?_⟩, rfl⟩
        by_cases hlt : r < 1000000000
        · first
          | exact Or.inr ⟨hlt, i, by omega, by omega, ⟨by omega, by omega⟩, by omega, rfl, hn⟩
          | (exfalso
             obtain ⟨k, k1, k2, k3, k4⟩ := hP.2.2 hlt
             exact hn k k1 (by omega) k3 k4.symm)
          | (exfalso; omega)
        · first
          | exact Or.inl ⟨by have := hP.1; omega, rfl⟩
          | (exfalso; omega))
    · first | (replace h14 := bz_ne0.mp h14) | (replace h14 := bz_eq0.mp h14) | skip
      refine V_iload_n (i := 3) F dM_next_17 rfl rfl ?_
      refine V_ldc F dM_next_18 lcM_119 ⟨by decide, by decide⟩ ?_
      refine V_icmp_ge F 88 dM_next_20 (by decide) (fun h20 => ?_) (fun h20 => ?_)
      · first | (replace h20 := bz_ne0.mp h20) | (replace h20 := bz_eq0.mp h20) | skip
        refine V_iconst F dM_next_88 (by decide) ?_
        exact hR _ _ _ _ dM_next_89 (by
          refine ⟨⟨r, hP, ?_⟩, rfl⟩
          by_cases hlt : r < 1000000000
          · first
            | exact Or.inr ⟨hlt, i, by omega, by omega, ⟨by omega, by omega⟩, by omega, rfl, hn⟩
            | (exfalso
               obtain ⟨k, k1, k2, k3, k4⟩ := hP.2.2 hlt
               exact hn k k1 (by omega) k3 k4.symm)
            | (exfalso; omega)
          · first
            | exact Or.inl ⟨by have := hP.1; omega, rfl⟩
            | (exfalso; omega))
      · first | (replace h20 := bz_ne0.mp h20) | (replace h20 := bz_eq0.mp h20) | skip
        have hB := bhd_rng (q := q) hm (show 0 ≤ i ∧ i < 6 by omega)
        have hc := mco_rng (m := w 79 (bhd w q i / 2)) (q := bhd w q i)
        refine V_aload_n (i := 0) F dM_next_23 rfl rfl ?_
        refine V_iload_n (i := 1) F dM_next_24 rfl rfl ?_
        refine V_iload F dM_next_25 rfl ?_
        refine V_callVi F dM_next_27 lmM_123 miM_behind mvM_behind (ctM_behind hq (by omega) hm) (by decide) (by first | rfl | assumption) rfl rfl (Nat.le_of_ble_eq_true rfl) (fun r u hr => ?_)
        obtain ⟨rfl, rfl⟩ := hr
        refine V_istore F dM_next_30 (by decide) (by simp only [List.set_cons_zero, List.set_cons_succ]; exact rfl) ?_
        refine V_iload F dM_next_32 rfl ?_
        refine V_if_lt F 82 dM_next_34 (by decide) (fun h34 => ?_) (fun h34 => ?_)
        · first | (replace h34 := bz_ne0.mp h34) | (replace h34 := bz_eq0.mp h34) | skip
          refine V_iinc F dM_next_82 (by decide) rfl (by omega) (by simp only [List.set_cons_zero, List.set_cons_succ]; exact rfl) ?_
          refine V_goto F 10 dM_next_85 (by decide) ?_
          refine ih (i + 1) _ (by omega) (by omega) (by omega) (fun j j1 j2 j3 => ?_)
          by_cases e : j = i
          · rw [e] at j3 ⊢
            have j4 := j3.1
            have j5 := j3.2
            omega
          · exact hn j j1 (by omega) j3
        · first | (replace h34 := bz_ne0.mp h34) | (replace h34 := bz_eq0.mp h34) | skip
          have hfr := hf (bhd w q i) (by omega) (by omega)
          have hS : onS6 w s q i = w 84 (576 * s + bhd w q i) + mco (w 79 (bhd w q i / 2)) (bhd w q i) := rfl
          refine V_aload_n (i := 0) F dM_next_37 rfl rfl ?_
          refine V_getr (ci := 7) (C := R_M) (T := T_M) (N := 32) F dM_next_38 (by first | rfl | assumption) rfl (j := 9) (by decide) rfl lfM_29 ?_
          refine V_sipush F dM_next_41 (by decide) ?_
          refine V_iload_n (i := 2) F dM_next_44 rfl rfl ?_
          refine V_imul F dM_next_45 (by omega) ?_
          refine V_iload F dM_next_46 rfl ?_
          refine V_iadd F dM_next_48 (by omega) ?_
          first
            | refine V_sald F dM_next_49 (by decide) (by omega) (stt_in _ _) ?_
            | refine V_iald F dM_next_49 (by first | rfl | assumption) rfl (by omega) ?_
          refine V_ldc F dM_next_50 lcM_119 ⟨by decide, by decide⟩ ?_
          refine V_icmp_ge F 82 dM_next_52 (by decide) (fun h52 => ?_) (fun h52 => ?_)
          · first | (replace h52 := bz_ne0.mp h52) | (replace h52 := bz_eq0.mp h52) | skip
            refine V_iinc F dM_next_82 (by decide) rfl (by omega) (by simp only [List.set_cons_zero, List.set_cons_succ]; exact rfl) ?_
            refine V_goto F 10 dM_next_85 (by decide) ?_
            refine ih (i + 1) _ (by omega) (by omega) (by omega) (fun j j1 j2 j3 => ?_)
            by_cases e : j = i
            · rw [e] at j3 ⊢
              have j4 := j3.1
              have j5 := j3.2
              omega
            · exact hn j j1 (by omega) j3
          · first | (replace h52 := bz_ne0.mp h52) | (replace h52 := bz_eq0.mp h52) | skip
            refine V_aload_n (i := 0) F dM_next_55 rfl rfl ?_
            refine V_getr (ci := 7) (C := R_M) (T := T_M) (N := 32) F dM_next_56 (by first | rfl | assumption) rfl (j := 9) (by decide) rfl lfM_29 ?_
            refine V_sipush F dM_next_59 (by decide) ?_
            refine V_iload_n (i := 2) F dM_next_62 rfl rfl ?_
            refine V_imul F dM_next_63 (by omega) ?_
            refine V_iload F dM_next_64 rfl ?_
            refine V_iadd F dM_next_66 (by omega) ?_
            first
              | refine V_sald F dM_next_67 (by decide) (by omega) (stt_in _ _) ?_
              | refine V_iald F dM_next_67 (by first | rfl | assumption) rfl (by omega) ?_
            refine V_aload_n (i := 0) F dM_next_68 rfl rfl ?_
            refine V_iload F dM_next_69 rfl ?_
            refine V_callVi F dM_next_71 lmM_126 miM_cost mvM_cost (ctM_cost (by omega) hm) (by decide) (by first | rfl | assumption) rfl rfl (Nat.le_of_ble_eq_true rfl) (fun r u hr => ?_)
            obtain ⟨rfl, rfl⟩ := hr
            refine V_iadd F dM_next_74 (by omega) ?_
            refine V_iload_n (i := 3) F dM_next_75 rfl rfl ?_
            refine V_icmp_ne F 82 dM_next_76 (by decide) (fun h76 => ?_) (fun h76 => ?_)
            · first | (replace h76 := bz_ne0.mp h76) | (replace h76 := bz_eq0.mp h76) | skip
              refine V_iinc F dM_next_82 (by decide) rfl (by omega) (by simp only [List.set_cons_zero, List.set_cons_succ]; exact rfl) ?_
              refine V_goto F 10 dM_next_85 (by decide) ?_
              refine ih (i + 1) _ (by omega) (by omega) (by omega) (fun j j1 j2 j3 => ?_)
              by_cases e : j = i
              · rw [e] at j3 ⊢
                have j4 := j3.1
                have j5 := j3.2
                omega
              · exact hn j j1 (by omega) j3
            · first | (replace h76 := bz_ne0.mp h76) | (replace h76 := bz_eq0.mp h76) | skip
              refine V_iload F dM_next_79 rfl ?_
              exact hR _ _ _ _ dM_next_81 (by
                refine ⟨⟨r, hP, ?_⟩, rfl⟩
                by_cases hlt : r < 1000000000
                · first
                  | exact Or.inr ⟨hlt, i, by omega, by omega, ⟨by omega, by omega⟩, by omega, rfl, hn⟩
                  | (exfalso
                     obtain ⟨k, k1, k2, k3, k4⟩ := hP.2.2 hlt
                     exact hn k k1 (by omega) k3 k4.symm)
                  | (exfalso; omega)
                · first
                  | exact Or.inl ⟨by have := hP.1; omega, rfl⟩
                  | (exfalso; omega))
theorem ctM_next {G : vG} {l : Launch} {w : RW} {s q : Int} (hq : 0 ≤ q ∧ q < 576) (hs : 0 ≤ s ∧ s < 6) (hm : mOK w) (hf : frR w s) : CTi G l yM_next cM_next 6 .int 4 [.inr 77, .inl q, .inl s] w (fun b u => nxM w s q b ∧ w = u) := by
  refine CTi.int (by decide) (Nat.le_of_ble_eq_true rfl) ?_
  intro X Q F hX hR
  subst hX
  show V G X 6 Q 0 [some (.inr 77), some (.inl q), some (.inl s), none, none, none] [] w
  refine V_aload_n (i := 0) F dM_next_0 rfl rfl ?_
  refine V_iload_n (i := 1) F dM_next_1 rfl rfl ?_
  refine V_iload_n (i := 2) F dM_next_2 rfl rfl ?_
  refine V_callVi F dM_next_3 lmM_120 miM_onward mvM_onward (ctM_onward hq hs hm hf) (by decide) (by first | rfl | assumption) rfl rfl (Nat.le_of_ble_eq_true rfl) (fun r u hr => ?_)
  obtain ⟨hP, rfl⟩ := hr
  refine V_istore_n (i := 3) F dM_next_6 rfl (by decide) (by simp only [List.set_cons_zero, List.set_cons_succ]; exact rfl) ?_
  refine V_iconst F dM_next_7 (by decide) ?_
  refine V_istore F dM_next_8 (by decide) (by simp only [List.set_cons_zero, List.set_cons_succ]; exact rfl) ?_
  exact lpM_next hq hs hm hf F hR hP 7 0 _ (by omega) (by omega) (by omega) (fun j j1 j2 => by omega)
