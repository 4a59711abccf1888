theorem dL_law_737 : decode cL_law 737 = .ok (.aload_n 1, 1) := by decide +kernel
theorem dL_law_738 : decode cL_law 738 = .ok (.aload_n 0, 1) := by decide +kernel
theorem dL_law_739 : decode cL_law 739 = .ok (.iload_n 3, 1) := by decide +kernel
theorem dL_law_740 : decode cL_law 740 = .ok (.iconst 1, 1) := by decide +kernel
theorem dL_law_741 : decode cL_law 741 = .ok (.iadd, 1) := by decide +kernel
theorem dL_law_742 : decode cL_law 742 = .ok (.iaload, 1) := by decide +kernel
theorem dL_law_743 : decode cL_law 743 = .ok (.invokevirtual 82, 3) := by decide +kernel
theorem dL_law_746 : decode cL_law 746 = .ok (.aload_n 2, 1) := by decide +kernel
theorem dL_law_747 : decode cL_law 747 = .ok (.aload_n 0, 1) := by decide +kernel
theorem dL_law_748 : decode cL_law 748 = .ok (.iload_n 3, 1) := by decide +kernel
theorem dL_law_749 : decode cL_law 749 = .ok (.iconst 1, 1) := by decide +kernel
theorem dL_law_750 : decode cL_law 750 = .ok (.iadd, 1) := by decide +kernel
theorem dL_law_751 : decode cL_law 751 = .ok (.iaload, 1) := by decide +kernel
theorem dL_law_752 : decode cL_law 752 = .ok (.invokevirtual 85, 3) := by decide +kernel
theorem dL_law_755 : decode cL_law 755 = .ok (.if_icmp .eq 125, 3) := by decide +kernel
theorem dL_law_760 : decode cL_law 760 = .ok (.aload_n 1, 1) := by decide +kernel
theorem dL_law_761 : decode cL_law 761 = .ok (.aload_n 0, 1) := by decide +kernel
theorem dL_law_762 : decode cL_law 762 = .ok (.iload_n 3, 1) := by decide +kernel
theorem dL_law_763 : decode cL_law 763 = .ok (.iconst 1, 1) := by decide +kernel
theorem dL_law_764 : decode cL_law 764 = .ok (.iadd, 1) := by decide +kernel
theorem dL_law_765 : decode cL_law 765 = .ok (.iaload, 1) := by decide +kernel
theorem dL_law_766 : decode cL_law 766 = .ok (.invokevirtual 86, 3) := by decide +kernel
theorem dL_law_769 : decode cL_law 769 = .ok (.aload_n 2, 1) := by decide +kernel
theorem dL_law_770 : decode cL_law 770 = .ok (.aload_n 0, 1) := by decide +kernel
theorem dL_law_771 : decode cL_law 771 = .ok (.iload_n 3, 1) := by decide +kernel
theorem dL_law_772 : decode cL_law 772 = .ok (.iconst 1, 1) := by decide +kernel
theorem dL_law_773 : decode cL_law 773 = .ok (.iadd, 1) := by decide +kernel
theorem dL_law_774 : decode cL_law 774 = .ok (.iaload, 1) := by decide +kernel
theorem dL_law_775 : decode cL_law 775 = .ok (.invokevirtual 89, 3) := by decide +kernel
theorem dL_law_778 : decode cL_law 778 = .ok (.if_icmp .eq 102, 3) := by decide +kernel
theorem dL_law_783 : decode cL_law 783 = .ok (.aload_n 1, 1) := by decide +kernel
theorem dL_law_784 : decode cL_law 784 = .ok (.aload_n 0, 1) := by decide +kernel
theorem dL_law_785 : decode cL_law 785 = .ok (.iload_n 3, 1) := by decide +kernel
theorem dL_law_786 : decode cL_law 786 = .ok (.iconst 1, 1) := by decide +kernel
theorem dL_law_787 : decode cL_law 787 = .ok (.iadd, 1) := by decide +kernel
theorem dL_law_788 : decode cL_law 788 = .ok (.iaload, 1) := by decide +kernel
theorem dL_law_789 : decode cL_law 789 = .ok (.invokevirtual 90, 3) := by decide +kernel
theorem dL_law_792 : decode cL_law 792 = .ok (.aload_n 2, 1) := by decide +kernel
theorem dL_law_793 : decode cL_law 793 = .ok (.aload_n 0, 1) := by decide +kernel
theorem dL_law_794 : decode cL_law 794 = .ok (.iload_n 3, 1) := by decide +kernel
theorem dL_law_795 : decode cL_law 795 = .ok (.iconst 1, 1) := by decide +kernel
theorem dL_law_796 : decode cL_law 796 = .ok (.iadd, 1) := by decide +kernel
theorem dL_law_797 : decode cL_law 797 = .ok (.iaload, 1) := by decide +kernel
theorem dL_law_798 : decode cL_law 798 = .ok (.invokevirtual 93, 3) := by decide +kernel
theorem dL_law_801 : decode cL_law 801 = .ok (.if_icmp .eq 79, 3) := by decide +kernel
theorem dL_law_806 : decode cL_law 806 = .ok (.aload_n 1, 1) := by decide +kernel
theorem dL_law_807 : decode cL_law 807 = .ok (.invokevirtual 94, 3) := by decide +kernel
theorem dL_law_810 : decode cL_law 810 = .ok (.aload_n 2, 1) := by decide +kernel
theorem dL_law_811 : decode cL_law 811 = .ok (.invokevirtual 98, 3) := by decide +kernel
theorem dL_law_814 : decode cL_law 814 = .ok (.if_icmp .eq 66, 3) := by decide +kernel
theorem dL_law_819 : decode cL_law 819 = .ok (.aload_n 1, 1) := by decide +kernel
theorem dL_law_820 : decode cL_law 820 = .ok (.invokevirtual 99, 3) := by decide +kernel
theorem dL_law_823 : decode cL_law 823 = .ok (.aload_n 2, 1) := by decide +kernel
theorem dL_law_824 : decode cL_law 824 = .ok (.invokevirtual 102, 3) := by decide +kernel
theorem dL_law_827 : decode cL_law 827 = .ok (.if_icmp .eq 53, 3) := by decide +kernel
theorem dL_law_832 : decode cL_law 832 = .ok (.aload_n 1, 1) := by decide +kernel
theorem dL_law_833 : decode cL_law 833 = .ok (.invokevirtual 103, 3) := by decide +kernel
theorem dL_law_836 : decode cL_law 836 = .ok (.aload_n 2, 1) := by decide +kernel
theorem dL_law_837 : decode cL_law 837 = .ok (.invokevirtual 106, 3) := by decide +kernel
theorem dL_law_840 : decode cL_law 840 = .ok (.if_icmp .eq 40, 3) := by decide +kernel
theorem dL_law_845 : decode cL_law 845 = .ok (.aload_n 1, 1) := by decide +kernel
theorem dL_law_846 : decode cL_law 846 = .ok (.invokevirtual 107, 3) := by decide +kernel
theorem dL_law_849 : decode cL_law 849 = .ok (.aload_n 2, 1) := by decide +kernel
theorem dL_law_850 : decode cL_law 850 = .ok (.invokevirtual 110, 3) := by decide +kernel
theorem dL_law_853 : decode cL_law 853 = .ok (.if_icmp .eq 27, 3) := by decide +kernel
theorem dL_law_858 : decode cL_law 858 = .ok (.aload_n 1, 1) := by decide +kernel
theorem dL_law_859 : decode cL_law 859 = .ok (.invokevirtual 111, 3) := by decide +kernel
theorem dL_law_862 : decode cL_law 862 = .ok (.aload_n 2, 1) := by decide +kernel
theorem dL_law_863 : decode cL_law 863 = .ok (.invokevirtual 114, 3) := by decide +kernel
theorem dL_law_866 : decode cL_law 866 = .ok (.goto 14, 3) := by decide +kernel
theorem dL_law_869 : decode cL_law 869 = .ok (.aload_n 1, 1) := by decide +kernel
theorem dL_law_870 : decode cL_law 870 = .ok (.invokevirtual 115, 3) := by decide +kernel
theorem dL_law_873 : decode cL_law 873 = .ok (.aload_n 2, 1) := by decide +kernel
theorem dL_law_874 : decode cL_law 874 = .ok (.invokevirtual 118, 3) := by decide +kernel
theorem dL_law_877 : decode cL_law 877 = .ok (.goto 3, 3) := by decide +kernel
theorem lmL_82 : Cond.methodLink R_L 82 yX_load ∈ bigW := bw 566 (by decide +kernel) rfl
theorem lmL_85 : Cond.methodLink R_L 85 yM_load ∈ bigW := bw 907 (by decide +kernel) rfl
theorem lmL_86 : Cond.methodLink R_L 86 yX_target ∈ bigW := bw 570 (by decide +kernel) rfl
theorem lmL_89 : Cond.methodLink R_L 89 yM_target ∈ bigW := bw 911 (by decide +kernel) rfl
theorem lmL_90 : Cond.methodLink R_L 90 yX_waiting ∈ bigW := bw 574 (by decide +kernel) rfl
theorem lmL_93 : Cond.methodLink R_L 93 yM_waiting ∈ bigW := bw 915 (by decide +kernel) rfl
theorem lmL_94 : Cond.methodLink R_L 94 yX_produced ∈ bigW := bw 578 (by decide +kernel) rfl
theorem lmL_98 : Cond.methodLink R_L 98 yM_produced ∈ bigW := bw 919 (by decide +kernel) rfl
theorem lmL_99 : Cond.methodLink R_L 99 yX_delivered ∈ bigW := bw 582 (by decide +kernel) rfl
theorem lmL_102 : Cond.methodLink R_L 102 yM_delivered ∈ bigW := bw 923 (by decide +kernel) rfl
theorem lmL_103 : Cond.methodLink R_L 103 yX_blocked ∈ bigW := bw 586 (by decide +kernel) rfl
theorem lmL_106 : Cond.methodLink R_L 106 yM_blocked ∈ bigW := bw 931 (by decide +kernel) rfl
theorem lmL_107 : Cond.methodLink R_L 107 yX_clock ∈ bigW := bw 594 (by decide +kernel) rfl
theorem lmL_110 : Cond.methodLink R_L 110 yM_clock ∈ bigW := bw 927 (by decide +kernel) rfl
theorem lmL_111 : Cond.methodLink R_L 111 yX_save ∈ bigW := bw 598 (by decide +kernel) rfl
theorem lmL_114 : Cond.methodLink R_L 114 yM_save ∈ bigW := bw 939 (by decide +kernel) rfl
theorem lmL_115 : Cond.methodLink R_L 115 yX_restore ∈ bigW := bw 619 (by decide +kernel) rfl
theorem lmL_118 : Cond.methodLink R_L 118 yM_restore ∈ bigW := bw 943 (by decide +kernel) rfl
theorem miX_load : MI yX_load cX_load 2 (some .int) 1 := ⟨bw 569 (by decide +kernel) rfl, bw 39 (by decide +kernel) rfl, ⟨by decide +kernel, by decide +kernel⟩, by decide +kernel, by decide⟩
theorem mvX_load : MV yX_load := ⟨bw 567 (by decide +kernel) rfl, bw 568 (by decide +kernel) rfl⟩
theorem miM_load : MI yM_load cM_load 2 (some .int) 1 := ⟨bw 910 (by decide +kernel) rfl, bw 48 (by decide +kernel) rfl, ⟨by decide +kernel, by decide +kernel⟩, by decide +kernel, by decide⟩
theorem mvM_load : MV yM_load := ⟨bw 908 (by decide +kernel) rfl, bw 909 (by decide +kernel) rfl⟩
theorem miX_target : MI yX_target cX_target 2 (some .int) 1 := ⟨bw 573 (by decide +kernel) rfl, bw 39 (by decide +kernel) rfl, ⟨by decide +kernel, by decide +kernel⟩, by decide +kernel, by decide⟩
theorem mvX_target : MV yX_target := ⟨bw 571 (by decide +kernel) rfl, bw 572 (by decide +kernel) rfl⟩
theorem miM_target : MI yM_target cM_target 2 (some .int) 1 := ⟨bw 914 (by decide +kernel) rfl, bw 48 (by decide +kernel) rfl, ⟨by decide +kernel, by decide +kernel⟩, by decide +kernel, by decide⟩
theorem mvM_target : MV yM_target := ⟨bw 912 (by decide +kernel) rfl, bw 913 (by decide +kernel) rfl⟩
theorem miX_waiting : MI yX_waiting cX_waiting 2 (some .int) 1 := ⟨bw 577 (by decide +kernel) rfl, bw 39 (by decide +kernel) rfl, ⟨by decide +kernel, by decide +kernel⟩, by decide +kernel, by decide⟩
theorem mvX_waiting : MV yX_waiting := ⟨bw 575 (by decide +kernel) rfl, bw 576 (by decide +kernel) rfl⟩
theorem miM_waiting : MI yM_waiting cM_waiting 2 (some .int) 1 := ⟨bw 918 (by decide +kernel) rfl, bw 48 (by decide +kernel) rfl, ⟨by decide +kernel, by decide +kernel⟩, by decide +kernel, by decide⟩
theorem mvM_waiting : MV yM_waiting := ⟨bw 916 (by decide +kernel) rfl, bw 917 (by decide +kernel) rfl⟩
theorem miX_produced : MI yX_produced cX_produced 1 (some .int) 0 := ⟨bw 581 (by decide +kernel) rfl, bw 39 (by decide +kernel) rfl, ⟨by decide +kernel, by decide +kernel⟩, by decide +kernel, by decide⟩
theorem mvX_produced : MV yX_produced := ⟨bw 579 (by decide +kernel) rfl, bw 580 (by decide +kernel) rfl⟩
theorem miM_produced : MI yM_produced cM_produced 1 (some .int) 0 := ⟨bw 922 (by decide +kernel) rfl, bw 48 (by decide +kernel) rfl, ⟨by decide +kernel, by decide +kernel⟩, by decide +kernel, by decide⟩
theorem mvM_produced : MV yM_produced := ⟨bw 920 (by decide +kernel) rfl, bw 921 (by decide +kernel) rfl⟩
theorem miX_delivered : MI yX_delivered cX_delivered 1 (some .int) 0 := ⟨bw 585 (by decide +kernel) rfl, bw 39 (by decide +kernel) rfl, ⟨by decide +kernel, by decide +kernel⟩, by decide +kernel, by decide⟩
theorem mvX_delivered : MV yX_delivered := ⟨bw 583 (by decide +kernel) rfl, bw 584 (by decide +kernel) rfl⟩
theorem miM_delivered : MI yM_delivered cM_delivered 1 (some .int) 0 := ⟨bw 926 (by decide +kernel) rfl, bw 48 (by decide +kernel) rfl, ⟨by decide +kernel, by decide +kernel⟩, by decide +kernel, by decide⟩
theorem mvM_delivered : MV yM_delivered := ⟨bw 924 (by decide +kernel) rfl, bw 925 (by decide +kernel) rfl⟩
theorem miX_blocked : MI yX_blocked cX_blocked 4 (some .int) 0 := ⟨bw 589 (by decide +kernel) rfl, bw 39 (by decide +kernel) rfl, ⟨by decide +kernel, by decide +kernel⟩, by decide +kernel, by decide⟩
theorem mvX_blocked : MV yX_blocked := ⟨bw 587 (by decide +kernel) rfl, bw 588 (by decide +kernel) rfl⟩
theorem miM_blocked : MI yM_blocked cM_blocked 4 (some .int) 0 := ⟨bw 934 (by decide +kernel) rfl, bw 48 (by decide +kernel) rfl, ⟨by decide +kernel, by decide +kernel⟩, by decide +kernel, by decide⟩
theorem mvM_blocked : MV yM_blocked := ⟨bw 932 (by decide +kernel) rfl, bw 933 (by decide +kernel) rfl⟩
theorem miX_clock : MI yX_clock cX_clock 1 (some .int) 0 := ⟨bw 597 (by decide +kernel) rfl, bw 39 (by decide +kernel) rfl, ⟨by decide +kernel, by decide +kernel⟩, by decide +kernel, by decide⟩
theorem mvX_clock : MV yX_clock := ⟨bw 595 (by decide +kernel) rfl, bw 596 (by decide +kernel) rfl⟩
theorem miM_clock : MI yM_clock cM_clock 1 (some .int) 0 := ⟨bw 930 (by decide +kernel) rfl, bw 48 (by decide +kernel) rfl, ⟨by decide +kernel, by decide +kernel⟩, by decide +kernel, by decide⟩
theorem mvM_clock : MV yM_clock := ⟨bw 928 (by decide +kernel) rfl, bw 929 (by decide +kernel) rfl⟩
theorem miX_save : MI yX_save cX_save 1 none 0 := ⟨bw 601 (by decide +kernel) rfl, bw 39 (by decide +kernel) rfl, ⟨by decide +kernel, by decide +kernel⟩, by decide +kernel, by decide⟩
theorem mvX_save : MV yX_save := ⟨bw 599 (by decide +kernel) rfl, bw 600 (by decide +kernel) rfl⟩
theorem miM_save : MI yM_save cM_save 2 none 0 := ⟨bw 942 (by decide +kernel) rfl, bw 48 (by decide +kernel) rfl, ⟨by decide +kernel, by decide +kernel⟩, by decide +kernel, by decide⟩
theorem mvM_save : MV yM_save := ⟨bw 940 (by decide +kernel) rfl, bw 941 (by decide +kernel) rfl⟩
theorem miX_restore : MI yX_restore cX_restore 1 none 0 := ⟨bw 622 (by decide +kernel) rfl, bw 39 (by decide +kernel) rfl, ⟨by decide +kernel, by decide +kernel⟩, by decide +kernel, by decide⟩
theorem mvX_restore : MV yX_restore := ⟨bw 620 (by decide +kernel) rfl, bw 621 (by decide +kernel) rfl⟩
theorem miM_restore : MI yM_restore cM_restore 2 none 0 := ⟨bw 946 (by decide +kernel) rfl, bw 48 (by decide +kernel) rfl, ⟨by decide +kernel, by decide +kernel⟩, by decide +kernel, by decide⟩
theorem mvM_restore : MV yM_restore := ⟨bw 944 (by decide +kernel) rfl, bw 945 (by decide +kernel) rfl⟩
theorem bl_87 {z g : RW} (hP : PR z g) {t : Int} (t1 : 0 ≤ t) (t2 : t < g 77 10) : 1 ≤ g 87 t := by
  have h := (hP.2.1.1.2.2.2.2.2 t t1 (by rw [rl_nt hP.1]; exact t2)).1.1
  have e := (hP.1.2.2.2.2 t t1 t2).1.2.1
  omega
theorem lw_c13 {G : vG} {X : vX} {Q : State → Prop} {sc : Nat → Int32} {N : Nat} {w : RW} {i k : Int} (F : FX G X cL_law R_L 4 9) (hX : SCR G X N sc) (hi : 2 ≤ i ∧ i + 5 < (N : Int)) (hk : 0 ≤ k ∧ k ≤ 520) (hz : ST k w) (K : ∀ v, ST (k + 1) v → V G X 4 Q 880 [some (.inr 903), some (.inr 0), some (.inr 77), some (.inl i)] [] v) : V G X 4 Q 737 [some (.inr 903), some (.inr 0), some (.inr 77), some (.inl i)] [] w := by
  have hN := hX.2.2.2
  have hcc := hz.1.2.1.1
  have hmm := hz.1.2.2.2.1
  refine V_aload_n (i := 1) F dL_law_737 rfl rfl ?_
  refine V_aload_n (i := 0) F dL_law_738 rfl rfl ?_
  refine V_iload_n (i := 3) F dL_law_739 rfl rfl ?_
  refine V_iconst F dL_law_740 (by decide) ?_
  refine V_iadd F dL_law_741 (by omega) ?_
  refine V_scr F hX (by omega) dL_law_742 ?_
  refine V_callVi F dL_law_743 lmL_82 miX_load mvX_load (ctX_load hcc) (by decide) (by first | rfl | assumption) rfl rfl (Nat.le_of_ble_eq_true rfl) (fun r u hr => ?_)
  obtain ⟨rfl, rfl⟩ := hr
  refine V_aload_n (i := 2) F dL_law_746 rfl rfl ?_
  refine V_aload_n (i := 0) F dL_law_747 rfl rfl ?_
  refine V_iload_n (i := 3) F dL_law_748 rfl rfl ?_
  refine V_iconst F dL_law_749 (by decide) ?_
  refine V_iadd F dL_law_750 (by omega) ?_
  refine V_scr F hX (by omega) dL_law_751 ?_
  refine V_callVi F dL_law_752 lmL_85 miM_load mvM_load (ctM_load hmm) (by decide) (by first | rfl | assumption) rfl rfl (Nat.le_of_ble_eq_true rfl) (fun r u hr => ?_)
  obtain ⟨rfl, rfl⟩ := hr
  exact V_icmp_eq F 880 dL_law_755 (by decide) (fun _ => K _ (ST_mono hz)) (fun h => absurd (q_load hz.1.1 hz.1.2.1 hmm) h)
theorem lw_c14 {G : vG} {X : vX} {Q : State → Prop} {sc : Nat → Int32} {N : Nat} {w : RW} {i k : Int} (F : FX G X cL_law R_L 4 9) (hX : SCR G X N sc) (hi : 2 ≤ i ∧ i + 5 < (N : Int)) (hk : 0 ≤ k ∧ k ≤ 520) (hz : ST k w) (K : ∀ v, ST (k + 1) v → V G X 4 Q 880 [some (.inr 903), some (.inr 0), some (.inr 77), some (.inl i)] [] v) : V G X 4 Q 760 [some (.inr 903), some (.inr 0), some (.inr 77), some (.inl i)] [] w := by
  have hN := hX.2.2.2
  have hcc := hz.1.2.1.1
  have hmm := hz.1.2.2.2.1
  refine V_aload_n (i := 1) F dL_law_760 rfl rfl ?_
  refine V_aload_n (i := 0) F dL_law_761 rfl rfl ?_
  refine V_iload_n (i := 3) F dL_law_762 rfl rfl ?_
  refine V_iconst F dL_law_763 (by decide) ?_
  refine V_iadd F dL_law_764 (by omega) ?_
  refine V_scr F hX (by omega) dL_law_765 ?_
  refine V_callVi F dL_law_766 lmL_86 miX_target mvX_target (ctX_target hcc) (by decide) (by first | rfl | assumption) rfl rfl (Nat.le_of_ble_eq_true rfl) (fun r u hr => ?_)
  obtain ⟨rfl, rfl⟩ := hr
  refine V_aload_n (i := 2) F dL_law_769 rfl rfl ?_
  refine V_aload_n (i := 0) F dL_law_770 rfl rfl ?_
  refine V_iload_n (i := 3) F dL_law_771 rfl rfl ?_
  refine V_iconst F dL_law_772 (by decide) ?_
  refine V_iadd F dL_law_773 (by omega) ?_
  refine V_scr F hX (by omega) dL_law_774 ?_
  refine V_callVi F dL_law_775 lmL_89 miM_target mvM_target (ctM_target hmm) (by decide) (by first | rfl | assumption) rfl rfl (Nat.le_of_ble_eq_true rfl) (fun r u hr => ?_)
  obtain ⟨rfl, rfl⟩ := hr
  exact V_icmp_eq F 880 dL_law_778 (by decide) (fun _ => K _ (ST_mono hz)) (fun h => absurd (q_target hz.1.1 hz.1.2.1 hmm) h)
theorem lw_c15 {G : vG} {X : vX} {Q : State → Prop} {sc : Nat → Int32} {N : Nat} {w : RW} {i k : Int} (F : FX G X cL_law R_L 4 9) (hX : SCR G X N sc) (hi : 2 ≤ i ∧ i + 5 < (N : Int)) (hk : 0 ≤ k ∧ k ≤ 520) (hz : ST k w) (K : ∀ v, ST (k + 1) v → V G X 4 Q 880 [some (.inr 903), some (.inr 0), some (.inr 77), some (.inl i)] [] v) : V G X 4 Q 783 [some (.inr 903), some (.inr 0), some (.inr 77), some (.inl i)] [] w := by
  have hN := hX.2.2.2
  have hcc := hz.1.2.1.1
  have hmm := hz.1.2.2.2.1
  refine V_aload_n (i := 1) F dL_law_783 rfl rfl ?_
  refine V_aload_n (i := 0) F dL_law_784 rfl rfl ?_
  refine V_iload_n (i := 3) F dL_law_785 rfl rfl ?_
  refine V_iconst F dL_law_786 (by decide) ?_
  refine V_iadd F dL_law_787 (by omega) ?_
  refine V_scr F hX (by omega) dL_law_788 ?_
  refine V_callVi F dL_law_789 lmL_90 miX_waiting mvX_waiting (ctX_waiting hcc) (by decide) (by first | rfl | assumption) rfl rfl (Nat.le_of_ble_eq_true rfl) (fun r u hr => ?_)
  obtain ⟨rfl, rfl⟩ := hr
  refine V_aload_n (i := 2) F dL_law_792 rfl rfl ?_
  refine V_aload_n (i := 0) F dL_law_793 rfl rfl ?_
  refine V_iload_n (i := 3) F dL_law_794 rfl rfl ?_
  refine V_iconst F dL_law_795 (by decide) ?_
  refine V_iadd F dL_law_796 (by omega) ?_
  refine V_scr F hX (by omega) dL_law_797 ?_
  refine V_callVi F dL_law_798 lmL_93 miM_waiting mvM_waiting (ctM_waiting hmm) (by decide) (by first | rfl | assumption) rfl rfl (Nat.le_of_ble_eq_true rfl) (fun r u hr => ?_)
  obtain ⟨rfl, rfl⟩ := hr
  exact V_icmp_eq F 880 dL_law_801 (by decide) (fun _ => K _ (ST_mono hz)) (fun h => absurd (q_waiting hz.1.1 hz.1.2.1 hmm) h)
theorem lw_c16 {G : vG} {X : vX} {Q : State → Prop} {sc : Nat → Int32} {N : Nat} {w : RW} {i k : Int} (F : FX G X cL_law R_L 4 9) (hX : SCR G X N sc) (hi : 2 ≤ i ∧ i + 5 < (N : Int)) (hk : 0 ≤ k ∧ k ≤ 520) (hz : ST k w) (K : ∀ v, ST (k + 1) v → V G X 4 Q 880 [some (.inr 903), some (.inr 0), some (.inr 77), some (.inl i)] [] v) : V G X 4 Q 806 [some (.inr 903), some (.inr 0), some (.inr 77), some (.inl i)] [] w := by
  have hN := hX.2.2.2
  have hcc := hz.1.2.1.1
  have hmm := hz.1.2.2.2.1
  refine V_aload_n (i := 1) F dL_law_806 rfl rfl ?_
  refine V_callVi F dL_law_807 lmL_94 miX_produced mvX_produced (ctX_produced) (by decide) (by first | rfl | assumption) rfl rfl (Nat.le_of_ble_eq_true rfl) (fun r u hr => ?_)
  obtain ⟨rfl, rfl⟩ := hr
  refine V_aload_n (i := 2) F dL_law_810 rfl rfl ?_
  refine V_callVi F dL_law_811 lmL_98 miM_produced mvM_produced (ctM_produced) (by decide) (by first | rfl | assumption) rfl rfl (Nat.le_of_ble_eq_true rfl) (fun r u hr => ?_)
  obtain ⟨rfl, rfl⟩ := hr
  exact V_icmp_eq F 880 dL_law_814 (by decide) (fun _ => K _ (ST_mono hz)) (fun h => absurd (hz.1.1.2.1.2.2.1) h)
theorem lw_c17 {G : vG} {X : vX} {Q : State → Prop} {sc : Nat → Int32} {N : Nat} {w : RW} {i k : Int} (F : FX G X cL_law R_L 4 9) (hX : SCR G X N sc) (hi : 2 ≤ i ∧ i + 5 < (N : Int)) (hk : 0 ≤ k ∧ k ≤ 520) (hz : ST k w) (K : ∀ v, ST (k + 1) v → V G X 4 Q 880 [some (.inr 903), some (.inr 0), some (.inr 77), some (.inl i)] [] v) : V G X 4 Q 819 [some (.inr 903), some (.inr 0), some (.inr 77), some (.inl i)] [] w := by
  have hN := hX.2.2.2
  have hcc := hz.1.2.1.1
  have hmm := hz.1.2.2.2.1
  refine V_aload_n (i := 1) F dL_law_819 rfl rfl ?_
  refine V_callVi F dL_law_820 lmL_99 miX_delivered mvX_delivered (ctX_delivered) (by decide) (by first | rfl | assumption) rfl rfl (Nat.le_of_ble_eq_true rfl) (fun r u hr => ?_)
  obtain ⟨rfl, rfl⟩ := hr
  refine V_aload_n (i := 2) F dL_law_823 rfl rfl ?_
  refine V_callVi F dL_law_824 lmL_102 miM_delivered mvM_delivered (ctM_delivered) (by decide) (by first | rfl | assumption) rfl rfl (Nat.le_of_ble_eq_true rfl) (fun r u hr => ?_)
  obtain ⟨rfl, rfl⟩ := hr
  exact V_icmp_eq F 880 dL_law_827 (by decide) (fun _ => K _ (ST_mono hz)) (fun h => absurd (hz.1.1.2.1.2.2.2) h)
theorem lw_c18 {G : vG} {X : vX} {Q : State → Prop} {sc : Nat → Int32} {N : Nat} {w : RW} {i k : Int} (F : FX G X cL_law R_L 4 9) (hX : SCR G X N sc) (hi : 2 ≤ i ∧ i + 5 < (N : Int)) (hk : 0 ≤ k ∧ k ≤ 520) (hz : ST k w) (K : ∀ v, ST (k + 1) v → V G X 4 Q 880 [some (.inr 903), some (.inr 0), some (.inr 77), some (.inl i)] [] v) : V G X 4 Q 832 [some (.inr 903), some (.inr 0), some (.inr 77), some (.inl i)] [] w := by
  have hN := hX.2.2.2
  have hcc := hz.1.2.1.1
  have hmm := hz.1.2.2.2.1
  refine V_aload_n (i := 1) F dL_law_832 rfl rfl ?_
  refine V_callVi F dL_law_833 lmL_103 miX_blocked mvX_blocked (ctX_blocked hcc hz.1.2.2.1) (by decide) (by first | rfl | assumption) rfl rfl (Nat.le_of_ble_eq_true rfl) (fun r u hr => ?_)
  obtain ⟨f, hf, hb1, hb2, hb3⟩ := hr
  have hcl : ∀ j, 77 ≤ j → u j = w j := fun j hj => hb2 j (Or.inr hj)
  have hPu := PR_g hz.1 hcl
  have hmu := hPu.2.2.2.1
  have hH := bl_H hPu hf
  have h87 : ∀ t, 0 ≤ t → t < u 77 10 → 1 ≤ u 87 t := fun t t1 t2 => bl_87 hPu t1 t2
  refine V_aload_n (i := 2) F dL_law_836 rfl rfl ?_
  refine V_callVi F dL_law_837 lmL_106 miM_blocked mvM_blocked (ctM_blocked hmu h87 hH hPu.2.2.2.2) (by decide) (by first | rfl | assumption) rfl rfl (Nat.le_of_ble_eq_true rfl) (fun r2 v hr2 => ?_)
  have hs := s_blocked hz.1 hb1 hb2 hb3 hr2.1 hr2.2.1 hr2.2.2
  exact V_icmp_eq F 880 dL_law_840 (by decide) (fun _ => K _ (st_op hz hs.2)) (fun h => absurd hs.1 h)
theorem lw_c19 {G : vG} {X : vX} {Q : State → Prop} {sc : Nat → Int32} {N : Nat} {w : RW} {i k : Int} (F : FX G X cL_law R_L 4 9) (hX : SCR G X N sc) (hi : 2 ≤ i ∧ i + 5 < (N : Int)) (hk : 0 ≤ k ∧ k ≤ 520) (hz : ST k w) (K : ∀ v, ST (k + 1) v → V G X 4 Q 880 [some (.inr 903), some (.inr 0), some (.inr 77), some (.inl i)] [] v) : V G X 4 Q 845 [some (.inr 903), some (.inr 0), some (.inr 77), some (.inl i)] [] w := by
  have hN := hX.2.2.2
  have hcc := hz.1.2.1.1
  have hmm := hz.1.2.2.2.1
  refine V_aload_n (i := 1) F dL_law_845 rfl rfl ?_
  refine V_callVi F dL_law_846 lmL_107 miX_clock mvX_clock (ctX_clock) (by decide) (by first | rfl | assumption) rfl rfl (Nat.le_of_ble_eq_true rfl) (fun r u hr => ?_)
  obtain ⟨rfl, rfl⟩ := hr
  refine V_aload_n (i := 2) F dL_law_849 rfl rfl ?_
  refine V_callVi F dL_law_850 lmL_110 miM_clock mvM_clock (ctM_clock) (by decide) (by first | rfl | assumption) rfl rfl (Nat.le_of_ble_eq_true rfl) (fun r u hr => ?_)
  obtain ⟨rfl, rfl⟩ := hr
  exact V_icmp_eq F 880 dL_law_853 (by decide) (fun _ => K _ (ST_mono hz)) (fun h => absurd (hz.2.1) h)
theorem lw_c20 {G : vG} {X : vX} {Q : State → Prop} {sc : Nat → Int32} {N : Nat} {w : RW} {i k : Int} (F : FX G X cL_law R_L 4 9) (hX : SCR G X N sc) (hi : 2 ≤ i ∧ i + 5 < (N : Int)) (hk : 0 ≤ k ∧ k ≤ 520) (hz : ST k w) (K : ∀ v, ST (k + 1) v → V G X 4 Q 880 [some (.inr 903), some (.inr 0), some (.inr 77), some (.inl i)] [] v) : V G X 4 Q 858 [some (.inr 903), some (.inr 0), some (.inr 77), some (.inl i)] [] w := by
  have hN := hX.2.2.2
  have hcc := hz.1.2.1.1
  have hmm := hz.1.2.2.2.1
  refine V_aload_n (i := 1) F dL_law_858 rfl rfl ?_
  refine V_callVv F dL_law_859 lmL_111 miX_save mvX_save (ctX_save ⟨⟨hcc.2.2.2.1.1, hcc.2.2.2.1.2.1⟩, hcc.2.2.2.1.2.2⟩ (fun t t1 t2 => (hcc.2.2.2.2.2 t t1 t2).2.2.1.2.2.2.2)) (by decide) (by first | rfl | assumption) rfl rfl (Nat.le_of_ble_eq_true rfl) (fun u hr => ?_)
  have hmu : mOK u := mOK_g (fun j hj => hr.2.1 j (by omega)) hmm
  refine V_aload_n (i := 2) F dL_law_862 rfl rfl ?_
  refine V_callVv F dL_law_863 lmL_114 miM_save mvM_save (ctM_save hmu) (by decide) (by first | rfl | assumption) rfl rfl (Nat.le_of_ble_eq_true rfl) (fun v hr2 => ?_)
  
  refine V_goto F 880 dL_law_866 (by decide) ?_
  exact K _ (s_save hz hr hr2)
theorem lw_c21 {G : vG} {X : vX} {Q : State → Prop} {sc : Nat → Int32} {N : Nat} {w : RW} {i k : Int} (F : FX G X cL_law R_L 4 9) (hX : SCR G X N sc) (hi : 2 ≤ i ∧ i + 5 < (N : Int)) (hk : 0 ≤ k ∧ k ≤ 520) (hz : ST k w) (K : ∀ v, ST (k + 1) v → V G X 4 Q 880 [some (.inr 903), some (.inr 0), some (.inr 77), some (.inl i)] [] v) : V G X 4 Q 869 [some (.inr 903), some (.inr 0), some (.inr 77), some (.inl i)] [] w := by
  have hN := hX.2.2.2
  have hcc := hz.1.2.1.1
  have hmm := hz.1.2.2.2.1
  obtain ⟨e1, e2, e3, e4⟩ := rest_hyp hz
  refine V_aload_n (i := 1) F dL_law_869 rfl rfl ?_
  refine V_callVv F dL_law_870 lmL_115 miX_restore mvX_restore (ctX_restore e1 e2) (by decide) (by first | rfl | assumption) rfl rfl (Nat.le_of_ble_eq_true rfl) (fun u hr => ?_)
  have hcl : ∀ j, 77 ≤ j → u j = w j := fun j hj => by
    obtain ⟨x, x1, rfl⟩ := hr
    rw [upw_f (by omega), x1.2.1 j (by omega)]
  have h96 : ∀ i, 0 ≤ i → i < 288 → u 96 i = 0 ∨ u 96 i = 1 := by rw [hcl 96 (by decide)]; exact e3
  have h99 : ∀ t, 0 ≤ t → t < 6 → 0 ≤ u 99 (30 + t) := by rw [hcl 99 (by decide)]; exact e4
  refine V_aload_n (i := 2) F dL_law_873 rfl rfl ?_
  refine V_callVv F dL_law_874 lmL_118 miM_restore mvM_restore (ctM_restore h96 h99) (by decide) (by first | rfl | assumption) rfl rfl (Nat.le_of_ble_eq_true rfl) (fun v hr2 => ?_)
  
  refine V_goto F 880 dL_law_877 (by decide) ?_
  exact K _ (s_restore hz hr hr2)
