theorem dM_moveOn_0 : decode cM_moveOn 0 = .ok (.aload_n 0, 1) := by decide +kernel
theorem dM_moveOn_1 : decode cM_moveOn 1 = .ok (.getfield 35, 3) := by decide +kernel
theorem dM_moveOn_4 : decode cM_moveOn 4 = .ok (.iload_n 1, 1) := by decide +kernel
theorem dM_moveOn_5 : decode cM_moveOn 5 = .ok (.dup2, 1) := by decide +kernel
theorem dM_moveOn_6 : decode cM_moveOn 6 = .ok (.iaload, 1) := by decide +kernel
theorem dM_moveOn_7 : decode cM_moveOn 7 = .ok (.iconst 1, 1) := by decide +kernel
theorem dM_moveOn_8 : decode cM_moveOn 8 = .ok (.isub, 1) := by decide +kernel
theorem dM_moveOn_9 : decode cM_moveOn 9 = .ok (.iastore, 1) := by decide +kernel
theorem dM_moveOn_10 : decode cM_moveOn 10 = .ok (.iconst 0, 1) := by decide +kernel
theorem dM_moveOn_11 : decode cM_moveOn 11 = .ok (.istore_n 2, 1) := by decide +kernel
theorem dM_moveOn_12 : decode cM_moveOn 12 = .ok (.iload_n 2, 1) := by decide +kernel
theorem dM_moveOn_13 : decode cM_moveOn 13 = .ok (.aload_n 0, 1) := by decide +kernel
theorem dM_moveOn_14 : decode cM_moveOn 14 = .ok (.getfield 35, 3) := by decide +kernel
theorem dM_moveOn_17 : decode cM_moveOn 17 = .ok (.iload_n 1, 1) := by decide +kernel
theorem dM_moveOn_18 : decode cM_moveOn 18 = .ok (.iaload, 1) := by decide +kernel
theorem dM_moveOn_19 : decode cM_moveOn 19 = .ok (.if_icmp .ge 35, 3) := by decide +kernel
theorem dM_moveOn_22 : decode cM_moveOn 22 = .ok (.aload_n 0, 1) := by decide +kernel
theorem dM_moveOn_23 : decode cM_moveOn 23 = .ok (.getfield 32, 3) := by decide +kernel
theorem dM_moveOn_26 : decode cM_moveOn 26 = .ok (.sipush 300, 3) := by decide +kernel
theorem dM_moveOn_29 : decode cM_moveOn 29 = .ok (.iload_n 1, 1) := by decide +kernel
theorem dM_moveOn_30 : decode cM_moveOn 30 = .ok (.imul, 1) := by decide +kernel
theorem dM_moveOn_31 : decode cM_moveOn 31 = .ok (.iload_n 2, 1) := by decide +kernel
theorem dM_moveOn_32 : decode cM_moveOn 32 = .ok (.iadd, 1) := by decide +kernel
theorem dM_moveOn_33 : decode cM_moveOn 33 = .ok (.aload_n 0, 1) := by decide +kernel
theorem dM_moveOn_34 : decode cM_moveOn 34 = .ok (.getfield 32, 3) := by decide +kernel
theorem dM_moveOn_37 : decode cM_moveOn 37 = .ok (.sipush 300, 3) := by decide +kernel
theorem dM_moveOn_40 : decode cM_moveOn 40 = .ok (.iload_n 1, 1) := by decide +kernel
theorem dM_moveOn_41 : decode cM_moveOn 41 = .ok (.imul, 1) := by decide +kernel
theorem dM_moveOn_42 : decode cM_moveOn 42 = .ok (.iload_n 2, 1) := by decide +kernel
theorem dM_moveOn_43 : decode cM_moveOn 43 = .ok (.iadd, 1) := by decide +kernel
theorem dM_moveOn_44 : decode cM_moveOn 44 = .ok (.iconst 1, 1) := by decide +kernel
theorem dM_moveOn_45 : decode cM_moveOn 45 = .ok (.iadd, 1) := by decide +kernel
theorem dM_moveOn_46 : decode cM_moveOn 46 = .ok (.iaload, 1) := by decide +kernel
theorem dM_moveOn_47 : decode cM_moveOn 47 = .ok (.iastore, 1) := by decide +kernel
theorem dM_moveOn_48 : decode cM_moveOn 48 = .ok (.iinc 2 1, 3) := by decide +kernel
theorem dM_moveOn_51 : decode cM_moveOn 51 = .ok (.goto (-39), 3) := by decide +kernel
theorem dM_moveOn_54 : decode cM_moveOn 54 = .ok (.aload_n 0, 1) := by decide +kernel
theorem dM_moveOn_55 : decode cM_moveOn 55 = .ok (.getfield 50, 3) := by decide +kernel
theorem dM_moveOn_58 : decode cM_moveOn 58 = .ok (.iload_n 1, 1) := by decide +kernel
theorem dM_moveOn_59 : decode cM_moveOn 59 = .ok (.iconst 0, 1) := by decide +kernel
theorem dM_moveOn_60 : decode cM_moveOn 60 = .ok (.bastore, 1) := by decide +kernel
theorem dM_moveOn_61 : decode cM_moveOn 61 = .ok (.return_, 1) := by decide +kernel
theorem dM_makeRequest_0 : decode cM_makeRequest 0 = .ok (.aload_n 0, 1) := by decide +kernel
theorem dM_makeRequest_1 : decode cM_makeRequest 1 = .ok (.iload_n 1, 1) := by decide +kernel
theorem dM_makeRequest_2 : decode cM_makeRequest 2 = .ok (.invokevirtual 132, 3) := by decide +kernel
theorem dM_makeRequest_5 : decode cM_makeRequest 5 = .ok (.istore_n 2, 1) := by decide +kernel
theorem dM_makeRequest_6 : decode cM_makeRequest 6 = .ok (.aload_n 0, 1) := by decide +kernel
theorem dM_makeRequest_7 : decode cM_makeRequest 7 = .ok (.iload_n 1, 1) := by decide +kernel
theorem dM_makeRequest_8 : decode cM_makeRequest 8 = .ok (.invokevirtual 129, 3) := by decide +kernel
theorem dM_makeRequest_11 : decode cM_makeRequest 11 = .ok (.istore_n 3, 1) := by decide +kernel
theorem dM_makeRequest_12 : decode cM_makeRequest 12 = .ok (.aload_n 0, 1) := by decide +kernel
theorem dM_makeRequest_13 : decode cM_makeRequest 13 = .ok (.iconst 0, 1) := by decide +kernel
theorem dM_makeRequest_14 : decode cM_makeRequest 14 = .ok (.putfield 147, 3) := by decide +kernel
theorem dM_makeRequest_17 : decode cM_makeRequest 17 = .ok (.aload_n 0, 1) := by decide +kernel
theorem dM_makeRequest_18 : decode cM_makeRequest 18 = .ok (.iload_n 2, 1) := by decide +kernel
theorem dM_makeRequest_19 : decode cM_makeRequest 19 = .ok (.invokevirtual 150, 3) := by decide +kernel
theorem dM_makeRequest_22 : decode cM_makeRequest 22 = .ok (.iconst 0, 1) := by decide +kernel
theorem dM_makeRequest_23 : decode cM_makeRequest 23 = .ok (.istore 4, 2) := by decide +kernel
theorem dM_makeRequest_25 : decode cM_makeRequest 25 = .ok (.iload 4, 2) := by decide +kernel
theorem dM_makeRequest_27 : decode cM_makeRequest 27 = .ok (.ifCond .ne 76, 3) := by decide +kernel
theorem dM_makeRequest_30 : decode cM_makeRequest 30 = .ok (.aload_n 0, 1) := by decide +kernel
theorem dM_makeRequest_31 : decode cM_makeRequest 31 = .ok (.getfield 147, 3) := by decide +kernel
theorem dM_makeRequest_34 : decode cM_makeRequest 34 = .ok (.sipush 580, 3) := by decide +kernel
theorem dM_makeRequest_37 : decode cM_makeRequest 37 = .ok (.if_icmp .ge 66, 3) := by decide +kernel
theorem dM_makeRequest_40 : decode cM_makeRequest 40 = .ok (.aload_n 0, 1) := by decide +kernel
theorem dM_makeRequest_41 : decode cM_makeRequest 41 = .ok (.iload_n 3, 1) := by decide +kernel
theorem dM_makeRequest_42 : decode cM_makeRequest 42 = .ok (.iload_n 2, 1) := by decide +kernel
theorem dM_makeRequest_43 : decode cM_makeRequest 43 = .ok (.invokevirtual 154, 3) := by decide +kernel
theorem dM_makeRequest_46 : decode cM_makeRequest 46 = .ok (.istore_n 3, 1) := by decide +kernel
theorem dM_makeRequest_47 : decode cM_makeRequest 47 = .ok (.iload_n 3, 1) := by decide +kernel
theorem dM_makeRequest_48 : decode cM_makeRequest 48 = .ok (.ifCond .ge 5, 3) := by decide +kernel
theorem dM_makeRequest_51 : decode cM_makeRequest 51 = .ok (.iconst 0, 1) := by decide +kernel
theorem dM_makeRequest_52 : decode cM_makeRequest 52 = .ok (.ireturn, 1) := by decide +kernel
theorem dM_makeRequest_53 : decode cM_makeRequest 53 = .ok (.aload_n 0, 1) := by decide +kernel
theorem dM_makeRequest_54 : decode cM_makeRequest 54 = .ok (.getfield 62, 3) := by decide +kernel
theorem dM_makeRequest_57 : decode cM_makeRequest 57 = .ok (.aload_n 0, 1) := by decide +kernel
theorem dM_makeRequest_58 : decode cM_makeRequest 58 = .ok (.getfield 147, 3) := by decide +kernel
theorem dM_makeRequest_61 : decode cM_makeRequest 61 = .ok (.iload_n 3, 1) := by decide +kernel
theorem dM_makeRequest_62 : decode cM_makeRequest 62 = .ok (.iastore, 1) := by decide +kernel
theorem dM_makeRequest_63 : decode cM_makeRequest 63 = .ok (.aload_n 0, 1) := by decide +kernel
theorem dM_makeRequest_64 : decode cM_makeRequest 64 = .ok (.dup, 1) := by decide +kernel
theorem dM_makeRequest_65 : decode cM_makeRequest 65 = .ok (.getfield 147, 3) := by decide +kernel
theorem dM_makeRequest_68 : decode cM_makeRequest 68 = .ok (.iconst 1, 1) := by decide +kernel
theorem dM_makeRequest_69 : decode cM_makeRequest 69 = .ok (.iadd, 1) := by decide +kernel
theorem dM_makeRequest_70 : decode cM_makeRequest 70 = .ok (.putfield 147, 3) := by decide +kernel
theorem dM_makeRequest_73 : decode cM_makeRequest 73 = .ok (.iload_n 3, 1) := by decide +kernel
theorem dM_makeRequest_74 : decode cM_makeRequest 74 = .ok (.iconst 2, 1) := by decide +kernel
theorem dM_makeRequest_75 : decode cM_makeRequest 75 = .ok (.idiv, 1) := by decide +kernel
theorem dM_makeRequest_76 : decode cM_makeRequest 76 = .ok (.aload_n 0, 1) := by decide +kernel
theorem dM_makeRequest_77 : decode cM_makeRequest 77 = .ok (.getfield 17, 3) := by decide +kernel
theorem dM_makeRequest_80 : decode cM_makeRequest 80 = .ok (.iload_n 2, 1) := by decide +kernel
theorem dM_makeRequest_81 : decode cM_makeRequest 81 = .ok (.iaload, 1) := by decide +kernel
theorem dM_makeRequest_82 : decode cM_makeRequest 82 = .ok (.if_icmp .eq 11, 3) := by decide +kernel
theorem dM_makeRequest_85 : decode cM_makeRequest 85 = .ok (.aload_n 0, 1) := by decide +kernel
theorem dM_makeRequest_86 : decode cM_makeRequest 86 = .ok (.iload_n 3, 1) := by decide +kernel
theorem dM_makeRequest_87 : decode cM_makeRequest 87 = .ok (.invokevirtual 105, 3) := by decide +kernel
theorem dM_makeRequest_90 : decode cM_makeRequest 90 = .ok (.ifCond .eq 7, 3) := by decide +kernel
theorem dM_makeRequest_93 : decode cM_makeRequest 93 = .ok (.iconst 1, 1) := by decide +kernel
theorem dM_makeRequest_94 : decode cM_makeRequest 94 = .ok (.goto 4, 3) := by decide +kernel
theorem dM_makeRequest_97 : decode cM_makeRequest 97 = .ok (.iconst 0, 1) := by decide +kernel
theorem dM_makeRequest_98 : decode cM_makeRequest 98 = .ok (.istore 4, 2) := by decide +kernel
theorem dM_makeRequest_100 : decode cM_makeRequest 100 = .ok (.goto (-75), 3) := by decide +kernel
theorem dM_makeRequest_103 : decode cM_makeRequest 103 = .ok (.iconst 1, 1) := by decide +kernel
theorem dM_makeRequest_104 : decode cM_makeRequest 104 = .ok (.ireturn, 1) := by decide +kernel
theorem lmM_154 : Cond.methodLink R_M 154 yM_next ∈ bigW := bw 800 (by decide +kernel) rfl
theorem lmM_150 : Cond.methodLink R_M 150 yM_measure ∈ bigW := bw 758 (by decide +kernel) rfl
theorem miM_next : MI yM_next cM_next 6 (some .int) 2 := ⟨bw 803 (by decide +kernel) rfl, bw 48 (by decide +kernel) rfl, ⟨by decide +kernel, by decide +kernel⟩, by decide +kernel, by decide⟩
theorem mvM_next : MV yM_next := ⟨bw 802 (by decide +kernel) rfl, bw 23 (by decide +kernel) rfl⟩
theorem miM_measure : MI yM_measure cM_measure 7 none 1 := ⟨bw 761 (by decide +kernel) rfl, bw 48 (by decide +kernel) rfl, ⟨by decide +kernel, by decide +kernel⟩, by decide +kernel, by decide⟩
theorem mvM_measure : MV yM_measure := ⟨bw 760 (by decide +kernel) rfl, bw 15 (by decide +kernel) rfl⟩
def mvN (w : RW) (t n : Int) : RW := fun j i => if j = 85 ∧ 300 * t ≤ i ∧ i < 300 * t + n then w 85 (i + 1) else if j = 86 ∧ i = t then w 86 t - 1 else w j i
theorem mvN_f {w : RW} {t n : Int} {j : Nat} (h : j ≠ 85) (h2 : j ≠ 86) : mvN w t n j = w j := by
  funext i
  unfold mvN
  rw [if_neg (fun z => h z.1), if_neg (fun z => h2 z.1)]
theorem mvN_86 {w : RW} {t n : Int} : mvN w t n 86 t = w 86 t - 1 := by
  unfold mvN
  rw [if_neg (fun z => absurd z.1 (by decide)), if_pos ⟨rfl, rfl⟩]
theorem mvN_0 {w : RW} {t : Int} : mvN w t 0 = upw w 86 t (w 86 t - 1) := by
  funext j i
  unfold mvN upw
  rw [if_neg (by omega)]
theorem mvN_s {w : RW} {t n : Int} (h : 0 ≤ n) : upw (mvN w t n) 85 (300 * t + n) (mvN w t n 85 (300 * t + n + 1)) = mvN w t (n + 1) := by
  funext j i
  have e : mvN w t n 85 (300 * t + n + 1) = w 85 (300 * t + n + 1) := by
    unfold mvN
    rw [if_neg (by omega), if_neg (fun z => absurd z.1 (by decide))]
  rw [e]
  unfold upw mvN
  by_cases e2 : j = 85 ∧ i = 300 * t + n
  · rw [if_pos e2, if_pos ⟨e2.1, by omega, by omega⟩, e2.2]
  · rw [if_neg e2]
    by_cases e3 : j = 85 ∧ 300 * t ≤ i ∧ i < 300 * t + n
    · rw [if_pos e3, if_pos ⟨e3.1, by omega, by omega⟩]
    · have e5 : ¬ (j = 85 ∧ 300 * t ≤ i ∧ i < 300 * t + (n + 1)) := fun z => by
        by_cases e4 : i = 300 * t + n
        · exact e2 ⟨z.1, e4⟩
        · exact e3 ⟨z.1, by omega, by omega⟩
      rw [if_neg e3, if_neg e5]
def mvM (w : RW) (t : Int) : RW := upw (mvN w t (w 86 t - 1)) 91 t 0
theorem lpM_moveOn {G : vG} {X : vX} {Q : State → Prop} {w : RW} {t : Int} (ht : 0 ≤ t ∧ t < 6) (hn : 1 ≤ w 86 t ∧ w 86 t ≤ 300) (F : FX G X cM_moveOn yM_moveOn.cls 3 0) (hR : RetV G X cM_moveOn 3 Q (fun u => mvM w t = u)) : ∀ (m : Nat) (k : Int) (v : RW), w 86 t - k < m → (0 ≤ k) → (k ≤ w 86 t - 1) → (mvN w t k = v) → V G X 3 Q 12 [some (.inr 77), some (.inl t), some (.inl k)] [] v := by
  intro m
  induction m with
  | zero => intro k v hm0 h1 h2 hv; omega
  | succ m ih =>
    intro k v hm0 h1 h2 hv
    have e86 : v 86 t = w 86 t - 1 := by rw [← hv]; exact mvN_86
    refine V_iload_n (i := 2) F dM_moveOn_12 rfl rfl ?_
    refine V_aload_n (i := 0) F dM_moveOn_13 rfl rfl ?_
    refine V_getr (ci := 7) (C := R_M) (T := T_M) (N := 32) F dM_moveOn_14 (by first | rfl | assumption) rfl (j := 12) (by decide) rfl lfM_35 ?_
    refine V_iload_n (i := 1) F dM_moveOn_17 rfl rfl ?_
    first
      | refine V_sald F dM_moveOn_18 (by decide) (by omega) (stt_in _ _) ?_
      | refine V_iald F dM_moveOn_18 (by first | rfl | assumption) rfl (by omega) ?_
    refine V_icmp_ge F 54 dM_moveOn_19 (by decide) (fun h19 => ?_) (fun h19 => ?_)
    · refine V_aload_n (i := 0) F dM_moveOn_54 rfl rfl ?_
      refine V_getr (ci := 7) (C := R_M) (T := T_M) (N := 32) F dM_moveOn_55 (by first | rfl | assumption) rfl (j := 17) (by decide) rfl lfM_50 ?_
      refine V_iload_n (i := 1) F dM_moveOn_58 rfl rfl ?_
      refine V_iconst F dM_moveOn_59 (by decide) ?_
      refine V_zast F dM_moveOn_60 (by first | rfl | assumption) rfl (by omega) (by first | exact Or.inl rfl | exact Or.inr rfl | exact bz_01 _ | assumption) ?_
      exact hR _ _ _ dM_moveOn_61 (by unfold mvM; rw [← hv, show k = w 86 t - 1 by omega])
    · refine V_aload_n (i := 0) F dM_moveOn_22 rfl rfl ?_
      refine V_getr (ci := 7) (C := R_M) (T := T_M) (N := 32) F dM_moveOn_23 (by first | rfl | assumption) rfl (j := 11) (by decide) rfl lfM_32 ?_
      refine V_sipush F dM_moveOn_26 (by decide) ?_
      refine V_iload_n (i := 1) F dM_moveOn_29 rfl rfl ?_
      refine V_imul F dM_moveOn_30 (by omega) ?_
      refine V_iload_n (i := 2) F dM_moveOn_31 rfl rfl ?_
      refine V_iadd F dM_moveOn_32 (by omega) ?_
      refine V_aload_n (i := 0) F dM_moveOn_33 rfl rfl ?_
      refine V_getr (ci := 7) (C := R_M) (T := T_M) (N := 32) F dM_moveOn_34 (by first | rfl | assumption) rfl (j := 11) (by decide) rfl lfM_32 ?_
      refine V_sipush F dM_moveOn_37 (by decide) ?_
      refine V_iload_n (i := 1) F dM_moveOn_40 rfl rfl ?_
      refine V_imul F dM_moveOn_41 (by omega) ?_
      refine V_iload_n (i := 2) F dM_moveOn_42 rfl rfl ?_
      refine V_iadd F dM_moveOn_43 (by omega) ?_
      refine V_iconst F dM_moveOn_44 (by decide) ?_
      refine V_iadd F dM_moveOn_45 (by omega) ?_
      first
        | refine V_sald F dM_moveOn_46 (by decide) (by omega) (stt_in _ _) ?_
        | refine V_iald F dM_moveOn_46 (by first | rfl | assumption) rfl (by omega) ?_
      refine V_iast F dM_moveOn_47 (by first | rfl | assumption) rfl (by omega) ?_
      refine V_iinc F dM_moveOn_48 (by decide) rfl (by omega) (by simp only [List.set_cons_zero, List.set_cons_succ]; exact rfl) ?_
      refine V_goto F 12 dM_moveOn_51 (by decide) ?_
      exact ih (k + 1) _ (by omega) (by omega) (by omega) (by rw [← mvN_s h1, hv])
theorem ctM_moveOn {G : vG} {l : Launch} {w : RW} {t : Int} (ht : 0 ≤ t ∧ t < 6) (hn : 1 ≤ w 86 t ∧ w 86 t ≤ 300) : CTv G l yM_moveOn cM_moveOn 3 0 [.inr 77, .inl t] w (fun u => mvM w t = u) := by
  refine CTv.intro (by decide) (Nat.le_of_ble_eq_true rfl) ?_
  intro X Q F hX hR
  subst hX
  show V G X 3 Q 0 [some (.inr 77), some (.inl t), none] [] w
  refine V_aload_n (i := 0) F dM_moveOn_0 rfl rfl ?_
  refine V_getr (ci := 7) (C := R_M) (T := T_M) (N := 32) F dM_moveOn_1 (by first | rfl | assumption) rfl (j := 12) (by decide) rfl lfM_35 ?_
  refine V_iload_n (i := 1) F dM_moveOn_4 rfl rfl ?_
  refine V_dup2 F dM_moveOn_5 ?_
  first
    | refine V_sald F dM_moveOn_6 (by decide) (by omega) (stt_in _ _) ?_
    | refine V_iald F dM_moveOn_6 (by first | rfl | assumption) rfl (by omega) ?_
  refine V_iconst F dM_moveOn_7 (by decide) ?_
  refine V_isub F dM_moveOn_8 (by omega) ?_
  refine V_iast F dM_moveOn_9 (by first | rfl | assumption) rfl (by omega) ?_
  refine V_iconst F dM_moveOn_10 (by decide) ?_
  refine V_istore_n (i := 2) F dM_moveOn_11 rfl (by decide) (by simp only [List.set_cons_zero, List.set_cons_succ]; exact rfl) ?_
  exact lpM_moveOn ht hn F hR 301 0 _ (by omega) (by omega) (by omega) mvN_0
theorem mOK_c {w u : RW} (h : ∀ j, j ≠ 77 → j ≠ 83 → j ≠ 84 → j ≠ 95 → u j = w j) (h2 : ∀ f, f ≠ 21 → u 77 f = w 77 f) (hm : mOK w) : mOK u := by
  unfold mOK
  rw [h2 0 (by decide), h2 1 (by decide), h2 4 (by decide), h2 10 (by decide), h 78 (by decide) (by decide) (by decide) (by decide), h 79 (by decide) (by decide) (by decide) (by decide), h 80 (by decide) (by decide) (by decide) (by decide), h 81 (by decide) (by decide) (by decide) (by decide), h 82 (by decide) (by decide) (by decide) (by decide), h 85 (by decide) (by decide) (by decide) (by decide), h 86 (by decide) (by decide) (by decide) (by decide), h 87 (by decide) (by decide) (by decide) (by decide), h 88 (by decide) (by decide) (by decide) (by decide), h 89 (by decide) (by decide) (by decide) (by decide), h 90 (by decide) (by decide) (by decide) (by decide), h 91 (by decide) (by decide) (by decide) (by decide), h 92 (by decide) (by decide) (by decide) (by decide), h 93 (by decide) (by decide) (by decide) (by decide), h 94 (by decide) (by decide) (by decide) (by decide)]
  exact hm
theorem bhd_c2 {w u : RW} (h0 : u 77 0 = w 77 0) (h1 : u 77 1 = w 77 1) (h2 : u 78 = w 78) (h3 : u 79 = w 79) : bhd u = bhd w := by
  funext q k
  unfold bhd bhB bhT
  rw [h0, h1, h2, h3]
theorem edM_c2 {w u : RW} (h0 : u 77 0 = w 77 0) (h1 : u 77 1 = w 77 1) (h2 : u 78 = w 78) (h3 : u 79 = w 79) (h4 : u 80 = w 80) (s : Int) : edM u s = edM w s := by
  unfold edM
  rw [bhd_c2 h0 h1 h2 h3, h2, h3, h4]
theorem frOK_c {w u : RW} (h0 : u 77 0 = w 77 0) (h1 : u 77 1 = w 77 1) (h2 : u 78 = w 78) (h3 : u 79 = w 79) (h4 : u 80 = w 80) (h5 : u 84 = w 84) {s : Int} (h : frOK w s) : frOK u s := by
  unfold frOK frR fh at *
  rw [edM_c2 h0 h1 h2 h3 h4, h4, h5]
  exact h
theorem nxM_c {w u : RW} (h0 : u 77 0 = w 77 0) (h1 : u 77 1 = w 77 1) (h2 : u 78 = w 78) (h3 : u 79 = w 79) (h5 : u 84 = w 84) {s q b : Int} : nxM u s q b ↔ nxM w s q b := by
  unfold nxM onP onV onS6
  rw [bhd_c2 h0 h1 h2 h3, h3, h5]
theorem nxM_rng {w : RW} {s q b : Int} (hm : mOK w) (h : nxM w s q b) : b = -1 ∨ (0 ≤ b ∧ b < 576) := by
  obtain ⟨r, _, ⟨_, h⟩ | ⟨_, k, k1, k2, k3, _, h, _⟩⟩ := h
  · exact Or.inl h
  · rw [h]; exact bhd_rng hm ⟨k1, k2⟩
def enM (w : RW) (s q : Int) : Prop := q / 2 = w 80 s ∨ tb (w 79 (q / 2)) (q % 2)
def prM (u : RW) (q0 j : Int) : Int := if j = 0 then q0 else u 95 (j - 1)
def rqI (v u : RW) (s q0 k : Int) : Prop := ((∀ j, j ≠ 77 → j ≠ 95 → u j = v j) ∧ ∀ f, f ≠ 21 → u 77 f = v 77 f) ∧ u 77 21 = k ∧ (∀ j, 0 ≤ j → j < k → (0 ≤ u 95 j ∧ u 95 j < 576) ∧ nxM v s (prM u q0 j) (u 95 j)) ∧ ∀ j, 0 ≤ j → j < k - 1 → ¬ enM v s (u 95 j)
/-- behind the model's request -/
def rqE (v u : RW) (s q0 r : Int) : Prop := rqI v u s q0 (u 77 21) ∧ (0 ≤ u 77 21 ∧ u 77 21 ≤ 580) ∧ ((r = 1 ∧ 1 ≤ u 77 21 ∧ (enM v s (u 95 (u 77 21 - 1)) ∨ u 77 21 = 580)) ∨ (r = 0 ∧ (1 ≤ u 77 21 → ¬ enM v s (u 95 (u 77 21 - 1))) ∧ nxM v s (prM u q0 (u 77 21)) (-1)))
def rqW (u : RW) (k y : Int) : RW := upw (upw u 95 k y) 77 21 (k + 1)
theorem rqI_s {v u : RW} {s q0 k y : Int} (hk : 0 ≤ k) (h : rqI v u s q0 k) (hn : nxM v s (prM u q0 k) y) (hy : 0 ≤ y ∧ y < 576) (he : 1 ≤ k → ¬ enM v s (u 95 (k - 1))) : rqI v (rqW u k y) s q0 (k + 1) ∧ prM (rqW u k y) q0 (k + 1) = y := by
  obtain ⟨⟨f1, f2⟩, h1, h2, h3⟩ := h
  have e95 : ∀ j, j ≠ k → rqW u k y 95 j = u 95 j := fun j hj => by
    unfold rqW
    rw [upw_f (by decide), upw_i hj]
  have e95k : rqW u k y 95 k = y := by
    unfold rqW
    rw [upw_f (by decide), upw_s]
  have ep : ∀ j, j ≤ k → prM (rqW u k y) q0 j = prM u q0 j := fun j hj => by
    unfold prM
    split
    · rfl
    · rw [e95 _ (by omega)]
  refine ⟨⟨⟨fun j j1 j2 => ?_, fun f hf => ?_⟩, ?_, fun j j1 j2 => ?_, fun j j1 j2 => ?_⟩, ?_⟩
  · unfold rqW
    rw [upw_f j1, upw_f j2]
    exact f1 j j1 j2
  · unfold rqW
    rw [upw_i hf, upw_f (by decide)]
    exact f2 f hf
  · unfold rqW
    rw [upw_s]
  · rw [ep j (by omega)]
    by_cases e : j = k
    · subst e; rw [e95k]; exact ⟨hy, hn⟩
    · rw [e95 j e]; exact h2 j j1 (by omega)
  · rw [e95 j (by omega)]
    by_cases e : j = k - 1
    · subst e; exact he (by omega)
    · exact h3 j j1 (by omega)
  · unfold prM
    rw [if_neg (by omega), show k + 1 - 1 = k by omega, e95k]
theorem lpM_makeRequest {G : vG} {X : vX} {Q : State → Prop} {w : RW} {v : RW} {t s q0 : Int} (hs : 0 ≤ s ∧ s < 6) (hm : mOK v) (hf : frR v s) (F : FX G X cM_makeRequest yM_makeRequest.cls 5 5) (hR : RetZ G X cM_makeRequest 5 Q (fun r u => rqE v u s q0 r)) : ∀ (m : Nat) (k q f : Int) (u0 : RW), 580 - k < m → (0 ≤ k) → (k ≤ 580) → (0 ≤ q ∧ q < 576) → (rqI v u0 s q0 k) → (q = prM u0 q0 k) → (f = bz (1 ≤ k ∧ enM v s (u0 95 (k - 1)))) → V G X 5 Q 25 [some (.inr 77), some (.inl t), some (.inl s), some (.inl q), some (.inl f)] [] u0 := by
  intro m
  induction m with
  | zero => intro k q f u0 hm0 h1 h2 hq hI hqe hfe; omega
  | succ m ih =>
    intro k q f u0 hm0 h1 h2 hq hI hqe hfe
    have hf01 : f = 0 ∨ f = 1 := by rw [hfe]; exact bz_01 _
    have e0 := hI.1.2 0 (by decide)
    have e1 := hI.1.2 1 (by decide)
    have e78 := hI.1.1 78 (by decide) (by decide)
    have e79 := hI.1.1 79 (by decide) (by decide)
    have e80 := hI.1.1 80 (by decide) (by decide)
    have e84 := hI.1.1 84 (by decide) (by decide)
    have hk := hI.2.1
    have hmu : mOK u0 := mOK_c (fun j j1 _ _ j2 => hI.1.1 j j1 j2) hI.1.2 hm
    refine V_iload F dM_makeRequest_25 rfl ?_
    refine V_if_ne F 103 dM_makeRequest_27 (by decide) (fun h27 => ?_) (fun h27 => ?_)
    · refine V_iconst F dM_makeRequest_103 (by decide) ?_
      exact hR _ _ _ _ dM_makeRequest_104 (by first | exact Or.inl rfl | exact Or.inr rfl | exact bz_01 _ | assumption) (by
                  first
                  | (have hg := (bz_ne0 (P := 1 ≤ k ∧ enM v s (u0 95 (k - 1)))).mp (by rw [← hfe]; exact h27)
                     exact ⟨by rw [hk]; exact hI, by omega, Or.inl ⟨rfl, by omega, by rw [hk]; exact Or.inl hg.2⟩⟩)
                  | (have hg : b < 0 := by omega
                     exact ⟨by rw [hk]; exact hI, by omega, Or.inr ⟨rfl, fun z z2 => by rw [hk] at z2 z; rw [bz_t ⟨z, z2⟩] at hfe; omega, by rw [hk, ← hqe, ← hb1]; exact hb⟩⟩)
                  | exact ⟨by rw [hk]; exact hI, by omega, Or.inl ⟨rfl, by omega, Or.inr (by omega)⟩⟩)
    · refine V_aload_n (i := 0) F dM_makeRequest_30 rfl rfl ?_
      refine V_geti (ci := 7) (C := R_M) (T := T_M) (N := 32) F dM_makeRequest_31 (by first | rfl | assumption) rfl (j := 21) 21 rfl (by decide) rfl lfM_147 ?_
      refine V_sipush F dM_makeRequest_34 (by decide) ?_
      refine V_icmp_ge F 103 dM_makeRequest_37 (by decide) (fun h37 => ?_) (fun h37 => ?_)
      · refine V_iconst F dM_makeRequest_103 (by decide) ?_
        exact hR _ _ _ _ dM_makeRequest_104 (by first | exact Or.inl rfl | exact Or.inr rfl | exact bz_01 _ | assumption) (by
                    first
                    | (have hg := (bz_ne0 (P := 1 ≤ k ∧ enM v s (u0 95 (k - 1)))).mp (by rw [← hfe]; exact h27)
                       exact ⟨by rw [hk]; exact hI, by omega, Or.inl ⟨rfl, by omega, by rw [hk]; exact Or.inl hg.2⟩⟩)
                    | (have hg : b < 0 := by omega
                       exact ⟨by rw [hk]; exact hI, by omega, Or.inr ⟨rfl, fun z z2 => by rw [hk] at z2 z; rw [bz_t ⟨z, z2⟩] at hfe; omega, by rw [hk, ← hqe, ← hb1]; exact hb⟩⟩)
                    | exact ⟨by rw [hk]; exact hI, by omega, Or.inl ⟨rfl, by omega, Or.inr (by omega)⟩⟩)
      · refine V_aload_n (i := 0) F dM_makeRequest_40 rfl rfl ?_
        refine V_iload_n (i := 3) F dM_makeRequest_41 rfl rfl ?_
        refine V_iload_n (i := 2) F dM_makeRequest_42 rfl rfl ?_
        refine V_callVi F dM_makeRequest_43 lmM_154 miM_next mvM_next (ctM_next (w := u0) hq hs hmu (by unfold frR; rw [e84]; exact hf)) (by decide) (by first | rfl | assumption) rfl rfl (Nat.le_of_ble_eq_true rfl) (fun b u hr => ?_)
        obtain ⟨hb, rfl⟩ := hr
        have hbr := nxM_rng hmu hb
        replace hb := (nxM_c e0 e1 e78 e79 e84).mp hb
        refine V_istore_n (i := 3) F dM_makeRequest_46 rfl (by decide) (by simp only [List.set_cons_zero, List.set_cons_succ]; exact rfl) ?_
        refine V_iload_n (i := 3) F dM_makeRequest_47 rfl rfl ?_
        refine V_if_ge F 53 dM_makeRequest_48 (by decide) (fun h48 => ?_) (fun h48 => ?_)
        · have hb2 : 0 ≤ b ∧ b < 576 := by omega
          have hne : 1 ≤ k → ¬ enM v s (u0 95 (k - 1)) := fun z z2 => by rw [bz_t ⟨z, z2⟩] at hfe; omega
          have hst := rqI_s h1 hI (by rw [← hqe]; exact hb) hb2 hne
          have m79 : rqW u0 k b 79 = v 79 := hst.1.1.1 79 (by decide) (by decide)
          have m80 : rqW u0 k b 80 = v 80 := hst.1.1.1 80 (by decide) (by decide)
          have hm2 : mOK (rqW u0 k b) := mOK_c (fun j j1 _ _ j2 => hst.1.1.1 j j1 j2) hst.1.1.2 hm
          refine V_aload_n (i := 0) F dM_makeRequest_53 rfl rfl ?_
          refine V_getr (ci := 7) (C := R_M) (T := T_M) (N := 32) F dM_makeRequest_54 (by first | rfl | assumption) rfl (j := 22) (by decide) rfl lfM_62 ?_
          refine V_aload_n (i := 0) F dM_makeRequest_57 rfl rfl ?_
          refine V_geti (ci := 7) (C := R_M) (T := T_M) (N := 32) F dM_makeRequest_58 (by first | rfl | assumption) rfl (j := 21) 21 rfl (by decide) rfl lfM_147 ?_
          refine V_iload_n (i := 3) F dM_makeRequest_61 rfl rfl ?_
          refine V_iast F dM_makeRequest_62 (by first | rfl | assumption) rfl (by omega) ?_
          refine V_aload_n (i := 0) F dM_makeRequest_63 rfl rfl ?_
          refine V_dup F dM_makeRequest_64 ?_
          refine V_geti (ci := 7) (C := R_M) (T := T_M) (N := 32) F dM_makeRequest_65 (by first | rfl | assumption) rfl (j := 21) 21 rfl (by decide) rfl lfM_147 ?_
          rw [upw_f (show (77 : Nat) ≠ 95 by decide)]
          refine V_iconst F dM_makeRequest_68 (by decide) ?_
          refine V_iadd F dM_makeRequest_69 (by omega) ?_
          refine V_puti (ci := 7) (C := R_M) (T := T_M) (N := 32) F dM_makeRequest_70 (by first | rfl | assumption) rfl (j := 21) 21 rfl (by decide) rfl rfl rfl lfM_147 ?_
          refine V_eq rfl rfl (show _ = rqW u0 k b by unfold rqW; rw [hk]) ?_
          have e95 : rqW u0 k b 95 (k + 1 - 1) = b := by
            unfold rqW
            rw [upw_f (by decide), show k + 1 - 1 = k by omega, upw_s]
          refine V_iload_n (i := 3) F dM_makeRequest_73 rfl rfl ?_
          refine V_iconst F dM_makeRequest_74 (by decide) ?_
          refine V_idiv F dM_makeRequest_75 (by omega) ?_
          refine V_aload_n (i := 0) F dM_makeRequest_76 rfl rfl ?_
          refine V_getr (ci := 7) (C := R_M) (T := T_M) (N := 32) F dM_makeRequest_77 (by first | rfl | assumption) rfl (j := 5) (by decide) rfl lfM_17 ?_
          refine V_iload_n (i := 2) F dM_makeRequest_80 rfl rfl ?_
          first
            | refine V_sald F dM_makeRequest_81 (by decide) (by omega) (stt_in _ _) ?_
            | refine V_iald F dM_makeRequest_81 (by first | rfl | assumption) rfl (by omega) ?_
          rw [m80]
          refine V_icmp_eq F 93 dM_makeRequest_82 (by decide) (fun h82 => ?_) (fun h82 => ?_)
          · refine V_iconst F dM_makeRequest_93 (by decide) ?_
            refine V_goto F 98 dM_makeRequest_94 (by decide) ?_
            refine V_istore F dM_makeRequest_98 (by decide) (by simp only [List.set_cons_zero, List.set_cons_succ]; exact rfl) ?_
            refine V_goto F 25 dM_makeRequest_100 (by decide) ?_
            first
            | exact ih (k + 1) b _ _ (by omega) (by omega) (by omega) hb2 hst.1 hst.2.symm (bz_t ⟨by omega, by rw [e95]; exact Or.inl h82⟩).symm
            | exact ih (k + 1) b _ _ (by omega) (by omega) (by omega) hb2 hst.1 hst.2.symm (bz_t ⟨by omega, by rw [e95]; exact Or.inr (bz_ne0.mp h90)⟩).symm
            | exact ih (k + 1) b _ _ (by omega) (by omega) (by omega) hb2 hst.1 hst.2.symm (bz_f (fun z => by have z2 := z.2; rw [e95] at z2; exact z2.elim h82 (bz_eq0.mp h90))).symm
          · refine V_aload_n (i := 0) F dM_makeRequest_85 rfl rfl ?_
            refine V_iload_n (i := 3) F dM_makeRequest_86 rfl rfl ?_
            refine V_callVi F dM_makeRequest_87 lmM_105 miM_signalled mvM_signalled (ctM_signalled (w := rqW u0 k b) (by omega) hm2) (by decide) (by first | rfl | assumption) rfl rfl (Nat.le_of_ble_eq_true rfl) (fun r u hr => ?_)
            obtain ⟨rfl, rfl⟩ := hr
            rw [m79]
            refine V_if_eq F 97 dM_makeRequest_90 (by decide) (fun h90 => ?_) (fun h90 => ?_)
            · refine V_iconst F dM_makeRequest_97 (by decide) ?_
              refine V_istore F dM_makeRequest_98 (by decide) (by simp only [List.set_cons_zero, List.set_cons_succ]; exact rfl) ?_
              refine V_goto F 25 dM_makeRequest_100 (by decide) ?_
              first
              | exact ih (k + 1) b _ _ (by omega) (by omega) (by omega) hb2 hst.1 hst.2.symm (bz_t ⟨by omega, by rw [e95]; exact Or.inl h82⟩).symm
              | exact ih (k + 1) b _ _ (by omega) (by omega) (by omega) hb2 hst.1 hst.2.symm (bz_t ⟨by omega, by rw [e95]; exact Or.inr (bz_ne0.mp h90)⟩).symm
              | exact ih (k + 1) b _ _ (by omega) (by omega) (by omega) hb2 hst.1 hst.2.symm (bz_f (fun z => by have z2 := z.2; rw [e95] at z2; exact z2.elim h82 (bz_eq0.mp h90))).symm
            · refine V_iconst F dM_makeRequest_93 (by decide) ?_
              refine V_goto F 98 dM_makeRequest_94 (by decide) ?_
              refine V_istore F dM_makeRequest_98 (by decide) (by simp only [List.set_cons_zero, List.set_cons_succ]; exact rfl) ?_
              refine V_goto F 25 dM_makeRequest_100 (by decide) ?_
              first
              | exact ih (k + 1) b _ _ (by omega) (by omega) (by omega) hb2 hst.1 hst.2.symm (bz_t ⟨by omega, by rw [e95]; exact Or.inl h82⟩).symm
              | exact ih (k + 1) b _ _ (by omega) (by omega) (by omega) hb2 hst.1 hst.2.symm (bz_t ⟨by omega, by rw [e95]; exact Or.inr (bz_ne0.mp h90)⟩).symm
              | exact ih (k + 1) b _ _ (by omega) (by omega) (by omega) hb2 hst.1 hst.2.symm (bz_f (fun z => by have z2 := z.2; rw [e95] at z2; exact z2.elim h82 (bz_eq0.mp h90))).symm
        · have hb1 : b = -1 := by omega
          refine V_iconst F dM_makeRequest_51 (by decide) ?_
          exact hR _ _ _ _ dM_makeRequest_52 (by first | exact Or.inl rfl | exact Or.inr rfl | exact bz_01 _ | assumption) (by
                      first
                      | (have hg := (bz_ne0 (P := 1 ≤ k ∧ enM v s (u0 95 (k - 1)))).mp (by rw [← hfe]; exact h27)
                         exact ⟨by rw [hk]; exact hI, by omega, Or.inl ⟨rfl, by omega, by rw [hk]; exact Or.inl hg.2⟩⟩)
                      | (have hg : b < 0 := by omega
                         exact ⟨by rw [hk]; exact hI, by omega, Or.inr ⟨rfl, fun z z2 => by rw [hk] at z2 z; rw [bz_t ⟨z, z2⟩] at hfe; omega, by rw [hk, ← hqe, ← hb1]; exact hb⟩⟩)
                      | exact ⟨by rw [hk]; exact hI, by omega, Or.inl ⟨rfl, by omega, Or.inr (by omega)⟩⟩)
def kOK (w : RW) : Prop := ∀ s, 0 ≤ s → s < 6 → (w 83 s = 0 ∨ w 83 s = 1) ∧ (w 83 s = 1 → frOK w s)
def gMt (w : RW) (t : Int) : Int := w 92 (6 * t + w 94 t)
/-- behind the model's makeRequest: the sums are measured, the request laid -/
def mqM (w u : RW) (t r : Int) : Prop := ∃ v, msP (upw w 77 21 0) v (gMt w t) ∧ frR v (gMt w t) ∧ rqE v u (gMt w t) (w 85 (300 * t + w 86 t - 1)) r
theorem ctM_makeRequest {G : vG} {l : Launch} {w : RW} {t : Int} (ht : 0 ≤ t ∧ t < 6) (hm : mOK w) (h1 : 1 ≤ w 86 t) (hk : kOK w) : CTi G l yM_makeRequest cM_makeRequest 5 .boolean 5 [.inr 77, .inl t] w (fun r u => mqM w u t r) := by
  refine CTi.bool (by decide) (Nat.le_of_ble_eq_true rfl) ?_
  intro X Q F hX hR
  subst hX
  show V G X 5 Q 0 [some (.inr 77), some (.inl t), none, none, none] [] w
  have k5 := hm.2.2.2.2.1 t ht.1 ht.2
  have hq0 := hm.2.2.2.2.2.1 (300 * t + w 86 t - 1) (by omega) (by omega)
  have hg : 0 ≤ gMt w t ∧ gMt w t < 6 := hm.2.2.2.2.2.2 _ (by omega) (by omega)
  refine V_aload_n (i := 0) F dM_makeRequest_0 rfl rfl ?_
  refine V_iload_n (i := 1) F dM_makeRequest_1 rfl rfl ?_
  refine V_callVi F dM_makeRequest_2 lmM_132 miM_goal mvM_goal (ctM_goal ht hm) (by decide) (by first | rfl | assumption) rfl rfl (Nat.le_of_ble_eq_true rfl) (fun r u hr => ?_)
  obtain ⟨rfl, rfl⟩ := hr
  show V _ _ _ _ _ _ [.inl (gMt w t)] _
  refine V_istore_n (i := 2) F dM_makeRequest_5 rfl (by decide) (by simp only [List.set_cons_zero, List.set_cons_succ]; exact rfl) ?_
  refine V_aload_n (i := 0) F dM_makeRequest_6 rfl rfl ?_
  refine V_iload_n (i := 1) F dM_makeRequest_7 rfl rfl ?_
  refine V_callVi F dM_makeRequest_8 lmM_129 miM_last mvM_last (ctM_last ht hm h1) (by decide) (by first | rfl | assumption) rfl rfl (Nat.le_of_ble_eq_true rfl) (fun r u hr => ?_)
  obtain ⟨rfl, rfl⟩ := hr
  refine V_istore_n (i := 3) F dM_makeRequest_11 rfl (by decide) (by simp only [List.set_cons_zero, List.set_cons_succ]; exact rfl) ?_
  refine V_aload_n (i := 0) F dM_makeRequest_12 rfl rfl ?_
  refine V_iconst F dM_makeRequest_13 (by decide) ?_
  refine V_puti (ci := 7) (C := R_M) (T := T_M) (N := 32) F dM_makeRequest_14 (by first | rfl | assumption) rfl (j := 21) 21 rfl (by decide) rfl rfl rfl lfM_147 ?_
  have hmz : mOK (upw w 77 21 0) := mOK_c (fun j j1 _ _ _ => upw_f j1) (fun f hf => upw_i hf) hm
  refine V_aload_n (i := 0) F dM_makeRequest_17 rfl rfl ?_
  refine V_iload_n (i := 2) F dM_makeRequest_18 rfl rfl ?_
  refine V_callVv F dM_makeRequest_19 lmM_150 miM_measure mvM_measure (ctM_measure (w := upw w 77 21 0) hg hmz (by rw [upw_f (by decide)]; exact (hk _ hg.1 hg.2).1)) (by decide) (by first | rfl | assumption) rfl rfl (Nat.le_of_ble_eq_true rfl) (fun v hms => ?_)
  skip
  refine V_iconst F dM_makeRequest_22 (by decide) ?_
  refine V_istore F dM_makeRequest_23 (by decide) (by simp only [List.set_cons_zero, List.set_cons_succ]; exact rfl) ?_
  have hfv : frR v (gMt w t) ∧ (∀ j, j ≠ 83 → j ≠ 84 → v j = upw w 77 21 0 j) := by
    rcases hms with ⟨a, rfl⟩ | ⟨a, b, c⟩
    · rw [upw_f (by decide)] at a
      exact ⟨by unfold frR; rw [upw_f (by decide)]; exact ((hk _ hg.1 hg.2).2 a).1, fun _ _ _ => rfl⟩
    · exact ⟨c.1, b.1⟩
  have hmv : mOK v := mOK_c (fun j j1 j2 j3 j4 => by rw [hfv.2 j j2 j3, upw_f j1]) (fun f hf => by rw [hfv.2 77 (by decide) (by decide), upw_i hf]) hm
  exact lpM_makeRequest (w := w) hg hmv hfv.1 F (fun pc L z u hd hz h => hR pc L z u hd hz ⟨v, hms, hfv.1, h⟩) 581 0 _ 0 v (by omega) (by omega) (by omega) hq0 ⟨⟨fun _ _ _ => rfl, fun _ _ => rfl⟩, by rw [hfv.2 77 (by decide) (by decide), upw_s], fun j j1 j2 => by omega, fun j j1 j2 => by omega⟩ rfl (bz_f (fun z => by have := z.1; omega)).symm
