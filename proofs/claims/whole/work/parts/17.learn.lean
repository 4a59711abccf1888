theorem dW_learn_0 : decode cW_learn 0 = .ok (.aload_n 0, 1) := by decide +kernel
theorem dW_learn_1 : decode cW_learn 1 = .ok (.getfield 23, 3) := by decide +kernel
theorem dW_learn_4 : decode cW_learn 4 = .ok (.iload_n 2, 1) := by decide +kernel
theorem dW_learn_5 : decode cW_learn 5 = .ok (.ishr, 1) := by decide +kernel
theorem dW_learn_6 : decode cW_learn 6 = .ok (.iconst 1, 1) := by decide +kernel
theorem dW_learn_7 : decode cW_learn 7 = .ok (.iand, 1) := by decide +kernel
theorem dW_learn_8 : decode cW_learn 8 = .ok (.ifCond .eq 4, 3) := by decide +kernel
theorem dW_learn_11 : decode cW_learn 11 = .ok (.return_, 1) := by decide +kernel
theorem dW_learn_12 : decode cW_learn 12 = .ok (.aload_n 0, 1) := by decide +kernel
theorem dW_learn_13 : decode cW_learn 13 = .ok (.dup, 1) := by decide +kernel
theorem dW_learn_14 : decode cW_learn 14 = .ok (.getfield 23, 3) := by decide +kernel
theorem dW_learn_17 : decode cW_learn 17 = .ok (.iconst 1, 1) := by decide +kernel
theorem dW_learn_18 : decode cW_learn 18 = .ok (.iload_n 2, 1) := by decide +kernel
theorem dW_learn_19 : decode cW_learn 19 = .ok (.ishl, 1) := by decide +kernel
theorem dW_learn_20 : decode cW_learn 20 = .ok (.ior, 1) := by decide +kernel
theorem dW_learn_21 : decode cW_learn 21 = .ok (.putfield 23, 3) := by decide +kernel
theorem dW_learn_24 : decode cW_learn 24 = .ok (.aload_n 0, 1) := by decide +kernel
theorem dW_learn_25 : decode cW_learn 25 = .ok (.getfield 11, 3) := by decide +kernel
theorem dW_learn_28 : decode cW_learn 28 = .ok (.iload_n 2, 1) := by decide +kernel
theorem dW_learn_29 : decode cW_learn 29 = .ok (.aaload, 1) := by decide +kernel
theorem dW_learn_30 : decode cW_learn 30 = .ok (.ldc 51, 2) := by decide +kernel
theorem dW_learn_32 : decode cW_learn 32 = .ok (.invokestatic 72, 3) := by decide +kernel
theorem dW_learn_35 : decode cW_learn 35 = .ok (.iload_n 3, 1) := by decide +kernel
theorem dW_learn_36 : decode cW_learn 36 = .ok (.invokestatic 78, 3) := by decide +kernel
theorem dW_learn_39 : decode cW_learn 39 = .ok (.istore 4, 2) := by decide +kernel
theorem dW_learn_41 : decode cW_learn 41 = .ok (.aload_n 0, 1) := by decide +kernel
theorem dW_learn_42 : decode cW_learn 42 = .ok (.aload_n 1, 1) := by decide +kernel
theorem dW_learn_43 : decode cW_learn 43 = .ok (.iload_n 2, 1) := by decide +kernel
theorem dW_learn_44 : decode cW_learn 44 = .ok (.iload_n 3, 1) := by decide +kernel
theorem dW_learn_45 : decode cW_learn 45 = .ok (.getstatic 81, 3) := by decide +kernel
theorem dW_learn_48 : decode cW_learn 48 = .ok (.iload 4, 2) := by decide +kernel
theorem dW_learn_50 : decode cW_learn 50 = .ok (.iaload, 1) := by decide +kernel
theorem dW_learn_51 : decode cW_learn 51 = .ok (.invokestatic 62, 3) := by decide +kernel
theorem dW_learn_54 : decode cW_learn 54 = .ok (.iconst 0, 1) := by decide +kernel
theorem dW_learn_55 : decode cW_learn 55 = .ok (.invokevirtual 84, 3) := by decide +kernel
theorem dW_learn_58 : decode cW_learn 58 = .ok (.aload_n 0, 1) := by decide +kernel
theorem dW_learn_59 : decode cW_learn 59 = .ok (.aload_n 1, 1) := by decide +kernel
theorem dW_learn_60 : decode cW_learn 60 = .ok (.iload_n 2, 1) := by decide +kernel
theorem dW_learn_61 : decode cW_learn 61 = .ok (.iload_n 3, 1) := by decide +kernel
theorem dW_learn_62 : decode cW_learn 62 = .ok (.getstatic 88, 3) := by decide +kernel
theorem dW_learn_65 : decode cW_learn 65 = .ok (.iload 4, 2) := by decide +kernel
theorem dW_learn_67 : decode cW_learn 67 = .ok (.iaload, 1) := by decide +kernel
theorem dW_learn_68 : decode cW_learn 68 = .ok (.invokestatic 62, 3) := by decide +kernel
theorem dW_learn_71 : decode cW_learn 71 = .ok (.iconst 0, 1) := by decide +kernel
theorem dW_learn_72 : decode cW_learn 72 = .ok (.invokevirtual 84, 3) := by decide +kernel
theorem dW_learn_75 : decode cW_learn 75 = .ok (.iconst 0, 1) := by decide +kernel
theorem dW_learn_76 : decode cW_learn 76 = .ok (.istore 5, 2) := by decide +kernel
theorem dW_learn_78 : decode cW_learn 78 = .ok (.aload_n 0, 1) := by decide +kernel
theorem dW_learn_79 : decode cW_learn 79 = .ok (.getfield 91, 3) := by decide +kernel
theorem dW_learn_82 : decode cW_learn 82 = .ok (.ifCond .le 92, 3) := by decide +kernel
theorem dW_learn_85 : decode cW_learn 85 = .ok (.iload 5, 2) := by decide +kernel
theorem dW_learn_87 : decode cW_learn 87 = .ok (.ldc 94, 2) := by decide +kernel
theorem dW_learn_89 : decode cW_learn 89 = .ok (.if_icmp .ge 85, 3) := by decide +kernel
theorem dW_learn_92 : decode cW_learn 92 = .ok (.aload_n 0, 1) := by decide +kernel
theorem dW_learn_93 : decode cW_learn 93 = .ok (.invokevirtual 95, 3) := by decide +kernel
theorem dW_learn_96 : decode cW_learn 96 = .ok (.istore 6, 2) := by decide +kernel
theorem dW_learn_98 : decode cW_learn 98 = .ok (.iload 6, 2) := by decide +kernel
theorem dW_learn_100 : decode cW_learn 100 = .ok (.bipush 64, 2) := by decide +kernel
theorem dW_learn_102 : decode cW_learn 102 = .ok (.irem, 1) := by decide +kernel
theorem dW_learn_103 : decode cW_learn 103 = .ok (.istore 7, 2) := by decide +kernel
theorem dW_learn_105 : decode cW_learn 105 = .ok (.iload 6, 2) := by decide +kernel
theorem dW_learn_107 : decode cW_learn 107 = .ok (.bipush 64, 2) := by decide +kernel
theorem dW_learn_109 : decode cW_learn 109 = .ok (.idiv, 1) := by decide +kernel
theorem dW_learn_110 : decode cW_learn 110 = .ok (.istore 8, 2) := by decide +kernel
theorem dW_learn_112 : decode cW_learn 112 = .ok (.iconst 0, 1) := by decide +kernel
theorem dW_learn_113 : decode cW_learn 113 = .ok (.istore 9, 2) := by decide +kernel
theorem dW_learn_115 : decode cW_learn 115 = .ok (.iload 9, 2) := by decide +kernel
theorem dW_learn_117 : decode cW_learn 117 = .ok (.bipush 6, 2) := by decide +kernel
theorem dW_learn_119 : decode cW_learn 119 = .ok (.if_icmp .ge 49, 3) := by decide +kernel
theorem dW_learn_122 : decode cW_learn 122 = .ok (.aload_n 1, 1) := by decide +kernel
theorem dW_learn_123 : decode cW_learn 123 = .ok (.iload 7, 2) := by decide +kernel
theorem dW_learn_125 : decode cW_learn 125 = .ok (.iload 9, 2) := by decide +kernel
theorem dW_learn_127 : decode cW_learn 127 = .ok (.iload 8, 2) := by decide +kernel
theorem dW_learn_129 : decode cW_learn 129 = .ok (.invokevirtual 52, 3) := by decide +kernel
theorem dW_learn_132 : decode cW_learn 132 = .ok (.ifCond .eq 30, 3) := by decide +kernel
theorem dW_learn_135 : decode cW_learn 135 = .ok (.aload_n 0, 1) := by decide +kernel
theorem dW_learn_136 : decode cW_learn 136 = .ok (.aload_n 1, 1) := by decide +kernel
theorem dW_learn_137 : decode cW_learn 137 = .ok (.iload_n 2, 1) := by decide +kernel
theorem dW_learn_138 : decode cW_learn 138 = .ok (.iload 7, 2) := by decide +kernel
theorem dW_learn_140 : decode cW_learn 140 = .ok (.iload 9, 2) := by decide +kernel
theorem dW_learn_142 : decode cW_learn 142 = .ok (.invokestatic 56, 3) := by decide +kernel
theorem dW_learn_145 : decode cW_learn 145 = .ok (.iload 8, 2) := by decide +kernel
theorem dW_learn_147 : decode cW_learn 147 = .ok (.invokestatic 62, 3) := by decide +kernel
theorem dW_learn_150 : decode cW_learn 150 = .ok (.aload_n 0, 1) := by decide +kernel
theorem dW_learn_151 : decode cW_learn 151 = .ok (.getfield 11, 3) := by decide +kernel
theorem dW_learn_154 : decode cW_learn 154 = .ok (.iload_n 2, 1) := by decide +kernel
theorem dW_learn_155 : decode cW_learn 155 = .ok (.aaload, 1) := by decide +kernel
theorem dW_learn_156 : decode cW_learn 156 = .ok (.iload 6, 2) := by decide +kernel
theorem dW_learn_158 : decode cW_learn 158 = .ok (.iaload, 1) := by decide +kernel
theorem dW_learn_159 : decode cW_learn 159 = .ok (.invokevirtual 84, 3) := by decide +kernel
theorem dW_learn_162 : decode cW_learn 162 = .ok (.iinc 9 1, 3) := by decide +kernel
theorem dW_learn_165 : decode cW_learn 165 = .ok (.goto (-50), 3) := by decide +kernel
theorem dW_learn_168 : decode cW_learn 168 = .ok (.iinc 5 1, 3) := by decide +kernel
theorem dW_learn_171 : decode cW_learn 171 = .ok (.goto (-93), 3) := by decide +kernel
theorem dW_learn_174 : decode cW_learn 174 = .ok (.return_, 1) := by decide +kernel
theorem lmW_84 : Cond.methodLink R_W 84 yW_offer ∈ bigW := bw 480 (by decide +kernel) rfl
theorem lcW_94 : Cond.constant R_W 94 (Int32.ofInt 65536) ∈ bigW := bw 502 (by decide +kernel) rfl
theorem lmW_95 : Cond.methodLink R_W 95 yW_takeFromQueue ∈ bigW := bw 503 (by decide +kernel) rfl
theorem lmW_72 : Cond.methodLink R_W 72 yA_fill ∈ bigW := bw 476 (by decide +kernel) rfl
theorem lmW_78 : Cond.methodLink R_W 78 yS_pieceOf ∈ bigW := bw 477 (by decide +kernel) rfl
theorem lfW_81 : Cond.fieldLinkNest R_W 81 "RailYard$Spot" "FIRST_EDGE" "[I" hostN ∈ nestW := nw 478 (by decide +kernel) rfl
theorem lfW_88 : Cond.fieldLinkNest R_W 88 "RailYard$Spot" "SECOND_EDGE" "[I" hostN ∈ nestW := nw 501 (by decide +kernel) rfl
theorem miW_offer : MI yW_offer cW_offer 9 none 4 := ⟨bw 483 (by decide +kernel) rfl, bw 40 (by decide +kernel) rfl, ⟨by decide +kernel, by decide +kernel⟩, by decide +kernel, by decide⟩
theorem mvW_offer : MV yW_offer := ⟨bw 482 (by decide +kernel) rfl, bw 5 (by decide +kernel) rfl⟩
theorem miW_takeFromQueue : MI yW_takeFromQueue cW_takeFromQueue 2 (some .int) 0 := ⟨bw 506 (by decide +kernel) rfl, bw 40 (by decide +kernel) rfl, ⟨by decide +kernel, by decide +kernel⟩, by decide +kernel, by decide⟩
theorem mvW_takeFromQueue : MV yW_takeFromQueue := ⟨bw 505 (by decide +kernel) rfl, bw 7 (by decide +kernel) rfl⟩
theorem lpW_learnI {G : vG} {X : vX} {Q : State → Prop} {w u0 : RW} {gp : Option RV} {tk e0 : Int} {s g : Int} (hs : 0 ≤ s ∧ s < 6) (hb : w 2 0 ≤ 8 ∧ w 2 1 ≤ 6) (hw : ∀ t, 0 ≤ t → t < 48 → 0 ≤ w 3 t) (hl : ∀ p, 0 ≤ p → p < 384 → 0 ≤ w 4 p) (he : 0 ≤ e0 ∧ e0 < 256) (hval : isT (w 2 0) (w 2 1) (e0 % 64 % 8) (e0 % 64 / 8)) (hF0 : ∀ e, 0 ≤ e → e < 256 → u0 (65 + s.toNat) e ≤ 1048576) (he0 : u0 (65 + s.toNat) e0 < 1048576) (hg0 : ∀ q k c, 0 ≤ q → q < 256 → 0 ≤ k → k < 6 → edC w g q k = some (none, c) → u0 (65 + s.toNat) q ≤ c) (F : FX G X cW_learn yW_learn.cls 10 3) (K : ∀ (u : RW) (p : Option RV), lnI w u0 u s g e0 6 → V G X 10 Q 168 [some (.inr 63), some (.inr 2), some (.inl s), some (.inl g), gp, some (.inl tk), some (.inl (e0)), some (.inl (e0 % 64)), some (.inl (e0 / 64)), p] [] u) : ∀ (m : Nat) (i : Int) (u : RW), 0 ≤ i → i ≤ 6 → 6 - i < m → lnI w u0 u s g e0 i → V G X 10 Q 115 [some (.inr 63), some (.inr 2), some (.inl s), some (.inl g), gp, some (.inl tk), some (.inl (e0)), some (.inl (e0 % 64)), some (.inl (e0 / 64)), some (.inl (i))] [] u := by
  have ht48 := isT_val hb.1 hb.2 hval (by omega)
  intro m
  induction m with
  | zero => intro i u h1 h2 h3; omega
  | succ m ih =>
    intro i u h1 h2 h3 hI
    obtain ⟨c2, c3, c4⟩ := lnF_ed hs hI.1
    have a1 := ls65_at hs
    have a2 := ls65_sh hs
    refine V_iload F dW_learn_115 rfl ?_
    refine V_bipush F dW_learn_117 (by decide) ?_
    refine V_icmp_ge F 168 dW_learn_119 (by decide) (fun h119 => ?_) (fun h119 => ?_)
    · first | (replace h119 := bz_ne0.mp h119) | (replace h119 := bz_eq0.mp h119) | skip
      rw [show i = 6 by omega] at hI
      exact K u _ hI
    · first | (replace h119 := bz_ne0.mp h119) | (replace h119 := bz_eq0.mp h119) | skip
      refine V_aload_n (i := 1) F dW_learn_122 rfl rfl ?_
      refine V_iload F dW_learn_123 rfl ?_
      refine V_iload F dW_learn_125 rfl ?_
      refine V_iload F dW_learn_127 rfl ?_
      refine V_callVi F dW_learn_129 lmW_52 miG_meets mvG_meets (ctG_meets (w := u) (by omega) (by omega) (by rw [c3]; exact hw _ (by omega) (by omega))) (by decide) (by first | rfl | assumption) rfl rfl (Nat.le_of_ble_eq_true rfl) (fun r u hr => ?_)
      obtain ⟨rfl, rfl⟩ := hr
      refine V_if_eq F 162 dW_learn_132 (by decide) (fun h132 => ?_) (fun h132 => ?_)
      · first | (replace h132 := bz_ne0.mp h132) | (replace h132 := bz_eq0.mp h132) | skip
        refine V_iinc F dW_learn_162 (by decide) rfl (by omega) (by simp only [List.set_cons_zero, List.set_cons_succ]; exact rfl) ?_
        refine V_goto F 115 dW_learn_165 (by decide) ?_
        first
        | exact ih (i + 1) _ (by omega) (by omega) (by omega) (lnI_step hs hb he (by omega) hval hF0 he0 hg0 hI (by rw [c3] at h132; exact h132) hr)
        | exact ih (i + 1) _ (by omega) (by omega) (by omega) (lnI_skip hb he (by omega) hI (by rw [c3] at h132; exact h132))
      · first | (replace h132 := bz_ne0.mp h132) | (replace h132 := bz_eq0.mp h132) | skip
        refine V_aload_n (i := 0) F dW_learn_135 rfl rfl ?_
        refine V_aload_n (i := 1) F dW_learn_136 rfl rfl ?_
        refine V_iload_n (i := 2) F dW_learn_137 rfl rfl ?_
        refine V_iload F dW_learn_138 rfl ?_
        refine V_iload F dW_learn_140 rfl ?_
        refine V_callSi F dW_learn_142 lmW_56 miS_place msS_place (ctS_place (w := u) (by omega)) (by decide) rfl (Nat.le_of_ble_eq_true rfl) (fun r u hr => ?_)
        obtain ⟨rfl, rfl⟩ := hr
        refine V_iload F dW_learn_145 rfl ?_
        refine V_callSi F dW_learn_147 lmW_62 miS_run msS_run (ctS_run (w := u) (by omega)) (by decide) rfl (Nat.le_of_ble_eq_true rfl) (fun r u hr => ?_)
        obtain ⟨rfl, rfl⟩ := hr
        refine V_aload_n (i := 0) F dW_learn_150 rfl rfl ?_
        refine V_getr (ci := 4) (C := R_W) (T := T_W) (N := 6) F dW_learn_151 (by first | rfl | assumption) rfl (j := 0) (by decide) rfl lfW_11 ?_
        refine V_iload_n (i := 2) F dW_learn_154 rfl rfl ?_
        first
          | refine V_aald F dW_learn_155 (by first | rfl | assumption) rfl (by omega) (by first | rfl | assumption) ?_
          | refine V_aaldA F dW_learn_155 (by first | rfl | assumption) rfl (by omega) (by first | rfl | assumption) ?_
        refine V_iload F dW_learn_156 rfl ?_
        first
          | refine V_sald F dW_learn_158 (by decide) (by omega) (stt_in _ _) ?_
          | refine V_iald F dW_learn_158 (by first | rfl | assumption) rfl (by omega) ?_
        refine V_callVv F dW_learn_159 lmW_84 miW_offer mvW_offer (ctW_offer (w := u) (s := s) (x := e0 % 64 + 64 * i + 512 * (e0 / 64)) (z := u (65 + s.toNat) e0) ⟨by omega, by omega, by omega, by omega, by rw [show (e0 % 64 + 64 * i + 512 * (e0 / 64)) % 512 / 64 = i by omega, show (e0 % 64 + 64 * i + 512 * (e0 / 64)) / 512 = e0 / 64 by omega]; exact h132.2⟩ ⟨by have := hI.2.2.2.2.1 e0 he.1 he.2; omega, by have := hI.2.2.2.2.2.1; omega⟩ (by rw [c2]; exact hb) (by rw [c4]; exact hl) hs (by have := hI.2.1.1; have := hI.2.1.2.1; omega)) (by decide) (by first | rfl | assumption) rfl rfl (Nat.le_of_ble_eq_true rfl) (fun u hr => ?_)
        skip
        refine V_iinc F dW_learn_162 (by decide) rfl (by omega) (by simp only [List.set_cons_zero, List.set_cons_succ]; exact rfl) ?_
        refine V_goto F 115 dW_learn_165 (by decide) ?_
        first
        | exact ih (i + 1) _ (by omega) (by omega) (by omega) (lnI_step hs hb he (by omega) hval hF0 he0 hg0 hI (by rw [c3] at h132; exact h132) hr)
        | exact ih (i + 1) _ (by omega) (by omega) (by omega) (lnI_skip hb he (by omega) hI (by rw [c3] at h132; exact h132))
theorem lpW_learnO {G : vG} {X : vX} {Q : State → Prop} {w : RW} {gp : Option RV} {s g : Int} (hs : 0 ≤ s ∧ s < 6) (hb : w 2 0 ≤ 8 ∧ w 2 1 ≤ 6) (hw : ∀ t, 0 ≤ t → t < 48 → 0 ≤ w 3 t) (hl : ∀ p, 0 ≤ p → p < 384 → 0 ≤ w 4 p) (hk0 : ¬ tb (w 63 1) s) (F : FX G X cW_learn yW_learn.cls 10 3) (hR : RetV G X cW_learn 10 Q (fun u => lnP w u s g)) : ∀ (m : Nat) (tk : Int) (v : RW) (o1 o2 o3 o4 : Option RV), 0 ≤ tk → tk ≤ 65536 → 65536 - tk < m → lnO w v s g tk → V G X 10 Q 78 [some (.inr 63), some (.inr 2), some (.inl s), some (.inl g), gp, some (.inl tk), o1, o2, o3, o4] [] v := by
  intro m
  induction m with
  | zero => intro tk v o1 o2 o3 o4 h1 h2 h3; omega
  | succ m ih =>
    intro tk v o1 o2 o3 o4 h1 h2 h3 hO
    have hhead : 0 < v 63 5 → 0 ≤ v 71 (v 63 4) ∧ v 71 (v 63 4) < 256 := fun hc => hO.2.1.2.2.2.1 _ (by
      unfold qL
      refine List.mem_map.mpr ⟨0, List.mem_range.mpr (by omega), ?_⟩
      have := hO.2.1.1
      show v 71 ((v 63 4 + 0) % 256) = _
      congr 1
      omega)
    refine V_aload_n (i := 0) F dW_learn_78 rfl rfl ?_
    refine V_geti (ci := 4) (C := R_W) (T := T_W) (N := 6) F dW_learn_79 (by first | rfl | assumption) rfl (j := 5) 5 rfl (by decide) rfl lfW_91 ?_
    refine V_if_le F 174 dW_learn_82 (by decide) (fun h82 => ?_) (fun h82 => ?_)
    · exact hR _ _ _ dW_learn_174 (Or.inr ⟨hk0, hO.1, hO.2.1, lnO_end hs hO (by omega)⟩)
    · refine V_iload F dW_learn_85 rfl ?_
      refine V_ldc F dW_learn_87 lcW_94 ⟨by decide, by decide⟩ ?_
      refine V_icmp_ge F 174 dW_learn_89 (by decide) (fun h89 => ?_) (fun h89 => ?_)
      · exact hR _ _ _ dW_learn_174 (Or.inr ⟨hk0, hO.1, hO.2.1, lnO_end hs hO (by omega)⟩)
      · refine V_aload_n (i := 0) F dW_learn_92 rfl rfl ?_
        refine V_callVi F dW_learn_93 lmW_95 miW_takeFromQueue mvW_takeFromQueue (ctW_takeFromQueue (w := v) (by have := hO.2.1.1; have := hO.2.1.2.1; omega) (hhead (by omega))) (by decide) (by first | rfl | assumption) rfl rfl (Nat.le_of_ble_eq_true rfl) (fun r u hr => ?_)
        obtain ⟨rfl, hu0⟩ := hr
        obtain ⟨t1, t2, t3, t4⟩ := take_ok hO.2.1 (by omega) hu0
        refine V_istore F dW_learn_96 (by decide) (by simp only [List.set_cons_zero, List.set_cons_succ]; exact rfl) ?_
        refine V_iload F dW_learn_98 rfl ?_
        refine V_bipush F dW_learn_100 (by decide) ?_
        refine V_irem F dW_learn_102 (by omega) ?_
        refine V_istore F dW_learn_103 (by decide) (by simp only [List.set_cons_zero, List.set_cons_succ]; exact rfl) ?_
        refine V_iload F dW_learn_105 rfl ?_
        refine V_bipush F dW_learn_107 (by decide) ?_
        refine V_idiv F dW_learn_109 (by omega) ?_
        refine V_istore F dW_learn_110 (by decide) (by simp only [List.set_cons_zero, List.set_cons_succ]; exact rfl) ?_
        refine V_iconst F dW_learn_112 (by decide) ?_
        refine V_istore F dW_learn_113 (by decide) (by simp only [List.set_cons_zero, List.set_cons_succ]; exact rfl) ?_
        have hmem : v 71 (v 63 4) ∈ qL v := by rw [t4]; exact List.mem_cons_self
        obtain ⟨he, heF⟩ := hO.2.2.1.2.2.2.1 _ hmem
        have hLe : ∀ x, x = v (65 + s.toNat) → True := fun _ _ => trivial
        have hneL : 65 + s.toNat ≠ 63 ∧ 65 + s.toNat ≠ 72 := by omega
        have hL := t2 _ hneL.1 hneL.2
        have hval : isT (w 2 0) (w 2 1) (v 71 (v 63 4) % 64 % 8) (v 71 (v 63 4) % 64 / 8) := by
          obtain ⟨k, t, c, -, hed, -⟩ := hO.2.2.1.1 _ he.1 he.2 heF
          exact (edC_v hed).2.2.1
        refine lpW_learnI (u0 := _) hs hb hw hl he hval (fun e a b => by rw [hL]; exact hO.2.2.1.2.2.1 e a b) (by rw [hL]; exact heF) (fun q k c q1 q2 k1 k2 hed => by rw [hL]; exact (hO.2.2.1.2.2.2.2.2 q k none c q1 q2 k1 k2 hed).1 rfl) F (fun u2 p2 hI2 => ?_) 7 0 _ (by omega) (by omega) (by omega) ⟨⟨fun j j1 j2 j3 j4 => by rw [t2 j j1 j3]; exact hO.1.1 j j1 j2 j3 j4, by rw [t3 1 (by decide) (by decide)]; exact hO.1.2⟩, t1, fun q _ _ => Int.le_refl _, by rw [hL]; exact hO.2.2.1.1, by rw [hL]; exact hO.2.2.1.2.1, rfl, ⟨[], by simp, fun x hx => absurd hx List.not_mem_nil⟩, fun q _ _ h => absurd h (Int.lt_irrefl _), fun q k c q1 q2 k1 k2 => by omega⟩
        refine V_iinc F dW_learn_168 (by decide) rfl (by omega) (by simp only [List.set_cons_zero, List.set_cons_succ]; exact rfl) ?_
        refine V_goto F 78 dW_learn_171 (by decide) ?_
        exact ih (tk + 1) u2 _ _ _ _ (by omega) (by omega) (by omega) (lnO_take hs hb hO t4 hL hI2)
theorem ctW_learn {G : vG} {l : Launch} {w : RW} {s g : Int} (hs : 0 ≤ s ∧ s < 6) (hb : w 2 0 ≤ 8 ∧ w 2 1 ≤ 6) (hw : ∀ t, 0 ≤ t → t < 48 → 0 ≤ w 3 t) (hl : ∀ p, 0 ≤ p → p < 384 → 0 ≤ w 4 p) (hg : 0 ≤ g ∧ g < 384) (hgv : isT (w 2 0) (w 2 1) (g % 64 % 8) (g % 64 / 8)) (hgl : tb (w 3 (g % 64)) (g / 64)) (hk : 0 ≤ w 63 1 ∧ w 63 1 < 64) (hQ : QI w ∧ w 63 5 = 0) : CTv G l yW_learn cW_learn 10 3 [.inr 63, .inr 2, .inl s, .inl g] w (fun u => lnP w u s g) := by
  refine CTv.intro (by decide) (Nat.le_of_ble_eq_true rfl) ?_
  intro X Q F hX hR
  subst hX
  show V G X 10 Q 0 [some (.inr 63), some (.inr 2), some (.inl s), some (.inl g), none, none, none, none, none, none] [] w
  have ht48 := isT_val hb.1 hb.2 hgv (by omega)
  have s0 := stt_e (i := 0) (by omega) (show 0 ≤ g % 512 / 64 ∧ g % 512 / 64 < 6 by omega)
  have s1 := stt_e (i := 1) (by omega) (show 0 ≤ g % 512 / 64 ∧ g % 512 / 64 < 6 by omega)
  have hgl2 : tb (w 3 (g % 64)) (g % 512 / 64) := by rw [show g % 512 / 64 = g / 64 by omega]; exact hgl
  have m1 : (g + 512 * stt 0 (g % 512 / 64)) % 64 = g % 64 := by omega
  have m2 : (g + 512 * stt 0 (g % 512 / 64)) % 512 / 64 = g % 512 / 64 := by omega
  have m3 : (g + 512 * stt 0 (g % 512 / 64)) / 512 = stt 0 (g % 512 / 64) := by omega
  have m4 : (g + 512 * stt 0 (g % 512 / 64)) % 512 = g := by omega
  have ok0 : okR (g + 512 * stt 0 (g % 512 / 64)) := ⟨by omega, by omega, by omega, by omega, by rw [m2, m3]; exact Or.inl rfl⟩
  have n1 : (g + 512 * stt 1 (g % 512 / 64)) % 64 = g % 64 := by omega
  have n2 : (g + 512 * stt 1 (g % 512 / 64)) % 512 / 64 = g % 512 / 64 := by omega
  have n3 : (g + 512 * stt 1 (g % 512 / 64)) / 512 = stt 1 (g % 512 / 64) := by omega
  have n4 : (g + 512 * stt 1 (g % 512 / 64)) % 512 = g := by omega
  have ok1 : okR (g + 512 * stt 1 (g % 512 / 64)) := ⟨by omega, by omega, by omega, by omega, by rw [n2, n3]; exact Or.inr rfl⟩
  refine V_aload_n (i := 0) F dW_learn_0 rfl rfl ?_
  refine V_geti (ci := 4) (C := R_W) (T := T_W) (N := 6) F dW_learn_1 (by first | rfl | assumption) rfl (j := 1) 1 rfl (by decide) rfl lfW_23 ?_
  refine V_iload_n (i := 2) F dW_learn_4 rfl rfl ?_
  refine V_ishr F _ dW_learn_5 rfl ?_
  refine V_iconst F dW_learn_6 (by decide) ?_
  refine V_iand F _ dW_learn_7 (bit_1 (by omega) (by omega)) ?_
  refine V_if_eq F 12 dW_learn_8 (by decide) (fun h8 => ?_) (fun h8 => ?_)
  · first | (replace h8 := bz_ne0.mp h8) | (replace h8 := bz_eq0.mp h8) | skip
    have a1 := ls65_at hs
    have a2 := ls65_sh hs
    refine V_aload_n (i := 0) F dW_learn_12 rfl rfl ?_
    refine V_dup F dW_learn_13 ?_
    refine V_geti (ci := 4) (C := R_W) (T := T_W) (N := 6) F dW_learn_14 (by first | rfl | assumption) rfl (j := 1) 1 rfl (by decide) rfl lfW_23 ?_
    refine V_iconst F dW_learn_17 (by decide) ?_
    refine V_iload_n (i := 2) F dW_learn_18 rfl rfl ?_
    refine V_ishl F _ dW_learn_19 (ishl_1 (by omega)) ?_
    refine V_ior F _ dW_learn_20 rfl ?_
    refine V_puti (ci := 4) (C := R_W) (T := T_W) (N := 6) F dW_learn_21 (by first | rfl | assumption) rfl (j := 1) 1 rfl (by decide) rfl rfl rfl lfW_23 ?_
    refine V_aload_n (i := 0) F dW_learn_24 rfl rfl ?_
    refine V_getr (ci := 4) (C := R_W) (T := T_W) (N := 6) F dW_learn_25 (by first | rfl | assumption) rfl (j := 0) (by decide) rfl lfW_11 ?_
    refine V_iload_n (i := 2) F dW_learn_28 rfl rfl ?_
    first
      | refine V_aald F dW_learn_29 (by first | rfl | assumption) rfl (by omega) (by first | rfl | assumption) ?_
      | refine V_aaldA F dW_learn_29 (by first | rfl | assumption) rfl (by omega) (by first | rfl | assumption) ?_
    refine V_ldc F dW_learn_30 lcW_51 ⟨by decide, by decide⟩ ?_
    refine V_callSv F dW_learn_32 lmW_72 miA_fill msA_fill (ctA_fill (k := 65 + s.toNat) (n := 256) a2 (by decide)) (by decide) rfl (Nat.le_of_ble_eq_true rfl) (fun u hr => ?_)
    subst hr
    obtain ⟨u1, hu1⟩ : ∃ u1, u1 = flw (upw w 63 1 (ior (w 63 1) (p2 s))) (65 + s.toNat) ((256 : Nat) : Int) 1048576 := ⟨_, rfl⟩
    rw [← hu1]
    have f1 : ∀ j, j ≠ 65 + s.toNat → u1 j = upw w 63 1 (ior (w 63 1) (p2 s)) j := fun j hj => by rw [hu1]; funext q; unfold flw; rw [if_neg (fun z => hj z.1)]
    have f2 : ∀ q, 0 ≤ q → q < 256 → u1 (65 + s.toNat) q = 1048576 := fun q q1 q2 => by rw [hu1]; unfold flw; rw [if_pos ⟨rfl, q1, by omega⟩]
    have f63 : ∀ f, f ≠ 1 → u1 63 f = w 63 f := fun f hf => by rw [f1 63 (by omega), upw_i hf]
    obtain ⟨qI, qE⟩ := QI_c2 (w := w) (u := u1) (f63 4 (by decide)) (f63 5 (by decide)) (by rw [f1 71 (by omega), upw_f (by decide)]) (by rw [f1 72 (by omega), upw_f (by decide)]) hQ.1
    have qN : qL u1 = [] := by rw [qE]; exact List.length_eq_zero_iff.mp (by rw [qL_len, hQ.2]; rfl)
    have g1 : lnG w u1 s g (fun _ => False) := ⟨⟨fun j j1 j2 j3 j4 => by rw [f1 j j4, upw_f j1], by rw [f1 63 (by omega), upw_s]⟩, qI, fun q q1 q2 q3 => by rw [f2 q q1 q2] at q3; omega, fun q q1 q2 => by rw [f2 q q1 q2]; omega, fun q q1 q2 q3 => by rw [f2 q q1 q2] at q3; omega, fun x hx => by rw [qN] at hx; exact absurd hx List.not_mem_nil, fun q k c _ _ _ _ _ hd => absurd hd (fun z => z)⟩
    refine V_iload_n (i := 3) F dW_learn_35 rfl rfl ?_
    refine V_callSi F dW_learn_36 lmW_78 miS_pieceOf msS_pieceOf (ctS_pieceOf (by omega)) (by decide) rfl (Nat.le_of_ble_eq_true rfl) (fun r u hr => ?_)
    obtain ⟨rfl, rfl⟩ := hr
    refine V_istore F dW_learn_39 (by decide) (by simp only [List.set_cons_zero, List.set_cons_succ]; exact rfl) ?_
    refine V_aload_n (i := 0) F dW_learn_41 rfl rfl ?_
    refine V_aload_n (i := 1) F dW_learn_42 rfl rfl ?_
    refine V_iload_n (i := 2) F dW_learn_43 rfl rfl ?_
    refine V_iload_n (i := 3) F dW_learn_44 rfl rfl ?_
    refine V_getsN F 0 dW_learn_45 (by decide) lfW_81 ?_
    refine V_iload F dW_learn_48 rfl ?_
    first
      | refine V_sald F dW_learn_50 (by decide) (by omega) (stt_in _ _) ?_
      | refine V_iald F dW_learn_50 (by first | rfl | assumption) rfl (by omega) ?_
    refine V_callSi F dW_learn_51 lmW_62 miS_run msS_run (ctS_run (by omega)) (by decide) rfl (Nat.le_of_ble_eq_true rfl) (fun r u hr => ?_)
    obtain ⟨rfl, rfl⟩ := hr
    refine V_iconst F dW_learn_54 (by decide) ?_
    refine V_callVv F dW_learn_55 lmW_84 miW_offer mvW_offer (ctW_offer (w := u1) (s := s) (z := 0) ok0 (by omega) (by rw [(lnF_ed hs g1.1).1]; exact hb) (by rw [(lnF_ed hs g1.1).2.2]; exact hl) hs (by have := g1.2.1.1; have := g1.2.1.2.1; omega)) (by decide) (by first | rfl | assumption) rfl rfl (Nat.le_of_ble_eq_true rfl) (fun u hr => ?_)
    have g2 := lnG_step hs hb ok0 (by rw [m1]; exact hgv) (by rw [m1, m2]; exact hgl2) m4 g1 hr
    refine V_aload_n (i := 0) F dW_learn_58 rfl rfl ?_
    refine V_aload_n (i := 1) F dW_learn_59 rfl rfl ?_
    refine V_iload_n (i := 2) F dW_learn_60 rfl rfl ?_
    refine V_iload_n (i := 3) F dW_learn_61 rfl rfl ?_
    refine V_getsN F 1 dW_learn_62 (by decide) lfW_88 ?_
    refine V_iload F dW_learn_65 rfl ?_
    first
      | refine V_sald F dW_learn_67 (by decide) (by omega) (stt_in _ _) ?_
      | refine V_iald F dW_learn_67 (by first | rfl | assumption) rfl (by omega) ?_
    refine V_callSi F dW_learn_68 lmW_62 miS_run msS_run (ctS_run (by omega)) (by decide) rfl (Nat.le_of_ble_eq_true rfl) (fun r u hr => ?_)
    obtain ⟨rfl, rfl⟩ := hr
    refine V_iconst F dW_learn_71 (by decide) ?_
    refine V_callVv F dW_learn_72 lmW_84 miW_offer mvW_offer (ctW_offer (s := s) (z := 0) ok1 (by omega) (by rw [(lnF_ed hs g2.1).1]; exact hb) (by rw [(lnF_ed hs g2.1).2.2]; exact hl) hs (by have := g2.2.1.1; have := g2.2.1.2.1; omega)) (by decide) (by first | rfl | assumption) rfl rfl (Nat.le_of_ble_eq_true rfl) (fun u hr => ?_)
    have g3 := lnG_step hs hb ok1 (by rw [n1]; exact hgv) (by rw [n1, n2]; exact hgl2) n4 g2 hr
    refine V_iconst F dW_learn_75 (by decide) ?_
    refine V_istore F dW_learn_76 (by decide) (by simp only [List.set_cons_zero, List.set_cons_succ]; exact rfl) ?_
    have g4 := lnG_weak hb (D' := fun y => y % 512 = g) (fun y hy hyg => by
      obtain ⟨y1, y2, y3, y4, y5⟩ := hy
      have e1 : y % 512 / 64 = g % 512 / 64 := by rw [hyg]; omega
      rw [e1] at y5
      unfold hsE at y5
      rcases y5 with y5 | y5
      · exact Or.inl (Or.inr (by omega))
      · exact Or.inr (by omega)) g3
    have hgq := lnG_Q g4 hb
    have hp := gPot_start (edC_ok hb g) hgq
    have hle := usN_le 256 (edC w g) (u (65 + s.toNat)) (qL u)
    refine lpW_learnO hs hb hw hl h8 F hR 65537 0 _ _ _ _ _ (by omega) (by omega) (by omega) ⟨g4.1, g4.2.1, hgq, ?_⟩
    rcases hp with hp | ⟨a, p, q0, d, p1, p2', p3⟩
    · exact Or.inl hp
    · exact Or.inr ⟨a, p, q0, d, by omega, p2', p3⟩
  · first | (replace h8 := bz_ne0.mp h8) | (replace h8 := bz_eq0.mp h8) | skip
    exact hR _ _ _ dW_learn_11 (Or.inl ⟨h8, rfl⟩)
