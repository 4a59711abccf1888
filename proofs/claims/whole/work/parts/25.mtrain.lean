theorem dM_train_0 : decode cM_train 0 = .ok (.aload_n 0, 1) := by decide +kernel
theorem dM_train_1 : decode cM_train 1 = .ok (.iload_n 1, 1) := by decide +kernel
theorem dM_train_2 : decode cM_train 2 = .ok (.iload_n 2, 1) := by decide +kernel
theorem dM_train_3 : decode cM_train 3 = .ok (.iload_n 3, 1) := by decide +kernel
theorem dM_train_4 : decode cM_train 4 = .ok (.iload 4, 2) := by decide +kernel
theorem dM_train_6 : decode cM_train 6 = .ok (.invokevirtual 203, 3) := by decide +kernel
theorem dM_train_9 : decode cM_train 9 = .ok (.istore 6, 2) := by decide +kernel
theorem dM_train_11 : decode cM_train 11 = .ok (.iload 6, 2) := by decide +kernel
theorem dM_train_13 : decode cM_train 13 = .ok (.ifCond .lt 15, 3) := by decide +kernel
theorem dM_train_16 : decode cM_train 16 = .ok (.iload 5, 2) := by decide +kernel
theorem dM_train_18 : decode cM_train 18 = .ok (.iconst 1, 1) := by decide +kernel
theorem dM_train_19 : decode cM_train 19 = .ok (.if_icmp .lt 9, 3) := by decide +kernel
theorem dM_train_22 : decode cM_train 22 = .ok (.iload 5, 2) := by decide +kernel
theorem dM_train_24 : decode cM_train 24 = .ok (.iconst 5, 1) := by decide +kernel
theorem dM_train_25 : decode cM_train 25 = .ok (.if_icmp .le 5, 3) := by decide +kernel
theorem dM_train_28 : decode cM_train 28 = .ok (.iconst (-1), 1) := by decide +kernel
theorem dM_train_29 : decode cM_train 29 = .ok (.ireturn, 1) := by decide +kernel
theorem dM_train_30 : decode cM_train 30 = .ok (.aload_n 0, 1) := by decide +kernel
theorem dM_train_31 : decode cM_train 31 = .ok (.iconst 0, 1) := by decide +kernel
theorem dM_train_32 : decode cM_train 32 = .ok (.putfield 147, 3) := by decide +kernel
theorem dM_train_35 : decode cM_train 35 = .ok (.aload_n 0, 1) := by decide +kernel
theorem dM_train_36 : decode cM_train 36 = .ok (.getfield 147, 3) := by decide +kernel
theorem dM_train_39 : decode cM_train 39 = .ok (.iload 5, 2) := by decide +kernel
theorem dM_train_41 : decode cM_train 41 = .ok (.if_icmp .ge 53, 3) := by decide +kernel
theorem dM_train_44 : decode cM_train 44 = .ok (.iload 6, 2) := by decide +kernel
theorem dM_train_46 : decode cM_train 46 = .ok (.ifCond .lt 14, 3) := by decide +kernel
theorem dM_train_49 : decode cM_train 49 = .ok (.aload_n 0, 1) := by decide +kernel
theorem dM_train_50 : decode cM_train 50 = .ok (.iload 6, 2) := by decide +kernel
theorem dM_train_52 : decode cM_train 52 = .ok (.iconst 2, 1) := by decide +kernel
theorem dM_train_53 : decode cM_train 53 = .ok (.idiv, 1) := by decide +kernel
theorem dM_train_54 : decode cM_train 54 = .ok (.invokevirtual 161, 3) := by decide +kernel
theorem dM_train_57 : decode cM_train 57 = .ok (.ifCond .eq 5, 3) := by decide +kernel
theorem dM_train_60 : decode cM_train 60 = .ok (.iconst (-1), 1) := by decide +kernel
theorem dM_train_61 : decode cM_train 61 = .ok (.ireturn, 1) := by decide +kernel
theorem dM_train_62 : decode cM_train 62 = .ok (.aload_n 0, 1) := by decide +kernel
theorem dM_train_63 : decode cM_train 63 = .ok (.getfield 62, 3) := by decide +kernel
theorem dM_train_66 : decode cM_train 66 = .ok (.aload_n 0, 1) := by decide +kernel
theorem dM_train_67 : decode cM_train 67 = .ok (.getfield 147, 3) := by decide +kernel
theorem dM_train_70 : decode cM_train 70 = .ok (.iload 6, 2) := by decide +kernel
theorem dM_train_72 : decode cM_train 72 = .ok (.iastore, 1) := by decide +kernel
theorem dM_train_73 : decode cM_train 73 = .ok (.aload_n 0, 1) := by decide +kernel
theorem dM_train_74 : decode cM_train 74 = .ok (.dup, 1) := by decide +kernel
theorem dM_train_75 : decode cM_train 75 = .ok (.getfield 147, 3) := by decide +kernel
theorem dM_train_78 : decode cM_train 78 = .ok (.iconst 1, 1) := by decide +kernel
theorem dM_train_79 : decode cM_train 79 = .ok (.iadd, 1) := by decide +kernel
theorem dM_train_80 : decode cM_train 80 = .ok (.putfield 147, 3) := by decide +kernel
theorem dM_train_83 : decode cM_train 83 = .ok (.aload_n 0, 1) := by decide +kernel
theorem dM_train_84 : decode cM_train 84 = .ok (.iload 6, 2) := by decide +kernel
theorem dM_train_86 : decode cM_train 86 = .ok (.invokevirtual 207, 3) := by decide +kernel
theorem dM_train_89 : decode cM_train 89 = .ok (.istore 6, 2) := by decide +kernel
theorem dM_train_91 : decode cM_train 91 = .ok (.goto (-56), 3) := by decide +kernel
theorem dM_train_94 : decode cM_train 94 = .ok (.aload_n 0, 1) := by decide +kernel
theorem dM_train_95 : decode cM_train 95 = .ok (.invokevirtual 157, 3) := by decide +kernel
theorem dM_train_98 : decode cM_train 98 = .ok (.ifCond .eq 5, 3) := by decide +kernel
theorem dM_train_101 : decode cM_train 101 = .ok (.iconst (-1), 1) := by decide +kernel
theorem dM_train_102 : decode cM_train 102 = .ok (.ireturn, 1) := by decide +kernel
theorem dM_train_103 : decode cM_train 103 = .ok (.aload_n 0, 1) := by decide +kernel
theorem dM_train_104 : decode cM_train 104 = .ok (.getfield 141, 3) := by decide +kernel
theorem dM_train_107 : decode cM_train 107 = .ok (.bipush 6, 2) := by decide +kernel
theorem dM_train_109 : decode cM_train 109 = .ok (.if_icmp .ne 6, 3) := by decide +kernel
theorem dM_train_112 : decode cM_train 112 = .ok (.bipush (-2), 2) := by decide +kernel
theorem dM_train_114 : decode cM_train 114 = .ok (.ireturn, 1) := by decide +kernel
theorem dM_train_115 : decode cM_train 115 = .ok (.aload_n 0, 1) := by decide +kernel
theorem dM_train_116 : decode cM_train 116 = .ok (.getfield 141, 3) := by decide +kernel
theorem dM_train_119 : decode cM_train 119 = .ok (.istore 7, 2) := by decide +kernel
theorem dM_train_121 : decode cM_train 121 = .ok (.aload_n 0, 1) := by decide +kernel
theorem dM_train_122 : decode cM_train 122 = .ok (.dup, 1) := by decide +kernel
theorem dM_train_123 : decode cM_train 123 = .ok (.getfield 141, 3) := by decide +kernel
theorem dM_train_126 : decode cM_train 126 = .ok (.iconst 1, 1) := by decide +kernel
theorem dM_train_127 : decode cM_train 127 = .ok (.iadd, 1) := by decide +kernel
theorem dM_train_128 : decode cM_train 128 = .ok (.putfield 141, 3) := by decide +kernel
theorem dM_train_131 : decode cM_train 131 = .ok (.aload_n 0, 1) := by decide +kernel
theorem dM_train_132 : decode cM_train 132 = .ok (.getfield 35, 3) := by decide +kernel
theorem dM_train_135 : decode cM_train 135 = .ok (.iload 7, 2) := by decide +kernel
theorem dM_train_137 : decode cM_train 137 = .ok (.iload 5, 2) := by decide +kernel
theorem dM_train_139 : decode cM_train 139 = .ok (.iastore, 1) := by decide +kernel
theorem dM_train_140 : decode cM_train 140 = .ok (.aload_n 0, 1) := by decide +kernel
theorem dM_train_141 : decode cM_train 141 = .ok (.getfield 38, 3) := by decide +kernel
theorem dM_train_144 : decode cM_train 144 = .ok (.iload 7, 2) := by decide +kernel
theorem dM_train_146 : decode cM_train 146 = .ok (.iload 5, 2) := by decide +kernel
theorem dM_train_148 : decode cM_train 148 = .ok (.iastore, 1) := by decide +kernel
theorem dM_train_149 : decode cM_train 149 = .ok (.iconst 0, 1) := by decide +kernel
theorem dM_train_150 : decode cM_train 150 = .ok (.istore 8, 2) := by decide +kernel
theorem dM_train_152 : decode cM_train 152 = .ok (.iload 8, 2) := by decide +kernel
theorem dM_train_154 : decode cM_train 154 = .ok (.iload 5, 2) := by decide +kernel
theorem dM_train_156 : decode cM_train 156 = .ok (.if_icmp .ge 35, 3) := by decide +kernel
theorem dM_train_159 : decode cM_train 159 = .ok (.aload_n 0, 1) := by decide +kernel
theorem dM_train_160 : decode cM_train 160 = .ok (.getfield 32, 3) := by decide +kernel
theorem dM_train_163 : decode cM_train 163 = .ok (.sipush 300, 3) := by decide +kernel
theorem dM_train_166 : decode cM_train 166 = .ok (.iload 7, 2) := by decide +kernel
theorem dM_train_168 : decode cM_train 168 = .ok (.imul, 1) := by decide +kernel
theorem dM_train_169 : decode cM_train 169 = .ok (.iload 8, 2) := by decide +kernel
theorem dM_train_171 : decode cM_train 171 = .ok (.iadd, 1) := by decide +kernel
theorem dM_train_172 : decode cM_train 172 = .ok (.aload_n 0, 1) := by decide +kernel
theorem dM_train_173 : decode cM_train 173 = .ok (.getfield 62, 3) := by decide +kernel
theorem dM_train_176 : decode cM_train 176 = .ok (.iload 5, 2) := by decide +kernel
theorem dM_train_178 : decode cM_train 178 = .ok (.iconst 1, 1) := by decide +kernel
theorem dM_train_179 : decode cM_train 179 = .ok (.isub, 1) := by decide +kernel
theorem dM_train_180 : decode cM_train 180 = .ok (.iload 8, 2) := by decide +kernel
theorem dM_train_182 : decode cM_train 182 = .ok (.isub, 1) := by decide +kernel
theorem dM_train_183 : decode cM_train 183 = .ok (.iaload, 1) := by decide +kernel
theorem dM_train_184 : decode cM_train 184 = .ok (.iastore, 1) := by decide +kernel
theorem dM_train_185 : decode cM_train 185 = .ok (.iinc 8 1, 3) := by decide +kernel
theorem dM_train_188 : decode cM_train 188 = .ok (.goto (-36), 3) := by decide +kernel
theorem dM_train_191 : decode cM_train 191 = .ok (.aload_n 0, 1) := by decide +kernel
theorem dM_train_192 : decode cM_train 192 = .ok (.getfield 41, 3) := by decide +kernel
theorem dM_train_195 : decode cM_train 195 = .ok (.iload 7, 2) := by decide +kernel
theorem dM_train_197 : decode cM_train 197 = .ok (.iconst 0, 1) := by decide +kernel
theorem dM_train_198 : decode cM_train 198 = .ok (.iastore, 1) := by decide +kernel
theorem dM_train_199 : decode cM_train 199 = .ok (.aload_n 0, 1) := by decide +kernel
theorem dM_train_200 : decode cM_train 200 = .ok (.getfield 44, 3) := by decide +kernel
theorem dM_train_203 : decode cM_train 203 = .ok (.iload 7, 2) := by decide +kernel
theorem dM_train_205 : decode cM_train 205 = .ok (.iconst 0, 1) := by decide +kernel
theorem dM_train_206 : decode cM_train 206 = .ok (.iastore, 1) := by decide +kernel
theorem dM_train_207 : decode cM_train 207 = .ok (.aload_n 0, 1) := by decide +kernel
theorem dM_train_208 : decode cM_train 208 = .ok (.getfield 47, 3) := by decide +kernel
theorem dM_train_211 : decode cM_train 211 = .ok (.iload 7, 2) := by decide +kernel
theorem dM_train_213 : decode cM_train 213 = .ok (.iconst 0, 1) := by decide +kernel
theorem dM_train_214 : decode cM_train 214 = .ok (.iastore, 1) := by decide +kernel
theorem dM_train_215 : decode cM_train 215 = .ok (.aload_n 0, 1) := by decide +kernel
theorem dM_train_216 : decode cM_train 216 = .ok (.getfield 50, 3) := by decide +kernel
theorem dM_train_219 : decode cM_train 219 = .ok (.iload 7, 2) := by decide +kernel
theorem dM_train_221 : decode cM_train 221 = .ok (.iconst 0, 1) := by decide +kernel
theorem dM_train_222 : decode cM_train 222 = .ok (.bastore, 1) := by decide +kernel
theorem dM_train_223 : decode cM_train 223 = .ok (.aload_n 0, 1) := by decide +kernel
theorem dM_train_224 : decode cM_train 224 = .ok (.getfield 56, 3) := by decide +kernel
theorem dM_train_227 : decode cM_train 227 = .ok (.iload 7, 2) := by decide +kernel
theorem dM_train_229 : decode cM_train 229 = .ok (.iconst 0, 1) := by decide +kernel
theorem dM_train_230 : decode cM_train 230 = .ok (.iastore, 1) := by decide +kernel
theorem dM_train_231 : decode cM_train 231 = .ok (.aload_n 0, 1) := by decide +kernel
theorem dM_train_232 : decode cM_train 232 = .ok (.getfield 59, 3) := by decide +kernel
theorem dM_train_235 : decode cM_train 235 = .ok (.iload 7, 2) := by decide +kernel
theorem dM_train_237 : decode cM_train 237 = .ok (.iconst 0, 1) := by decide +kernel
theorem dM_train_238 : decode cM_train 238 = .ok (.iastore, 1) := by decide +kernel
theorem dM_train_239 : decode cM_train 239 = .ok (.iload 7, 2) := by decide +kernel
theorem dM_train_241 : decode cM_train 241 = .ok (.ireturn, 1) := by decide +kernel
theorem lmM_207 : Cond.methodLink R_M 207 yM_before ∈ bigW := bw 867 (by decide +kernel) rfl
theorem miM_before : MI yM_before cM_before 7 (some .int) 1 := ⟨bw 870 (by decide +kernel) rfl, bw 48 (by decide +kernel) rfl, ⟨by decide +kernel, by decide +kernel⟩, by decide +kernel, by decide⟩
theorem mvM_before : MV yM_before := ⟨bw 869 (by decide +kernel) rfl, bw 35 (by decide +kernel) rfl⟩
noncomputable def mbf (w : RW) (q : Int) : Nat → Int
  | 0 => q
  | n + 1 => bef w (mbf w q n)
theorem bef_rng {w : RW} {q : Int} (hm : mOK w) : bef w q = -1 ∨ (0 ≤ bef w q ∧ bef w q < 576) := by
  have h1 := hm.1
  unfold bef
  by_cases h : bfT w q = -1 ∨ fst6 (bfP w q) = -1
  · rw [cif_t h]; exact Or.inl rfl
  · rw [cif_f h]
    have hT : bfT w q = -1 ∨ (0 ≤ bfT w q ∧ bfT w q < 48) := acr_rng (by omega) (by omega)
    have hf := fst6_or (bfP w q)
    right
    split <;> omega
def frM (w u : RW) : Prop := (∀ j, j ≠ 77 → j ≠ 95 → u j = w j) ∧ ∀ f, f ≠ 21 → u 77 f = w 77 f
theorem bef_c {w u : RW} (h0 : u 77 0 = w 77 0) (h1 : u 77 1 = w 77 1) (h2 : u 78 = w 78) : bef u = bef w := by
  funext q
  unfold bef bfP bfT
  rw [h0, h1, h2]
theorem brd_c {w u : RW} {n p : Int} (h1 : u 85 = w 85) (h2 : u 86 = w 86) : brd u n p ↔ brd w n p := by
  unfold brd brs
  rw [h1, h2]
def tnI (w u : RW) (q k : Int) : Prop := frM w u ∧ u 77 21 = k ∧ ∀ j, 0 ≤ j → j < k → u 95 j = mbf w q j.toNat ∧ (0 ≤ mbf w q j.toNat ∧ mbf w q j.toNat < 576) ∧ ¬ brd w (w 77 10) (mbf w q j.toNat / 2)
def tnB (w : RW) (q n : Int) : Prop := ∀ j, 0 ≤ j → j < n → (0 ≤ mbf w q j.toNat ∧ ¬ brd w (w 77 10) (mbf w q j.toNat / 2)) ∧ ∀ i, 0 ≤ i → i < j → ¬ crs (mbf w q j.toNat / 2) (mbf w q i.toNat / 2)
def tnW (w u : RW) (q n : Int) : Prop := (∀ j, j ≠ 77 → j ≠ 95 → j ≠ 85 → j ≠ 86 → j ≠ 87 → j ≠ 88 → j ≠ 89 → j ≠ 90 → j ≠ 91 → j ≠ 93 → j ≠ 94 → u j = w j) ∧ (u 77 10 = w 77 10 + 1 ∧ ∀ f, f ≠ 21 → f ≠ 10 → u 77 f = w 77 f) ∧
  (u 86 = upw w 86 (w 77 10) n 86 ∧ u 87 = upw w 87 (w 77 10) n 87 ∧ u 88 = upw w 88 (w 77 10) 0 88 ∧ u 89 = upw w 89 (w 77 10) 0 89 ∧ u 90 = upw w 90 (w 77 10) 0 90 ∧ u 91 = upw w 91 (w 77 10) 0 91 ∧ u 93 = upw w 93 (w 77 10) 0 93 ∧ u 94 = upw w 94 (w 77 10) 0 94) ∧
  ∀ i, u 85 i = if 300 * w 77 10 ≤ i ∧ i < 300 * w 77 10 + n then mbf w q (n - 1 - (i - 300 * w 77 10)).toNat else w 85 i
def tnP (w u : RW) (q n r : Int) : Prop := (¬ tnB w q n ∧ r = -1 ∧ frM w u) ∨ (tnB w q n ∧ w 77 10 = 6 ∧ r = -2 ∧ frM w u) ∨ (tnB w q n ∧ ¬ w 77 10 = 6 ∧ r = w 77 10 ∧ tnW w u q n)
def tn3 (w v u : RW) (q n k : Int) : Prop := (∀ j, j ≠ 85 → u j = v j) ∧ ∀ i, u 85 i = if 300 * w 77 10 ≤ i ∧ i < 300 * w 77 10 + k then mbf w q (n - 1 - (i - 300 * w 77 10)).toNat else w 85 i
theorem lpM_train3 {G : vG} {X : vX} {Q : State → Prop} {w : RW} {v : RW} {x y p e q n : Int} {q2 : Int} (hn : 1 ≤ n ∧ n ≤ 5) (hm : mOK w) (h6 : ¬ w 77 10 = 6) (hB : tnB w q n) (hv : tnI w v q n) (F : FX G X cM_train yM_train.cls 9 3) (hR : RetI G X cM_train 9 Q (fun r u => tnP w u q n r)) : ∀ (m : Nat) (k : Int) (u : RW), n - k < m → (0 ≤ k) → (k ≤ n) → (tn3 w (upw (upw (upw v 77 10 (w 77 10 + 1)) 86 (w 77 10) n) 87 (w 77 10) n) u q n k) → V G X 9 Q 152 [some (.inr 77), some (.inl x), some (.inl y), some (.inl p), some (.inl e), some (.inl n), some (.inl q2), some (.inl (w 77 10)), some (.inl k)] [] u := by
  have k3 := hm.2.2.1
  have e95 : ∀ u : RW, (∀ j, j ≠ 85 → u j = (upw (upw (upw v 77 10 (w 77 10 + 1)) 86 (w 77 10) n) 87 (w 77 10) n) j) → u 95 = v 95 := fun u hu => by rw [hu 95 (by decide), upw_f (by decide), upw_f (by decide), upw_f (by decide)]
  intro m
  induction m with
  | zero => intro k u hm0 h1 h2 hI; omega
  | succ m ih =>
    intro k u hm0 h1 h2 hI
    have f95 := e95 u hI.1
    refine V_iload F dM_train_152 rfl ?_
    refine V_iload F dM_train_154 rfl ?_
    refine V_icmp_ge F 191 dM_train_156 (by decide) (fun h156 => ?_) (fun h156 => ?_)
    · refine V_aload_n (i := 0) F dM_train_191 rfl rfl ?_
      refine V_getr (ci := 7) (C := R_M) (T := T_M) (N := 32) F dM_train_192 (by first | rfl | assumption) rfl (j := 14) (by decide) rfl lfM_41 ?_
      refine V_iload F dM_train_195 rfl ?_
      refine V_iconst F dM_train_197 (by decide) ?_
      refine V_iast F dM_train_198 (by first | rfl | assumption) rfl (by omega) ?_
      refine V_aload_n (i := 0) F dM_train_199 rfl rfl ?_
      refine V_getr (ci := 7) (C := R_M) (T := T_M) (N := 32) F dM_train_200 (by first | rfl | assumption) rfl (j := 15) (by decide) rfl lfM_44 ?_
      refine V_iload F dM_train_203 rfl ?_
      refine V_iconst F dM_train_205 (by decide) ?_
      refine V_iast F dM_train_206 (by first | rfl | assumption) rfl (by omega) ?_
      refine V_aload_n (i := 0) F dM_train_207 rfl rfl ?_
      refine V_getr (ci := 7) (C := R_M) (T := T_M) (N := 32) F dM_train_208 (by first | rfl | assumption) rfl (j := 16) (by decide) rfl lfM_47 ?_
      refine V_iload F dM_train_211 rfl ?_
      refine V_iconst F dM_train_213 (by decide) ?_
      refine V_iast F dM_train_214 (by first | rfl | assumption) rfl (by omega) ?_
      refine V_aload_n (i := 0) F dM_train_215 rfl rfl ?_
      refine V_getr (ci := 7) (C := R_M) (T := T_M) (N := 32) F dM_train_216 (by first | rfl | assumption) rfl (j := 17) (by decide) rfl lfM_50 ?_
      refine V_iload F dM_train_219 rfl ?_
      refine V_iconst F dM_train_221 (by decide) ?_
      refine V_zast F dM_train_222 (by first | rfl | assumption) rfl (by omega) (by first | exact Or.inl rfl | exact Or.inr rfl | exact bz_01 _ | assumption) ?_
      refine V_aload_n (i := 0) F dM_train_223 rfl rfl ?_
      refine V_getr (ci := 7) (C := R_M) (T := T_M) (N := 32) F dM_train_224 (by first | rfl | assumption) rfl (j := 19) (by decide) rfl lfM_56 ?_
      refine V_iload F dM_train_227 rfl ?_
      refine V_iconst F dM_train_229 (by decide) ?_
      refine V_iast F dM_train_230 (by first | rfl | assumption) rfl (by omega) ?_
      refine V_aload_n (i := 0) F dM_train_231 rfl rfl ?_
      refine V_getr (ci := 7) (C := R_M) (T := T_M) (N := 32) F dM_train_232 (by first | rfl | assumption) rfl (j := 20) (by decide) rfl lfM_59 ?_
      refine V_iload F dM_train_235 rfl ?_
      refine V_iconst F dM_train_237 (by decide) ?_
      refine V_iast F dM_train_238 (by first | rfl | assumption) rfl (by omega) ?_
      refine V_iload F dM_train_239 rfl ?_
      exact hR _ _ _ _ dM_train_241 (by
                  have hk : k = n := by omega
                  subst hk
                  refine Or.inr (Or.inr ⟨hB, h6, rfl, fun j j1 j2 j3 j4 j5 j6 j7 j8 j9 j10 j11 => ?_, ⟨?_, fun f f1 f2 => ?_⟩, ⟨?_, ?_, ?_, ?_, ?_, ?_, ?_, ?_⟩, fun i => ?_⟩)
                  · rw [upw_f j11, upw_f j10, upw_f j9, upw_f j8, upw_f j7, upw_f j6, hI.1 j j3, upw_f j5, upw_f j4, upw_f j1]; exact hv.1.1 j j1 j2
                  · rw [upw_f (by decide), upw_f (by decide), upw_f (by decide), upw_f (by decide), upw_f (by decide), upw_f (by decide), hI.1 77 (by decide), upw_f (by decide), upw_f (by decide), upw_s]
                  · rw [upw_f (by decide), upw_f (by decide), upw_f (by decide), upw_f (by decide), upw_f (by decide), upw_f (by decide), hI.1 77 (by decide), upw_f (by decide), upw_f (by decide), upw_i f2]; exact hv.1.2 f f1
                  · funext z; unfold upw; have := congrFun (hI.1 86 (by decide)) z; simp [upw, hv.1.1 86 (by decide) (by decide)] at this; simp [this]
                  · funext z; unfold upw; have := congrFun (hI.1 87 (by decide)) z; simp [upw, hv.1.1 87 (by decide) (by decide)] at this; simp [this]
                  · funext z; unfold upw; have := congrFun (hI.1 88 (by decide)) z; simp [upw, hv.1.1 88 (by decide) (by decide)] at this; simp [this]
                  · funext z; unfold upw; have := congrFun (hI.1 89 (by decide)) z; simp [upw, hv.1.1 89 (by decide) (by decide)] at this; simp [this]
                  · funext z; unfold upw; have := congrFun (hI.1 90 (by decide)) z; simp [upw, hv.1.1 90 (by decide) (by decide)] at this; simp [this]
                  · funext z; unfold upw; have := congrFun (hI.1 91 (by decide)) z; simp [upw, hv.1.1 91 (by decide) (by decide)] at this; simp [this]
                  · funext z; unfold upw; have := congrFun (hI.1 93 (by decide)) z; simp [upw, hv.1.1 93 (by decide) (by decide)] at this; simp [this]
                  · funext z; unfold upw; have := congrFun (hI.1 94 (by decide)) z; simp [upw, hv.1.1 94 (by decide) (by decide)] at this; simp [this]
                  · rw [upw_f (by decide), upw_f (by decide), upw_f (by decide), upw_f (by decide), upw_f (by decide), upw_f (by decide), hI.2 i])
    · refine V_aload_n (i := 0) F dM_train_159 rfl rfl ?_
      refine V_getr (ci := 7) (C := R_M) (T := T_M) (N := 32) F dM_train_160 (by first | rfl | assumption) rfl (j := 11) (by decide) rfl lfM_32 ?_
      refine V_sipush F dM_train_163 (by decide) ?_
      refine V_iload F dM_train_166 rfl ?_
      refine V_imul F dM_train_168 (by omega) ?_
      refine V_iload F dM_train_169 rfl ?_
      refine V_iadd F dM_train_171 (by omega) ?_
      refine V_aload_n (i := 0) F dM_train_172 rfl rfl ?_
      refine V_getr (ci := 7) (C := R_M) (T := T_M) (N := 32) F dM_train_173 (by first | rfl | assumption) rfl (j := 22) (by decide) rfl lfM_62 ?_
      refine V_iload F dM_train_176 rfl ?_
      refine V_iconst F dM_train_178 (by decide) ?_
      refine V_isub F dM_train_179 (by omega) ?_
      refine V_iload F dM_train_180 rfl ?_
      refine V_isub F dM_train_182 (by omega) ?_
      first
        | refine V_sald F dM_train_183 (by decide) (by omega) (stt_in _ _) ?_
        | refine V_iald F dM_train_183 (by first | rfl | assumption) rfl (by omega) ?_
      rw [f95, (hv.2.2 _ (by omega) (by omega)).1]
      refine V_iast F dM_train_184 (by first | rfl | assumption) rfl (by omega) ?_
      refine V_iinc F dM_train_185 (by decide) rfl (by omega) (by simp only [List.set_cons_zero, List.set_cons_succ]; exact rfl) ?_
      refine V_goto F 152 dM_train_188 (by decide) ?_
      refine ih (k + 1) _ (by omega) (by omega) (by omega) ⟨fun j j1 => by rw [upw_f j1]; exact hI.1 j j1, fun i => ?_⟩
      by_cases e : i = 300 * w 77 10 + k
      · rw [e, upw_s, if_pos (by omega), show 300 * w 77 10 + k - 300 * w 77 10 = k by omega]
      · rw [upw_i e, hI.2 i]
        by_cases e2 : 300 * w 77 10 ≤ i ∧ i < 300 * w 77 10 + k
        · rw [if_pos e2, if_pos (by omega)]
        · rw [if_neg e2, if_neg (by omega)]
theorem lpM_train1 {G : vG} {X : vX} {Q : State → Prop} {w : RW} {x y p e q n : Int} (hn : 1 ≤ n ∧ n ≤ 5) (hm : mOK w) (hq : 0 ≤ q ∧ q < 576) (F : FX G X cM_train yM_train.cls 9 3) (hR : RetI G X cM_train 9 Q (fun r u => tnP w u q n r)) : ∀ (m : Nat) (k z : Int) (u : RW), n - k < m → (0 ≤ k) → (k ≤ n) → (tnI w u q k) → (z = mbf w q k.toNat) → (z = -1 ∨ (0 ≤ z ∧ z < 576)) → V G X 9 Q 35 [some (.inr 77), some (.inl x), some (.inl y), some (.inl p), some (.inl e), some (.inl n), some (.inl z), none, none] [] u := by
  have k3 := hm.2.2.1
  intro m
  induction m with
  | zero => intro k z u hm0 h1 h2 hI hz hzr; omega
  | succ m ih =>
    intro k z u hm0 h1 h2 hI hz hzr
    have hmu : mOK u := mOK_c (fun j j1 _ _ j2 => hI.1.1 j j1 j2) hI.1.2 hm
    have e10 := hI.1.2 10 (by decide)
    have hk := hI.2.1
    have e85 := hI.1.1 85 (by decide) (by decide)
    have e86 := hI.1.1 86 (by decide) (by decide)
    have hqu : rqOK u := ⟨by omega, fun j j1 j2 => by have := hI.2.2 j j1 (by omega); rw [this.1]; exact this.2.1⟩
    refine V_aload_n (i := 0) F dM_train_35 rfl rfl ?_
    refine V_geti (ci := 7) (C := R_M) (T := T_M) (N := 32) F dM_train_36 (by first | rfl | assumption) rfl (j := 21) 21 rfl (by decide) rfl lfM_147 ?_
    refine V_iload F dM_train_39 rfl ?_
    refine V_icmp_ge F 94 dM_train_41 (by decide) (fun h41 => ?_) (fun h41 => ?_)
    · first | (replace h41 := bz_ne0.mp h41) | (replace h41 := bz_eq0.mp h41) | skip
      have hkn : k = n := by omega
      subst hkn
      have hB : ¬ cxs u → tnB w q k := fun hc j j1 j2 => ⟨⟨(hI.2.2 j j1 j2).2.1.1, (hI.2.2 j j1 j2).2.2⟩, fun i i1 i2 hh => hc ⟨j, i, i1, i2, by omega, by rw [(hI.2.2 j j1 j2).1, (hI.2.2 i i1 (by omega)).1]; exact hh⟩⟩
      refine V_aload_n (i := 0) F dM_train_94 rfl rfl ?_
      refine V_callVi F dM_train_95 lmM_157 miM_crossesItself mvM_crossesItself (ctM_crossesItself hqu) (by decide) (by first | rfl | assumption) rfl rfl (Nat.le_of_ble_eq_true rfl) (fun r u hr => ?_)
      obtain ⟨rfl, rfl⟩ := hr
      refine V_if_eq F 103 dM_train_98 (by decide) (fun h98 => ?_) (fun h98 => ?_)
      · first | (replace h98 := bz_ne0.mp h98) | (replace h98 := bz_eq0.mp h98) | skip
        refine V_aload_n (i := 0) F dM_train_103 rfl rfl ?_
        refine V_geti (ci := 7) (C := R_M) (T := T_M) (N := 32) F dM_train_104 (by first | rfl | assumption) rfl (j := 10) 10 rfl (by decide) rfl lfM_141 ?_
        refine V_bipush F dM_train_107 (by decide) ?_
        refine V_icmp_ne F 115 dM_train_109 (by decide) (fun h109 => ?_) (fun h109 => ?_)
        · first | (replace h109 := bz_ne0.mp h109) | (replace h109 := bz_eq0.mp h109) | skip
          rw [e10] at h109
          refine V_aload_n (i := 0) F dM_train_115 rfl rfl ?_
          refine V_geti (ci := 7) (C := R_M) (T := T_M) (N := 32) F dM_train_116 (by first | rfl | assumption) rfl (j := 10) 10 rfl (by decide) rfl lfM_141 ?_
          rw [e10]
          refine V_istore F dM_train_119 (by decide) (by simp only [List.set_cons_zero, List.set_cons_succ]; exact rfl) ?_
          refine V_aload_n (i := 0) F dM_train_121 rfl rfl ?_
          refine V_dup F dM_train_122 ?_
          refine V_geti (ci := 7) (C := R_M) (T := T_M) (N := 32) F dM_train_123 (by first | rfl | assumption) rfl (j := 10) 10 rfl (by decide) rfl lfM_141 ?_
          skip
          refine V_iconst F dM_train_126 (by decide) ?_
          refine V_iadd F dM_train_127 (by omega) ?_
          refine V_puti (ci := 7) (C := R_M) (T := T_M) (N := 32) F dM_train_128 (by first | rfl | assumption) rfl (j := 10) 10 rfl (by decide) rfl rfl rfl lfM_141 ?_
          refine V_aload_n (i := 0) F dM_train_131 rfl rfl ?_
          refine V_getr (ci := 7) (C := R_M) (T := T_M) (N := 32) F dM_train_132 (by first | rfl | assumption) rfl (j := 12) (by decide) rfl lfM_35 ?_
          refine V_iload F dM_train_135 rfl ?_
          refine V_iload F dM_train_137 rfl ?_
          refine V_iast F dM_train_139 (by first | rfl | assumption) rfl (by omega) ?_
          refine V_aload_n (i := 0) F dM_train_140 rfl rfl ?_
          refine V_getr (ci := 7) (C := R_M) (T := T_M) (N := 32) F dM_train_141 (by first | rfl | assumption) rfl (j := 13) (by decide) rfl lfM_38 ?_
          refine V_iload F dM_train_144 rfl ?_
          refine V_iload F dM_train_146 rfl ?_
          refine V_iast F dM_train_148 (by first | rfl | assumption) rfl (by omega) ?_
          refine V_iconst F dM_train_149 (by decide) ?_
          refine V_istore F dM_train_150 (by decide) (by simp only [List.set_cons_zero, List.set_cons_succ]; exact rfl) ?_
          exact lpM_train3 hn hm h109 (hB h98) hI F hR 6 0 _ (by omega) (by omega) (by omega) ⟨fun j j1 => by simp only [e10], fun i => by rw [if_neg (by omega), upw_f (by decide), upw_f (by decide), upw_f (by decide), e85]⟩
        · first | (replace h109 := bz_ne0.mp h109) | (replace h109 := bz_eq0.mp h109) | skip
          refine V_bipush F dM_train_112 (by decide) ?_
          exact hR _ _ _ _ dM_train_114 (by
                      first
                      | (have hg : z < 0 := h46
                         exact Or.inl ⟨fun b => by have := (b k h1 (by omega)).1.1; rw [← hz] at this; omega, rfl, hI.1⟩)
                      | (have hg : ¬ n ≤ k := by omega
                         exact Or.inl ⟨fun b => (b k h1 (by omega)).1.2 (by rw [← hz, ← e10]; exact (brd_c e85 e86).mp h57), rfl, hI.1⟩)
                      | (have hg : cxs u := h98
                         exact Or.inl ⟨fun b => by obtain ⟨c, d, c1, c2, c3, c4⟩ := hg; rw [hk] at c3; rw [(hI.2.2 c (by omega) c3).1, (hI.2.2 d c1 (by omega)).1] at c4; exact (b c (by omega) c3).2 d c1 c2 c4, rfl, hI.1⟩)
                      | (rw [e10] at h109
                         exact Or.inr (Or.inl ⟨hB h98, h109, rfl, hI.1⟩)))
      · first | (replace h98 := bz_ne0.mp h98) | (replace h98 := bz_eq0.mp h98) | skip
        refine V_iconst F dM_train_101 (by decide) ?_
        exact hR _ _ _ _ dM_train_102 (by
                    first
                    | (have hg : z < 0 := h46
                       exact Or.inl ⟨fun b => by have := (b k h1 (by omega)).1.1; rw [← hz] at this; omega, rfl, hI.1⟩)
                    | (have hg : ¬ n ≤ k := by omega
                       exact Or.inl ⟨fun b => (b k h1 (by omega)).1.2 (by rw [← hz, ← e10]; exact (brd_c e85 e86).mp h57), rfl, hI.1⟩)
                    | (have hg : cxs u := h98
                       exact Or.inl ⟨fun b => by obtain ⟨c, d, c1, c2, c3, c4⟩ := hg; rw [hk] at c3; rw [(hI.2.2 c (by omega) c3).1, (hI.2.2 d c1 (by omega)).1] at c4; exact (b c (by omega) c3).2 d c1 c2 c4, rfl, hI.1⟩)
                    | (rw [e10] at h109
                       exact Or.inr (Or.inl ⟨hB h98, h109, rfl, hI.1⟩)))
    · first | (replace h41 := bz_ne0.mp h41) | (replace h41 := bz_eq0.mp h41) | skip
      refine V_iload F dM_train_44 rfl ?_
      refine V_if_lt F 60 dM_train_46 (by decide) (fun h46 => ?_) (fun h46 => ?_)
      · first | (replace h46 := bz_ne0.mp h46) | (replace h46 := bz_eq0.mp h46) | skip
        refine V_iconst F dM_train_60 (by decide) ?_
        exact hR _ _ _ _ dM_train_61 (by
                    first
                    | (have hg : z < 0 := h46
                       exact Or.inl ⟨fun b => by have := (b k h1 (by omega)).1.1; rw [← hz] at this; omega, rfl, hI.1⟩)
                    | (have hg : ¬ n ≤ k := by omega
                       exact Or.inl ⟨fun b => (b k h1 (by omega)).1.2 (by rw [← hz, ← e10]; exact (brd_c e85 e86).mp h57), rfl, hI.1⟩)
                    | (have hg : cxs u := h98
                       exact Or.inl ⟨fun b => by obtain ⟨c, d, c1, c2, c3, c4⟩ := hg; rw [hk] at c3; rw [(hI.2.2 c (by omega) c3).1, (hI.2.2 d c1 (by omega)).1] at c4; exact (b c (by omega) c3).2 d c1 c2 c4, rfl, hI.1⟩)
                    | (rw [e10] at h109
                       exact Or.inr (Or.inl ⟨hB h98, h109, rfl, hI.1⟩)))
      · first | (replace h46 := bz_ne0.mp h46) | (replace h46 := bz_eq0.mp h46) | skip
        refine V_aload_n (i := 0) F dM_train_49 rfl rfl ?_
        refine V_iload F dM_train_50 rfl ?_
        refine V_iconst F dM_train_52 (by decide) ?_
        refine V_idiv F dM_train_53 (by omega) ?_
        refine V_callVi F dM_train_54 lmM_161 miM_barred mvM_barred (ctM_barred (by omega) hmu) (by decide) (by first | rfl | assumption) rfl rfl (Nat.le_of_ble_eq_true rfl) (fun r u hr => ?_)
        obtain ⟨rfl, rfl⟩ := hr
        refine V_if_eq F 62 dM_train_57 (by decide) (fun h57 => ?_) (fun h57 => ?_)
        · first | (replace h57 := bz_ne0.mp h57) | (replace h57 := bz_eq0.mp h57) | skip
          refine V_aload_n (i := 0) F dM_train_62 rfl rfl ?_
          refine V_getr (ci := 7) (C := R_M) (T := T_M) (N := 32) F dM_train_63 (by first | rfl | assumption) rfl (j := 22) (by decide) rfl lfM_62 ?_
          refine V_aload_n (i := 0) F dM_train_66 rfl rfl ?_
          refine V_geti (ci := 7) (C := R_M) (T := T_M) (N := 32) F dM_train_67 (by first | rfl | assumption) rfl (j := 21) 21 rfl (by decide) rfl lfM_147 ?_
          refine V_iload F dM_train_70 rfl ?_
          refine V_iast F dM_train_72 (by first | rfl | assumption) rfl (by omega) ?_
          refine V_aload_n (i := 0) F dM_train_73 rfl rfl ?_
          refine V_dup F dM_train_74 ?_
          refine V_geti (ci := 7) (C := R_M) (T := T_M) (N := 32) F dM_train_75 (by first | rfl | assumption) rfl (j := 21) 21 rfl (by decide) rfl lfM_147 ?_
          rw [upw_f (show (77 : Nat) ≠ 95 by decide)]
          refine V_iconst F dM_train_78 (by decide) ?_
          refine V_iadd F dM_train_79 (by omega) ?_
          refine V_puti (ci := 7) (C := R_M) (T := T_M) (N := 32) F dM_train_80 (by first | rfl | assumption) rfl (j := 21) 21 rfl (by decide) rfl rfl rfl lfM_147 ?_
          refine V_eq rfl rfl (show _ = upw (upw u 95 k z) 77 21 (k + 1) by rw [hk]) ?_
          have hI2 : tnI w (upw (upw u 95 k z) 77 21 (k + 1)) q (k + 1) := by
            refine ⟨⟨fun j j1 j2 => by rw [upw_f j1, upw_f j2]; exact hI.1.1 j j1 j2, fun f hf => by rw [upw_i hf, upw_f (by decide)]; exact hI.1.2 f hf⟩, upw_s _ _ _ _, fun j j1 j2 => ?_⟩
            rw [upw_f (by decide)]
            by_cases e : j = k
            · subst e
              rw [upw_s, ← hz]
              exact ⟨rfl, by omega, fun q => h57 (by rw [e10]; exact (brd_c e85 e86).mpr q)⟩
            · rw [upw_i e]
              exact hI.2.2 j j1 (by omega)
          have hm2 : mOK (upw (upw u 95 k z) 77 21 (k + 1)) := mOK_c (fun j j1 _ _ j2 => hI2.1.1 j j1 j2) hI2.1.2 hm
          have hbe : bef (upw (upw u 95 k z) 77 21 (k + 1)) = bef w := bef_c (hI2.1.2 0 (by decide)) (hI2.1.2 1 (by decide)) (hI2.1.1 78 (by decide) (by decide))
          refine V_aload_n (i := 0) F dM_train_83 rfl rfl ?_
          refine V_iload F dM_train_84 rfl ?_
          refine V_callVi F dM_train_86 lmM_207 miM_before mvM_before (ctM_before (w := upw (upw u 95 k z) 77 21 (k + 1)) (by omega) hm2) (by decide) (by first | rfl | assumption) rfl rfl (Nat.le_of_ble_eq_true rfl) (fun r u hr => ?_)
          obtain ⟨rfl, rfl⟩ := hr
          refine V_istore F dM_train_89 (by decide) (by simp only [List.set_cons_zero, List.set_cons_succ]; exact rfl) ?_
          refine V_goto F 35 dM_train_91 (by decide) ?_
          exact ih (k + 1) _ _ (by omega) (by omega) (by omega) hI2 (by rw [hbe, hz, show (k + 1).toNat = k.toNat + 1 by omega]; rfl) (by rw [hbe]; exact bef_rng hm)
        · first | (replace h57 := bz_ne0.mp h57) | (replace h57 := bz_eq0.mp h57) | skip
          refine V_iconst F dM_train_60 (by decide) ?_
          exact hR _ _ _ _ dM_train_61 (by
                      first
                      | (have hg : z < 0 := h46
                         exact Or.inl ⟨fun b => by have := (b k h1 (by omega)).1.1; rw [← hz] at this; omega, rfl, hI.1⟩)
                      | (have hg : ¬ n ≤ k := by omega
                         exact Or.inl ⟨fun b => (b k h1 (by omega)).1.2 (by rw [← hz, ← e10]; exact (brd_c e85 e86).mp h57), rfl, hI.1⟩)
                      | (have hg : cxs u := h98
                         exact Or.inl ⟨fun b => by obtain ⟨c, d, c1, c2, c3, c4⟩ := hg; rw [hk] at c3; rw [(hI.2.2 c (by omega) c3).1, (hI.2.2 d c1 (by omega)).1] at c4; exact (b c (by omega) c3).2 d c1 c2 c4, rfl, hI.1⟩)
                      | (rw [e10] at h109
                         exact Or.inr (Or.inl ⟨hB h98, h109, rfl, hI.1⟩)))
theorem ctM_train {G : vG} {l : Launch} {w : RW} {x y p e n : Int} (hm : mOK w) : CTi G l yM_train cM_train 9 .int 3 [.inr 77, .inl x, .inl y, .inl p, .inl e, .inl n] w (fun r u => (¬ ((lpc w x y p ∧ hsE p e) ∧ 1 ≤ n ∧ n ≤ 5) ∧ r = -1 ∧ w = u) ∨ (((lpc w x y p ∧ hsE p e) ∧ 1 ≤ n ∧ n ≤ 5) ∧ tnP w u (twd w x y p e) n r)) := by
  refine CTi.int (by decide) (Nat.le_of_ble_eq_true rfl) ?_
  intro X Q F hX hR
  subst hX
  show V G X 9 Q 0 [some (.inr 77), some (.inl x), some (.inl y), some (.inl p), some (.inl e), some (.inl n), none, none, none] [] w
  have hT := twd_rng (x := x) (y := y) (p := p) (e := e) hm
  refine V_aload_n (i := 0) F dM_train_0 rfl rfl ?_
  refine V_iload_n (i := 1) F dM_train_1 rfl rfl ?_
  refine V_iload_n (i := 2) F dM_train_2 rfl rfl ?_
  refine V_iload_n (i := 3) F dM_train_3 rfl rfl ?_
  refine V_iload F dM_train_4 rfl ?_
  refine V_callVi F dM_train_6 lmM_203 miM_toward mvM_toward (ctM_toward hm) (by decide) (by first | rfl | assumption) rfl rfl (Nat.le_of_ble_eq_true rfl) (fun r u hr => ?_)
  obtain ⟨rfl, rfl⟩ := hr
  refine V_istore F dM_train_9 (by decide) (by simp only [List.set_cons_zero, List.set_cons_succ]; exact rfl) ?_
  refine V_iload F dM_train_11 rfl ?_
  refine V_if_lt F 28 dM_train_13 (by decide) (fun h13 => ?_) (fun h13 => ?_)
  · refine V_iconst F dM_train_28 (by decide) ?_
    exact hR _ _ _ _ dM_train_29 (by
                  exact Or.inl ⟨fun z => (hT.elim (fun h => h.2) (fun h => by omega)) z.1, rfl, rfl⟩)
  · refine V_iload F dM_train_16 rfl ?_
    refine V_iconst F dM_train_18 (by decide) ?_
    refine V_icmp_lt F 28 dM_train_19 (by decide) (fun h19 => ?_) (fun h19 => ?_)
    · refine V_iconst F dM_train_28 (by decide) ?_
      exact hR _ _ _ _ dM_train_29 (by
                    exact Or.inl ⟨fun z => (hT.elim (fun h => h.2) (fun h => by omega)) z.1, rfl, rfl⟩)
    · refine V_iload F dM_train_22 rfl ?_
      refine V_iconst F dM_train_24 (by decide) ?_
      refine V_icmp_le F 30 dM_train_25 (by decide) (fun h25 => ?_) (fun h25 => ?_)
      · refine V_aload_n (i := 0) F dM_train_30 rfl rfl ?_
        refine V_iconst F dM_train_31 (by decide) ?_
        refine V_puti (ci := 7) (C := R_M) (T := T_M) (N := 32) F dM_train_32 (by first | rfl | assumption) rfl (j := 21) 21 rfl (by decide) rfl rfl rfl lfM_147 ?_
        have hT2 := hT.resolve_left (fun h => by have := h.1; omega)
        exact lpM_train1 (by omega) hm hT2.1 F (fun pc L z u hd hz => hR pc L z u hd (Or.inr ⟨⟨⟨hT2.2.1, hT2.2.2.1⟩, by omega, by omega⟩, hz⟩)) 6 0 _ _ (by omega) (by omega) (by omega) ⟨⟨fun j j1 j2 => upw_f j1, fun f hf => upw_i hf⟩, upw_s _ _ _ _, fun j j1 j2 => by omega⟩ rfl (Or.inr hT2.1)
      · refine V_iconst F dM_train_28 (by decide) ?_
        exact hR _ _ _ _ dM_train_29 (by
                      exact Or.inl ⟨fun z => (hT.elim (fun h => h.2) (fun h => by omega)) z.1, rfl, rfl⟩)
