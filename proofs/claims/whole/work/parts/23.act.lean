theorem dM_act_0 : decode cM_act 0 = .ok (.aload_n 0, 1) := by decide +kernel
theorem dM_act_1 : decode cM_act 1 = .ok (.getfield 44, 3) := by decide +kernel
theorem dM_act_4 : decode cM_act 4 = .ok (.iload_n 1, 1) := by decide +kernel
theorem dM_act_5 : decode cM_act 5 = .ok (.iaload, 1) := by decide +kernel
theorem dM_act_6 : decode cM_act 6 = .ok (.ifCond .le 124, 3) := by decide +kernel
theorem dM_act_9 : decode cM_act 9 = .ok (.aload_n 0, 1) := by decide +kernel
theorem dM_act_10 : decode cM_act 10 = .ok (.getfield 44, 3) := by decide +kernel
theorem dM_act_13 : decode cM_act 13 = .ok (.iload_n 1, 1) := by decide +kernel
theorem dM_act_14 : decode cM_act 14 = .ok (.dup2, 1) := by decide +kernel
theorem dM_act_15 : decode cM_act 15 = .ok (.iaload, 1) := by decide +kernel
theorem dM_act_16 : decode cM_act 16 = .ok (.iconst 1, 1) := by decide +kernel
theorem dM_act_17 : decode cM_act 17 = .ok (.isub, 1) := by decide +kernel
theorem dM_act_18 : decode cM_act 18 = .ok (.iastore, 1) := by decide +kernel
theorem dM_act_19 : decode cM_act 19 = .ok (.aload_n 0, 1) := by decide +kernel
theorem dM_act_20 : decode cM_act 20 = .ok (.getfield 44, 3) := by decide +kernel
theorem dM_act_23 : decode cM_act 23 = .ok (.iload_n 1, 1) := by decide +kernel
theorem dM_act_24 : decode cM_act 24 = .ok (.iaload, 1) := by decide +kernel
theorem dM_act_25 : decode cM_act 25 = .ok (.ifCond .ne 103, 3) := by decide +kernel
theorem dM_act_28 : decode cM_act 28 = .ok (.aload_n 0, 1) := by decide +kernel
theorem dM_act_29 : decode cM_act 29 = .ok (.iload_n 1, 1) := by decide +kernel
theorem dM_act_30 : decode cM_act 30 = .ok (.invokevirtual 132, 3) := by decide +kernel
theorem dM_act_33 : decode cM_act 33 = .ok (.istore_n 2, 1) := by decide +kernel
theorem dM_act_34 : decode cM_act 34 = .ok (.bipush 20, 2) := by decide +kernel
theorem dM_act_36 : decode cM_act 36 = .ok (.aload_n 0, 1) := by decide +kernel
theorem dM_act_37 : decode cM_act 37 = .ok (.getfield 38, 3) := by decide +kernel
theorem dM_act_40 : decode cM_act 40 = .ok (.iload_n 1, 1) := by decide +kernel
theorem dM_act_41 : decode cM_act 41 = .ok (.iaload, 1) := by decide +kernel
theorem dM_act_42 : decode cM_act 42 = .ok (.imul, 1) := by decide +kernel
theorem dM_act_43 : decode cM_act 43 = .ok (.istore_n 3, 1) := by decide +kernel
theorem dM_act_44 : decode cM_act 44 = .ok (.aload_n 0, 1) := by decide +kernel
theorem dM_act_45 : decode cM_act 45 = .ok (.dup, 1) := by decide +kernel
theorem dM_act_46 : decode cM_act 46 = .ok (.getfield 164, 3) := by decide +kernel
theorem dM_act_49 : decode cM_act 49 = .ok (.aload_n 0, 1) := by decide +kernel
theorem dM_act_50 : decode cM_act 50 = .ok (.getfield 47, 3) := by decide +kernel
theorem dM_act_53 : decode cM_act 53 = .ok (.iload_n 1, 1) := by decide +kernel
theorem dM_act_54 : decode cM_act 54 = .ok (.iaload, 1) := by decide +kernel
theorem dM_act_55 : decode cM_act 55 = .ok (.iadd, 1) := by decide +kernel
theorem dM_act_56 : decode cM_act 56 = .ok (.putfield 164, 3) := by decide +kernel
theorem dM_act_59 : decode cM_act 59 = .ok (.aload_n 0, 1) := by decide +kernel
theorem dM_act_60 : decode cM_act 60 = .ok (.getfield 47, 3) := by decide +kernel
theorem dM_act_63 : decode cM_act 63 = .ok (.iload_n 1, 1) := by decide +kernel
theorem dM_act_64 : decode cM_act 64 = .ok (.aload_n 0, 1) := by decide +kernel
theorem dM_act_65 : decode cM_act 65 = .ok (.getfield 23, 3) := by decide +kernel
theorem dM_act_68 : decode cM_act 68 = .ok (.iload_n 2, 1) := by decide +kernel
theorem dM_act_69 : decode cM_act 69 = .ok (.iaload, 1) := by decide +kernel
theorem dM_act_70 : decode cM_act 70 = .ok (.iload_n 3, 1) := by decide +kernel
theorem dM_act_71 : decode cM_act 71 = .ok (.if_icmp .ge 12, 3) := by decide +kernel
theorem dM_act_74 : decode cM_act 74 = .ok (.aload_n 0, 1) := by decide +kernel
theorem dM_act_75 : decode cM_act 75 = .ok (.getfield 23, 3) := by decide +kernel
theorem dM_act_78 : decode cM_act 78 = .ok (.iload_n 2, 1) := by decide +kernel
theorem dM_act_79 : decode cM_act 79 = .ok (.iaload, 1) := by decide +kernel
theorem dM_act_80 : decode cM_act 80 = .ok (.goto 4, 3) := by decide +kernel
theorem dM_act_83 : decode cM_act 83 = .ok (.iload_n 3, 1) := by decide +kernel
theorem dM_act_84 : decode cM_act 84 = .ok (.iastore, 1) := by decide +kernel
theorem dM_act_85 : decode cM_act 85 = .ok (.aload_n 0, 1) := by decide +kernel
theorem dM_act_86 : decode cM_act 86 = .ok (.getfield 23, 3) := by decide +kernel
theorem dM_act_89 : decode cM_act 89 = .ok (.iload_n 2, 1) := by decide +kernel
theorem dM_act_90 : decode cM_act 90 = .ok (.dup2, 1) := by decide +kernel
theorem dM_act_91 : decode cM_act 91 = .ok (.iaload, 1) := by decide +kernel
theorem dM_act_92 : decode cM_act 92 = .ok (.aload_n 0, 1) := by decide +kernel
theorem dM_act_93 : decode cM_act 93 = .ok (.getfield 47, 3) := by decide +kernel
theorem dM_act_96 : decode cM_act 96 = .ok (.iload_n 1, 1) := by decide +kernel
theorem dM_act_97 : decode cM_act 97 = .ok (.iaload, 1) := by decide +kernel
theorem dM_act_98 : decode cM_act 98 = .ok (.isub, 1) := by decide +kernel
theorem dM_act_99 : decode cM_act 99 = .ok (.iastore, 1) := by decide +kernel
theorem dM_act_100 : decode cM_act 100 = .ok (.aload_n 0, 1) := by decide +kernel
theorem dM_act_101 : decode cM_act 101 = .ok (.getfield 59, 3) := by decide +kernel
theorem dM_act_104 : decode cM_act 104 = .ok (.iload_n 1, 1) := by decide +kernel
theorem dM_act_105 : decode cM_act 105 = .ok (.aload_n 0, 1) := by decide +kernel
theorem dM_act_106 : decode cM_act 106 = .ok (.getfield 59, 3) := by decide +kernel
theorem dM_act_109 : decode cM_act 109 = .ok (.iload_n 1, 1) := by decide +kernel
theorem dM_act_110 : decode cM_act 110 = .ok (.iaload, 1) := by decide +kernel
theorem dM_act_111 : decode cM_act 111 = .ok (.iconst 1, 1) := by decide +kernel
theorem dM_act_112 : decode cM_act 112 = .ok (.iadd, 1) := by decide +kernel
theorem dM_act_113 : decode cM_act 113 = .ok (.aload_n 0, 1) := by decide +kernel
theorem dM_act_114 : decode cM_act 114 = .ok (.getfield 56, 3) := by decide +kernel
theorem dM_act_117 : decode cM_act 117 = .ok (.iload_n 1, 1) := by decide +kernel
theorem dM_act_118 : decode cM_act 118 = .ok (.iaload, 1) := by decide +kernel
theorem dM_act_119 : decode cM_act 119 = .ok (.irem, 1) := by decide +kernel
theorem dM_act_120 : decode cM_act 120 = .ok (.iastore, 1) := by decide +kernel
theorem dM_act_121 : decode cM_act 121 = .ok (.aload_n 0, 1) := by decide +kernel
theorem dM_act_122 : decode cM_act 122 = .ok (.getfield 50, 3) := by decide +kernel
theorem dM_act_125 : decode cM_act 125 = .ok (.iload_n 1, 1) := by decide +kernel
theorem dM_act_126 : decode cM_act 126 = .ok (.iconst 1, 1) := by decide +kernel
theorem dM_act_127 : decode cM_act 127 = .ok (.bastore, 1) := by decide +kernel
theorem dM_act_128 : decode cM_act 128 = .ok (.iconst 0, 1) := by decide +kernel
theorem dM_act_129 : decode cM_act 129 = .ok (.ireturn, 1) := by decide +kernel
theorem dM_act_130 : decode cM_act 130 = .ok (.aload_n 0, 1) := by decide +kernel
theorem dM_act_131 : decode cM_act 131 = .ok (.iload_n 1, 1) := by decide +kernel
theorem dM_act_132 : decode cM_act 132 = .ok (.invokevirtual 167, 3) := by decide +kernel
theorem dM_act_135 : decode cM_act 135 = .ok (.ifCond .ne 33, 3) := by decide +kernel
theorem dM_act_138 : decode cM_act 138 = .ok (.aload_n 0, 1) := by decide +kernel
theorem dM_act_139 : decode cM_act 139 = .ok (.iload_n 1, 1) := by decide +kernel
theorem dM_act_140 : decode cM_act 140 = .ok (.invokevirtual 135, 3) := by decide +kernel
theorem dM_act_143 : decode cM_act 143 = .ok (.bipush 6, 2) := by decide +kernel
theorem dM_act_145 : decode cM_act 145 = .ok (.if_icmp .ge 23, 3) := by decide +kernel
theorem dM_act_148 : decode cM_act 148 = .ok (.aload_n 0, 1) := by decide +kernel
theorem dM_act_149 : decode cM_act 149 = .ok (.iload_n 1, 1) := by decide +kernel
theorem dM_act_150 : decode cM_act 150 = .ok (.invokevirtual 170, 3) := by decide +kernel
theorem dM_act_153 : decode cM_act 153 = .ok (.ifCond .eq 15, 3) := by decide +kernel
theorem dM_act_156 : decode cM_act 156 = .ok (.aload_n 0, 1) := by decide +kernel
theorem dM_act_157 : decode cM_act 157 = .ok (.invokevirtual 173, 3) := by decide +kernel
theorem dM_act_160 : decode cM_act 160 = .ok (.ifCond .eq 8, 3) := by decide +kernel
theorem dM_act_163 : decode cM_act 163 = .ok (.aload_n 0, 1) := by decide +kernel
theorem dM_act_164 : decode cM_act 164 = .ok (.iload_n 1, 1) := by decide +kernel
theorem dM_act_165 : decode cM_act 165 = .ok (.invokevirtual 176, 3) := by decide +kernel
theorem dM_act_168 : decode cM_act 168 = .ok (.aload_n 0, 1) := by decide +kernel
theorem dM_act_169 : decode cM_act 169 = .ok (.getfield 41, 3) := by decide +kernel
theorem dM_act_172 : decode cM_act 172 = .ok (.iload_n 1, 1) := by decide +kernel
theorem dM_act_173 : decode cM_act 173 = .ok (.iaload, 1) := by decide +kernel
theorem dM_act_174 : decode cM_act 174 = .ok (.iconst 1, 1) := by decide +kernel
theorem dM_act_175 : decode cM_act 175 = .ok (.iadd, 1) := by decide +kernel
theorem dM_act_176 : decode cM_act 176 = .ok (.iconst 3, 1) := by decide +kernel
theorem dM_act_177 : decode cM_act 177 = .ok (.if_icmp .ge 14, 3) := by decide +kernel
theorem dM_act_180 : decode cM_act 180 = .ok (.aload_n 0, 1) := by decide +kernel
theorem dM_act_181 : decode cM_act 181 = .ok (.getfield 41, 3) := by decide +kernel
theorem dM_act_184 : decode cM_act 184 = .ok (.iload_n 1, 1) := by decide +kernel
theorem dM_act_185 : decode cM_act 185 = .ok (.iaload, 1) := by decide +kernel
theorem dM_act_186 : decode cM_act 186 = .ok (.iconst 1, 1) := by decide +kernel
theorem dM_act_187 : decode cM_act 187 = .ok (.iadd, 1) := by decide +kernel
theorem dM_act_188 : decode cM_act 188 = .ok (.goto 4, 3) := by decide +kernel
theorem dM_act_191 : decode cM_act 191 = .ok (.iconst 3, 1) := by decide +kernel
theorem dM_act_192 : decode cM_act 192 = .ok (.istore_n 2, 1) := by decide +kernel
theorem dM_act_193 : decode cM_act 193 = .ok (.iload_n 2, 1) := by decide +kernel
theorem dM_act_194 : decode cM_act 194 = .ok (.iload_n 2, 1) := by decide +kernel
theorem dM_act_195 : decode cM_act 195 = .ok (.iconst 1, 1) := by decide +kernel
theorem dM_act_196 : decode cM_act 196 = .ok (.iadd, 1) := by decide +kernel
theorem dM_act_197 : decode cM_act 197 = .ok (.imul, 1) := by decide +kernel
theorem dM_act_198 : decode cM_act 198 = .ok (.iconst 2, 1) := by decide +kernel
theorem dM_act_199 : decode cM_act 199 = .ok (.idiv, 1) := by decide +kernel
theorem dM_act_200 : decode cM_act 200 = .ok (.aload_n 0, 1) := by decide +kernel
theorem dM_act_201 : decode cM_act 201 = .ok (.iload_n 1, 1) := by decide +kernel
theorem dM_act_202 : decode cM_act 202 = .ok (.invokevirtual 135, 3) := by decide +kernel
theorem dM_act_205 : decode cM_act 205 = .ok (.if_icmp .le 9, 3) := by decide +kernel
theorem dM_act_208 : decode cM_act 208 = .ok (.iinc 2 (-1), 3) := by decide +kernel
theorem dM_act_211 : decode cM_act 211 = .ok (.goto (-18), 3) := by decide +kernel
theorem dM_act_214 : decode cM_act 214 = .ok (.aload_n 0, 1) := by decide +kernel
theorem dM_act_215 : decode cM_act 215 = .ok (.getfield 41, 3) := by decide +kernel
theorem dM_act_218 : decode cM_act 218 = .ok (.iload_n 1, 1) := by decide +kernel
theorem dM_act_219 : decode cM_act 219 = .ok (.iload_n 2, 1) := by decide +kernel
theorem dM_act_220 : decode cM_act 220 = .ok (.iastore, 1) := by decide +kernel
theorem dM_act_221 : decode cM_act 221 = .ok (.iconst 0, 1) := by decide +kernel
theorem dM_act_222 : decode cM_act 222 = .ok (.istore_n 3, 1) := by decide +kernel
theorem dM_act_223 : decode cM_act 223 = .ok (.iload_n 3, 1) := by decide +kernel
theorem dM_act_224 : decode cM_act 224 = .ok (.iload_n 2, 1) := by decide +kernel
theorem dM_act_225 : decode cM_act 225 = .ok (.if_icmp .ge 14, 3) := by decide +kernel
theorem dM_act_228 : decode cM_act 228 = .ok (.aload_n 0, 1) := by decide +kernel
theorem dM_act_229 : decode cM_act 229 = .ok (.iload_n 1, 1) := by decide +kernel
theorem dM_act_230 : decode cM_act 230 = .ok (.invokevirtual 179, 3) := by decide +kernel
theorem dM_act_233 : decode cM_act 233 = .ok (.iinc 3 1, 3) := by decide +kernel
theorem dM_act_236 : decode cM_act 236 = .ok (.goto (-13), 3) := by decide +kernel
theorem dM_act_239 : decode cM_act 239 = .ok (.aload_n 0, 1) := by decide +kernel
theorem dM_act_240 : decode cM_act 240 = .ok (.iload_n 1, 1) := by decide +kernel
theorem dM_act_241 : decode cM_act 241 = .ok (.invokevirtual 167, 3) := by decide +kernel
theorem dM_act_244 : decode cM_act 244 = .ok (.ifCond .eq 25, 3) := by decide +kernel
theorem dM_act_247 : decode cM_act 247 = .ok (.aload_n 0, 1) := by decide +kernel
theorem dM_act_248 : decode cM_act 248 = .ok (.iload_n 1, 1) := by decide +kernel
theorem dM_act_249 : decode cM_act 249 = .ok (.invokevirtual 135, 3) := by decide +kernel
theorem dM_act_252 : decode cM_act 252 = .ok (.ifCond .ne 17, 3) := by decide +kernel
theorem dM_act_255 : decode cM_act 255 = .ok (.aload_n 0, 1) := by decide +kernel
theorem dM_act_256 : decode cM_act 256 = .ok (.getfield 41, 3) := by decide +kernel
theorem dM_act_259 : decode cM_act 259 = .ok (.iload_n 1, 1) := by decide +kernel
theorem dM_act_260 : decode cM_act 260 = .ok (.iconst 0, 1) := by decide +kernel
theorem dM_act_261 : decode cM_act 261 = .ok (.iastore, 1) := by decide +kernel
theorem dM_act_262 : decode cM_act 262 = .ok (.aload_n 0, 1) := by decide +kernel
theorem dM_act_263 : decode cM_act 263 = .ok (.getfield 44, 3) := by decide +kernel
theorem dM_act_266 : decode cM_act 266 = .ok (.iload_n 1, 1) := by decide +kernel
theorem dM_act_267 : decode cM_act 267 = .ok (.iconst 2, 1) := by decide +kernel
theorem dM_act_268 : decode cM_act 268 = .ok (.iastore, 1) := by decide +kernel
theorem dM_act_269 : decode cM_act 269 = .ok (.iload_n 2, 1) := by decide +kernel
theorem dM_act_270 : decode cM_act 270 = .ok (.ireturn, 1) := by decide +kernel
theorem lmM_167 : Cond.methodLink R_M 167 yM_due ∈ bigW := bw 742 (by decide +kernel) rfl
theorem lmM_179 : Cond.methodLink R_M 179 yM_moveOn ∈ bigW := bw 827 (by decide +kernel) rfl
theorem lmM_170 : Cond.methodLink R_M 170 yM_makeRequest ∈ bigW := bw 754 (by decide +kernel) rfl
theorem lmM_173 : Cond.methodLink R_M 173 yM_canGrant ∈ bigW := bw 804 (by decide +kernel) rfl
theorem lmM_176 : Cond.methodLink R_M 176 yM_grant ∈ bigW := bw 823 (by decide +kernel) rfl
theorem miM_due : MI yM_due cM_due 2 (some .boolean) 1 := ⟨bw 745 (by decide +kernel) rfl, bw 48 (by decide +kernel) rfl, ⟨by decide +kernel, by decide +kernel⟩, by decide +kernel, by decide⟩
theorem mvM_due : MV yM_due := ⟨bw 744 (by decide +kernel) rfl, bw 11 (by decide +kernel) rfl⟩
theorem miM_moveOn : MI yM_moveOn cM_moveOn 3 none 1 := ⟨bw 830 (by decide +kernel) rfl, bw 48 (by decide +kernel) rfl, ⟨by decide +kernel, by decide +kernel⟩, by decide +kernel, by decide⟩
theorem mvM_moveOn : MV yM_moveOn := ⟨bw 829 (by decide +kernel) rfl, bw 29 (by decide +kernel) rfl⟩
theorem miM_makeRequest : MI yM_makeRequest cM_makeRequest 5 (some .boolean) 1 := ⟨bw 757 (by decide +kernel) rfl, bw 48 (by decide +kernel) rfl, ⟨by decide +kernel, by decide +kernel⟩, by decide +kernel, by decide⟩
theorem mvM_makeRequest : MV yM_makeRequest := ⟨bw 756 (by decide +kernel) rfl, bw 14 (by decide +kernel) rfl⟩
theorem miM_canGrant : MI yM_canGrant cM_canGrant 3 (some .boolean) 0 := ⟨bw 807 (by decide +kernel) rfl, bw 48 (by decide +kernel) rfl, ⟨by decide +kernel, by decide +kernel⟩, by decide +kernel, by decide⟩
theorem mvM_canGrant : MV yM_canGrant := ⟨bw 806 (by decide +kernel) rfl, bw 24 (by decide +kernel) rfl⟩
theorem miM_grant : MI yM_grant cM_grant 3 none 1 := ⟨bw 826 (by decide +kernel) rfl, bw 48 (by decide +kernel) rfl, ⟨by decide +kernel, by decide +kernel⟩, by decide +kernel, by decide⟩
theorem mvM_grant : MV yM_grant := ⟨bw 825 (by decide +kernel) rfl, bw 28 (by decide +kernel) rfl⟩
theorem gJu_c {F n : Int} {ed : ED} {f g : Int → Int} (hE : okE n ed) (h : ∀ q, 0 ≤ q → q < n → f q = g q) (hf : gJu F n ed f) : gJu F n ed g := by
  intro q q1 q2 q3
  rw [← h q q1 q2] at q3
  obtain ⟨k, t, c, hk, he, hh⟩ := hf q q1 q2 q3
  refine ⟨k, t, c, hk, he, ?_⟩
  rw [← h q q1 q2]
  rcases hh with hh | ⟨b, b1, b2, b3⟩
  · exact Or.inl hh
  · have := (hE q k t c he).2.2 b b1
    rw [h b this.1 this.2] at b2 b3
    exact Or.inr ⟨b, b1, b2, b3⟩
theorem gRl_c {F n : Int} {ed : ED} {f g : Int → Int} (hE : okE n ed) (h : ∀ q, 0 ≤ q → q < n → f q = g q) (hf : gRl F n ed f) : gRl F n ed g := by
  intro q k t c q1 q2 k1 k2 he
  obtain ⟨a, b⟩ := hf q k t c q1 q2 k1 k2 he
  rw [← h q q1 q2]
  refine ⟨a, fun x hx hx2 => ?_⟩
  have := (hE q k t c he).2.2 x hx
  rw [← h x this.1 this.2] at hx2 ⊢
  exact b x hx hx2
theorem frOK_r {w u : RW} (hm : mOK w) {s : Int} (h0 : u 77 0 = w 77 0) (h1 : u 77 1 = w 77 1) (h2 : u 78 = w 78) (h3 : u 79 = w 79) (h4 : u 80 = w 80) (h5 : ∀ q, 0 ≤ q → q < 576 → u 84 (576 * s + q) = w 84 (576 * s + q)) (h : frOK w s) : frOK u s := by
  obtain ⟨a, b, c, d⟩ := h
  have hE := edM_ok hm s
  have hf : ∀ q, 0 ≤ q → q < 576 → fh w s q = fh u s q := fun q q1 q2 => by unfold fh; rw [h4, h5 q q1 q2]
  refine ⟨fun q q1 q2 => by rw [h5 q q1 q2]; exact a q q1 q2, fun q q1 q2 q3 => by rw [h5 q q1 q2]; exact b q q1 q2 (by rw [q3, h4]), ?_, ?_⟩
  · rw [edM_c2 h0 h1 h2 h3 h4]; exact gJu_c hE hf c
  · rw [edM_c2 h0 h1 h2 h3 h4]; exact gRl_c hE hf d
theorem kOK_c {w u : RW} (hm : mOK w) (h0 : u 77 0 = w 77 0) (h1 : u 77 1 = w 77 1) (h2 : u 78 = w 78) (h3 : u 79 = w 79) (h4 : u 80 = w 80) (h5 : u 83 = w 83) (h6 : u 84 = w 84) (h : kOK w) : kOK u := by
  intro s s1 s2
  obtain ⟨a, b⟩ := h s s1 s2
  rw [h5]
  exact ⟨a, fun z => frOK_r hm h0 h1 h2 h3 h4 (fun _ _ _ => by rw [h6]) (b z)⟩
theorem msP_ok {w u : RW} {s : Int} (hm : mOK w) (hs : 0 ≤ s ∧ s < 6) (hk : kOK w) (h : msP w u s) : (∀ j, j ≠ 83 → j ≠ 84 → u j = w j) ∧ kOK u ∧ frOK u s := by
  rcases h with ⟨a, rfl⟩ | ⟨a, ⟨b1, b2, b3⟩, c⟩
  · exact ⟨fun _ _ _ => rfl, hk, (hk s hs.1 hs.2).2 a⟩
  · refine ⟨b1, fun s' s1 s2 => ?_, c⟩
    rw [b2]
    by_cases e : s' = s
    · subst e
      rw [upw_s]
      exact ⟨Or.inr rfl, fun _ => c⟩
    · rw [upw_i e]
      obtain ⟨d1, d2⟩ := hk s' s1 s2
      exact ⟨d1, fun z => frOK_r hm (by rw [b1 77 (by decide) (by decide)]) (by rw [b1 77 (by decide) (by decide)]) (b1 78 (by decide) (by decide)) (b1 79 (by decide) (by decide)) (b1 80 (by decide) (by decide)) (fun q q1 q2 => b3 _ (by omega)) (d2 z)⟩
theorem mqM_frame {w u : RW} {t r : Int} (hm : mOK w) (ht : 0 ≤ t ∧ t < 6) (hk : kOK w) (h : mqM w u t r) : (∀ j, j ≠ 77 → j ≠ 83 → j ≠ 84 → j ≠ 95 → u j = w j) ∧ (∀ f, f ≠ 21 → u 77 f = w 77 f) ∧ kOK u ∧ rqOK u := by
  obtain ⟨v, h1, h2, ⟨⟨f1, f2⟩, g1, g2, g3⟩, h4, h5⟩ := h
  have k5 := hm.2.2.2.2.1 t ht.1 ht.2
  have hg : 0 ≤ gMt w t ∧ gMt w t < 6 := hm.2.2.2.2.2.2 _ (by omega) (by omega)
  have hmz : mOK (upw w 77 21 0) := mOK_c (fun j j1 _ _ _ => upw_f j1) (fun f hf => upw_i hf) hm
  have hkz : kOK (upw w 77 21 0) := kOK_c hm (upw_i (by decide)) (upw_i (by decide)) (upw_f (by decide)) (upw_f (by decide)) (upw_f (by decide)) (upw_f (by decide)) (upw_f (by decide)) hk
  obtain ⟨c1, c2, c3⟩ := msP_ok hmz hg hkz h1
  have hmv : mOK v := mOK_c (fun j j1 j2 j3 j4 => by rw [c1 j j2 j3, upw_f j1]) (fun f hf => by rw [c1 77 (by decide) (by decide), upw_i hf]) hm
  refine ⟨fun j j1 j2 j3 j4 => by rw [f1 j j1 j4, c1 j j2 j3, upw_f j1], fun f hf => by rw [f2 f hf, c1 77 (by decide) (by decide), upw_i hf], ?_, by omega, fun j j1 j2 => (g2 j j1 j2).1⟩
  exact kOK_c hmv (f2 0 (by decide)) (f2 1 (by decide)) (f1 78 (by decide) (by decide)) (f1 79 (by decide) (by decide)) (f1 80 (by decide) (by decide)) (f1 83 (by decide) (by decide)) (f1 84 (by decide) (by decide)) c2
/-- ranges again, behind a step of a train -/
theorem mOK_d {w u : RW} (hm : mOK w) (h77 : u 77 0 = w 77 0 ∧ u 77 1 = w 77 1 ∧ u 77 4 = w 77 4 ∧ u 77 10 = w 77 10) (h : u 78 = w 78 ∧ u 79 = w 79 ∧ u 80 = w 80 ∧ u 81 = w 81 ∧ u 87 = w 87 ∧ u 92 = w 92 ∧ u 93 = w 93) (h82 : ∀ s, 0 ≤ s → s < 6 → 0 ≤ u 82 s ∧ u 82 s ≤ 500) (h85 : ∀ i, 0 ≤ i → i < 1800 → 0 ≤ u 85 i ∧ u 85 i < 576)
    (ht : ∀ t, 0 ≤ t → t < 6 → 0 ≤ u 86 t ∧ u 86 t ≤ 96 ∧ w 87 t ≤ u 86 t ∧ 0 ≤ u 88 t ∧ u 88 t ≤ 3 ∧ 0 ≤ u 89 t ∧ u 89 t ≤ 2 ∧ 0 ≤ u 90 t ∧ u 90 t ≤ 100 ∧ (u 91 t = 0 ∨ u 91 t = 1) ∧ 0 ≤ u 94 t ∧ u 94 t < 6) : mOK u := by
  obtain ⟨k1, k2, k3, k4, k5, k6, k7⟩ := hm
  obtain ⟨a1, a2, a3, a4⟩ := h77
  obtain ⟨b1, b2, b3, b4, b5, b6, b7⟩ := h
  unfold mOK
  rw [a1, a2, a3, a4, b1, b2, b3, b4, b5, b6, b7]
  refine ⟨k1, k2, k3, fun s s1 s2 => ?_, fun t t1 t2 => ?_, h85, k7⟩
  · have := k4 s s1 s2; have := h82 s s1 s2; omega
  · have h1 := k5 t t1 t2; have h2 := ht t t1 t2
    refine ⟨by omega, by omega, by omega, by omega, by omega, by omega, by omega, by omega, by omega, by omega, by omega, h2.2.2.2.2.2.2.2.2.2.1, by omega, by omega, by omega, by omega⟩
theorem mvM_f {w : RW} {t : Int} {j : Nat} (h : j ≠ 85) (h2 : j ≠ 86) (h3 : j ≠ 91) : mvM w t j = w j := by
  unfold mvM
  rw [upw_f h3, mvN_f h h2]
theorem mvM_86 {w : RW} {t : Int} : mvM w t 86 t = w 86 t - 1 := by
  unfold mvM
  rw [upw_f (by decide), mvN_86]
theorem mvM_86i {w : RW} {t i : Int} (h : i ≠ t) : mvM w t 86 i = w 86 i := by
  unfold mvM
  rw [upw_f (by decide)]
  unfold mvN
  rw [if_neg (fun z => absurd z.1 (by decide)), if_neg (fun z => h z.2)]
theorem mvM_91 {w : RW} {t : Int} : mvM w t 91 t = 0 := by
  unfold mvM
  rw [upw_s]
theorem mvM_91i {w : RW} {t i : Int} (h : i ≠ t) : mvM w t 91 i = w 91 i := by
  unfold mvM
  rw [upw_i h, mvN_f (by decide) (by decide)]
theorem mvM_85 {w : RW} {t i : Int} : mvM w t 85 i = if 300 * t ≤ i ∧ i < 300 * t + w 86 t - 1 then w 85 (i + 1) else w 85 i := by
  unfold mvM
  rw [upw_f (by decide)]
  unfold mvN
  by_cases h : 300 * t ≤ i ∧ i < 300 * t + w 86 t - 1
  · rw [if_pos h, if_pos ⟨rfl, by omega, by omega⟩]
  · rw [if_neg h, if_neg (by omega), if_neg (fun z => absurd z.1 (by decide))]
theorem mOK_mv {w : RW} {t : Int} (ht : 0 ≤ t ∧ t < 6) (hm : mOK w) (h : w 87 t < w 86 t) : mOK (mvM w t) := by
  obtain ⟨k1, k2, k3, k4, k5, k6, k7⟩ := hm
  have kt := k5 t ht.1 ht.2
  refine mOK_d ⟨k1, k2, k3, k4, k5, k6, k7⟩ ?_ ?_ ?_ ?_ ?_
  · rw [mvM_f (by decide) (by decide) (by decide)]; exact ⟨rfl, rfl, rfl, rfl⟩
  · exact ⟨mvM_f (by decide) (by decide) (by decide), mvM_f (by decide) (by decide) (by decide), mvM_f (by decide) (by decide) (by decide), mvM_f (by decide) (by decide) (by decide), mvM_f (by decide) (by decide) (by decide), mvM_f (by decide) (by decide) (by decide), mvM_f (by decide) (by decide) (by decide)⟩
  · intro s s1 s2; rw [mvM_f (by decide) (by decide) (by decide)]; have := k4 s s1 s2; omega
  · intro i i1 i2
    rw [mvM_85]
    split
    · exact k6 _ (by omega) (by omega)
    · exact k6 _ i1 i2
  · intro z z1 z2
    have h2 := k5 z z1 z2
    rw [mvM_f (j := 88) (by decide) (by decide) (by decide), mvM_f (j := 89) (by decide) (by decide) (by decide), mvM_f (j := 90) (by decide) (by decide) (by decide), mvM_f (j := 94) (by decide) (by decide) (by decide)]
    by_cases e : z = t
    · subst e
      rw [mvM_86, mvM_91]
      refine ⟨by omega, by omega, by omega, by omega, by omega, by omega, by omega, by omega, by omega, by omega, by omega, by omega⟩
    · rw [mvM_86i e, mvM_91i e]
      refine ⟨by omega, by omega, by omega, by omega, by omega, by omega, by omega, by omega, by omega, h2.2.2.2.2.2.2.2.2.2.2.2.1, by omega, by omega⟩
def mvK (w : RW) (t : Int) : Nat → RW
  | 0 => w
  | n + 1 => mvM (mvK w t n) t
theorem mvK_86 (w : RW) (t : Int) : ∀ n, mvK w t n 86 t = w 86 t - n
  | 0 => by show w 86 t = _; omega
  | n + 1 => by
    show mvM (mvK w t n) t 86 t = _
    rw [mvM_86, mvK_86 w t n]; omega
theorem mvK_f {w : RW} {t : Int} {j : Nat} (h : j ≠ 85) (h2 : j ≠ 86) (h3 : j ≠ 91) : ∀ n, mvK w t n j = w j
  | 0 => rfl
  | n + 1 => by
    show mvM (mvK w t n) t j = _
    rw [mvM_f h h2 h3, mvK_f h h2 h3 n]
theorem mOK_mvK {w : RW} {t : Int} (ht : 0 ≤ t ∧ t < 6) (hm : mOK w) : ∀ n : Nat, (n : Int) ≤ w 86 t - w 87 t → mOK (mvK w t n)
  | 0, _ => hm
  | n + 1, h => by
    refine mOK_mv ht (mOK_mvK ht hm n (by omega)) ?_
    rw [mvK_86, mvK_f (by decide) (by decide) (by decide)]
    omega
noncomputable def wif (P : Prop) (a b : RW) : RW := @ite _ P (Classical.propDecidable P) a b
theorem wif_t {P : Prop} {a b : RW} (h : P) : wif P a b = a := by unfold wif; exact @if_pos P (Classical.propDecidable P) h RW a b
theorem wif_f {P : Prop} {a b : RW} (h : ¬ P) : wif P a b = b := by unfold wif; exact @if_neg P (Classical.propDecidable P) h RW a b
def acS (v : RW) (t : Int) : Int := nsp (if 3 < v 88 t + 1 then 3 else v 88 t + 1) (v 86 t - v 87 t)
def acV (v : RW) (t : Int) : RW := mvK (upw v 88 t (acS v t)) t (acS v t).toNat
noncomputable def acZ (v : RW) (t : Int) : RW := wif (dueM (acV v t) t ∧ acV v t 86 t - acV v t 87 t = 0) (upw (upw (acV v t) 88 t 0) 89 t 2) (acV v t)
theorem nsp_rng {v a : Int} (ha : 0 ≤ a) : 0 ≤ nsp v a ∧ nsp v a ≤ 3 ∧ nsp v a ≤ a := by
  unfold nsp
  (repeat' split) <;> omega
theorem mOK_88 {w : RW} {t z : Int} (hm : mOK w) (hz : 0 ≤ z ∧ z ≤ 3) : mOK (upw w 88 t z) := by
  obtain ⟨k1, k2, k3, k4, k5, k6, k7⟩ := hm
  refine mOK_d ⟨k1, k2, k3, k4, k5, k6, k7⟩ ?_ ?_ ?_ ?_ ?_
  · rw [upw_f (by decide)]; exact ⟨rfl, rfl, rfl, rfl⟩
  · exact ⟨upw_f (by decide), upw_f (by decide), upw_f (by decide), upw_f (by decide), upw_f (by decide), upw_f (by decide), upw_f (by decide)⟩
  · intro s s1 s2; rw [upw_f (by decide)]; have := k4 s s1 s2; omega
  · intro i i1 i2; rw [upw_f (by decide)]; exact k6 i i1 i2
  · intro y y1 y2
    have h2 := k5 y y1 y2
    rw [upw_f (k' := 86) (by decide), upw_f (k' := 89) (by decide), upw_f (k' := 90) (by decide), upw_f (k' := 91) (by decide), upw_f (k' := 94) (by decide)]
    have h3 : 0 ≤ upw w 88 t z 88 y ∧ upw w 88 t z 88 y ≤ 3 := by
      by_cases e : y = t
      · subst e; rw [upw_s]; exact hz
      · rw [upw_i e]; omega
    refine ⟨by omega, by omega, by omega, by omega, by omega, by omega, by omega, by omega, by omega, h2.2.2.2.2.2.2.2.2.2.2.2.1, by omega, by omega⟩
theorem mOK_89 {w : RW} {t z : Int} (hm : mOK w) (hz : 0 ≤ z ∧ z ≤ 2) : mOK (upw w 89 t z) := by
  obtain ⟨k1, k2, k3, k4, k5, k6, k7⟩ := hm
  refine mOK_d ⟨k1, k2, k3, k4, k5, k6, k7⟩ ?_ ?_ ?_ ?_ ?_
  · rw [upw_f (by decide)]; exact ⟨rfl, rfl, rfl, rfl⟩
  · exact ⟨upw_f (by decide), upw_f (by decide), upw_f (by decide), upw_f (by decide), upw_f (by decide), upw_f (by decide), upw_f (by decide)⟩
  · intro s s1 s2; rw [upw_f (by decide)]; have := k4 s s1 s2; omega
  · intro i i1 i2; rw [upw_f (by decide)]; exact k6 i i1 i2
  · intro y y1 y2
    have h2 := k5 y y1 y2
    rw [upw_f (k' := 86) (by decide), upw_f (k' := 88) (by decide), upw_f (k' := 90) (by decide), upw_f (k' := 91) (by decide), upw_f (k' := 94) (by decide)]
    have h3 : 0 ≤ upw w 89 t z 89 y ∧ upw w 89 t z 89 y ≤ 2 := by
      by_cases e : y = t
      · subst e; rw [upw_s]; exact hz
      · rw [upw_i e]; omega
    refine ⟨by omega, by omega, by omega, by omega, by omega, by omega, by omega, by omega, by omega, h2.2.2.2.2.2.2.2.2.2.2.2.1, by omega, by omega⟩
theorem lpM_actM {G : vG} {X : vX} {Q : State → Prop} {w : RW} {v : RW} {t z : Int} {Post : Int → RW → Prop} (ht : 0 ≤ t ∧ t < 6) (hm : mOK v) (h1 : 1 ≤ v 87 t) (hz : 0 ≤ z ∧ z ≤ v 86 t - v 87 t) (F : FX G X cM_act yM_act.cls 4 6) (hR : RetI G X cM_act 4 Q Post) (hp : Post z (wif (dueM (mvK v t z.toNat) t ∧ mvK v t z.toNat 86 t - mvK v t z.toNat 87 t = 0) (upw (upw (mvK v t z.toNat) 88 t 0) 89 t 2) (mvK v t z.toNat))) : ∀ (m : Nat) (k : Int), z - k < m → (0 ≤ k) → (k ≤ z) → V G X 4 Q 223 [some (.inr 77), some (.inl t), some (.inl z), some (.inl k)] [] (mvK v t k.toNat) := by
  have k5 := hm.2.2.2.2.1 t ht.1 ht.2
  intro m
  induction m with
  | zero => intro k hm0 k1 k2; omega
  | succ m ih =>
    intro k hm0 k1 k2
    have hmk : mOK (mvK v t k.toNat) := mOK_mvK ht hm k.toNat (by omega)
    have e86 := mvK_86 v t k.toNat
    have e87 : mvK v t k.toNat 87 = v 87 := mvK_f (by decide) (by decide) (by decide) _
    rw [show ((k.toNat : Nat) : Int) = k by omega] at e86
    refine V_iload_n (i := 3) F dM_act_223 rfl rfl ?_
    refine V_iload_n (i := 2) F dM_act_224 rfl rfl ?_
    refine V_icmp_ge F 239 dM_act_225 (by decide) (fun h225 => ?_) (fun h225 => ?_)
    · first | (replace h225 := bz_ne0.mp h225) | (replace h225 := bz_eq0.mp h225) | skip
      have hkz : k = z := by omega
      subst hkz
      refine V_aload_n (i := 0) F dM_act_239 rfl rfl ?_
      refine V_iload_n (i := 1) F dM_act_240 rfl rfl ?_
      refine V_callVi F dM_act_241 lmM_167 miM_due mvM_due (ctM_due ht hmk (by omega)) (by decide) (by first | rfl | assumption) rfl rfl (Nat.le_of_ble_eq_true rfl) (fun r u hr => ?_)
      obtain ⟨rfl, rfl⟩ := hr
      refine V_if_eq F 269 dM_act_244 (by decide) (fun h244 => ?_) (fun h244 => ?_)
      · first | (replace h244 := bz_ne0.mp h244) | (replace h244 := bz_eq0.mp h244) | skip
        refine V_iload_n (i := 2) F dM_act_269 rfl rfl ?_
        exact hR _ _ _ _ dM_act_270 (by
                    first
                    | (rw [wif_t ⟨h244, h252⟩] at hp; exact hp)
                    | (rw [wif_f (fun z => h252 z.2)] at hp; exact hp)
                    | (rw [wif_f (fun z => h244 z.1)] at hp; exact hp))
      · first | (replace h244 := bz_ne0.mp h244) | (replace h244 := bz_eq0.mp h244) | skip
        refine V_aload_n (i := 0) F dM_act_247 rfl rfl ?_
        refine V_iload_n (i := 1) F dM_act_248 rfl rfl ?_
        refine V_callVi F dM_act_249 lmM_135 miM_ahead mvM_ahead (ctM_ahead ht hmk) (by decide) (by first | rfl | assumption) rfl rfl (Nat.le_of_ble_eq_true rfl) (fun r u hr => ?_)
        obtain ⟨rfl, rfl⟩ := hr
        refine V_if_ne F 269 dM_act_252 (by decide) (fun h252 => ?_) (fun h252 => ?_)
        · first | (replace h252 := bz_ne0.mp h252) | (replace h252 := bz_eq0.mp h252) | skip
          refine V_iload_n (i := 2) F dM_act_269 rfl rfl ?_
          exact hR _ _ _ _ dM_act_270 (by
                      first
                      | (rw [wif_t ⟨h244, h252⟩] at hp; exact hp)
                      | (rw [wif_f (fun z => h252 z.2)] at hp; exact hp)
                      | (rw [wif_f (fun z => h244 z.1)] at hp; exact hp))
        · first | (replace h252 := bz_ne0.mp h252) | (replace h252 := bz_eq0.mp h252) | skip
          refine V_aload_n (i := 0) F dM_act_255 rfl rfl ?_
          refine V_getr (ci := 7) (C := R_M) (T := T_M) (N := 32) F dM_act_256 (by first | rfl | assumption) rfl (j := 14) (by decide) rfl lfM_41 ?_
          refine V_iload_n (i := 1) F dM_act_259 rfl rfl ?_
          refine V_iconst F dM_act_260 (by decide) ?_
          refine V_iast F dM_act_261 (by first | rfl | assumption) rfl (by omega) ?_
          refine V_aload_n (i := 0) F dM_act_262 rfl rfl ?_
          refine V_getr (ci := 7) (C := R_M) (T := T_M) (N := 32) F dM_act_263 (by first | rfl | assumption) rfl (j := 15) (by decide) rfl lfM_44 ?_
          refine V_iload_n (i := 1) F dM_act_266 rfl rfl ?_
          refine V_iconst F dM_act_267 (by decide) ?_
          refine V_iast F dM_act_268 (by first | rfl | assumption) rfl (by omega) ?_
          refine V_iload_n (i := 2) F dM_act_269 rfl rfl ?_
          exact hR _ _ _ _ dM_act_270 (by
                      first
                      | (rw [wif_t ⟨h244, h252⟩] at hp; exact hp)
                      | (rw [wif_f (fun z => h252 z.2)] at hp; exact hp)
                      | (rw [wif_f (fun z => h244 z.1)] at hp; exact hp))
    · first | (replace h225 := bz_ne0.mp h225) | (replace h225 := bz_eq0.mp h225) | skip
      refine V_aload_n (i := 0) F dM_act_228 rfl rfl ?_
      refine V_iload_n (i := 1) F dM_act_229 rfl rfl ?_
      refine V_callVv F dM_act_230 lmM_179 miM_moveOn mvM_moveOn (ctM_moveOn ht (by omega)) (by decide) (by first | rfl | assumption) rfl rfl (Nat.le_of_ble_eq_true rfl) (fun u hr => ?_)
      subst hr
      refine V_iinc F dM_act_233 (by decide) rfl (by omega) (by simp only [List.set_cons_zero, List.set_cons_succ]; exact rfl) ?_
      refine V_goto F 223 dM_act_236 (by decide) ?_
      have hn : (k + 1).toNat = k.toNat + 1 := by omega
      have := ih (k + 1) (by omega) (by omega) (by omega)
      rw [hn] at this
      exact this
theorem lpM_actS {G : vG} {X : vX} {Q : State → Prop} {w : RW} {v : RW} {t : Int} {Post : Int → RW → Prop} (ht : 0 ≤ t ∧ t < 6) (hm : mOK v) (h1 : 1 ≤ v 87 t) (F : FX G X cM_act yM_act.cls 4 6) (hR : RetI G X cM_act 4 Q Post) (hp : Post (acS v t) (acZ v t)) : ∀ (m : Nat) (z : Int), z < m → (0 ≤ z) → (z ≤ 3) → (acS v t = nsp z (v 86 t - v 87 t)) → V G X 4 Q 193 [some (.inr 77), some (.inl t), some (.inl z), none] [] v := by
  have k5 := hm.2.2.2.2.1 t ht.1 ht.2
  intro m
  induction m with
  | zero => intro z hm0 k1 k2 he; omega
  | succ m ih =>
    intro z hm0 k1 k2 he
    refine V_iload_n (i := 2) F dM_act_193 rfl rfl ?_
    refine V_iload_n (i := 2) F dM_act_194 rfl rfl ?_
    refine V_iconst F dM_act_195 (by decide) ?_
    refine V_iadd F dM_act_196 (by omega) ?_
    have hq : 0 ≤ z * (z + 1) ∧ z * (z + 1) ≤ 12 ∧ (z = 0 → z * (z + 1) / 2 = 0) ∧ z ≤ z * (z + 1) / 2 := by rcases (show z = 0 ∨ z = 1 ∨ z = 2 ∨ z = 3 by omega) with rfl | rfl | rfl | rfl <;> omega
    refine V_imul F dM_act_197 (by omega) ?_
    refine V_iconst F dM_act_198 (by decide) ?_
    refine V_idiv F dM_act_199 (by omega) ?_
    refine V_aload_n (i := 0) F dM_act_200 rfl rfl ?_
    refine V_iload_n (i := 1) F dM_act_201 rfl rfl ?_
    refine V_callVi F dM_act_202 lmM_135 miM_ahead mvM_ahead (ctM_ahead ht hm) (by decide) (by first | rfl | assumption) rfl rfl (Nat.le_of_ble_eq_true rfl) (fun r u hr => ?_)
    obtain ⟨rfl, rfl⟩ := hr
    refine V_icmp_le F 214 dM_act_205 (by decide) (fun h205 => ?_) (fun h205 => ?_)
    · refine V_aload_n (i := 0) F dM_act_214 rfl rfl ?_
      refine V_getr (ci := 7) (C := R_M) (T := T_M) (N := 32) F dM_act_215 (by first | rfl | assumption) rfl (j := 14) (by decide) rfl lfM_41 ?_
      refine V_iload_n (i := 1) F dM_act_218 rfl rfl ?_
      refine V_iload_n (i := 2) F dM_act_219 rfl rfl ?_
      refine V_iast F dM_act_220 (by first | rfl | assumption) rfl (by omega) ?_
      refine V_iconst F dM_act_221 (by decide) ?_
      refine V_istore_n (i := 3) F dM_act_222 rfl (by decide) (by simp only [List.set_cons_zero, List.set_cons_succ]; exact rfl) ?_
      have hz : acS v t = z := by
        rw [he]
        by_cases e : z = 0
        · rw [e, nsp_0]
        · exact nsp_ok (by omega) (by omega)
      subst hz
      have := lpM_actM (w := w) (v := upw v 88 t (acS v t)) (z := acS v t) ht (mOK_88 hm (by omega)) (by rw [upw_f (by decide)]; exact h1) (by rw [upw_f (k' := 86) (by decide), upw_f (k' := 87) (by decide)]; omega) F hR hp 4 0 (by omega) (by omega) (by omega)
      exact this
    · refine V_iinc F dM_act_208 (by decide) rfl (by omega) (by simp only [List.set_cons_zero, List.set_cons_succ]; exact rfl) ?_
      refine V_goto F 193 dM_act_211 (by decide) ?_
      exact ih (z + -1) (by omega) (by omega) (by omega) (by rw [he]; exact nsp_dec (by omega) (by omega))
theorem lpM_act168 {G : vG} {X : vX} {Q : State → Prop} {w v : RW} {t : Int} {Post : Int → RW → Prop} (ht : 0 ≤ t ∧ t < 6) (hm : mOK v) (h1 : 1 ≤ v 87 t) (F : FX G X cM_act yM_act.cls 4 6) (hR : RetI G X cM_act 4 Q Post) (hp : Post (acS v t) (acZ v t)) : V G X 4 Q 168 [some (.inr 77), some (.inl t), none, none] [] v := by
  have k5 := hm.2.2.2.2.1 t ht.1 ht.2
  refine V_aload_n (i := 0) F dM_act_168 rfl rfl ?_
  refine V_getr (ci := 7) (C := R_M) (T := T_M) (N := 32) F dM_act_169 (by first | rfl | assumption) rfl (j := 14) (by decide) rfl lfM_41 ?_
  refine V_iload_n (i := 1) F dM_act_172 rfl rfl ?_
  first
    | refine V_sald F dM_act_173 (by decide) (by omega) (stt_in _ _) ?_
    | refine V_iald F dM_act_173 (by first | rfl | assumption) rfl (by omega) ?_
  refine V_iconst F dM_act_174 (by decide) ?_
  refine V_iadd F dM_act_175 (by omega) ?_
  refine V_iconst F dM_act_176 (by decide) ?_
  refine V_icmp_ge F 191 dM_act_177 (by decide) (fun h177 => ?_) (fun h177 => ?_)
  · refine V_iconst F dM_act_191 (by decide) ?_
    refine V_istore_n (i := 2) F dM_act_192 rfl (by decide) (by simp only [List.set_cons_zero, List.set_cons_succ]; exact rfl) ?_
    exact lpM_actS (w := w) ht hm h1 F hR hp 4 _ (by omega) (by omega) (by omega) (by unfold acS; congr 1; split <;> omega)
  · refine V_aload_n (i := 0) F dM_act_180 rfl rfl ?_
    refine V_getr (ci := 7) (C := R_M) (T := T_M) (N := 32) F dM_act_181 (by first | rfl | assumption) rfl (j := 14) (by decide) rfl lfM_41 ?_
    refine V_iload_n (i := 1) F dM_act_184 rfl rfl ?_
    first
      | refine V_sald F dM_act_185 (by decide) (by omega) (stt_in _ _) ?_
      | refine V_iald F dM_act_185 (by first | rfl | assumption) rfl (by omega) ?_
    refine V_iconst F dM_act_186 (by decide) ?_
    refine V_iadd F dM_act_187 (by omega) ?_
    refine V_goto F 192 dM_act_188 (by decide) ?_
    refine V_istore_n (i := 2) F dM_act_192 rfl (by decide) (by simp only [List.set_cons_zero, List.set_cons_succ]; exact rfl) ?_
    exact lpM_actS (w := w) ht hm h1 F hR hp 4 _ (by omega) (by omega) (by omega) (by unfold acS; congr 1; split <;> omega)
def ldC (w : RW) (t : Int) : Int := if w 82 (gMt w t) < 20 * w 87 t then w 82 (gMt w t) else 20 * w 87 t
def ldM (w : RW) (t : Int) : RW := if w 89 t - 1 = 0 then upw (upw (upw (upw (upw (upw w 89 t (w 89 t - 1)) 77 24 (w 77 24 + w 90 t)) 90 t (ldC w t)) 82 (gMt w t) (w 82 (gMt w t) - ldC w t)) 94 t ((w 94 t + 1) % w 93 t)) 91 t 1 else upw w 89 t (w 89 t - 1)
def rgM (w v : RW) (t : Int) : Prop := (¬ (¬ dueM w t ∧ w 86 t - w 87 t < 6) ∧ v = w) ∨ ((¬ dueM w t ∧ w 86 t - w 87 t < 6) ∧ ∃ u r, mqM w u t r ∧ ((¬ (r = 1 ∧ canG u) ∧ v = u) ∨ ((r = 1 ∧ canG u) ∧ v = gtM u t (u 77 21))))
/-- behind one step of a train with orders -/
def actM (w u : RW) (t r : Int) : Prop := (0 < w 89 t ∧ r = 0 ∧ u = ldM w t) ∨ (w 89 t ≤ 0 ∧ ∃ v, rgM w v t ∧ r = acS v t ∧ u = acZ v t)
theorem mOK_gt {w : RW} {t n : Int} (ht : 0 ≤ t ∧ t < 6) (hm : mOK w) (hn : 0 ≤ n ∧ w 86 t + n ≤ 96) (hr : ∀ j, 0 ≤ j → j < n → 0 ≤ w 95 j ∧ w 95 j < 576) : mOK (gtM w t n) := by
  obtain ⟨k1, k2, k3, k4, k5, k6, k7⟩ := hm
  have kt := k5 t ht.1 ht.2
  refine mOK_d ⟨k1, k2, k3, k4, k5, k6, k7⟩ ?_ ?_ ?_ ?_ ?_
  · rw [gtM_f (by decide) (by decide)]; exact ⟨rfl, rfl, rfl, rfl⟩
  · exact ⟨gtM_f (by decide) (by decide), gtM_f (by decide) (by decide), gtM_f (by decide) (by decide), gtM_f (by decide) (by decide), gtM_f (by decide) (by decide), gtM_f (by decide) (by decide), gtM_f (by decide) (by decide)⟩
  · intro s s1 s2; rw [gtM_f (by decide) (by decide)]; have := k4 s s1 s2; omega
  · intro i i1 i2
    unfold gtM
    split
    · rename_i h; exact hr _ (by omega) (by omega)
    · rw [if_neg (fun z => absurd z.1 (by decide))]; exact k6 _ i1 i2
  · intro y y1 y2
    have h2 := k5 y y1 y2
    rw [gtM_f (j := 88) (by decide) (by decide), gtM_f (j := 89) (by decide) (by decide), gtM_f (j := 90) (by decide) (by decide), gtM_f (j := 91) (by decide) (by decide), gtM_f (j := 94) (by decide) (by decide)]
    have h3 : 0 ≤ gtM w t n 86 y ∧ gtM w t n 86 y ≤ 96 ∧ w 87 y ≤ gtM w t n 86 y := by
      by_cases e : y = t
      · subst e; rw [gtM_86]; omega
      · unfold gtM
        rw [if_neg (fun z => absurd z.1 (by decide)), if_neg (fun z => e z.2)]; omega
    refine ⟨by omega, by omega, by omega, by omega, by omega, by omega, by omega, by omega, by omega, h2.2.2.2.2.2.2.2.2.2.2.2.1, by omega, by omega⟩
theorem ctM_act {G : vG} {l : Launch} {w : RW} {t : Int} (ht : 0 ≤ t ∧ t < 6) (hm : mOK w) (h1 : 1 ≤ w 87 t) (hk : kOK w) (ho : 0 < w 93 t) (hb : 0 ≤ w 77 24 ∧ w 77 24 ≤ 1000000000) (hcap : w 89 t ≤ 0 → ¬ dueM w t → w 86 t - w 87 t < 6 → ∀ u, mqM w u t 1 → canG u → w 86 t + u 77 21 ≤ 96) : CTi G l yM_act cM_act 4 .int 6 [.inr 77, .inl t] w (fun r u => actM w u t r) := by
  refine CTi.int (by decide) (Nat.le_of_ble_eq_true rfl) ?_
  intro X Q F hX hR
  subst hX
  show V G X 4 Q 0 [some (.inr 77), some (.inl t), none, none] [] w
  have k5 := hm.2.2.2.2.1 t ht.1 ht.2
  have hg : 0 ≤ gMt w t ∧ gMt w t < 6 := hm.2.2.2.2.2.2 _ (by omega) (by omega)
  have k4 := hm.2.2.2.1 _ hg.1 hg.2
  refine V_aload_n (i := 0) F dM_act_0 rfl rfl ?_
  refine V_getr (ci := 7) (C := R_M) (T := T_M) (N := 32) F dM_act_1 (by first | rfl | assumption) rfl (j := 15) (by decide) rfl lfM_44 ?_
  refine V_iload_n (i := 1) F dM_act_4 rfl rfl ?_
  first
    | refine V_sald F dM_act_5 (by decide) (by omega) (stt_in _ _) ?_
    | refine V_iald F dM_act_5 (by first | rfl | assumption) rfl (by omega) ?_
  refine V_if_le F 130 dM_act_6 (by decide) (fun h6 => ?_) (fun h6 => ?_)
  · first | (replace h6 := bz_ne0.mp h6) | (replace h6 := bz_eq0.mp h6) | skip
    refine V_aload_n (i := 0) F dM_act_130 rfl rfl ?_
    refine V_iload_n (i := 1) F dM_act_131 rfl rfl ?_
    refine V_callVi F dM_act_132 lmM_167 miM_due mvM_due (ctM_due ht hm (by omega)) (by decide) (by first | rfl | assumption) rfl rfl (Nat.le_of_ble_eq_true rfl) (fun r u hr => ?_)
    obtain ⟨rfl, rfl⟩ := hr
    refine V_if_ne F 168 dM_act_135 (by decide) (fun h135 => ?_) (fun h135 => ?_)
    · first | (replace h135 := bz_ne0.mp h135) | (replace h135 := bz_eq0.mp h135) | skip
      first
      | exact lpM_act168 (w := w) (v := gtM u1 t (u1 77 21)) ht (mOK_gt ht hm1 ⟨hq.1.1, by rw [e86]; exact hc⟩ hq.2) (by rw [gtM_f (by decide) (by decide), e87]; exact h1) F hR (Or.inr ⟨h6, _, Or.inr ⟨⟨h135, by omega⟩, u1, 1, hr1, Or.inr ⟨⟨rfl, h160⟩, rfl⟩⟩, rfl, rfl⟩)
      | exact lpM_act168 (w := w) (v := u1) ht hm1 (by rw [e87]; exact h1) F hR (Or.inr ⟨h6, _, Or.inr ⟨⟨h135, by omega⟩, u1, r1, hr1, Or.inl ⟨fun z => h160 z.2, rfl⟩⟩, rfl, rfl⟩)
      | exact lpM_act168 (w := w) (v := u1) ht hm1 (by rw [e87]; exact h1) F hR (Or.inr ⟨h6, _, Or.inr ⟨⟨h135, by omega⟩, u1, r1, hr1, Or.inl ⟨fun z => by omega, rfl⟩⟩, rfl, rfl⟩)
      | exact lpM_act168 (w := w) (v := w) ht hm h1 F hR (Or.inr ⟨h6, _, Or.inl ⟨fun z => z.1 h135, rfl⟩, rfl, rfl⟩)
      | exact lpM_act168 (w := w) (v := w) ht hm h1 F hR (Or.inr ⟨h6, _, Or.inl ⟨fun z => by omega, rfl⟩, rfl, rfl⟩)
    · first | (replace h135 := bz_ne0.mp h135) | (replace h135 := bz_eq0.mp h135) | skip
      refine V_aload_n (i := 0) F dM_act_138 rfl rfl ?_
      refine V_iload_n (i := 1) F dM_act_139 rfl rfl ?_
      refine V_callVi F dM_act_140 lmM_135 miM_ahead mvM_ahead (ctM_ahead ht hm) (by decide) (by first | rfl | assumption) rfl rfl (Nat.le_of_ble_eq_true rfl) (fun r u hr => ?_)
      obtain ⟨rfl, rfl⟩ := hr
      refine V_bipush F dM_act_143 (by decide) ?_
      refine V_icmp_ge F 168 dM_act_145 (by decide) (fun h145 => ?_) (fun h145 => ?_)
      · first | (replace h145 := bz_ne0.mp h145) | (replace h145 := bz_eq0.mp h145) | skip
        first
        | exact lpM_act168 (w := w) (v := gtM u1 t (u1 77 21)) ht (mOK_gt ht hm1 ⟨hq.1.1, by rw [e86]; exact hc⟩ hq.2) (by rw [gtM_f (by decide) (by decide), e87]; exact h1) F hR (Or.inr ⟨h6, _, Or.inr ⟨⟨h135, by omega⟩, u1, 1, hr1, Or.inr ⟨⟨rfl, h160⟩, rfl⟩⟩, rfl, rfl⟩)
        | exact lpM_act168 (w := w) (v := u1) ht hm1 (by rw [e87]; exact h1) F hR (Or.inr ⟨h6, _, Or.inr ⟨⟨h135, by omega⟩, u1, r1, hr1, Or.inl ⟨fun z => h160 z.2, rfl⟩⟩, rfl, rfl⟩)
        | exact lpM_act168 (w := w) (v := u1) ht hm1 (by rw [e87]; exact h1) F hR (Or.inr ⟨h6, _, Or.inr ⟨⟨h135, by omega⟩, u1, r1, hr1, Or.inl ⟨fun z => by omega, rfl⟩⟩, rfl, rfl⟩)
        | exact lpM_act168 (w := w) (v := w) ht hm h1 F hR (Or.inr ⟨h6, _, Or.inl ⟨fun z => z.1 h135, rfl⟩, rfl, rfl⟩)
        | exact lpM_act168 (w := w) (v := w) ht hm h1 F hR (Or.inr ⟨h6, _, Or.inl ⟨fun z => by omega, rfl⟩, rfl, rfl⟩)
      · first | (replace h145 := bz_ne0.mp h145) | (replace h145 := bz_eq0.mp h145) | skip
        refine V_aload_n (i := 0) F dM_act_148 rfl rfl ?_
        refine V_iload_n (i := 1) F dM_act_149 rfl rfl ?_
        refine V_callVi F dM_act_150 lmM_170 miM_makeRequest mvM_makeRequest (ctM_makeRequest ht hm (by omega) hk) (by decide) (by first | rfl | assumption) rfl rfl (Nat.le_of_ble_eq_true rfl) (fun r1 u1 hr1 => ?_)
        have hfr := mqM_frame hm ht hk hr1
        have hm1 := mOK_c hfr.1 hfr.2.1 hm
        have e86 := hfr.1 86 (by decide) (by decide) (by decide) (by decide)
        have e87 := hfr.1 87 (by decide) (by decide) (by decide) (by decide)
        have hr01 : r1 = 0 ∨ r1 = 1 := by obtain ⟨_, _, _, _, _, h | h⟩ := hr1
                                          · exact Or.inr h.1
                                          · exact Or.inl h.1
        refine V_if_eq F 168 dM_act_153 (by decide) (fun h153 => ?_) (fun h153 => ?_)
        · first | (replace h153 := bz_ne0.mp h153) | (replace h153 := bz_eq0.mp h153) | skip
          first
          | exact lpM_act168 (w := w) (v := gtM u1 t (u1 77 21)) ht (mOK_gt ht hm1 ⟨hq.1.1, by rw [e86]; exact hc⟩ hq.2) (by rw [gtM_f (by decide) (by decide), e87]; exact h1) F hR (Or.inr ⟨h6, _, Or.inr ⟨⟨h135, by omega⟩, u1, 1, hr1, Or.inr ⟨⟨rfl, h160⟩, rfl⟩⟩, rfl, rfl⟩)
          | exact lpM_act168 (w := w) (v := u1) ht hm1 (by rw [e87]; exact h1) F hR (Or.inr ⟨h6, _, Or.inr ⟨⟨h135, by omega⟩, u1, r1, hr1, Or.inl ⟨fun z => h160 z.2, rfl⟩⟩, rfl, rfl⟩)
          | exact lpM_act168 (w := w) (v := u1) ht hm1 (by rw [e87]; exact h1) F hR (Or.inr ⟨h6, _, Or.inr ⟨⟨h135, by omega⟩, u1, r1, hr1, Or.inl ⟨fun z => by omega, rfl⟩⟩, rfl, rfl⟩)
          | exact lpM_act168 (w := w) (v := w) ht hm h1 F hR (Or.inr ⟨h6, _, Or.inl ⟨fun z => z.1 h135, rfl⟩, rfl, rfl⟩)
          | exact lpM_act168 (w := w) (v := w) ht hm h1 F hR (Or.inr ⟨h6, _, Or.inl ⟨fun z => by omega, rfl⟩, rfl, rfl⟩)
        · first | (replace h153 := bz_ne0.mp h153) | (replace h153 := bz_eq0.mp h153) | skip
          refine V_aload_n (i := 0) F dM_act_156 rfl rfl ?_
          refine V_callVi F dM_act_157 lmM_173 miM_canGrant mvM_canGrant (ctM_canGrant hm1 hfr.2.2.2) (by decide) (by first | rfl | assumption) rfl rfl (Nat.le_of_ble_eq_true rfl) (fun r u hr => ?_)
          obtain ⟨rfl, rfl⟩ := hr
          refine V_if_eq F 168 dM_act_160 (by decide) (fun h160 => ?_) (fun h160 => ?_)
          · first | (replace h160 := bz_ne0.mp h160) | (replace h160 := bz_eq0.mp h160) | skip
            first
            | exact lpM_act168 (w := w) (v := gtM u1 t (u1 77 21)) ht (mOK_gt ht hm1 ⟨hq.1.1, by rw [e86]; exact hc⟩ hq.2) (by rw [gtM_f (by decide) (by decide), e87]; exact h1) F hR (Or.inr ⟨h6, _, Or.inr ⟨⟨h135, by omega⟩, u1, 1, hr1, Or.inr ⟨⟨rfl, h160⟩, rfl⟩⟩, rfl, rfl⟩)
            | exact lpM_act168 (w := w) (v := u1) ht hm1 (by rw [e87]; exact h1) F hR (Or.inr ⟨h6, _, Or.inr ⟨⟨h135, by omega⟩, u1, r1, hr1, Or.inl ⟨fun z => h160 z.2, rfl⟩⟩, rfl, rfl⟩)
            | exact lpM_act168 (w := w) (v := u1) ht hm1 (by rw [e87]; exact h1) F hR (Or.inr ⟨h6, _, Or.inr ⟨⟨h135, by omega⟩, u1, r1, hr1, Or.inl ⟨fun z => by omega, rfl⟩⟩, rfl, rfl⟩)
            | exact lpM_act168 (w := w) (v := w) ht hm h1 F hR (Or.inr ⟨h6, _, Or.inl ⟨fun z => z.1 h135, rfl⟩, rfl, rfl⟩)
            | exact lpM_act168 (w := w) (v := w) ht hm h1 F hR (Or.inr ⟨h6, _, Or.inl ⟨fun z => by omega, rfl⟩, rfl, rfl⟩)
          · first | (replace h160 := bz_ne0.mp h160) | (replace h160 := bz_eq0.mp h160) | skip
            have hr1e : r1 = 1 := by omega
            subst hr1e
            have hc := hcap h6 h135 (by omega) u1 hr1 h160
            have hq := hfr.2.2.2
            have hq1 := hq.1
            refine V_aload_n (i := 0) F dM_act_163 rfl rfl ?_
            refine V_iload_n (i := 1) F dM_act_164 rfl rfl ?_
            refine V_callVv F dM_act_165 lmM_176 miM_grant mvM_grant (ctM_grant ht (by rw [e86]; omega)) (by decide) (by first | rfl | assumption) rfl rfl (Nat.le_of_ble_eq_true rfl) (fun u hr => ?_)
            subst hr
            first
            | exact lpM_act168 (w := w) (v := gtM u1 t (u1 77 21)) ht (mOK_gt ht hm1 ⟨hq.1.1, by rw [e86]; exact hc⟩ hq.2) (by rw [gtM_f (by decide) (by decide), e87]; exact h1) F hR (Or.inr ⟨h6, _, Or.inr ⟨⟨h135, by omega⟩, u1, 1, hr1, Or.inr ⟨⟨rfl, h160⟩, rfl⟩⟩, rfl, rfl⟩)
            | exact lpM_act168 (w := w) (v := u1) ht hm1 (by rw [e87]; exact h1) F hR (Or.inr ⟨h6, _, Or.inr ⟨⟨h135, by omega⟩, u1, r1, hr1, Or.inl ⟨fun z => h160 z.2, rfl⟩⟩, rfl, rfl⟩)
            | exact lpM_act168 (w := w) (v := u1) ht hm1 (by rw [e87]; exact h1) F hR (Or.inr ⟨h6, _, Or.inr ⟨⟨h135, by omega⟩, u1, r1, hr1, Or.inl ⟨fun z => by omega, rfl⟩⟩, rfl, rfl⟩)
            | exact lpM_act168 (w := w) (v := w) ht hm h1 F hR (Or.inr ⟨h6, _, Or.inl ⟨fun z => z.1 h135, rfl⟩, rfl, rfl⟩)
            | exact lpM_act168 (w := w) (v := w) ht hm h1 F hR (Or.inr ⟨h6, _, Or.inl ⟨fun z => by omega, rfl⟩, rfl, rfl⟩)
  · first | (replace h6 := bz_ne0.mp h6) | (replace h6 := bz_eq0.mp h6) | skip
    refine V_aload_n (i := 0) F dM_act_9 rfl rfl ?_
    refine V_getr (ci := 7) (C := R_M) (T := T_M) (N := 32) F dM_act_10 (by first | rfl | assumption) rfl (j := 15) (by decide) rfl lfM_44 ?_
    refine V_iload_n (i := 1) F dM_act_13 rfl rfl ?_
    refine V_dup2 F dM_act_14 ?_
    first
      | refine V_sald F dM_act_15 (by decide) (by omega) (stt_in _ _) ?_
      | refine V_iald F dM_act_15 (by first | rfl | assumption) rfl (by omega) ?_
    refine V_iconst F dM_act_16 (by decide) ?_
    refine V_isub F dM_act_17 (by omega) ?_
    refine V_iast F dM_act_18 (by first | rfl | assumption) rfl (by omega) ?_
    refine V_aload_n (i := 0) F dM_act_19 rfl rfl ?_
    refine V_getr (ci := 7) (C := R_M) (T := T_M) (N := 32) F dM_act_20 (by first | rfl | assumption) rfl (j := 15) (by decide) rfl lfM_44 ?_
    refine V_iload_n (i := 1) F dM_act_23 rfl rfl ?_
    first
      | refine V_sald F dM_act_24 (by decide) (by omega) (stt_in _ _) ?_
      | refine V_iald F dM_act_24 (by first | rfl | assumption) rfl (by omega) ?_
    try simp only [upw_s, upw_f (show (89 : Nat) ≠ 77 by decide), upw_f (show (89 : Nat) ≠ 90 by decide), upw_f (show (89 : Nat) ≠ 82 by decide), upw_f (show (89 : Nat) ≠ 94 by decide), upw_f (show (92 : Nat) ≠ 89 by decide), upw_f (show (92 : Nat) ≠ 77 by decide), upw_f (show (92 : Nat) ≠ 90 by decide), upw_f (show (92 : Nat) ≠ 82 by decide), upw_f (show (92 : Nat) ≠ 94 by decide), upw_f (show (94 : Nat) ≠ 89 by decide), upw_f (show (94 : Nat) ≠ 77 by decide), upw_f (show (94 : Nat) ≠ 90 by decide), upw_f (show (94 : Nat) ≠ 82 by decide), upw_f (show (87 : Nat) ≠ 89 by decide), upw_f (show (87 : Nat) ≠ 77 by decide), upw_f (show (87 : Nat) ≠ 90 by decide), upw_f (show (87 : Nat) ≠ 82 by decide), upw_f (show (87 : Nat) ≠ 94 by decide), upw_f (show (77 : Nat) ≠ 89 by decide), upw_f (show (77 : Nat) ≠ 90 by decide), upw_f (show (77 : Nat) ≠ 82 by decide), upw_f (show (77 : Nat) ≠ 94 by decide), upw_f (show (90 : Nat) ≠ 89 by decide), upw_f (show (90 : Nat) ≠ 77 by decide), upw_f (show (90 : Nat) ≠ 82 by decide), upw_f (show (90 : Nat) ≠ 94 by decide), upw_f (show (82 : Nat) ≠ 89 by decide), upw_f (show (82 : Nat) ≠ 77 by decide), upw_f (show (82 : Nat) ≠ 90 by decide), upw_f (show (82 : Nat) ≠ 94 by decide), upw_f (show (93 : Nat) ≠ 89 by decide), upw_f (show (93 : Nat) ≠ 77 by decide), upw_f (show (93 : Nat) ≠ 90 by decide), upw_f (show (93 : Nat) ≠ 82 by decide), upw_f (show (93 : Nat) ≠ 94 by decide)]
    refine V_if_ne F 128 dM_act_25 (by decide) (fun h25 => ?_) (fun h25 => ?_)
    · first | (replace h25 := bz_ne0.mp h25) | (replace h25 := bz_eq0.mp h25) | skip
      refine V_iconst F dM_act_128 (by decide) ?_
      exact hR _ _ _ _ dM_act_129 (by
                    refine Or.inl ⟨by omega, rfl, ?_⟩
                    unfold ldM
                    first
                    | (rw [if_neg h25]; done)
                    | (rw [if_pos h25]; unfold ldC; rw [if_pos (show w 82 (gMt w t) < 20 * w 87 t by omega)]; done)
                    | (rw [if_pos h25]; unfold ldC; rw [if_neg (show ¬ w 82 (gMt w t) < 20 * w 87 t by omega)]; done))
    · first | (replace h25 := bz_ne0.mp h25) | (replace h25 := bz_eq0.mp h25) | skip
      refine V_aload_n (i := 0) F dM_act_28 rfl rfl ?_
      refine V_iload_n (i := 1) F dM_act_29 rfl rfl ?_
      refine V_callVi F dM_act_30 lmM_132 miM_goal mvM_goal (ctM_goal ht (mOK_89 hm (by omega))) (by decide) (by first | rfl | assumption) rfl rfl (Nat.le_of_ble_eq_true rfl) (fun r u hr => ?_)
      obtain ⟨rfl, rfl⟩ := hr
      try simp only [upw_s, upw_f (show (89 : Nat) ≠ 77 by decide), upw_f (show (89 : Nat) ≠ 90 by decide), upw_f (show (89 : Nat) ≠ 82 by decide), upw_f (show (89 : Nat) ≠ 94 by decide), upw_f (show (92 : Nat) ≠ 89 by decide), upw_f (show (92 : Nat) ≠ 77 by decide), upw_f (show (92 : Nat) ≠ 90 by decide), upw_f (show (92 : Nat) ≠ 82 by decide), upw_f (show (92 : Nat) ≠ 94 by decide), upw_f (show (94 : Nat) ≠ 89 by decide), upw_f (show (94 : Nat) ≠ 77 by decide), upw_f (show (94 : Nat) ≠ 90 by decide), upw_f (show (94 : Nat) ≠ 82 by decide), upw_f (show (87 : Nat) ≠ 89 by decide), upw_f (show (87 : Nat) ≠ 77 by decide), upw_f (show (87 : Nat) ≠ 90 by decide), upw_f (show (87 : Nat) ≠ 82 by decide), upw_f (show (87 : Nat) ≠ 94 by decide), upw_f (show (77 : Nat) ≠ 89 by decide), upw_f (show (77 : Nat) ≠ 90 by decide), upw_f (show (77 : Nat) ≠ 82 by decide), upw_f (show (77 : Nat) ≠ 94 by decide), upw_f (show (90 : Nat) ≠ 89 by decide), upw_f (show (90 : Nat) ≠ 77 by decide), upw_f (show (90 : Nat) ≠ 82 by decide), upw_f (show (90 : Nat) ≠ 94 by decide), upw_f (show (82 : Nat) ≠ 89 by decide), upw_f (show (82 : Nat) ≠ 77 by decide), upw_f (show (82 : Nat) ≠ 90 by decide), upw_f (show (82 : Nat) ≠ 94 by decide), upw_f (show (93 : Nat) ≠ 89 by decide), upw_f (show (93 : Nat) ≠ 77 by decide), upw_f (show (93 : Nat) ≠ 90 by decide), upw_f (show (93 : Nat) ≠ 82 by decide), upw_f (show (93 : Nat) ≠ 94 by decide)]
      show V _ _ _ _ _ _ [.inl (gMt w t)] _
      refine V_istore_n (i := 2) F dM_act_33 rfl (by decide) (by simp only [List.set_cons_zero, List.set_cons_succ]; exact rfl) ?_
      refine V_bipush F dM_act_34 (by decide) ?_
      refine V_aload_n (i := 0) F dM_act_36 rfl rfl ?_
      refine V_getr (ci := 7) (C := R_M) (T := T_M) (N := 32) F dM_act_37 (by first | rfl | assumption) rfl (j := 13) (by decide) rfl lfM_38 ?_
      refine V_iload_n (i := 1) F dM_act_40 rfl rfl ?_
      first
        | refine V_sald F dM_act_41 (by decide) (by omega) (stt_in _ _) ?_
        | refine V_iald F dM_act_41 (by first | rfl | assumption) rfl (by omega) ?_
      try simp only [upw_s, upw_f (show (89 : Nat) ≠ 77 by decide), upw_f (show (89 : Nat) ≠ 90 by decide), upw_f (show (89 : Nat) ≠ 82 by decide), upw_f (show (89 : Nat) ≠ 94 by decide), upw_f (show (92 : Nat) ≠ 89 by decide), upw_f (show (92 : Nat) ≠ 77 by decide), upw_f (show (92 : Nat) ≠ 90 by decide), upw_f (show (92 : Nat) ≠ 82 by decide), upw_f (show (92 : Nat) ≠ 94 by decide), upw_f (show (94 : Nat) ≠ 89 by decide), upw_f (show (94 : Nat) ≠ 77 by decide), upw_f (show (94 : Nat) ≠ 90 by decide), upw_f (show (94 : Nat) ≠ 82 by decide), upw_f (show (87 : Nat) ≠ 89 by decide), upw_f (show (87 : Nat) ≠ 77 by decide), upw_f (show (87 : Nat) ≠ 90 by decide), upw_f (show (87 : Nat) ≠ 82 by decide), upw_f (show (87 : Nat) ≠ 94 by decide), upw_f (show (77 : Nat) ≠ 89 by decide), upw_f (show (77 : Nat) ≠ 90 by decide), upw_f (show (77 : Nat) ≠ 82 by decide), upw_f (show (77 : Nat) ≠ 94 by decide), upw_f (show (90 : Nat) ≠ 89 by decide), upw_f (show (90 : Nat) ≠ 77 by decide), upw_f (show (90 : Nat) ≠ 82 by decide), upw_f (show (90 : Nat) ≠ 94 by decide), upw_f (show (82 : Nat) ≠ 89 by decide), upw_f (show (82 : Nat) ≠ 77 by decide), upw_f (show (82 : Nat) ≠ 90 by decide), upw_f (show (82 : Nat) ≠ 94 by decide), upw_f (show (93 : Nat) ≠ 89 by decide), upw_f (show (93 : Nat) ≠ 77 by decide), upw_f (show (93 : Nat) ≠ 90 by decide), upw_f (show (93 : Nat) ≠ 82 by decide), upw_f (show (93 : Nat) ≠ 94 by decide)]
      refine V_imul F dM_act_42 (by omega) ?_
      refine V_istore_n (i := 3) F dM_act_43 rfl (by decide) (by simp only [List.set_cons_zero, List.set_cons_succ]; exact rfl) ?_
      refine V_aload_n (i := 0) F dM_act_44 rfl rfl ?_
      refine V_dup F dM_act_45 ?_
      refine V_geti (ci := 7) (C := R_M) (T := T_M) (N := 32) F dM_act_46 (by first | rfl | assumption) rfl (j := 24) 24 rfl (by decide) rfl lfM_164 ?_
      try simp only [upw_s, upw_f (show (89 : Nat) ≠ 77 by decide), upw_f (show (89 : Nat) ≠ 90 by decide), upw_f (show (89 : Nat) ≠ 82 by decide), upw_f (show (89 : Nat) ≠ 94 by decide), upw_f (show (92 : Nat) ≠ 89 by decide), upw_f (show (92 : Nat) ≠ 77 by decide), upw_f (show (92 : Nat) ≠ 90 by decide), upw_f (show (92 : Nat) ≠ 82 by decide), upw_f (show (92 : Nat) ≠ 94 by decide), upw_f (show (94 : Nat) ≠ 89 by decide), upw_f (show (94 : Nat) ≠ 77 by decide), upw_f (show (94 : Nat) ≠ 90 by decide), upw_f (show (94 : Nat) ≠ 82 by decide), upw_f (show (87 : Nat) ≠ 89 by decide), upw_f (show (87 : Nat) ≠ 77 by decide), upw_f (show (87 : Nat) ≠ 90 by decide), upw_f (show (87 : Nat) ≠ 82 by decide), upw_f (show (87 : Nat) ≠ 94 by decide), upw_f (show (77 : Nat) ≠ 89 by decide), upw_f (show (77 : Nat) ≠ 90 by decide), upw_f (show (77 : Nat) ≠ 82 by decide), upw_f (show (77 : Nat) ≠ 94 by decide), upw_f (show (90 : Nat) ≠ 89 by decide), upw_f (show (90 : Nat) ≠ 77 by decide), upw_f (show (90 : Nat) ≠ 82 by decide), upw_f (show (90 : Nat) ≠ 94 by decide), upw_f (show (82 : Nat) ≠ 89 by decide), upw_f (show (82 : Nat) ≠ 77 by decide), upw_f (show (82 : Nat) ≠ 90 by decide), upw_f (show (82 : Nat) ≠ 94 by decide), upw_f (show (93 : Nat) ≠ 89 by decide), upw_f (show (93 : Nat) ≠ 77 by decide), upw_f (show (93 : Nat) ≠ 90 by decide), upw_f (show (93 : Nat) ≠ 82 by decide), upw_f (show (93 : Nat) ≠ 94 by decide)]
      refine V_aload_n (i := 0) F dM_act_49 rfl rfl ?_
      refine V_getr (ci := 7) (C := R_M) (T := T_M) (N := 32) F dM_act_50 (by first | rfl | assumption) rfl (j := 16) (by decide) rfl lfM_47 ?_
      refine V_iload_n (i := 1) F dM_act_53 rfl rfl ?_
      first
        | refine V_sald F dM_act_54 (by decide) (by omega) (stt_in _ _) ?_
        | refine V_iald F dM_act_54 (by first | rfl | assumption) rfl (by omega) ?_
      try simp only [upw_s, upw_f (show (89 : Nat) ≠ 77 by decide), upw_f (show (89 : Nat) ≠ 90 by decide), upw_f (show (89 : Nat) ≠ 82 by decide), upw_f (show (89 : Nat) ≠ 94 by decide), upw_f (show (92 : Nat) ≠ 89 by decide), upw_f (show (92 : Nat) ≠ 77 by decide), upw_f (show (92 : Nat) ≠ 90 by decide), upw_f (show (92 : Nat) ≠ 82 by decide), upw_f (show (92 : Nat) ≠ 94 by decide), upw_f (show (94 : Nat) ≠ 89 by decide), upw_f (show (94 : Nat) ≠ 77 by decide), upw_f (show (94 : Nat) ≠ 90 by decide), upw_f (show (94 : Nat) ≠ 82 by decide), upw_f (show (87 : Nat) ≠ 89 by decide), upw_f (show (87 : Nat) ≠ 77 by decide), upw_f (show (87 : Nat) ≠ 90 by decide), upw_f (show (87 : Nat) ≠ 82 by decide), upw_f (show (87 : Nat) ≠ 94 by decide), upw_f (show (77 : Nat) ≠ 89 by decide), upw_f (show (77 : Nat) ≠ 90 by decide), upw_f (show (77 : Nat) ≠ 82 by decide), upw_f (show (77 : Nat) ≠ 94 by decide), upw_f (show (90 : Nat) ≠ 89 by decide), upw_f (show (90 : Nat) ≠ 77 by decide), upw_f (show (90 : Nat) ≠ 82 by decide), upw_f (show (90 : Nat) ≠ 94 by decide), upw_f (show (82 : Nat) ≠ 89 by decide), upw_f (show (82 : Nat) ≠ 77 by decide), upw_f (show (82 : Nat) ≠ 90 by decide), upw_f (show (82 : Nat) ≠ 94 by decide), upw_f (show (93 : Nat) ≠ 89 by decide), upw_f (show (93 : Nat) ≠ 77 by decide), upw_f (show (93 : Nat) ≠ 90 by decide), upw_f (show (93 : Nat) ≠ 82 by decide), upw_f (show (93 : Nat) ≠ 94 by decide)]
      refine V_iadd F dM_act_55 (by omega) ?_
      refine V_puti (ci := 7) (C := R_M) (T := T_M) (N := 32) F dM_act_56 (by first | rfl | assumption) rfl (j := 24) 24 rfl (by decide) rfl rfl rfl lfM_164 ?_
      refine V_aload_n (i := 0) F dM_act_59 rfl rfl ?_
      refine V_getr (ci := 7) (C := R_M) (T := T_M) (N := 32) F dM_act_60 (by first | rfl | assumption) rfl (j := 16) (by decide) rfl lfM_47 ?_
      refine V_iload_n (i := 1) F dM_act_63 rfl rfl ?_
      refine V_aload_n (i := 0) F dM_act_64 rfl rfl ?_
      refine V_getr (ci := 7) (C := R_M) (T := T_M) (N := 32) F dM_act_65 (by first | rfl | assumption) rfl (j := 7) (by decide) rfl lfM_23 ?_
      refine V_iload_n (i := 2) F dM_act_68 rfl rfl ?_
      first
        | refine V_sald F dM_act_69 (by decide) (by omega) (stt_in _ _) ?_
        | refine V_iald F dM_act_69 (by first | rfl | assumption) rfl (by omega) ?_
      try simp only [upw_s, upw_f (show (89 : Nat) ≠ 77 by decide), upw_f (show (89 : Nat) ≠ 90 by decide), upw_f (show (89 : Nat) ≠ 82 by decide), upw_f (show (89 : Nat) ≠ 94 by decide), upw_f (show (92 : Nat) ≠ 89 by decide), upw_f (show (92 : Nat) ≠ 77 by decide), upw_f (show (92 : Nat) ≠ 90 by decide), upw_f (show (92 : Nat) ≠ 82 by decide), upw_f (show (92 : Nat) ≠ 94 by decide), upw_f (show (94 : Nat) ≠ 89 by decide), upw_f (show (94 : Nat) ≠ 77 by decide), upw_f (show (94 : Nat) ≠ 90 by decide), upw_f (show (94 : Nat) ≠ 82 by decide), upw_f (show (87 : Nat) ≠ 89 by decide), upw_f (show (87 : Nat) ≠ 77 by decide), upw_f (show (87 : Nat) ≠ 90 by decide), upw_f (show (87 : Nat) ≠ 82 by decide), upw_f (show (87 : Nat) ≠ 94 by decide), upw_f (show (77 : Nat) ≠ 89 by decide), upw_f (show (77 : Nat) ≠ 90 by decide), upw_f (show (77 : Nat) ≠ 82 by decide), upw_f (show (77 : Nat) ≠ 94 by decide), upw_f (show (90 : Nat) ≠ 89 by decide), upw_f (show (90 : Nat) ≠ 77 by decide), upw_f (show (90 : Nat) ≠ 82 by decide), upw_f (show (90 : Nat) ≠ 94 by decide), upw_f (show (82 : Nat) ≠ 89 by decide), upw_f (show (82 : Nat) ≠ 77 by decide), upw_f (show (82 : Nat) ≠ 90 by decide), upw_f (show (82 : Nat) ≠ 94 by decide), upw_f (show (93 : Nat) ≠ 89 by decide), upw_f (show (93 : Nat) ≠ 77 by decide), upw_f (show (93 : Nat) ≠ 90 by decide), upw_f (show (93 : Nat) ≠ 82 by decide), upw_f (show (93 : Nat) ≠ 94 by decide)]
      refine V_iload_n (i := 3) F dM_act_70 rfl rfl ?_
      refine V_icmp_ge F 83 dM_act_71 (by decide) (fun h71 => ?_) (fun h71 => ?_)
      · first | (replace h71 := bz_ne0.mp h71) | (replace h71 := bz_eq0.mp h71) | skip
        refine V_iload_n (i := 3) F dM_act_83 rfl rfl ?_
        refine V_iast F dM_act_84 (by first | rfl | assumption) rfl (by omega) ?_
        refine V_aload_n (i := 0) F dM_act_85 rfl rfl ?_
        refine V_getr (ci := 7) (C := R_M) (T := T_M) (N := 32) F dM_act_86 (by first | rfl | assumption) rfl (j := 7) (by decide) rfl lfM_23 ?_
        refine V_iload_n (i := 2) F dM_act_89 rfl rfl ?_
        refine V_dup2 F dM_act_90 ?_
        first
          | refine V_sald F dM_act_91 (by decide) (by omega) (stt_in _ _) ?_
          | refine V_iald F dM_act_91 (by first | rfl | assumption) rfl (by omega) ?_
        try simp only [upw_s, upw_f (show (89 : Nat) ≠ 77 by decide), upw_f (show (89 : Nat) ≠ 90 by decide), upw_f (show (89 : Nat) ≠ 82 by decide), upw_f (show (89 : Nat) ≠ 94 by decide), upw_f (show (92 : Nat) ≠ 89 by decide), upw_f (show (92 : Nat) ≠ 77 by decide), upw_f (show (92 : Nat) ≠ 90 by decide), upw_f (show (92 : Nat) ≠ 82 by decide), upw_f (show (92 : Nat) ≠ 94 by decide), upw_f (show (94 : Nat) ≠ 89 by decide), upw_f (show (94 : Nat) ≠ 77 by decide), upw_f (show (94 : Nat) ≠ 90 by decide), upw_f (show (94 : Nat) ≠ 82 by decide), upw_f (show (87 : Nat) ≠ 89 by decide), upw_f (show (87 : Nat) ≠ 77 by decide), upw_f (show (87 : Nat) ≠ 90 by decide), upw_f (show (87 : Nat) ≠ 82 by decide), upw_f (show (87 : Nat) ≠ 94 by decide), upw_f (show (77 : Nat) ≠ 89 by decide), upw_f (show (77 : Nat) ≠ 90 by decide), upw_f (show (77 : Nat) ≠ 82 by decide), upw_f (show (77 : Nat) ≠ 94 by decide), upw_f (show (90 : Nat) ≠ 89 by decide), upw_f (show (90 : Nat) ≠ 77 by decide), upw_f (show (90 : Nat) ≠ 82 by decide), upw_f (show (90 : Nat) ≠ 94 by decide), upw_f (show (82 : Nat) ≠ 89 by decide), upw_f (show (82 : Nat) ≠ 77 by decide), upw_f (show (82 : Nat) ≠ 90 by decide), upw_f (show (82 : Nat) ≠ 94 by decide), upw_f (show (93 : Nat) ≠ 89 by decide), upw_f (show (93 : Nat) ≠ 77 by decide), upw_f (show (93 : Nat) ≠ 90 by decide), upw_f (show (93 : Nat) ≠ 82 by decide), upw_f (show (93 : Nat) ≠ 94 by decide)]
        refine V_aload_n (i := 0) F dM_act_92 rfl rfl ?_
        refine V_getr (ci := 7) (C := R_M) (T := T_M) (N := 32) F dM_act_93 (by first | rfl | assumption) rfl (j := 16) (by decide) rfl lfM_47 ?_
        refine V_iload_n (i := 1) F dM_act_96 rfl rfl ?_
        first
          | refine V_sald F dM_act_97 (by decide) (by omega) (stt_in _ _) ?_
          | refine V_iald F dM_act_97 (by first | rfl | assumption) rfl (by omega) ?_
        try simp only [upw_s, upw_f (show (89 : Nat) ≠ 77 by decide), upw_f (show (89 : Nat) ≠ 90 by decide), upw_f (show (89 : Nat) ≠ 82 by decide), upw_f (show (89 : Nat) ≠ 94 by decide), upw_f (show (92 : Nat) ≠ 89 by decide), upw_f (show (92 : Nat) ≠ 77 by decide), upw_f (show (92 : Nat) ≠ 90 by decide), upw_f (show (92 : Nat) ≠ 82 by decide), upw_f (show (92 : Nat) ≠ 94 by decide), upw_f (show (94 : Nat) ≠ 89 by decide), upw_f (show (94 : Nat) ≠ 77 by decide), upw_f (show (94 : Nat) ≠ 90 by decide), upw_f (show (94 : Nat) ≠ 82 by decide), upw_f (show (87 : Nat) ≠ 89 by decide), upw_f (show (87 : Nat) ≠ 77 by decide), upw_f (show (87 : Nat) ≠ 90 by decide), upw_f (show (87 : Nat) ≠ 82 by decide), upw_f (show (87 : Nat) ≠ 94 by decide), upw_f (show (77 : Nat) ≠ 89 by decide), upw_f (show (77 : Nat) ≠ 90 by decide), upw_f (show (77 : Nat) ≠ 82 by decide), upw_f (show (77 : Nat) ≠ 94 by decide), upw_f (show (90 : Nat) ≠ 89 by decide), upw_f (show (90 : Nat) ≠ 77 by decide), upw_f (show (90 : Nat) ≠ 82 by decide), upw_f (show (90 : Nat) ≠ 94 by decide), upw_f (show (82 : Nat) ≠ 89 by decide), upw_f (show (82 : Nat) ≠ 77 by decide), upw_f (show (82 : Nat) ≠ 90 by decide), upw_f (show (82 : Nat) ≠ 94 by decide), upw_f (show (93 : Nat) ≠ 89 by decide), upw_f (show (93 : Nat) ≠ 77 by decide), upw_f (show (93 : Nat) ≠ 90 by decide), upw_f (show (93 : Nat) ≠ 82 by decide), upw_f (show (93 : Nat) ≠ 94 by decide)]
        refine V_isub F dM_act_98 (by omega) ?_
        refine V_iast F dM_act_99 (by first | rfl | assumption) rfl (by omega) ?_
        refine V_aload_n (i := 0) F dM_act_100 rfl rfl ?_
        refine V_getr (ci := 7) (C := R_M) (T := T_M) (N := 32) F dM_act_101 (by first | rfl | assumption) rfl (j := 20) (by decide) rfl lfM_59 ?_
        refine V_iload_n (i := 1) F dM_act_104 rfl rfl ?_
        refine V_aload_n (i := 0) F dM_act_105 rfl rfl ?_
        refine V_getr (ci := 7) (C := R_M) (T := T_M) (N := 32) F dM_act_106 (by first | rfl | assumption) rfl (j := 20) (by decide) rfl lfM_59 ?_
        refine V_iload_n (i := 1) F dM_act_109 rfl rfl ?_
        first
          | refine V_sald F dM_act_110 (by decide) (by omega) (stt_in _ _) ?_
          | refine V_iald F dM_act_110 (by first | rfl | assumption) rfl (by omega) ?_
        try simp only [upw_s, upw_f (show (89 : Nat) ≠ 77 by decide), upw_f (show (89 : Nat) ≠ 90 by decide), upw_f (show (89 : Nat) ≠ 82 by decide), upw_f (show (89 : Nat) ≠ 94 by decide), upw_f (show (92 : Nat) ≠ 89 by decide), upw_f (show (92 : Nat) ≠ 77 by decide), upw_f (show (92 : Nat) ≠ 90 by decide), upw_f (show (92 : Nat) ≠ 82 by decide), upw_f (show (92 : Nat) ≠ 94 by decide), upw_f (show (94 : Nat) ≠ 89 by decide), upw_f (show (94 : Nat) ≠ 77 by decide), upw_f (show (94 : Nat) ≠ 90 by decide), upw_f (show (94 : Nat) ≠ 82 by decide), upw_f (show (87 : Nat) ≠ 89 by decide), upw_f (show (87 : Nat) ≠ 77 by decide), upw_f (show (87 : Nat) ≠ 90 by decide), upw_f (show (87 : Nat) ≠ 82 by decide), upw_f (show (87 : Nat) ≠ 94 by decide), upw_f (show (77 : Nat) ≠ 89 by decide), upw_f (show (77 : Nat) ≠ 90 by decide), upw_f (show (77 : Nat) ≠ 82 by decide), upw_f (show (77 : Nat) ≠ 94 by decide), upw_f (show (90 : Nat) ≠ 89 by decide), upw_f (show (90 : Nat) ≠ 77 by decide), upw_f (show (90 : Nat) ≠ 82 by decide), upw_f (show (90 : Nat) ≠ 94 by decide), upw_f (show (82 : Nat) ≠ 89 by decide), upw_f (show (82 : Nat) ≠ 77 by decide), upw_f (show (82 : Nat) ≠ 90 by decide), upw_f (show (82 : Nat) ≠ 94 by decide), upw_f (show (93 : Nat) ≠ 89 by decide), upw_f (show (93 : Nat) ≠ 77 by decide), upw_f (show (93 : Nat) ≠ 90 by decide), upw_f (show (93 : Nat) ≠ 82 by decide), upw_f (show (93 : Nat) ≠ 94 by decide)]
        refine V_iconst F dM_act_111 (by decide) ?_
        refine V_iadd F dM_act_112 (by omega) ?_
        refine V_aload_n (i := 0) F dM_act_113 rfl rfl ?_
        refine V_getr (ci := 7) (C := R_M) (T := T_M) (N := 32) F dM_act_114 (by first | rfl | assumption) rfl (j := 19) (by decide) rfl lfM_56 ?_
        refine V_iload_n (i := 1) F dM_act_117 rfl rfl ?_
        first
          | refine V_sald F dM_act_118 (by decide) (by omega) (stt_in _ _) ?_
          | refine V_iald F dM_act_118 (by first | rfl | assumption) rfl (by omega) ?_
        try simp only [upw_s, upw_f (show (89 : Nat) ≠ 77 by decide), upw_f (show (89 : Nat) ≠ 90 by decide), upw_f (show (89 : Nat) ≠ 82 by decide), upw_f (show (89 : Nat) ≠ 94 by decide), upw_f (show (92 : Nat) ≠ 89 by decide), upw_f (show (92 : Nat) ≠ 77 by decide), upw_f (show (92 : Nat) ≠ 90 by decide), upw_f (show (92 : Nat) ≠ 82 by decide), upw_f (show (92 : Nat) ≠ 94 by decide), upw_f (show (94 : Nat) ≠ 89 by decide), upw_f (show (94 : Nat) ≠ 77 by decide), upw_f (show (94 : Nat) ≠ 90 by decide), upw_f (show (94 : Nat) ≠ 82 by decide), upw_f (show (87 : Nat) ≠ 89 by decide), upw_f (show (87 : Nat) ≠ 77 by decide), upw_f (show (87 : Nat) ≠ 90 by decide), upw_f (show (87 : Nat) ≠ 82 by decide), upw_f (show (87 : Nat) ≠ 94 by decide), upw_f (show (77 : Nat) ≠ 89 by decide), upw_f (show (77 : Nat) ≠ 90 by decide), upw_f (show (77 : Nat) ≠ 82 by decide), upw_f (show (77 : Nat) ≠ 94 by decide), upw_f (show (90 : Nat) ≠ 89 by decide), upw_f (show (90 : Nat) ≠ 77 by decide), upw_f (show (90 : Nat) ≠ 82 by decide), upw_f (show (90 : Nat) ≠ 94 by decide), upw_f (show (82 : Nat) ≠ 89 by decide), upw_f (show (82 : Nat) ≠ 77 by decide), upw_f (show (82 : Nat) ≠ 90 by decide), upw_f (show (82 : Nat) ≠ 94 by decide), upw_f (show (93 : Nat) ≠ 89 by decide), upw_f (show (93 : Nat) ≠ 77 by decide), upw_f (show (93 : Nat) ≠ 90 by decide), upw_f (show (93 : Nat) ≠ 82 by decide), upw_f (show (93 : Nat) ≠ 94 by decide)]
        refine V_irem F dM_act_119 (by omega) ?_
        refine V_iast F dM_act_120 (by first | rfl | assumption) rfl (by omega) ?_
        refine V_aload_n (i := 0) F dM_act_121 rfl rfl ?_
        refine V_getr (ci := 7) (C := R_M) (T := T_M) (N := 32) F dM_act_122 (by first | rfl | assumption) rfl (j := 17) (by decide) rfl lfM_50 ?_
        refine V_iload_n (i := 1) F dM_act_125 rfl rfl ?_
        refine V_iconst F dM_act_126 (by decide) ?_
        refine V_zast F dM_act_127 (by first | rfl | assumption) rfl (by omega) (by first | exact Or.inl rfl | exact Or.inr rfl | exact bz_01 _ | assumption) ?_
        refine V_iconst F dM_act_128 (by decide) ?_
        exact hR _ _ _ _ dM_act_129 (by
                      refine Or.inl ⟨by omega, rfl, ?_⟩
                      unfold ldM
                      first
                      | (rw [if_neg h25]; done)
                      | (rw [if_pos h25]; unfold ldC; rw [if_pos (show w 82 (gMt w t) < 20 * w 87 t by omega)]; done)
                      | (rw [if_pos h25]; unfold ldC; rw [if_neg (show ¬ w 82 (gMt w t) < 20 * w 87 t by omega)]; done))
      · first | (replace h71 := bz_ne0.mp h71) | (replace h71 := bz_eq0.mp h71) | skip
        refine V_aload_n (i := 0) F dM_act_74 rfl rfl ?_
        refine V_getr (ci := 7) (C := R_M) (T := T_M) (N := 32) F dM_act_75 (by first | rfl | assumption) rfl (j := 7) (by decide) rfl lfM_23 ?_
        refine V_iload_n (i := 2) F dM_act_78 rfl rfl ?_
        first
          | refine V_sald F dM_act_79 (by decide) (by omega) (stt_in _ _) ?_
          | refine V_iald F dM_act_79 (by first | rfl | assumption) rfl (by omega) ?_
        try simp only [upw_s, upw_f (show (89 : Nat) ≠ 77 by decide), upw_f (show (89 : Nat) ≠ 90 by decide), upw_f (show (89 : Nat) ≠ 82 by decide), upw_f (show (89 : Nat) ≠ 94 by decide), upw_f (show (92 : Nat) ≠ 89 by decide), upw_f (show (92 : Nat) ≠ 77 by decide), upw_f (show (92 : Nat) ≠ 90 by decide), upw_f (show (92 : Nat) ≠ 82 by decide), upw_f (show (92 : Nat) ≠ 94 by decide), upw_f (show (94 : Nat) ≠ 89 by decide), upw_f (show (94 : Nat) ≠ 77 by decide), upw_f (show (94 : Nat) ≠ 90 by decide), upw_f (show (94 : Nat) ≠ 82 by decide), upw_f (show (87 : Nat) ≠ 89 by decide), upw_f (show (87 : Nat) ≠ 77 by decide), upw_f (show (87 : Nat) ≠ 90 by decide), upw_f (show (87 : Nat) ≠ 82 by decide), upw_f (show (87 : Nat) ≠ 94 by decide), upw_f (show (77 : Nat) ≠ 89 by decide), upw_f (show (77 : Nat) ≠ 90 by decide), upw_f (show (77 : Nat) ≠ 82 by decide), upw_f (show (77 : Nat) ≠ 94 by decide), upw_f (show (90 : Nat) ≠ 89 by decide), upw_f (show (90 : Nat) ≠ 77 by decide), upw_f (show (90 : Nat) ≠ 82 by decide), upw_f (show (90 : Nat) ≠ 94 by decide), upw_f (show (82 : Nat) ≠ 89 by decide), upw_f (show (82 : Nat) ≠ 77 by decide), upw_f (show (82 : Nat) ≠ 90 by decide), upw_f (show (82 : Nat) ≠ 94 by decide), upw_f (show (93 : Nat) ≠ 89 by decide), upw_f (show (93 : Nat) ≠ 77 by decide), upw_f (show (93 : Nat) ≠ 90 by decide), upw_f (show (93 : Nat) ≠ 82 by decide), upw_f (show (93 : Nat) ≠ 94 by decide)]
        refine V_goto F 84 dM_act_80 (by decide) ?_
        refine V_iast F dM_act_84 (by first | rfl | assumption) rfl (by omega) ?_
        refine V_aload_n (i := 0) F dM_act_85 rfl rfl ?_
        refine V_getr (ci := 7) (C := R_M) (T := T_M) (N := 32) F dM_act_86 (by first | rfl | assumption) rfl (j := 7) (by decide) rfl lfM_23 ?_
        refine V_iload_n (i := 2) F dM_act_89 rfl rfl ?_
        refine V_dup2 F dM_act_90 ?_
        first
          | refine V_sald F dM_act_91 (by decide) (by omega) (stt_in _ _) ?_
          | refine V_iald F dM_act_91 (by first | rfl | assumption) rfl (by omega) ?_
        try simp only [upw_s, upw_f (show (89 : Nat) ≠ 77 by decide), upw_f (show (89 : Nat) ≠ 90 by decide), upw_f (show (89 : Nat) ≠ 82 by decide), upw_f (show (89 : Nat) ≠ 94 by decide), upw_f (show (92 : Nat) ≠ 89 by decide), upw_f (show (92 : Nat) ≠ 77 by decide), upw_f (show (92 : Nat) ≠ 90 by decide), upw_f (show (92 : Nat) ≠ 82 by decide), upw_f (show (92 : Nat) ≠ 94 by decide), upw_f (show (94 : Nat) ≠ 89 by decide), upw_f (show (94 : Nat) ≠ 77 by decide), upw_f (show (94 : Nat) ≠ 90 by decide), upw_f (show (94 : Nat) ≠ 82 by decide), upw_f (show (87 : Nat) ≠ 89 by decide), upw_f (show (87 : Nat) ≠ 77 by decide), upw_f (show (87 : Nat) ≠ 90 by decide), upw_f (show (87 : Nat) ≠ 82 by decide), upw_f (show (87 : Nat) ≠ 94 by decide), upw_f (show (77 : Nat) ≠ 89 by decide), upw_f (show (77 : Nat) ≠ 90 by decide), upw_f (show (77 : Nat) ≠ 82 by decide), upw_f (show (77 : Nat) ≠ 94 by decide), upw_f (show (90 : Nat) ≠ 89 by decide), upw_f (show (90 : Nat) ≠ 77 by decide), upw_f (show (90 : Nat) ≠ 82 by decide), upw_f (show (90 : Nat) ≠ 94 by decide), upw_f (show (82 : Nat) ≠ 89 by decide), upw_f (show (82 : Nat) ≠ 77 by decide), upw_f (show (82 : Nat) ≠ 90 by decide), upw_f (show (82 : Nat) ≠ 94 by decide), upw_f (show (93 : Nat) ≠ 89 by decide), upw_f (show (93 : Nat) ≠ 77 by decide), upw_f (show (93 : Nat) ≠ 90 by decide), upw_f (show (93 : Nat) ≠ 82 by decide), upw_f (show (93 : Nat) ≠ 94 by decide)]
        refine V_aload_n (i := 0) F dM_act_92 rfl rfl ?_
        refine V_getr (ci := 7) (C := R_M) (T := T_M) (N := 32) F dM_act_93 (by first | rfl | assumption) rfl (j := 16) (by decide) rfl lfM_47 ?_
        refine V_iload_n (i := 1) F dM_act_96 rfl rfl ?_
        first
          | refine V_sald F dM_act_97 (by decide) (by omega) (stt_in _ _) ?_
          | refine V_iald F dM_act_97 (by first | rfl | assumption) rfl (by omega) ?_
        try simp only [upw_s, upw_f (show (89 : Nat) ≠ 77 by decide), upw_f (show (89 : Nat) ≠ 90 by decide), upw_f (show (89 : Nat) ≠ 82 by decide), upw_f (show (89 : Nat) ≠ 94 by decide), upw_f (show (92 : Nat) ≠ 89 by decide), upw_f (show (92 : Nat) ≠ 77 by decide), upw_f (show (92 : Nat) ≠ 90 by decide), upw_f (show (92 : Nat) ≠ 82 by decide), upw_f (show (92 : Nat) ≠ 94 by decide), upw_f (show (94 : Nat) ≠ 89 by decide), upw_f (show (94 : Nat) ≠ 77 by decide), upw_f (show (94 : Nat) ≠ 90 by decide), upw_f (show (94 : Nat) ≠ 82 by decide), upw_f (show (87 : Nat) ≠ 89 by decide), upw_f (show (87 : Nat) ≠ 77 by decide), upw_f (show (87 : Nat) ≠ 90 by decide), upw_f (show (87 : Nat) ≠ 82 by decide), upw_f (show (87 : Nat) ≠ 94 by decide), upw_f (show (77 : Nat) ≠ 89 by decide), upw_f (show (77 : Nat) ≠ 90 by decide), upw_f (show (77 : Nat) ≠ 82 by decide), upw_f (show (77 : Nat) ≠ 94 by decide), upw_f (show (90 : Nat) ≠ 89 by decide), upw_f (show (90 : Nat) ≠ 77 by decide), upw_f (show (90 : Nat) ≠ 82 by decide), upw_f (show (90 : Nat) ≠ 94 by decide), upw_f (show (82 : Nat) ≠ 89 by decide), upw_f (show (82 : Nat) ≠ 77 by decide), upw_f (show (82 : Nat) ≠ 90 by decide), upw_f (show (82 : Nat) ≠ 94 by decide), upw_f (show (93 : Nat) ≠ 89 by decide), upw_f (show (93 : Nat) ≠ 77 by decide), upw_f (show (93 : Nat) ≠ 90 by decide), upw_f (show (93 : Nat) ≠ 82 by decide), upw_f (show (93 : Nat) ≠ 94 by decide)]
        refine V_isub F dM_act_98 (by omega) ?_
        refine V_iast F dM_act_99 (by first | rfl | assumption) rfl (by omega) ?_
        refine V_aload_n (i := 0) F dM_act_100 rfl rfl ?_
        refine V_getr (ci := 7) (C := R_M) (T := T_M) (N := 32) F dM_act_101 (by first | rfl | assumption) rfl (j := 20) (by decide) rfl lfM_59 ?_
        refine V_iload_n (i := 1) F dM_act_104 rfl rfl ?_
        refine V_aload_n (i := 0) F dM_act_105 rfl rfl ?_
        refine V_getr (ci := 7) (C := R_M) (T := T_M) (N := 32) F dM_act_106 (by first | rfl | assumption) rfl (j := 20) (by decide) rfl lfM_59 ?_
        refine V_iload_n (i := 1) F dM_act_109 rfl rfl ?_
        first
          | refine V_sald F dM_act_110 (by decide) (by omega) (stt_in _ _) ?_
          | refine V_iald F dM_act_110 (by first | rfl | assumption) rfl (by omega) ?_
        try simp only [upw_s, upw_f (show (89 : Nat) ≠ 77 by decide), upw_f (show (89 : Nat) ≠ 90 by decide), upw_f (show (89 : Nat) ≠ 82 by decide), upw_f (show (89 : Nat) ≠ 94 by decide), upw_f (show (92 : Nat) ≠ 89 by decide), upw_f (show (92 : Nat) ≠ 77 by decide), upw_f (show (92 : Nat) ≠ 90 by decide), upw_f (show (92 : Nat) ≠ 82 by decide), upw_f (show (92 : Nat) ≠ 94 by decide), upw_f (show (94 : Nat) ≠ 89 by decide), upw_f (show (94 : Nat) ≠ 77 by decide), upw_f (show (94 : Nat) ≠ 90 by decide), upw_f (show (94 : Nat) ≠ 82 by decide), upw_f (show (87 : Nat) ≠ 89 by decide), upw_f (show (87 : Nat) ≠ 77 by decide), upw_f (show (87 : Nat) ≠ 90 by decide), upw_f (show (87 : Nat) ≠ 82 by decide), upw_f (show (87 : Nat) ≠ 94 by decide), upw_f (show (77 : Nat) ≠ 89 by decide), upw_f (show (77 : Nat) ≠ 90 by decide), upw_f (show (77 : Nat) ≠ 82 by decide), upw_f (show (77 : Nat) ≠ 94 by decide), upw_f (show (90 : Nat) ≠ 89 by decide), upw_f (show (90 : Nat) ≠ 77 by decide), upw_f (show (90 : Nat) ≠ 82 by decide), upw_f (show (90 : Nat) ≠ 94 by decide), upw_f (show (82 : Nat) ≠ 89 by decide), upw_f (show (82 : Nat) ≠ 77 by decide), upw_f (show (82 : Nat) ≠ 90 by decide), upw_f (show (82 : Nat) ≠ 94 by decide), upw_f (show (93 : Nat) ≠ 89 by decide), upw_f (show (93 : Nat) ≠ 77 by decide), upw_f (show (93 : Nat) ≠ 90 by decide), upw_f (show (93 : Nat) ≠ 82 by decide), upw_f (show (93 : Nat) ≠ 94 by decide)]
        refine V_iconst F dM_act_111 (by decide) ?_
        refine V_iadd F dM_act_112 (by omega) ?_
        refine V_aload_n (i := 0) F dM_act_113 rfl rfl ?_
        refine V_getr (ci := 7) (C := R_M) (T := T_M) (N := 32) F dM_act_114 (by first | rfl | assumption) rfl (j := 19) (by decide) rfl lfM_56 ?_
        refine V_iload_n (i := 1) F dM_act_117 rfl rfl ?_
        first
          | refine V_sald F dM_act_118 (by decide) (by omega) (stt_in _ _) ?_
          | refine V_iald F dM_act_118 (by first | rfl | assumption) rfl (by omega) ?_
        try simp only [upw_s, upw_f (show (89 : Nat) ≠ 77 by decide), upw_f (show (89 : Nat) ≠ 90 by decide), upw_f (show (89 : Nat) ≠ 82 by decide), upw_f (show (89 : Nat) ≠ 94 by decide), upw_f (show (92 : Nat) ≠ 89 by decide), upw_f (show (92 : Nat) ≠ 77 by decide), upw_f (show (92 : Nat) ≠ 90 by decide), upw_f (show (92 : Nat) ≠ 82 by decide), upw_f (show (92 : Nat) ≠ 94 by decide), upw_f (show (94 : Nat) ≠ 89 by decide), upw_f (show (94 : Nat) ≠ 77 by decide), upw_f (show (94 : Nat) ≠ 90 by decide), upw_f (show (94 : Nat) ≠ 82 by decide), upw_f (show (87 : Nat) ≠ 89 by decide), upw_f (show (87 : Nat) ≠ 77 by decide), upw_f (show (87 : Nat) ≠ 90 by decide), upw_f (show (87 : Nat) ≠ 82 by decide), upw_f (show (87 : Nat) ≠ 94 by decide), upw_f (show (77 : Nat) ≠ 89 by decide), upw_f (show (77 : Nat) ≠ 90 by decide), upw_f (show (77 : Nat) ≠ 82 by decide), upw_f (show (77 : Nat) ≠ 94 by decide), upw_f (show (90 : Nat) ≠ 89 by decide), upw_f (show (90 : Nat) ≠ 77 by decide), upw_f (show (90 : Nat) ≠ 82 by decide), upw_f (show (90 : Nat) ≠ 94 by decide), upw_f (show (82 : Nat) ≠ 89 by decide), upw_f (show (82 : Nat) ≠ 77 by decide), upw_f (show (82 : Nat) ≠ 90 by decide), upw_f (show (82 : Nat) ≠ 94 by decide), upw_f (show (93 : Nat) ≠ 89 by decide), upw_f (show (93 : Nat) ≠ 77 by decide), upw_f (show (93 : Nat) ≠ 90 by decide), upw_f (show (93 : Nat) ≠ 82 by decide), upw_f (show (93 : Nat) ≠ 94 by decide)]
        refine V_irem F dM_act_119 (by omega) ?_
        refine V_iast F dM_act_120 (by first | rfl | assumption) rfl (by omega) ?_
        refine V_aload_n (i := 0) F dM_act_121 rfl rfl ?_
        refine V_getr (ci := 7) (C := R_M) (T := T_M) (N := 32) F dM_act_122 (by first | rfl | assumption) rfl (j := 17) (by decide) rfl lfM_50 ?_
        refine V_iload_n (i := 1) F dM_act_125 rfl rfl ?_
        refine V_iconst F dM_act_126 (by decide) ?_
        refine V_zast F dM_act_127 (by first | rfl | assumption) rfl (by omega) (by first | exact Or.inl rfl | exact Or.inr rfl | exact bz_01 _ | assumption) ?_
        refine V_iconst F dM_act_128 (by decide) ?_
        exact hR _ _ _ _ dM_act_129 (by
                      refine Or.inl ⟨by omega, rfl, ?_⟩
                      unfold ldM
                      first
                      | (rw [if_neg h25]; done)
                      | (rw [if_pos h25]; unfold ldC; rw [if_pos (show w 82 (gMt w t) < 20 * w 87 t by omega)]; done)
                      | (rw [if_pos h25]; unfold ldC; rw [if_neg (show ¬ w 82 (gMt w t) < 20 * w 87 t by omega)]; done))
