theorem dM_measure_0 : decode cM_measure 0 = .ok (.aload_n 0, 1) := by decide +kernel
theorem dM_measure_1 : decode cM_measure 1 = .ok (.getfield 26, 3) := by decide +kernel
theorem dM_measure_4 : decode cM_measure 4 = .ok (.iload_n 1, 1) := by decide +kernel
theorem dM_measure_5 : decode cM_measure 5 = .ok (.baload, 1) := by decide +kernel
theorem dM_measure_6 : decode cM_measure 6 = .ok (.ifCond .eq 4, 3) := by decide +kernel
theorem dM_measure_9 : decode cM_measure 9 = .ok (.return_, 1) := by decide +kernel
theorem dM_measure_10 : decode cM_measure 10 = .ok (.aload_n 0, 1) := by decide +kernel
theorem dM_measure_11 : decode cM_measure 11 = .ok (.getfield 26, 3) := by decide +kernel
theorem dM_measure_14 : decode cM_measure 14 = .ok (.iload_n 1, 1) := by decide +kernel
theorem dM_measure_15 : decode cM_measure 15 = .ok (.iconst 1, 1) := by decide +kernel
theorem dM_measure_16 : decode cM_measure 16 = .ok (.bastore, 1) := by decide +kernel
theorem dM_measure_17 : decode cM_measure 17 = .ok (.sipush 576, 3) := by decide +kernel
theorem dM_measure_20 : decode cM_measure 20 = .ok (.iload_n 1, 1) := by decide +kernel
theorem dM_measure_21 : decode cM_measure 21 = .ok (.imul, 1) := by decide +kernel
theorem dM_measure_22 : decode cM_measure 22 = .ok (.istore_n 2, 1) := by decide +kernel
theorem dM_measure_23 : decode cM_measure 23 = .ok (.iconst 0, 1) := by decide +kernel
theorem dM_measure_24 : decode cM_measure 24 = .ok (.istore_n 3, 1) := by decide +kernel
theorem dM_measure_25 : decode cM_measure 25 = .ok (.iload_n 3, 1) := by decide +kernel
theorem dM_measure_26 : decode cM_measure 26 = .ok (.sipush 576, 3) := by decide +kernel
theorem dM_measure_29 : decode cM_measure 29 = .ok (.if_icmp .ge 35, 3) := by decide +kernel
theorem dM_measure_32 : decode cM_measure 32 = .ok (.aload_n 0, 1) := by decide +kernel
theorem dM_measure_33 : decode cM_measure 33 = .ok (.getfield 29, 3) := by decide +kernel
theorem dM_measure_36 : decode cM_measure 36 = .ok (.iload_n 2, 1) := by decide +kernel
theorem dM_measure_37 : decode cM_measure 37 = .ok (.iload_n 3, 1) := by decide +kernel
theorem dM_measure_38 : decode cM_measure 38 = .ok (.iadd, 1) := by decide +kernel
theorem dM_measure_39 : decode cM_measure 39 = .ok (.iload_n 3, 1) := by decide +kernel
theorem dM_measure_40 : decode cM_measure 40 = .ok (.iconst 2, 1) := by decide +kernel
theorem dM_measure_41 : decode cM_measure 41 = .ok (.idiv, 1) := by decide +kernel
theorem dM_measure_42 : decode cM_measure 42 = .ok (.aload_n 0, 1) := by decide +kernel
theorem dM_measure_43 : decode cM_measure 43 = .ok (.getfield 17, 3) := by decide +kernel
theorem dM_measure_46 : decode cM_measure 46 = .ok (.iload_n 1, 1) := by decide +kernel
theorem dM_measure_47 : decode cM_measure 47 = .ok (.iaload, 1) := by decide +kernel
theorem dM_measure_48 : decode cM_measure 48 = .ok (.if_icmp .ne 7, 3) := by decide +kernel
theorem dM_measure_51 : decode cM_measure 51 = .ok (.iconst 0, 1) := by decide +kernel
theorem dM_measure_52 : decode cM_measure 52 = .ok (.goto 5, 3) := by decide +kernel
theorem dM_measure_55 : decode cM_measure 55 = .ok (.ldc 119, 2) := by decide +kernel
theorem dM_measure_57 : decode cM_measure 57 = .ok (.iastore, 1) := by decide +kernel
theorem dM_measure_58 : decode cM_measure 58 = .ok (.iinc 3 1, 3) := by decide +kernel
theorem dM_measure_61 : decode cM_measure 61 = .ok (.goto (-36), 3) := by decide +kernel
theorem dM_measure_64 : decode cM_measure 64 = .ok (.iconst 1, 1) := by decide +kernel
theorem dM_measure_65 : decode cM_measure 65 = .ok (.istore_n 3, 1) := by decide +kernel
theorem dM_measure_66 : decode cM_measure 66 = .ok (.iconst 0, 1) := by decide +kernel
theorem dM_measure_67 : decode cM_measure 67 = .ok (.istore 4, 2) := by decide +kernel
theorem dM_measure_69 : decode cM_measure 69 = .ok (.iload 4, 2) := by decide +kernel
theorem dM_measure_71 : decode cM_measure 71 = .ok (.sipush 600, 3) := by decide +kernel
theorem dM_measure_74 : decode cM_measure 74 = .ok (.if_icmp .ge 127, 3) := by decide +kernel
theorem dM_measure_77 : decode cM_measure 77 = .ok (.iload_n 3, 1) := by decide +kernel
theorem dM_measure_78 : decode cM_measure 78 = .ok (.ifCond .eq 123, 3) := by decide +kernel
theorem dM_measure_81 : decode cM_measure 81 = .ok (.iconst 0, 1) := by decide +kernel
theorem dM_measure_82 : decode cM_measure 82 = .ok (.istore_n 3, 1) := by decide +kernel
theorem dM_measure_83 : decode cM_measure 83 = .ok (.iconst 0, 1) := by decide +kernel
theorem dM_measure_84 : decode cM_measure 84 = .ok (.istore 5, 2) := by decide +kernel
theorem dM_measure_86 : decode cM_measure 86 = .ok (.iload 5, 2) := by decide +kernel
theorem dM_measure_88 : decode cM_measure 88 = .ok (.sipush 576, 3) := by decide +kernel
theorem dM_measure_91 : decode cM_measure 91 = .ok (.if_icmp .ge 104, 3) := by decide +kernel
theorem dM_measure_94 : decode cM_measure 94 = .ok (.aload_n 0, 1) := by decide +kernel
theorem dM_measure_95 : decode cM_measure 95 = .ok (.getfield 7, 3) := by decide +kernel
theorem dM_measure_98 : decode cM_measure 98 = .ok (.iload 5, 2) := by decide +kernel
theorem dM_measure_100 : decode cM_measure 100 = .ok (.iconst 2, 1) := by decide +kernel
theorem dM_measure_101 : decode cM_measure 101 = .ok (.idiv, 1) := by decide +kernel
theorem dM_measure_102 : decode cM_measure 102 = .ok (.baload, 1) := by decide +kernel
theorem dM_measure_103 : decode cM_measure 103 = .ok (.ifCond .eq 86, 3) := by decide +kernel
theorem dM_measure_106 : decode cM_measure 106 = .ok (.iload 5, 2) := by decide +kernel
theorem dM_measure_108 : decode cM_measure 108 = .ok (.iconst 2, 1) := by decide +kernel
theorem dM_measure_109 : decode cM_measure 109 = .ok (.idiv, 1) := by decide +kernel
theorem dM_measure_110 : decode cM_measure 110 = .ok (.aload_n 0, 1) := by decide +kernel
theorem dM_measure_111 : decode cM_measure 111 = .ok (.getfield 17, 3) := by decide +kernel
theorem dM_measure_114 : decode cM_measure 114 = .ok (.iload_n 1, 1) := by decide +kernel
theorem dM_measure_115 : decode cM_measure 115 = .ok (.iaload, 1) := by decide +kernel
theorem dM_measure_116 : decode cM_measure 116 = .ok (.if_icmp .eq 73, 3) := by decide +kernel
theorem dM_measure_119 : decode cM_measure 119 = .ok (.aload_n 0, 1) := by decide +kernel
theorem dM_measure_120 : decode cM_measure 120 = .ok (.iload 5, 2) := by decide +kernel
theorem dM_measure_122 : decode cM_measure 122 = .ok (.iload_n 1, 1) := by decide +kernel
theorem dM_measure_123 : decode cM_measure 123 = .ok (.invokevirtual 120, 3) := by decide +kernel
theorem dM_measure_126 : decode cM_measure 126 = .ok (.istore 6, 2) := by decide +kernel
theorem dM_measure_128 : decode cM_measure 128 = .ok (.iload_n 3, 1) := by decide +kernel
theorem dM_measure_129 : decode cM_measure 129 = .ok (.ifCond .ne 17, 3) := by decide +kernel
theorem dM_measure_132 : decode cM_measure 132 = .ok (.iload 6, 2) := by decide +kernel
theorem dM_measure_134 : decode cM_measure 134 = .ok (.aload_n 0, 1) := by decide +kernel
theorem dM_measure_135 : decode cM_measure 135 = .ok (.getfield 29, 3) := by decide +kernel
theorem dM_measure_138 : decode cM_measure 138 = .ok (.iload_n 2, 1) := by decide +kernel
theorem dM_measure_139 : decode cM_measure 139 = .ok (.iload 5, 2) := by decide +kernel
theorem dM_measure_141 : decode cM_measure 141 = .ok (.iadd, 1) := by decide +kernel
theorem dM_measure_142 : decode cM_measure 142 = .ok (.iaload, 1) := by decide +kernel
theorem dM_measure_143 : decode cM_measure 143 = .ok (.if_icmp .ge 7, 3) := by decide +kernel
theorem dM_measure_146 : decode cM_measure 146 = .ok (.iconst 1, 1) := by decide +kernel
theorem dM_measure_147 : decode cM_measure 147 = .ok (.goto 4, 3) := by decide +kernel
theorem dM_measure_150 : decode cM_measure 150 = .ok (.iconst 0, 1) := by decide +kernel
theorem dM_measure_151 : decode cM_measure 151 = .ok (.istore_n 3, 1) := by decide +kernel
theorem dM_measure_152 : decode cM_measure 152 = .ok (.aload_n 0, 1) := by decide +kernel
theorem dM_measure_153 : decode cM_measure 153 = .ok (.getfield 29, 3) := by decide +kernel
theorem dM_measure_156 : decode cM_measure 156 = .ok (.iload_n 2, 1) := by decide +kernel
theorem dM_measure_157 : decode cM_measure 157 = .ok (.iload 5, 2) := by decide +kernel
theorem dM_measure_159 : decode cM_measure 159 = .ok (.iadd, 1) := by decide +kernel
theorem dM_measure_160 : decode cM_measure 160 = .ok (.iload 6, 2) := by decide +kernel
theorem dM_measure_162 : decode cM_measure 162 = .ok (.aload_n 0, 1) := by decide +kernel
theorem dM_measure_163 : decode cM_measure 163 = .ok (.getfield 29, 3) := by decide +kernel
theorem dM_measure_166 : decode cM_measure 166 = .ok (.iload_n 2, 1) := by decide +kernel
theorem dM_measure_167 : decode cM_measure 167 = .ok (.iload 5, 2) := by decide +kernel
theorem dM_measure_169 : decode cM_measure 169 = .ok (.iadd, 1) := by decide +kernel
theorem dM_measure_170 : decode cM_measure 170 = .ok (.iaload, 1) := by decide +kernel
theorem dM_measure_171 : decode cM_measure 171 = .ok (.if_icmp .ge 8, 3) := by decide +kernel
theorem dM_measure_174 : decode cM_measure 174 = .ok (.iload 6, 2) := by decide +kernel
theorem dM_measure_176 : decode cM_measure 176 = .ok (.goto 12, 3) := by decide +kernel
theorem dM_measure_179 : decode cM_measure 179 = .ok (.aload_n 0, 1) := by decide +kernel
theorem dM_measure_180 : decode cM_measure 180 = .ok (.getfield 29, 3) := by decide +kernel
theorem dM_measure_183 : decode cM_measure 183 = .ok (.iload_n 2, 1) := by decide +kernel
theorem dM_measure_184 : decode cM_measure 184 = .ok (.iload 5, 2) := by decide +kernel
theorem dM_measure_186 : decode cM_measure 186 = .ok (.iadd, 1) := by decide +kernel
theorem dM_measure_187 : decode cM_measure 187 = .ok (.iaload, 1) := by decide +kernel
theorem dM_measure_188 : decode cM_measure 188 = .ok (.iastore, 1) := by decide +kernel
theorem dM_measure_189 : decode cM_measure 189 = .ok (.iinc 5 1, 3) := by decide +kernel
theorem dM_measure_192 : decode cM_measure 192 = .ok (.goto (-106), 3) := by decide +kernel
theorem dM_measure_195 : decode cM_measure 195 = .ok (.iinc 4 1, 3) := by decide +kernel
theorem dM_measure_198 : decode cM_measure 198 = .ok (.goto (-129), 3) := by decide +kernel
theorem dM_measure_201 : decode cM_measure 201 = .ok (.return_, 1) := by decide +kernel
theorem lfM_26 : Cond.fieldLink R_M 26 "RailYardModel" "known" "[Z" ∈ bigW := bw 640 (by decide +kernel) rfl
/-- the ways on in the model's numbering, to station s -/
noncomputable def edM (w : RW) (s : Int) : ED := fun q k => if k < 0 ∨ 6 ≤ k ∨ w 78 (q / 2) = 0 ∨ q / 2 = w 80 s ∨ bhd w q k = -1 then none else some (if bhd w q k / 2 = w 80 s then none else some (bhd w q k), mco (w 79 (bhd w q k / 2)) (bhd w q k))
def fh (w : RW) (s : Int) : Int → Int := fun q => if q / 2 = w 80 s then 1000000000 else w 84 (576 * s + q)
theorem edM_c {w u : RW} (h1 : u 77 = w 77) (h2 : u 78 = w 78) (h3 : u 79 = w 79) (h4 : u 80 = w 80) (s : Int) : edM u s = edM w s := by
  unfold edM bhd bhB bhT
  rw [h1, h2, h3, h4]
theorem edM_ok {w : RW} (hm : mOK w) (s : Int) : okE (576 : Nat) (edM w s) := by
  intro q k t c h
  unfold edM at h
  by_cases hc : k < 0 ∨ 6 ≤ k ∨ w 78 (q / 2) = 0 ∨ q / 2 = w 80 s ∨ bhd w q k = -1
  · rw [if_pos hc] at h; cases h
  · rw [if_neg hc] at h
    simp only [Option.some.injEq, Prod.mk.injEq] at h
    have hb := bhd_rng (q := q) (k := k) hm (by omega)
    have hr := mco_rng (m := w 79 (bhd w q k / 2)) (q := bhd w q k)
    refine ⟨by omega, by omega, fun b hb2 => ?_⟩
    rw [← h.1] at hb2
    by_cases hg : bhd w q k / 2 = w 80 s
    · rw [if_pos hg] at hb2; cases hb2
    · rw [if_neg hg] at hb2
      have := Option.some.inj hb2
      omega
theorem gJu_upd {F n : Int} {ed : ED} {f : Int → Int} {q v : Int} (h : gJu F n ed f) (hv : v ≤ f q) (hj : v < F → v < f q → ∃ k t c, (0 ≤ k ∧ k < 6) ∧ ed q k = some (t, c) ∧ ((t = none ∧ c ≤ v) ∨ ∃ b, t = some b ∧ b ≠ q ∧ f b < F ∧ c + f b ≤ v)) : gJu F n ed (fun x => if x = q then v else f x) := by
  have hle : ∀ x, (if x = q then v else f x) ≤ f x := fun x => by
    by_cases hx : x = q
    · rw [if_pos hx, hx]; exact hv
    · rw [if_neg hx]; omega
  intro x x1 x2 x3
  have keep : f x < F → f x ≤ (if x = q then v else f x) → ∃ k t c, (0 ≤ k ∧ k < 6) ∧ ed x k = some (t, c) ∧ ((t = none ∧ c ≤ (if x = q then v else f x)) ∨ ∃ b, t = some b ∧ (if b = q then v else f b) < F ∧ c + (if b = q then v else f b) ≤ (if x = q then v else f x)) := by
    intro g1 g2
    obtain ⟨k, t, c, hk, he, hc⟩ := h x x1 x2 g1
    refine ⟨k, t, c, hk, he, ?_⟩
    rcases hc with ⟨c1, c2⟩ | ⟨b, c1, c2, c3⟩
    · exact Or.inl ⟨c1, by omega⟩
    · have := hle b
      exact Or.inr ⟨b, c1, by omega, by omega⟩
  by_cases hx : x = q
  · subst hx
    have x3' : v < F := by simpa using x3
    by_cases hlt : v < f x
    · obtain ⟨k, t, c, hk, he, hc⟩ := hj x3' hlt
      refine ⟨k, t, c, hk, he, ?_⟩
      rcases hc with ⟨c1, c2⟩ | ⟨b, c1, c2, c3, c4⟩
      · exact Or.inl ⟨c1, by simpa using c2⟩
      · exact Or.inr ⟨b, c1, by simpa [c2] using c3, by simpa [c2] using c4⟩
    · exact keep (by omega) (by simp; omega)
  · have x3' : f x < F := by simpa [hx] using x3
    exact keep x3' (by rw [if_neg hx]; omega)
theorem nfN_mono {n : Nat} {ed : ED} {f0 f1 : Int → Int} (hle : ∀ q : Int, 0 ≤ q → q < n → f1 q ≤ f0 q) : nfN n ed f1 ≤ nfN n ed f0 := by
  unfold nfN
  refine g_filter_le2 _ _ _ (fun x hx hp => ?_)
  obtain ⟨d, h1, h2⟩ := nfB_iff.mp hp
  have hx' := List.mem_range.mp hx
  have := hle (x : Int) (by omega) (by omega)
  exact nfB_iff.mpr ⟨d, h1, by omega⟩
theorem fh_up {u : RW} {s q v : Int} (hg : ¬ q / 2 = u 80 s) : fh (upw u 84 (576 * s + q) v) s = fun x => if x = q then v else fh u s x := by
  funext x
  unfold fh
  rw [upw_k (by decide)]
  by_cases hx : x = q
  · rw [if_neg (by rw [hx]; exact hg), if_pos hx, hx, upw_s]
  · rw [if_neg hx]
    by_cases h2 : x / 2 = u 80 s
    · rw [if_pos h2, if_pos h2]
    · rw [if_neg h2, if_neg h2, upw_i (by omega)]
/-- what the table says while it is made -/
def msA (w u : RW) (s : Int) : Prop := ((∀ j, j ≠ 83 → j ≠ 84 → u j = w j) ∧ u 83 = upw w 83 s 1 83 ∧ ∀ i, ¬ (576 * s ≤ i ∧ i < 576 * s + 576) → u 84 i = w 84 i) ∧ frR u s ∧ (∀ q, 0 ≤ q → q < 576 → q / 2 = w 80 s → u 84 (576 * s + q) = 0) ∧ gJu 1000000000 576 (edM w s) (fh u s)
def msJ (w u0 u : RW) (s q : Int) : Prop := ∀ (x k : Int) (t : Option Int) (c : Int), 0 ≤ x → x < q → 0 ≤ k → k < 6 → edM w s x k = some (t, c) → (t = none → fh u s x ≤ c) ∧ ∀ b, t = some b → fh u0 s b < 1000000000 → fh u s x ≤ c + fh u0 s b
def msI (w u0 u : RW) (s q more : Int) : Prop := msA w u s ∧ (∀ x, 0 ≤ x → x < 576 → fh u s x ≤ fh u0 s x) ∧ msJ w u0 u s q ∧ ((more = 0 ∧ fh u s = fh u0 s) ∨ more = 1)
theorem msA_mOK {w u : RW} {s : Int} (h : msA w u s) (hm : mOK w) : mOK u := by
  obtain ⟨⟨hf, -, -⟩, -⟩ := h
  unfold mOK
  rw [hf 77 (by decide) (by decide), hf 78 (by decide) (by decide), hf 79 (by decide) (by decide), hf 80 (by decide) (by decide), hf 81 (by decide) (by decide), hf 82 (by decide) (by decide), hf 85 (by decide) (by decide), hf 86 (by decide) (by decide), hf 87 (by decide) (by decide), hf 88 (by decide) (by decide), hf 89 (by decide) (by decide), hf 90 (by decide) (by decide), hf 91 (by decide) (by decide), hf 92 (by decide) (by decide), hf 93 (by decide) (by decide), hf 94 (by decide) (by decide)]
  exact hm
theorem bhd_c {w u : RW} (h1 : u 77 = w 77) (h2 : u 78 = w 78) (h3 : u 79 = w 79) (q k : Int) : bhd u q k = bhd w q k := by
  unfold bhd bhB bhT
  rw [h1, h2, h3]
/-- a node that isn't laid, or is the goal's: no way on -/
theorem msI_skip {w u0 u : RW} {s q more : Int} (h : msI w u0 u s q more) (hq : w 78 (q / 2) = 0 ∨ q / 2 = w 80 s) : msI w u0 u s (q + 1) more := by
  obtain ⟨h1, h2, h3, h4⟩ := h
  refine ⟨h1, h2, fun x k t c x1 x2 k1 k2 he => ?_, h4⟩
  by_cases hx : x = q
  · subst hx
    unfold edM at he
    rw [if_pos (by rcases hq with hq | hq
                   · exact Or.inr (Or.inr (Or.inl hq))
                   · exact Or.inr (Or.inr (Or.inr (Or.inl hq))))] at he
    cases he
  · exact h3 x k t c x1 (by omega) k1 k2 he
/-- a node gets the least of its sums -/
theorem msI_step {w u0 u : RW} {s q more more' r v : Int} (hm : mOK w) (hs : 0 ≤ s ∧ s < 6) (hq : 0 ≤ q ∧ q < 576) (h : msI w u0 u s q more) (hl : ¬ w 78 (q / 2) = 0) (hg : ¬ q / 2 = w 80 s) (hP : onP u s q 6 r) (hv : (r < u 84 (576 * s + q) ∧ v = r ∧ more' = 1) ∨ (¬ r < u 84 (576 * s + q) ∧ v = u 84 (576 * s + q) ∧ more' = more)) : msI w u0 (upw u 84 (576 * s + q) v) s (q + 1) more' := by
  obtain ⟨⟨⟨f1, f2, f3⟩, a1, a2, a3⟩, h2, h3, h4⟩ := h
  have e77 := f1 77 (by decide) (by decide)
  have e78 := f1 78 (by decide) (by decide)
  have e79 := f1 79 (by decide) (by decide)
  have e80 := f1 80 (by decide) (by decide)
  have hgu : ¬ q / 2 = u 80 s := by rw [e80]; exact hg
  have hfq : fh u s q = u 84 (576 * s + q) := by unfold fh; rw [if_neg hgu]
  have hup := fh_up (u := u) (s := s) (q := q) (v := v) hgu
  have hvle : v ≤ fh u s q := by rw [hfq]; omega
  have hrng := a1 q hq.1 hq.2
  have hv0 : 0 ≤ v ∧ v ≤ 1000000000 := by have := hP.1; omega
  have hvr : v ≤ r := by omega
  have hfb : ∀ k, 0 ≤ k → k < 6 → 0 ≤ bhd w q k → ¬ bhd w q k / 2 = w 80 s → fh u s (bhd w q k) = u 84 (576 * s + bhd w q k) := fun k _ _ _ h9 => by
    unfold fh; rw [if_neg (by rw [e80]; exact h9)]
  have hon : ∀ k, bhd u q k = bhd w q k := fun k => bhd_c e77 e78 e79 q k
  have honS : ∀ k, onS6 u s q k = u 84 (576 * s + bhd w q k) + mco (w 79 (bhd w q k / 2)) (bhd w q k) := fun k => by
    unfold onS6; rw [hon k, e79]
  refine ⟨⟨⟨fun j j1 j2 => ?_, ?_, fun i hi => ?_⟩, fun x x1 x2 => ?_, fun x x1 x2 x3 => ?_, ?_⟩, fun x x1 x2 => ?_, fun x k t c x1 x2 k1 k2 he => ?_, ?_⟩
  · rw [upw_f j2]; exact f1 j j1 j2
  · rw [upw_f (by decide)]; exact f2
  · rw [upw_i (by omega)]; exact f3 i hi
  · by_cases hx : x = q
    · rw [hx, upw_s]; exact hv0
    · rw [upw_i (by omega)]; exact a1 x x1 x2
  · rw [upw_i (by intro e; have : x = q := by omega
                  exact hg (by rw [← this]; exact x3))]
    exact a2 x x1 x2 x3
  · rw [hup]
    refine gJu_upd a3 hvle (fun v1 v2 => ?_)
    have hvr2 : v = r := by rw [hfq] at v2; omega
    obtain ⟨k, k1, k2, k3, k4⟩ := hP.2.2 (by omega)
    have hb0 : 0 ≤ bhd w q k := by rw [← hon k]; exact k3.1
    have hbr := bhd_rng (q := q) hm ⟨k1, k2⟩
    have hbf : u 84 (576 * s + bhd w q k) < 1000000000 := by rw [← hon k]; exact k3.2
    rw [honS k] at k4
    have he : edM w s q k = some (if bhd w q k / 2 = w 80 s then none else some (bhd w q k), mco (w 79 (bhd w q k / 2)) (bhd w q k)) := by
      unfold edM
      rw [if_neg (by omega)]
    refine ⟨k, _, _, ⟨k1, k2⟩, he, ?_⟩
    have hfr0 := a1 (bhd w q k) (by omega) (by omega)
    by_cases hgb : bhd w q k / 2 = w 80 s
    · rw [if_pos hgb]
      exact Or.inl ⟨rfl, by omega⟩
    · rw [if_neg hgb]
      have e := hfb k k1 k2 hb0 hgb
      have hc := mco_rng (m := w 79 (bhd w q k / 2)) (q := bhd w q k)
      refine Or.inr ⟨bhd w q k, rfl, fun hbq => ?_, by rw [e]; exact hbf, by rw [e]; omega⟩
      rw [hbq] at k4
      rw [hfq] at v2
      rw [hbq] at hc
      omega
  · rw [hup]
    by_cases hx : x = q
    · rw [hx]; simp only [if_true]; have := h2 q hq.1 hq.2; omega
    · simp only [hx, if_false]; exact h2 x x1 x2
  · rw [hup]
    by_cases hx : x = q
    · subst hx
      simp only [if_true]
      have he2 := he
      unfold edM at he2
      by_cases hc : k < 0 ∨ 6 ≤ k ∨ w 78 (x / 2) = 0 ∨ x / 2 = w 80 s ∨ bhd w x k = -1
      · rw [if_pos hc] at he2; cases he2
      · rw [if_neg hc] at he2
        simp only [Option.some.injEq, Prod.mk.injEq] at he2
        have hbr := bhd_rng (q := x) hm ⟨k1, k2⟩
        have hfr0 := a1 (bhd w x k) (by omega) (by omega)
        by_cases hgb : bhd w x k / 2 = w 80 s
        · rw [if_pos hgb] at he2
          have h0 := a2 (bhd w x k) (by omega) (by omega) hgb
          have := hP.2.1 k k1 k2 ⟨by rw [hon k]; omega, by rw [hon k]; omega⟩
          rw [honS k] at this
          refine ⟨fun _ => by omega, fun b hb => ?_⟩
          rw [← he2.1] at hb
          cases hb
        · rw [if_neg hgb] at he2
          refine ⟨fun ht => ?_, fun b hb hbF => ?_⟩
          · rw [ht] at he2; cases he2.1
          · rw [← he2.1] at hb
            have hb' := Option.some.inj hb
            have e := hfb k k1 k2 (by omega) hgb
            have hle0 := h2 b (by omega) (by omega)
            rw [← hb'] at hle0 hbF ⊢
            have := hP.2.1 k k1 k2 ⟨by rw [hon k]; omega, by rw [hon k]; omega⟩
            rw [honS k] at this
            omega
    · simp only [hx, if_false]
      exact h3 x k t c x1 (by omega) k1 k2 he
  · rcases hv with ⟨_, _, hv⟩ | ⟨v1, v2, v3⟩
    · exact Or.inr hv
    · rw [v3]
      rcases h4 with ⟨h5, h6⟩ | h5
      · refine Or.inl ⟨h5, ?_⟩
        rw [hup, ← h6]
        funext x
        by_cases hx : x = q
        · rw [if_pos hx, hx, hfq, v2]
        · rw [if_neg hx]
      · exact Or.inr h5
def frOK (w : RW) (s : Int) : Prop := frR w s ∧ (∀ q, 0 ≤ q → q < 576 → q / 2 = w 80 s → w 84 (576 * s + q) = 0) ∧ gJu 1000000000 576 (edM w s) (fh w s) ∧ gRl 1000000000 576 (edM w s) (fh w s)
def msP (w u : RW) (s : Int) : Prop := (w 83 s = 1 ∧ w = u) ∨ (w 83 s = 0 ∧ ((∀ j, j ≠ 83 → j ≠ 84 → u j = w j) ∧ u 83 = upw w 83 s 1 83 ∧ ∀ i, ¬ (576 * s ≤ i ∧ i < 576 * s + 576) → u 84 i = w 84 i) ∧ frOK u s)
theorem msA_pos {w u : RW} {s : Int} (h : msA w u s) : gPos 576 (fh u s) := by
  intro q h1 h2
  have := h.2.1 q h1 h2
  unfold fh
  split <;> omega
theorem msA_F {w u : RW} {s : Int} (h : msA w u s) : ∀ q : Int, 0 ≤ q → q < 576 → fh u s q ≤ 1000000000 := by
  intro q h1 h2
  have := h.2.1 q h1 h2
  unfold fh
  split <;> omega
theorem lpM_sweep {G : vG} {X : vX} {Q : State → Prop} {w u0 : RW} {s : Int} (hs : 0 ≤ s ∧ s < 6) (hm : mOK w) (F : FX G X cM_measure yM_measure.cls 7 4) {rd : Int} (K : ∀ (more q : Int) (o : Option RV) (u : RW), msI w u0 u s 576 more → V G X 7 Q 195 [some (.inr 77), some (.inl s), some (.inl (576 * s)), some (.inl more), some (.inl rd), some (.inl q), o] [] u) : ∀ (m : Nat) (q more : Int) (o : Option RV) (u : RW), 0 ≤ q → q ≤ 576 → 576 - q < m → msI w u0 u s q more → V G X 7 Q 86 [some (.inr 77), some (.inl s), some (.inl (576 * s)), some (.inl more), some (.inl rd), some (.inl q), o] [] u := by
  intro m
  induction m with
  | zero => intro q more o u h1 h2 h3; omega
  | succ m ih =>
    intro q more o u h1 h2 h3 hI
    have hmo : more = 0 ∨ more = 1 := by rcases hI.2.2.2 with h | h
                                         · exact Or.inl h.1
                                         · exact Or.inr h
    refine V_iload F dM_measure_86 rfl ?_
    refine V_sipush F dM_measure_88 (by decide) ?_
    refine V_icmp_ge F 195 dM_measure_91 (by decide) (fun h91 => ?_) (fun h91 => ?_)
    · rw [show q = 576 by omega] at hI
      exact K _ _ _ _ hI
    · have e78 := hI.1.1.1 78 (by decide) (by decide)
      have e80 := hI.1.1.1 80 (by decide) (by decide)
      have hfr := hI.1.2.1 q h1 (by omega)
      refine V_aload_n (i := 0) F dM_measure_94 rfl rfl ?_
      refine V_getr (ci := 7) (C := R_M) (T := T_M) (N := 32) F dM_measure_95 (by first | rfl | assumption) rfl (j := 2) (by decide) rfl lfM_7 ?_
      refine V_iload F dM_measure_98 rfl ?_
      refine V_iconst F dM_measure_100 (by decide) ?_
      refine V_idiv F dM_measure_101 (by omega) ?_
      refine V_zald F dM_measure_102 (by first | rfl | assumption) rfl (by omega) ?_
      rw [e78]
      refine V_if_eq F 189 dM_measure_103 (by decide) (fun h103 => ?_) (fun h103 => ?_)
      · refine V_iinc F dM_measure_189 (by decide) rfl (by omega) (by simp only [List.set_cons_zero, List.set_cons_succ]; exact rfl) ?_
        refine V_goto F 86 dM_measure_192 (by decide) ?_
        first
        | exact ih (q + 1) _ _ _ (by omega) (by omega) (by omega) (msI_skip hI (Or.inl (by assumption)))
        | exact ih (q + 1) _ _ _ (by omega) (by omega) (by omega) (msI_skip hI (Or.inr (by assumption)))
        | exact ih (q + 1) _ _ _ (by omega) (by omega) (by omega) (msI_step hm hs ⟨h1, by omega⟩ hI h103 h116 hP (Or.inl ⟨by omega, rfl, by first | rfl | (have := hI.2.2.2; omega)⟩))
        | exact ih (q + 1) _ _ _ (by omega) (by omega) (by omega) (msI_step hm hs ⟨h1, by omega⟩ hI h103 h116 hP (Or.inr ⟨by omega, rfl, by first | rfl | (have := hI.2.2.2; omega)⟩))
        | (exfalso; omega)
      · refine V_iload F dM_measure_106 rfl ?_
        refine V_iconst F dM_measure_108 (by decide) ?_
        refine V_idiv F dM_measure_109 (by omega) ?_
        refine V_aload_n (i := 0) F dM_measure_110 rfl rfl ?_
        refine V_getr (ci := 7) (C := R_M) (T := T_M) (N := 32) F dM_measure_111 (by first | rfl | assumption) rfl (j := 5) (by decide) rfl lfM_17 ?_
        refine V_iload_n (i := 1) F dM_measure_114 rfl rfl ?_
        first
          | refine V_sald F dM_measure_115 (by decide) (by omega) (stt_in _ _) ?_
          | refine V_iald F dM_measure_115 (by first | rfl | assumption) rfl (by omega) ?_
        rw [e80]
        refine V_icmp_eq F 189 dM_measure_116 (by decide) (fun h116 => ?_) (fun h116 => ?_)
        · refine V_iinc F dM_measure_189 (by decide) rfl (by omega) (by simp only [List.set_cons_zero, List.set_cons_succ]; exact rfl) ?_
          refine V_goto F 86 dM_measure_192 (by decide) ?_
          first
          | exact ih (q + 1) _ _ _ (by omega) (by omega) (by omega) (msI_skip hI (Or.inl (by assumption)))
          | exact ih (q + 1) _ _ _ (by omega) (by omega) (by omega) (msI_skip hI (Or.inr (by assumption)))
          | exact ih (q + 1) _ _ _ (by omega) (by omega) (by omega) (msI_step hm hs ⟨h1, by omega⟩ hI h103 h116 hP (Or.inl ⟨by omega, rfl, by first | rfl | (have := hI.2.2.2; omega)⟩))
          | exact ih (q + 1) _ _ _ (by omega) (by omega) (by omega) (msI_step hm hs ⟨h1, by omega⟩ hI h103 h116 hP (Or.inr ⟨by omega, rfl, by first | rfl | (have := hI.2.2.2; omega)⟩))
          | (exfalso; omega)
        · refine V_aload_n (i := 0) F dM_measure_119 rfl rfl ?_
          refine V_iload F dM_measure_120 rfl ?_
          refine V_iload_n (i := 1) F dM_measure_122 rfl rfl ?_
          refine V_callVi F dM_measure_123 lmM_120 miM_onward mvM_onward (ctM_onward ⟨h1, by omega⟩ hs (msA_mOK hI.1 hm) hI.1.2.1) (by decide) (by first | rfl | assumption) rfl rfl (Nat.le_of_ble_eq_true rfl) (fun r u hr => ?_)
          obtain ⟨hP, rfl⟩ := hr
          refine V_istore F dM_measure_126 (by decide) (by simp only [List.set_cons_zero, List.set_cons_succ]; exact rfl) ?_
          refine V_iload_n (i := 3) F dM_measure_128 rfl rfl ?_
          refine V_if_ne F 146 dM_measure_129 (by decide) (fun h129 => ?_) (fun h129 => ?_)
          · refine V_iconst F dM_measure_146 (by decide) ?_
            refine V_goto F 151 dM_measure_147 (by decide) ?_
            refine V_istore_n (i := 3) F dM_measure_151 rfl (by decide) (by simp only [List.set_cons_zero, List.set_cons_succ]; exact rfl) ?_
            refine V_aload_n (i := 0) F dM_measure_152 rfl rfl ?_
            refine V_getr (ci := 7) (C := R_M) (T := T_M) (N := 32) F dM_measure_153 (by first | rfl | assumption) rfl (j := 9) (by decide) rfl lfM_29 ?_
            refine V_iload_n (i := 2) F dM_measure_156 rfl rfl ?_
            refine V_iload F dM_measure_157 rfl ?_
            refine V_iadd F dM_measure_159 (by omega) ?_
            refine V_iload F dM_measure_160 rfl ?_
            refine V_aload_n (i := 0) F dM_measure_162 rfl rfl ?_
            refine V_getr (ci := 7) (C := R_M) (T := T_M) (N := 32) F dM_measure_163 (by first | rfl | assumption) rfl (j := 9) (by decide) rfl lfM_29 ?_
            refine V_iload_n (i := 2) F dM_measure_166 rfl rfl ?_
            refine V_iload F dM_measure_167 rfl ?_
            refine V_iadd F dM_measure_169 (by omega) ?_
            first
              | refine V_sald F dM_measure_170 (by decide) (by omega) (stt_in _ _) ?_
              | refine V_iald F dM_measure_170 (by first | rfl | assumption) rfl (by omega) ?_
            refine V_icmp_ge F 179 dM_measure_171 (by decide) (fun h171 => ?_) (fun h171 => ?_)
            · refine V_aload_n (i := 0) F dM_measure_179 rfl rfl ?_
              refine V_getr (ci := 7) (C := R_M) (T := T_M) (N := 32) F dM_measure_180 (by first | rfl | assumption) rfl (j := 9) (by decide) rfl lfM_29 ?_
              refine V_iload_n (i := 2) F dM_measure_183 rfl rfl ?_
              refine V_iload F dM_measure_184 rfl ?_
              refine V_iadd F dM_measure_186 (by omega) ?_
              first
                | refine V_sald F dM_measure_187 (by decide) (by omega) (stt_in _ _) ?_
                | refine V_iald F dM_measure_187 (by first | rfl | assumption) rfl (by omega) ?_
              refine V_iast F dM_measure_188 (by first | rfl | assumption) rfl (by omega) ?_
              refine V_iinc F dM_measure_189 (by decide) rfl (by omega) (by simp only [List.set_cons_zero, List.set_cons_succ]; exact rfl) ?_
              refine V_goto F 86 dM_measure_192 (by decide) ?_
              first
              | exact ih (q + 1) _ _ _ (by omega) (by omega) (by omega) (msI_skip hI (Or.inl (by assumption)))
              | exact ih (q + 1) _ _ _ (by omega) (by omega) (by omega) (msI_skip hI (Or.inr (by assumption)))
              | exact ih (q + 1) _ _ _ (by omega) (by omega) (by omega) (msI_step hm hs ⟨h1, by omega⟩ hI h103 h116 hP (Or.inl ⟨by omega, rfl, by first | rfl | (have := hI.2.2.2; omega)⟩))
              | exact ih (q + 1) _ _ _ (by omega) (by omega) (by omega) (msI_step hm hs ⟨h1, by omega⟩ hI h103 h116 hP (Or.inr ⟨by omega, rfl, by first | rfl | (have := hI.2.2.2; omega)⟩))
              | (exfalso; omega)
            · refine V_iload F dM_measure_174 rfl ?_
              refine V_goto F 188 dM_measure_176 (by decide) ?_
              refine V_iast F dM_measure_188 (by first | rfl | assumption) rfl (by omega) ?_
              refine V_iinc F dM_measure_189 (by decide) rfl (by omega) (by simp only [List.set_cons_zero, List.set_cons_succ]; exact rfl) ?_
              refine V_goto F 86 dM_measure_192 (by decide) ?_
              first
              | exact ih (q + 1) _ _ _ (by omega) (by omega) (by omega) (msI_skip hI (Or.inl (by assumption)))
              | exact ih (q + 1) _ _ _ (by omega) (by omega) (by omega) (msI_skip hI (Or.inr (by assumption)))
              | exact ih (q + 1) _ _ _ (by omega) (by omega) (by omega) (msI_step hm hs ⟨h1, by omega⟩ hI h103 h116 hP (Or.inl ⟨by omega, rfl, by first | rfl | (have := hI.2.2.2; omega)⟩))
              | exact ih (q + 1) _ _ _ (by omega) (by omega) (by omega) (msI_step hm hs ⟨h1, by omega⟩ hI h103 h116 hP (Or.inr ⟨by omega, rfl, by first | rfl | (have := hI.2.2.2; omega)⟩))
              | (exfalso; omega)
          · refine V_iload F dM_measure_132 rfl ?_
            refine V_aload_n (i := 0) F dM_measure_134 rfl rfl ?_
            refine V_getr (ci := 7) (C := R_M) (T := T_M) (N := 32) F dM_measure_135 (by first | rfl | assumption) rfl (j := 9) (by decide) rfl lfM_29 ?_
            refine V_iload_n (i := 2) F dM_measure_138 rfl rfl ?_
            refine V_iload F dM_measure_139 rfl ?_
            refine V_iadd F dM_measure_141 (by omega) ?_
            first
              | refine V_sald F dM_measure_142 (by decide) (by omega) (stt_in _ _) ?_
              | refine V_iald F dM_measure_142 (by first | rfl | assumption) rfl (by omega) ?_
            refine V_icmp_ge F 150 dM_measure_143 (by decide) (fun h143 => ?_) (fun h143 => ?_)
            · refine V_iconst F dM_measure_150 (by decide) ?_
              refine V_istore_n (i := 3) F dM_measure_151 rfl (by decide) (by simp only [List.set_cons_zero, List.set_cons_succ]; exact rfl) ?_
              refine V_aload_n (i := 0) F dM_measure_152 rfl rfl ?_
              refine V_getr (ci := 7) (C := R_M) (T := T_M) (N := 32) F dM_measure_153 (by first | rfl | assumption) rfl (j := 9) (by decide) rfl lfM_29 ?_
              refine V_iload_n (i := 2) F dM_measure_156 rfl rfl ?_
              refine V_iload F dM_measure_157 rfl ?_
              refine V_iadd F dM_measure_159 (by omega) ?_
              refine V_iload F dM_measure_160 rfl ?_
              refine V_aload_n (i := 0) F dM_measure_162 rfl rfl ?_
              refine V_getr (ci := 7) (C := R_M) (T := T_M) (N := 32) F dM_measure_163 (by first | rfl | assumption) rfl (j := 9) (by decide) rfl lfM_29 ?_
              refine V_iload_n (i := 2) F dM_measure_166 rfl rfl ?_
              refine V_iload F dM_measure_167 rfl ?_
              refine V_iadd F dM_measure_169 (by omega) ?_
              first
                | refine V_sald F dM_measure_170 (by decide) (by omega) (stt_in _ _) ?_
                | refine V_iald F dM_measure_170 (by first | rfl | assumption) rfl (by omega) ?_
              refine V_icmp_ge F 179 dM_measure_171 (by decide) (fun h171 => ?_) (fun h171 => ?_)
              · refine V_aload_n (i := 0) F dM_measure_179 rfl rfl ?_
                refine V_getr (ci := 7) (C := R_M) (T := T_M) (N := 32) F dM_measure_180 (by first | rfl | assumption) rfl (j := 9) (by decide) rfl lfM_29 ?_
                refine V_iload_n (i := 2) F dM_measure_183 rfl rfl ?_
                refine V_iload F dM_measure_184 rfl ?_
                refine V_iadd F dM_measure_186 (by omega) ?_
                first
                  | refine V_sald F dM_measure_187 (by decide) (by omega) (stt_in _ _) ?_
                  | refine V_iald F dM_measure_187 (by first | rfl | assumption) rfl (by omega) ?_
                refine V_iast F dM_measure_188 (by first | rfl | assumption) rfl (by omega) ?_
                refine V_iinc F dM_measure_189 (by decide) rfl (by omega) (by simp only [List.set_cons_zero, List.set_cons_succ]; exact rfl) ?_
                refine V_goto F 86 dM_measure_192 (by decide) ?_
                first
                | exact ih (q + 1) _ _ _ (by omega) (by omega) (by omega) (msI_skip hI (Or.inl (by assumption)))
                | exact ih (q + 1) _ _ _ (by omega) (by omega) (by omega) (msI_skip hI (Or.inr (by assumption)))
                | exact ih (q + 1) _ _ _ (by omega) (by omega) (by omega) (msI_step hm hs ⟨h1, by omega⟩ hI h103 h116 hP (Or.inl ⟨by omega, rfl, by first | rfl | (have := hI.2.2.2; omega)⟩))
                | exact ih (q + 1) _ _ _ (by omega) (by omega) (by omega) (msI_step hm hs ⟨h1, by omega⟩ hI h103 h116 hP (Or.inr ⟨by omega, rfl, by first | rfl | (have := hI.2.2.2; omega)⟩))
                | (exfalso; omega)
              · refine V_iload F dM_measure_174 rfl ?_
                refine V_goto F 188 dM_measure_176 (by decide) ?_
                refine V_iast F dM_measure_188 (by first | rfl | assumption) rfl (by omega) ?_
                refine V_iinc F dM_measure_189 (by decide) rfl (by omega) (by simp only [List.set_cons_zero, List.set_cons_succ]; exact rfl) ?_
                refine V_goto F 86 dM_measure_192 (by decide) ?_
                first
                | exact ih (q + 1) _ _ _ (by omega) (by omega) (by omega) (msI_skip hI (Or.inl (by assumption)))
                | exact ih (q + 1) _ _ _ (by omega) (by omega) (by omega) (msI_skip hI (Or.inr (by assumption)))
                | exact ih (q + 1) _ _ _ (by omega) (by omega) (by omega) (msI_step hm hs ⟨h1, by omega⟩ hI h103 h116 hP (Or.inl ⟨by omega, rfl, by first | rfl | (have := hI.2.2.2; omega)⟩))
                | exact ih (q + 1) _ _ _ (by omega) (by omega) (by omega) (msI_step hm hs ⟨h1, by omega⟩ hI h103 h116 hP (Or.inr ⟨by omega, rfl, by first | rfl | (have := hI.2.2.2; omega)⟩))
                | (exfalso; omega)
            · refine V_iconst F dM_measure_146 (by decide) ?_
              refine V_goto F 151 dM_measure_147 (by decide) ?_
              refine V_istore_n (i := 3) F dM_measure_151 rfl (by decide) (by simp only [List.set_cons_zero, List.set_cons_succ]; exact rfl) ?_
              refine V_aload_n (i := 0) F dM_measure_152 rfl rfl ?_
              refine V_getr (ci := 7) (C := R_M) (T := T_M) (N := 32) F dM_measure_153 (by first | rfl | assumption) rfl (j := 9) (by decide) rfl lfM_29 ?_
              refine V_iload_n (i := 2) F dM_measure_156 rfl rfl ?_
              refine V_iload F dM_measure_157 rfl ?_
              refine V_iadd F dM_measure_159 (by omega) ?_
              refine V_iload F dM_measure_160 rfl ?_
              refine V_aload_n (i := 0) F dM_measure_162 rfl rfl ?_
              refine V_getr (ci := 7) (C := R_M) (T := T_M) (N := 32) F dM_measure_163 (by first | rfl | assumption) rfl (j := 9) (by decide) rfl lfM_29 ?_
              refine V_iload_n (i := 2) F dM_measure_166 rfl rfl ?_
              refine V_iload F dM_measure_167 rfl ?_
              refine V_iadd F dM_measure_169 (by omega) ?_
              first
                | refine V_sald F dM_measure_170 (by decide) (by omega) (stt_in _ _) ?_
                | refine V_iald F dM_measure_170 (by first | rfl | assumption) rfl (by omega) ?_
              refine V_icmp_ge F 179 dM_measure_171 (by decide) (fun h171 => ?_) (fun h171 => ?_)
              · refine V_aload_n (i := 0) F dM_measure_179 rfl rfl ?_
                refine V_getr (ci := 7) (C := R_M) (T := T_M) (N := 32) F dM_measure_180 (by first | rfl | assumption) rfl (j := 9) (by decide) rfl lfM_29 ?_
                refine V_iload_n (i := 2) F dM_measure_183 rfl rfl ?_
                refine V_iload F dM_measure_184 rfl ?_
                refine V_iadd F dM_measure_186 (by omega) ?_
                first
                  | refine V_sald F dM_measure_187 (by decide) (by omega) (stt_in _ _) ?_
                  | refine V_iald F dM_measure_187 (by first | rfl | assumption) rfl (by omega) ?_
                refine V_iast F dM_measure_188 (by first | rfl | assumption) rfl (by omega) ?_
                refine V_iinc F dM_measure_189 (by decide) rfl (by omega) (by simp only [List.set_cons_zero, List.set_cons_succ]; exact rfl) ?_
                refine V_goto F 86 dM_measure_192 (by decide) ?_
                first
                | exact ih (q + 1) _ _ _ (by omega) (by omega) (by omega) (msI_skip hI (Or.inl (by assumption)))
                | exact ih (q + 1) _ _ _ (by omega) (by omega) (by omega) (msI_skip hI (Or.inr (by assumption)))
                | exact ih (q + 1) _ _ _ (by omega) (by omega) (by omega) (msI_step hm hs ⟨h1, by omega⟩ hI h103 h116 hP (Or.inl ⟨by omega, rfl, by first | rfl | (have := hI.2.2.2; omega)⟩))
                | exact ih (q + 1) _ _ _ (by omega) (by omega) (by omega) (msI_step hm hs ⟨h1, by omega⟩ hI h103 h116 hP (Or.inr ⟨by omega, rfl, by first | rfl | (have := hI.2.2.2; omega)⟩))
                | (exfalso; omega)
              · refine V_iload F dM_measure_174 rfl ?_
                refine V_goto F 188 dM_measure_176 (by decide) ?_
                refine V_iast F dM_measure_188 (by first | rfl | assumption) rfl (by omega) ?_
                refine V_iinc F dM_measure_189 (by decide) rfl (by omega) (by simp only [List.set_cons_zero, List.set_cons_succ]; exact rfl) ?_
                refine V_goto F 86 dM_measure_192 (by decide) ?_
                first
                | exact ih (q + 1) _ _ _ (by omega) (by omega) (by omega) (msI_skip hI (Or.inl (by assumption)))
                | exact ih (q + 1) _ _ _ (by omega) (by omega) (by omega) (msI_skip hI (Or.inr (by assumption)))
                | exact ih (q + 1) _ _ _ (by omega) (by omega) (by omega) (msI_step hm hs ⟨h1, by omega⟩ hI h103 h116 hP (Or.inl ⟨by omega, rfl, by first | rfl | (have := hI.2.2.2; omega)⟩))
                | exact ih (q + 1) _ _ _ (by omega) (by omega) (by omega) (msI_step hm hs ⟨h1, by omega⟩ hI h103 h116 hP (Or.inr ⟨by omega, rfl, by first | rfl | (have := hI.2.2.2; omega)⟩))
                | (exfalso; omega)
theorem lpM_rounds {G : vG} {X : vX} {Q : State → Prop} {w : RW} {s : Int} (hs : 0 ≤ s ∧ s < 6) (hm : mOK w) (hk0 : w 83 s = 0) (F : FX G X cM_measure yM_measure.cls 7 4) (hR : RetV G X cM_measure 7 Q (fun u => msP w u s)) : ∀ (m : Nat) (rd more : Int) (o1 o2 : Option RV) (u0 : RW), 0 ≤ rd → rd ≤ 600 → 600 - rd < m → msA w u0 s → (more = 0 ∨ more = 1) → ((nfN 576 (edM w s) (fh u0 s) : Int) + rd ≤ 576 ∨ nfN 576 (edM w s) (fh u0 s) = 0) → (more = 0 → gRl 1000000000 576 (edM w s) (fh u0 s)) → V G X 7 Q 69 [some (.inr 77), some (.inl s), some (.inl (576 * s)), some (.inl more), some (.inl rd), o1, o2] [] u0 := by
  intro m
  induction m with
  | zero => intro rd more o1 o2 u0 h1 h2 h3; omega
  | succ m ih =>
    intro rd more o1 o2 u0 h1 h2 h3 hA hmo hN hz
    refine V_iload F dM_measure_69 rfl ?_
    refine V_sipush F dM_measure_71 (by decide) ?_
    refine V_icmp_ge F 201 dM_measure_74 (by decide) (fun h74 => ?_) (fun h74 => ?_)
    · exact hR _ _ _ dM_measure_201 (by
        refine Or.inr ⟨hk0, hA.1, hA.2.1, ?_, ?_, ?_⟩
        · rw [hA.1.1 80 (by decide) (by decide)]; exact hA.2.2.1
        · rw [edM_c (hA.1.1 77 (by decide) (by decide)) (hA.1.1 78 (by decide) (by decide)) (hA.1.1 79 (by decide) (by decide)) (hA.1.1 80 (by decide) (by decide))]; exact hA.2.2.2
        · rw [edM_c (hA.1.1 77 (by decide) (by decide)) (hA.1.1 78 (by decide) (by decide)) (hA.1.1 79 (by decide) (by decide)) (hA.1.1 80 (by decide) (by decide))]
          first
          | exact hz (by omega)
          | exact gRl_of_fin (edM_ok hm s) hA.2.2.2 (msA_pos hA) (fun q d q1 q2 hd => nfN_0 (n := 576) (by omega) q1 q2 hd))
    · refine V_iload_n (i := 3) F dM_measure_77 rfl rfl ?_
      refine V_if_eq F 201 dM_measure_78 (by decide) (fun h78 => ?_) (fun h78 => ?_)
      · exact hR _ _ _ dM_measure_201 (by
          refine Or.inr ⟨hk0, hA.1, hA.2.1, ?_, ?_, ?_⟩
          · rw [hA.1.1 80 (by decide) (by decide)]; exact hA.2.2.1
          · rw [edM_c (hA.1.1 77 (by decide) (by decide)) (hA.1.1 78 (by decide) (by decide)) (hA.1.1 79 (by decide) (by decide)) (hA.1.1 80 (by decide) (by decide))]; exact hA.2.2.2
          · rw [edM_c (hA.1.1 77 (by decide) (by decide)) (hA.1.1 78 (by decide) (by decide)) (hA.1.1 79 (by decide) (by decide)) (hA.1.1 80 (by decide) (by decide))]
            first
            | exact hz (by omega)
            | exact gRl_of_fin (edM_ok hm s) hA.2.2.2 (msA_pos hA) (fun q d q1 q2 hd => nfN_0 (n := 576) (by omega) q1 q2 hd))
      · refine V_iconst F dM_measure_81 (by decide) ?_
        refine V_istore_n (i := 3) F dM_measure_82 rfl (by decide) (by simp only [List.set_cons_zero, List.set_cons_succ]; exact rfl) ?_
        refine V_iconst F dM_measure_83 (by decide) ?_
        refine V_istore F dM_measure_84 (by decide) (by simp only [List.set_cons_zero, List.set_cons_succ]; exact rfl) ?_
        refine lpM_sweep hs hm F (w := w) (u0 := u0) (fun more2 q2 o2 u2 hI2 => ?_) 577 0 0 _ u0 (by omega) (by omega) (by omega) ⟨hA, fun _ _ _ => by omega, fun x k t c x1 x2 => by omega, Or.inl ⟨rfl, rfl⟩⟩
        obtain ⟨hA2, hle2, hJ2, hmo2⟩ := hI2
        refine V_iinc F dM_measure_195 (by decide) rfl (by omega) (by simp only [List.set_cons_zero, List.set_cons_succ]; exact rfl) ?_
        refine V_goto F 69 dM_measure_198 (by decide) ?_
        refine ih (rd + 1) _ _ _ _ (by omega) (by omega) (by omega) hA2 ?_ ?_ ?_
        · rcases hmo2 with h | h
          · exact Or.inl h.1
          · exact Or.inr h
        · have hmn := nfN_mono (n := 576) (ed := edM w s) (f0 := fh u0 s) (f1 := fh u2 s) hle2
          rcases hN with hN | hN
          · by_cases h0 : 0 < nfN 576 (edM w s) (fh u0 s)
            · have := g_sweep (edM_ok hm s) (msA_F hA) hle2 hJ2 h0
              exact Or.inl (by omega)
            · exact Or.inr (by omega)
          · exact Or.inr (by omega)
        · intro hz
          rcases hmo2 with ⟨_, h⟩ | h
          · intro x k t c x1 x2 k1 k2 he
            have := hJ2 x k t c x1 x2 k1 k2 he
            rw [h] at this ⊢
            exact this
          · omega
def msF (w u : RW) (s n : Int) : Prop := ((∀ j, j ≠ 83 → j ≠ 84 → u j = w j) ∧ u 83 = upw w 83 s 1 83 ∧ ∀ i, ¬ (576 * s ≤ i ∧ i < 576 * s + n) → u 84 i = w 84 i) ∧ ∀ q, 0 ≤ q → q < n → u 84 (576 * s + q) = if q / 2 = w 80 s then 0 else 1000000000
theorem msF_A {w u : RW} {s : Int} (h : msF w u s 576) : msA w u s := by
  refine ⟨h.1, fun q h1 h2 => ?_, fun q h1 h2 h3 => ?_, fun q h1 h2 h3 => ?_⟩
  · rw [h.2 q h1 h2]; split <;> omega
  · rw [h.2 q h1 h2, if_pos h3]
  · exfalso
    unfold fh at h3
    rw [h.1.1 80 (by decide) (by decide)] at h3
    by_cases hq : q / 2 = w 80 s
    · rw [if_pos hq] at h3; omega
    · rw [if_neg hq, h.2 q h1 h2, if_neg hq] at h3; omega
theorem lpM_fill {G : vG} {X : vX} {Q : State → Prop} {w : RW} {s : Int} (hs : 0 ≤ s ∧ s < 6) (hm : mOK w) (hk0 : w 83 s = 0) (F : FX G X cM_measure yM_measure.cls 7 4) (hR : RetV G X cM_measure 7 Q (fun u => msP w u s)) : ∀ (m : Nat) (q : Int) (u0 : RW), 0 ≤ q → q ≤ 576 → 576 - q < m → msF w u0 s q → V G X 7 Q 25 [some (.inr 77), some (.inl s), some (.inl (576 * s)), some (.inl q), none, none, none] [] u0 := by
  intro m
  induction m with
  | zero => intro q u0 h1 h2 h3; omega
  | succ m ih =>
    intro q u0 h1 h2 h3 hI
    refine V_iload_n (i := 3) F dM_measure_25 rfl rfl ?_
    refine V_sipush F dM_measure_26 (by decide) ?_
    refine V_icmp_ge F 64 dM_measure_29 (by decide) (fun h29 => ?_) (fun h29 => ?_)
    · refine V_iconst F dM_measure_64 (by decide) ?_
      refine V_istore_n (i := 3) F dM_measure_65 rfl (by decide) (by simp only [List.set_cons_zero, List.set_cons_succ]; exact rfl) ?_
      refine V_iconst F dM_measure_66 (by decide) ?_
      refine V_istore F dM_measure_67 (by decide) (by simp only [List.set_cons_zero, List.set_cons_succ]; exact rfl) ?_
      rw [show q = 576 by omega] at hI
      exact lpM_rounds hs hm hk0 F hR 601 0 1 _ _ _ (by omega) (by omega) (by omega) (msF_A hI) (Or.inr rfl) (Or.inl (by have := nfN_le 576 (edM w s) (fh u0 s); omega)) (fun h => by omega)
    · refine V_aload_n (i := 0) F dM_measure_32 rfl rfl ?_
      refine V_getr (ci := 7) (C := R_M) (T := T_M) (N := 32) F dM_measure_33 (by first | rfl | assumption) rfl (j := 9) (by decide) rfl lfM_29 ?_
      refine V_iload_n (i := 2) F dM_measure_36 rfl rfl ?_
      refine V_iload_n (i := 3) F dM_measure_37 rfl rfl ?_
      refine V_iadd F dM_measure_38 (by omega) ?_
      refine V_iload_n (i := 3) F dM_measure_39 rfl rfl ?_
      refine V_iconst F dM_measure_40 (by decide) ?_
      refine V_idiv F dM_measure_41 (by omega) ?_
      refine V_aload_n (i := 0) F dM_measure_42 rfl rfl ?_
      refine V_getr (ci := 7) (C := R_M) (T := T_M) (N := 32) F dM_measure_43 (by first | rfl | assumption) rfl (j := 5) (by decide) rfl lfM_17 ?_
      refine V_iload_n (i := 1) F dM_measure_46 rfl rfl ?_
      first
        | refine V_sald F dM_measure_47 (by decide) (by omega) (stt_in _ _) ?_
        | refine V_iald F dM_measure_47 (by first | rfl | assumption) rfl (by omega) ?_
      rw [hI.1.1 80 (by decide) (by decide)]
      refine V_icmp_ne F 55 dM_measure_48 (by decide) (fun h48 => ?_) (fun h48 => ?_)
      · refine V_ldc F dM_measure_55 lcM_119 ⟨by decide, by decide⟩ ?_
        refine V_iast F dM_measure_57 (by first | rfl | assumption) rfl (by omega) ?_
        refine V_iinc F dM_measure_58 (by decide) rfl (by omega) (by simp only [List.set_cons_zero, List.set_cons_succ]; exact rfl) ?_
        refine V_goto F 25 dM_measure_61 (by decide) ?_
        refine ih (q + 1) _ (by omega) (by omega) (by omega) ⟨⟨fun j j1 j2 => ?_, ?_, fun i hi => ?_⟩, fun x x1 x2 => ?_⟩
        · rw [upw_f j2]; exact hI.1.1 j j1 j2
        · rw [upw_f (by decide)]; exact hI.1.2.1
        · rw [upw_i (by omega)]; exact hI.1.2.2 i (by omega)
        · by_cases hx : x = q
          · rw [hx, upw_s]
            first
            | rw [if_pos (by assumption)]
            | rw [if_neg (by assumption)]
          · rw [upw_i (by omega)]; exact hI.2 x x1 (by omega)
      · refine V_iconst F dM_measure_51 (by decide) ?_
        refine V_goto F 57 dM_measure_52 (by decide) ?_
        refine V_iast F dM_measure_57 (by first | rfl | assumption) rfl (by omega) ?_
        refine V_iinc F dM_measure_58 (by decide) rfl (by omega) (by simp only [List.set_cons_zero, List.set_cons_succ]; exact rfl) ?_
        refine V_goto F 25 dM_measure_61 (by decide) ?_
        refine ih (q + 1) _ (by omega) (by omega) (by omega) ⟨⟨fun j j1 j2 => ?_, ?_, fun i hi => ?_⟩, fun x x1 x2 => ?_⟩
        · rw [upw_f j2]; exact hI.1.1 j j1 j2
        · rw [upw_f (by decide)]; exact hI.1.2.1
        · rw [upw_i (by omega)]; exact hI.1.2.2 i (by omega)
        · by_cases hx : x = q
          · rw [hx, upw_s]
            first
            | rw [if_pos (by assumption)]
            | rw [if_neg (by assumption)]
          · rw [upw_i (by omega)]; exact hI.2 x x1 (by omega)
theorem ctM_measure {G : vG} {l : Launch} {w : RW} {s : Int} (hs : 0 ≤ s ∧ s < 6) (hm : mOK w) (hk : w 83 s = 0 ∨ w 83 s = 1) : CTv G l yM_measure cM_measure 7 4 [.inr 77, .inl s] w (fun u => msP w u s) := by
  refine CTv.intro (by decide) (Nat.le_of_ble_eq_true rfl) ?_
  intro X Q F hX hR
  subst hX
  show V G X 7 Q 0 [some (.inr 77), some (.inl s), none, none, none, none, none] [] w
  refine V_aload_n (i := 0) F dM_measure_0 rfl rfl ?_
  refine V_getr (ci := 7) (C := R_M) (T := T_M) (N := 32) F dM_measure_1 (by first | rfl | assumption) rfl (j := 8) (by decide) rfl lfM_26 ?_
  refine V_iload_n (i := 1) F dM_measure_4 rfl rfl ?_
  refine V_zald F dM_measure_5 (by first | rfl | assumption) rfl (by omega) ?_
  refine V_if_eq F 10 dM_measure_6 (by decide) (fun h6 => ?_) (fun h6 => ?_)
  · refine V_aload_n (i := 0) F dM_measure_10 rfl rfl ?_
    refine V_getr (ci := 7) (C := R_M) (T := T_M) (N := 32) F dM_measure_11 (by first | rfl | assumption) rfl (j := 8) (by decide) rfl lfM_26 ?_
    refine V_iload_n (i := 1) F dM_measure_14 rfl rfl ?_
    refine V_iconst F dM_measure_15 (by decide) ?_
    refine V_zast F dM_measure_16 (by first | rfl | assumption) rfl (by omega) (by first | exact Or.inl rfl | exact Or.inr rfl | exact bz_01 _ | assumption) ?_
    refine V_sipush F dM_measure_17 (by decide) ?_
    refine V_iload_n (i := 1) F dM_measure_20 rfl rfl ?_
    refine V_imul F dM_measure_21 (by omega) ?_
    refine V_istore_n (i := 2) F dM_measure_22 rfl (by decide) (by simp only [List.set_cons_zero, List.set_cons_succ]; exact rfl) ?_
    refine V_iconst F dM_measure_23 (by decide) ?_
    refine V_istore_n (i := 3) F dM_measure_24 rfl (by decide) (by simp only [List.set_cons_zero, List.set_cons_succ]; exact rfl) ?_
    exact lpM_fill hs hm (by omega) F hR 577 0 _ (by omega) (by omega) (by omega) ⟨⟨fun j j1 j2 => upw_f j1, rfl, fun i _ => upw_k (by decide)⟩, fun q q1 q2 => by omega⟩
  · exact hR _ _ _ dM_measure_9 (Or.inl ⟨by omega, rfl⟩)
