theorem dR_against_0 : decode cR_against 0 = .ok (.iconst 0, 1) := by decide +kernel
theorem dR_against_1 : decode cR_against 1 = .ok (.istore_n 3, 1) := by decide +kernel
theorem dR_against_2 : decode cR_against 2 = .ok (.aload_n 0, 1) := by decide +kernel
theorem dR_against_3 : decode cR_against 3 = .ok (.getfield 15, 3) := by decide +kernel
theorem dR_against_6 : decode cR_against 6 = .ok (.iconst 0, 1) := by decide +kernel
theorem dR_against_7 : decode cR_against 7 = .ok (.invokestatic 58, 3) := by decide +kernel
theorem dR_against_10 : decode cR_against 10 = .ok (.iconst 0, 1) := by decide +kernel
theorem dR_against_11 : decode cR_against 11 = .ok (.istore 4, 2) := by decide +kernel
theorem dR_against_13 : decode cR_against 13 = .ok (.iload 4, 2) := by decide +kernel
theorem dR_against_15 : decode cR_against 15 = .ok (.aload_n 0, 1) := by decide +kernel
theorem dR_against_16 : decode cR_against 16 = .ok (.getfield 18, 3) := by decide +kernel
theorem dR_against_19 : decode cR_against 19 = .ok (.if_icmp .ge 127, 3) := by decide +kernel
theorem dR_against_22 : decode cR_against 22 = .ok (.aload_n 0, 1) := by decide +kernel
theorem dR_against_23 : decode cR_against 23 = .ok (.getfield 9, 3) := by decide +kernel
theorem dR_against_26 : decode cR_against 26 = .ok (.iload 4, 2) := by decide +kernel
theorem dR_against_28 : decode cR_against 28 = .ok (.iaload, 1) := by decide +kernel
theorem dR_against_29 : decode cR_against 29 = .ok (.invokestatic 36, 3) := by decide +kernel
theorem dR_against_32 : decode cR_against 32 = .ok (.istore 5, 2) := by decide +kernel
theorem dR_against_34 : decode cR_against 34 = .ok (.aload_n 0, 1) := by decide +kernel
theorem dR_against_35 : decode cR_against 35 = .ok (.getfield 9, 3) := by decide +kernel
theorem dR_against_38 : decode cR_against 38 = .ok (.iload 4, 2) := by decide +kernel
theorem dR_against_40 : decode cR_against 40 = .ok (.iaload, 1) := by decide +kernel
theorem dR_against_41 : decode cR_against 41 = .ok (.invokestatic 64, 3) := by decide +kernel
theorem dR_against_44 : decode cR_against 44 = .ok (.istore 6, 2) := by decide +kernel
theorem dR_against_46 : decode cR_against 46 = .ok (.aload_n 0, 1) := by decide +kernel
theorem dR_against_47 : decode cR_against 47 = .ok (.getfield 15, 3) := by decide +kernel
theorem dR_against_50 : decode cR_against 50 = .ok (.iload 5, 2) := by decide +kernel
theorem dR_against_52 : decode cR_against 52 = .ok (.iaload, 1) := by decide +kernel
theorem dR_against_53 : decode cR_against 53 = .ok (.getstatic 67, 3) := by decide +kernel
theorem dR_against_56 : decode cR_against 56 = .ok (.iload 6, 2) := by decide +kernel
theorem dR_against_58 : decode cR_against 58 = .ok (.iaload, 1) := by decide +kernel
theorem dR_against_59 : decode cR_against 59 = .ok (.iand, 1) := by decide +kernel
theorem dR_against_60 : decode cR_against 60 = .ok (.ifCond .eq 9, 3) := by decide +kernel
theorem dR_against_63 : decode cR_against 63 = .ok (.iload_n 3, 1) := by decide +kernel
theorem dR_against_64 : decode cR_against 64 = .ok (.iconst 1, 1) := by decide +kernel
theorem dR_against_65 : decode cR_against 65 = .ok (.iload_n 2, 1) := by decide +kernel
theorem dR_against_66 : decode cR_against 66 = .ok (.ishl, 1) := by decide +kernel
theorem dR_against_67 : decode cR_against 67 = .ok (.ior, 1) := by decide +kernel
theorem dR_against_68 : decode cR_against 68 = .ok (.istore_n 3, 1) := by decide +kernel
theorem dR_against_69 : decode cR_against 69 = .ok (.aload_n 0, 1) := by decide +kernel
theorem dR_against_70 : decode cR_against 70 = .ok (.getfield 15, 3) := by decide +kernel
theorem dR_against_73 : decode cR_against 73 = .ok (.iload 5, 2) := by decide +kernel
theorem dR_against_75 : decode cR_against 75 = .ok (.dup2, 1) := by decide +kernel
theorem dR_against_76 : decode cR_against 76 = .ok (.iaload, 1) := by decide +kernel
theorem dR_against_77 : decode cR_against 77 = .ok (.iconst 1, 1) := by decide +kernel
theorem dR_against_78 : decode cR_against 78 = .ok (.iload 6, 2) := by decide +kernel
theorem dR_against_80 : decode cR_against 80 = .ok (.ishl, 1) := by decide +kernel
theorem dR_against_81 : decode cR_against 81 = .ok (.ior, 1) := by decide +kernel
theorem dR_against_82 : decode cR_against 82 = .ok (.iastore, 1) := by decide +kernel
theorem dR_against_83 : decode cR_against 83 = .ok (.iconst 0, 1) := by decide +kernel
theorem dR_against_84 : decode cR_against 84 = .ok (.istore 7, 2) := by decide +kernel
theorem dR_against_86 : decode cR_against 86 = .ok (.iload 7, 2) := by decide +kernel
theorem dR_against_88 : decode cR_against 88 = .ok (.bipush 6, 2) := by decide +kernel
theorem dR_against_90 : decode cR_against 90 = .ok (.if_icmp .ge 50, 3) := by decide +kernel
theorem dR_against_93 : decode cR_against 93 = .ok (.aload_n 1, 1) := by decide +kernel
theorem dR_against_94 : decode cR_against 94 = .ok (.getfield 70, 3) := by decide +kernel
theorem dR_against_97 : decode cR_against 97 = .ok (.iload 5, 2) := by decide +kernel
theorem dR_against_99 : decode cR_against 99 = .ok (.iload 7, 2) := by decide +kernel
theorem dR_against_101 : decode cR_against 101 = .ok (.invokestatic 52, 3) := by decide +kernel
theorem dR_against_104 : decode cR_against 104 = .ok (.iaload, 1) := by decide +kernel
theorem dR_against_105 : decode cR_against 105 = .ok (.istore 8, 2) := by decide +kernel
theorem dR_against_107 : decode cR_against 107 = .ok (.iload 8, 2) := by decide +kernel
theorem dR_against_109 : decode cR_against 109 = .ok (.iconst (-1), 1) := by decide +kernel
theorem dR_against_110 : decode cR_against 110 = .ok (.if_icmp .eq 24, 3) := by decide +kernel
theorem dR_against_113 : decode cR_against 113 = .ok (.getstatic 67, 3) := by decide +kernel
theorem dR_against_116 : decode cR_against 116 = .ok (.iload 6, 2) := by decide +kernel
theorem dR_against_118 : decode cR_against 118 = .ok (.iaload, 1) := by decide +kernel
theorem dR_against_119 : decode cR_against 119 = .ok (.iload 7, 2) := by decide +kernel
theorem dR_against_121 : decode cR_against 121 = .ok (.ishr, 1) := by decide +kernel
theorem dR_against_122 : decode cR_against 122 = .ok (.iconst 1, 1) := by decide +kernel
theorem dR_against_123 : decode cR_against 123 = .ok (.iand, 1) := by decide +kernel
theorem dR_against_124 : decode cR_against 124 = .ok (.ifCond .eq 10, 3) := by decide +kernel
theorem dR_against_127 : decode cR_against 127 = .ok (.iload_n 3, 1) := by decide +kernel
theorem dR_against_128 : decode cR_against 128 = .ok (.iconst 1, 1) := by decide +kernel
theorem dR_against_129 : decode cR_against 129 = .ok (.iload 8, 2) := by decide +kernel
theorem dR_against_131 : decode cR_against 131 = .ok (.ishl, 1) := by decide +kernel
theorem dR_against_132 : decode cR_against 132 = .ok (.ior, 1) := by decide +kernel
theorem dR_against_133 : decode cR_against 133 = .ok (.istore_n 3, 1) := by decide +kernel
theorem dR_against_134 : decode cR_against 134 = .ok (.iinc 7 1, 3) := by decide +kernel
theorem dR_against_137 : decode cR_against 137 = .ok (.goto (-51), 3) := by decide +kernel
theorem dR_against_140 : decode cR_against 140 = .ok (.iinc 4 1, 3) := by decide +kernel
theorem dR_against_143 : decode cR_against 143 = .ok (.goto (-130), 3) := by decide +kernel
theorem dR_against_146 : decode cR_against 146 = .ok (.iload_n 3, 1) := by decide +kernel
theorem dR_against_147 : decode cR_against 147 = .ok (.ireturn, 1) := by decide +kernel
theorem lfR_70 : Cond.fieldLinkNest R_R 70 "RailYard$Grid" "holders" "[I" hostN ∈ nestW := nw 138 (by decide +kernel) rfl
theorem lfR_67 : Cond.fieldLinkNest R_R 67 "RailYard$Spot" "CROSSING" "[I" hostN ∈ nestW := nw 387 (by decide +kernel) rfl
theorem lmR_64 : Cond.methodLink R_R 64 yS_pieceOf ∈ bigW := bw 386 (by decide +kernel) rfl
theorem lfR_15 : Cond.fieldLink R_R 15 "RailYard$Stretch" "covered" "[I" ∈ bigW := bw 95 (by decide +kernel) rfl
theorem lmR_58 : Cond.methodLink R_R 58 yA_fill ∈ bigW := bw 385 (by decide +kernel) rfl
theorem miA_fill : MI yA_fill cA_fill 4 none 2 := ⟨bw 130 (by decide +kernel) rfl, bw 45 (by decide +kernel) rfl, ⟨by decide +kernel, by decide +kernel⟩, by decide +kernel, by decide⟩
theorem msA_fill : Cond.static yA_fill ∈ bigW := bw 129 (by decide +kernel) rfl
theorem tb_or {a b n : Int} (ha : 0 ≤ a ∧ a < 2147483648) (hb : 0 ≤ b ∧ b < 2147483648) : tb (ior a b) n ↔ tb a n ∨ tb b n := by
  rw [ior_nn ha.1 hb.1 ha.2 hb.2]
  unfold tb
  rw [Int.toNat_natCast, Nat.testBit_or, Bool.or_eq_true]
theorem tb_xor {a b n : Int} (ha : 0 ≤ a ∧ a < 2147483648) (hb : 0 ≤ b ∧ b < 2147483648) : tb (ixor a b) n ↔ ¬ (tb a n ↔ tb b n) := by
  rw [ixor_nn ha.1 hb.1 ha.2 hb.2]
  unfold tb
  rw [Int.toNat_natCast, Nat.testBit_xor]
  cases a.toNat.testBit n.toNat <;> cases b.toNat.testBit n.toNat <;> simp
theorem tb_p2 {t n : Int} (ht : 0 ≤ t) (hn : 0 ≤ n) : tb (p2 t) n ↔ n = t := by
  unfold tb p2
  rw [Int.toNat_natCast, Nat.testBit_two_pow, decide_eq_true_eq]
  omega
theorem p2_lt {t : Int} (h : 0 ≤ t ∧ t ≤ 6) : 1 ≤ p2 t ∧ p2 t < 128 := by
  rcases (show t = 0 ∨ t = 1 ∨ t = 2 ∨ t = 3 ∨ t = 4 ∨ t = 5 ∨ t = 6 by omega) with rfl | rfl | rfl | rfl | rfl | rfl | rfl <;> decide
theorem p2_lt6 {t : Int} (h : 0 ≤ t ∧ t < 6) : 1 ≤ p2 t ∧ p2 t < 64 := by
  rcases (show t = 0 ∨ t = 1 ∨ t = 2 ∨ t = 3 ∨ t = 4 ∨ t = 5 by omega) with rfl | rfl | rfl | rfl | rfl | rfl <;> decide
theorem or_lt {a b : Int} (n : Nat) (hn : n ≤ 31) (ha : 0 ≤ a ∧ a < ((2 ^ n : Nat) : Int)) (hb : 0 ≤ b ∧ b < ((2 ^ n : Nat) : Int)) : 0 ≤ ior a b ∧ ior a b < ((2 ^ n : Nat) : Int) := by
  have h31 : (2 ^ n : Nat) ≤ 2 ^ 31 := Nat.pow_le_pow_right (by omega) hn
  rw [ior_nn ha.1 hb.1 (by omega) (by omega)]
  have := Nat.or_lt_two_pow (x := a.toNat) (y := b.toNat) (n := n) (by omega) (by omega)
  omega
theorem xor_lt {a b : Int} (n : Nat) (hn : n ≤ 31) (ha : 0 ≤ a ∧ a < ((2 ^ n : Nat) : Int)) (hb : 0 ≤ b ∧ b < ((2 ^ n : Nat) : Int)) : 0 ≤ ixor a b ∧ ixor a b < ((2 ^ n : Nat) : Int) := by
  have h31 : (2 ^ n : Nat) ≤ 2 ^ 31 := Nat.pow_le_pow_right (by omega) hn
  rw [ixor_nn ha.1 hb.1 (by omega) (by omega)]
  have := Nat.xor_lt_two_pow (x := a.toNat) (y := b.toNat) (n := n) (by omega) (by omega)
  omega
/-- small numbers are their six bits -/
theorem tb6_big {a : Int} (h : 0 ≤ a ∧ a < 64) {n : Nat} (hn : 6 ≤ n) : a.toNat.testBit n = false := by
  apply Nat.testBit_lt_two_pow
  have : (2 : Nat) ^ 6 ≤ 2 ^ n := Nat.pow_le_pow_right (by omega) hn
  omega
theorem and_0 {a b : Int} (ha : 0 ≤ a ∧ a < 64) (hb : 0 ≤ b) : iand a b = 0 ↔ ∀ n, 0 ≤ n → n < 6 → ¬ (tb a n ∧ tb b n) := by
  rw [iand_nn ha.1 hb (by omega)]
  constructor
  · intro h n h0 h1 hc
    have h2 : a.toNat &&& b.toNat = 0 := by omega
    have h3 := congrArg (fun z => z.testBit n.toNat) h2
    simp only [Nat.testBit_and, Nat.zero_testBit] at h3
    unfold tb at hc
    rw [hc.1, hc.2] at h3
    exact absurd h3 (by decide)
  · intro h
    have : a.toNat &&& b.toNat = 0 := by
      apply Nat.eq_of_testBit_eq
      intro i
      rw [Nat.testBit_and, Nat.zero_testBit]
      by_cases hi : i < 6
      · have h4 := h (i : Int) (by omega) (by omega)
        unfold tb at h4
        rw [Int.toNat_natCast] at h4
        cases h5 : a.toNat.testBit i <;> cases h6 : b.toNat.testBit i <;> simp_all
      · rw [tb6_big ha (by omega)]
        rfl
    omega
theorem tb_0 (n : Int) : ¬ tb 0 n := by
  unfold tb
  simp
/-- which trains stand against the first n runs of the wish, and t itself where two of them cross -/
def agS (w : RW) (n t z : Int) : Prop := (z = t ∧ ∃ i j, 0 ≤ j ∧ j < i ∧ i < n ∧ w 74 i % 64 = w 74 j % 64 ∧ tb (stt 2 (w 74 i % 512 / 64)) (w 74 j % 512 / 64)) ∨ ∃ i o, 0 ≤ i ∧ i < n ∧ 0 ≤ o ∧ o < 6 ∧ w 5 (w 74 i % 64 + 64 * o) = z ∧ tb (stt 2 (w 74 i % 512 / 64)) o
def agI (w : RW) (i t o z : Int) : Prop := agS w i t z ∨ (z = t ∧ ∃ j, 0 ≤ j ∧ j < i ∧ w 74 i % 64 = w 74 j % 64 ∧ tb (stt 2 (w 74 i % 512 / 64)) (w 74 j % 512 / 64)) ∨ ∃ p, 0 ≤ p ∧ p < o ∧ w 5 (w 74 i % 64 + 64 * p) = z ∧ tb (stt 2 (w 74 i % 512 / 64)) p
theorem agI_6 {w : RW} {i t z : Int} (hi : 0 ≤ i) : agI w i t 6 z ↔ agS w (i + 1) t z := by
  unfold agI agS
  constructor
  · rintro ((⟨hz, a, b, h1, h2, h3, h4, h5⟩ | ⟨a, o, h1, h2, h3, h4, h5, h6⟩) | ⟨hz, j, h1, h2, h3, h4⟩ | ⟨p, h1, h2, h3, h4⟩)
    · exact Or.inl ⟨hz, a, b, h1, h2, by omega, h4, h5⟩
    · exact Or.inr ⟨a, o, h1, by omega, h3, h4, h5, h6⟩
    · exact Or.inl ⟨hz, i, j, h1, h2, by omega, h3, h4⟩
    · exact Or.inr ⟨i, p, hi, by omega, h1, h2, h3, h4⟩
  · rintro (⟨hz, a, b, h1, h2, h3, h4, h5⟩ | ⟨a, o, h1, h2, h3, h4, h5, h6⟩)
    · by_cases ha : a = i
      · subst ha; exact Or.inr (Or.inl ⟨hz, b, h1, h2, h4, h5⟩)
      · exact Or.inl (Or.inl ⟨hz, a, b, h1, h2, by omega, h4, h5⟩)
    · by_cases ha : a = i
      · subst ha; exact Or.inr (Or.inr ⟨o, h3, h4, h5, h6⟩)
      · exact Or.inl (Or.inr ⟨a, o, h1, by omega, h3, h4, h5, h6⟩)
/-- the covered pieces of the tiles -/
def agC (w : RW) (i : Int) (f : Int → Int) : Prop := ∀ c, 0 ≤ c → c < 64 → (0 ≤ f c ∧ f c < 64) ∧ ∀ p, 0 ≤ p → p < 6 → (tb (f c) p ↔ ∃ j, 0 ≤ j ∧ j < i ∧ w 74 j % 64 = c ∧ w 74 j % 512 / 64 = p)
def agF (f t : Int) (S : Int → Prop) : Prop := (0 ≤ f ∧ f < 128) ∧ ∀ z, 0 ≤ z → z < 7 → (tb f z ↔ S z)
theorem agF_or {f t y : Int} {S S' : Int → Prop} (h : agF f t S) (hy : 0 ≤ y ∧ y ≤ 6) (hS : ∀ z, 0 ≤ z → z < 7 → (S' z ↔ S z ∨ z = y)) : agF (ior f (p2 y)) t S' := by
  have h1 := p2_lt hy
  refine ⟨or_lt 7 (by omega) h.1 ⟨by omega, by omega⟩, fun z h2 h3 => ?_⟩
  have := h.1
  rw [tb_or (by omega) (by omega), h.2 z h2 h3, tb_p2 hy.1 h2, hS z h2 h3]
theorem agF_c {f t : Int} {S S' : Int → Prop} (h : agF f t S) (hS : ∀ z, 0 ≤ z → z < 7 → (S' z ↔ S z)) : agF f t S' := ⟨h.1, fun z h2 h3 => by rw [h.2 z h2 h3, hS z h2 h3]⟩
theorem lpR_againstI {G : vG} {X : vX} {Q : State → Prop} {w v : RW} {i : Int} {t : Int} (ht : 0 ≤ t ∧ t ≤ 6) (hn : 0 ≤ w 73 2 ∧ w 73 2 ≤ 257) (hx : ∀ i, 0 ≤ i → i < w 73 2 → okR (w 74 i)) (hh : ∀ p, 0 ≤ p → p < 384 → -1 ≤ w 5 p ∧ w 5 p < 6) (hi : 0 ≤ i ∧ i < w 73 2) (F : FX G X cR_against yR_against.cls 9 1) (hu : ∀ j, j ≠ 75 → v j = w j) (K : ∀ (f o : Int) (h : Option RV), agF f t (agS w (i + 1) t) → V G X 9 Q 140 [some (.inr 73), some (.inr 2), some (.inl t), some (.inl f), some (.inl i), some (.inl (w 74 i % 64)), some (.inl (w 74 i % 512 / 64)), some (.inl o), h] [] v) : ∀ (m : Nat) (f o : Int) (h : Option RV), 0 ≤ o → o ≤ 6 → 6 - o < m → agF f t (agI w i t o) → V G X 9 Q 86 [some (.inr 73), some (.inr 2), some (.inl t), some (.inl f), some (.inl i), some (.inl (w 74 i % 64)), some (.inl (w 74 i % 512 / 64)), some (.inl o), h] [] v := by
  obtain ⟨x1, x2, x3, x4, x5⟩ := hx i hi.1 hi.2
  intro m
  induction m with
  | zero => intro f o h h1 h2 h3; omega
  | succ m ih =>
    intro f o h h1 h2 h3 hf
    refine V_iload F dR_against_86 rfl ?_
    refine V_bipush F dR_against_88 (by decide) ?_
    refine V_icmp_ge F 140 dR_against_90 (by decide) (fun h90 => ?_) (fun h90 => ?_)
    · first | (replace h90 := bz_ne0.mp h90) | (replace h90 := bz_eq0.mp h90) | skip
      rw [show o = 6 by omega] at hf
      exact K f _ _ (agF_c hf (fun z _ _ => (agI_6 hi.1).symm))
    · first | (replace h90 := bz_ne0.mp h90) | (replace h90 := bz_eq0.mp h90) | skip
      have hpl := hh (w 74 i % 64 + 64 * o) (by omega) (by omega)
      have s2 := stt_rng 2 (w 74 i % 512 / 64)
      refine V_aload_n (i := 1) F dR_against_93 rfl rfl ?_
      refine V_getrN (ci := 0) (C := R_G) (T := T_G) (N := 5) F dR_against_94 (by first | rfl | assumption) rfl (j := 4) (by decide) rfl lfR_70 ?_
      refine V_iload F dR_against_97 rfl ?_
      refine V_iload F dR_against_99 rfl ?_
      refine V_callSi F dR_against_101 lmR_52 miS_place msS_place (ctS_place (by omega)) (by decide) rfl (Nat.le_of_ble_eq_true rfl) (fun r u hr => ?_)
      obtain ⟨rfl, rfl⟩ := hr
      refine V_iald F dR_against_104 (by first | rfl | assumption) rfl (by omega) ?_
      rw [hu 5 (by decide)]
      
      refine V_istore F dR_against_105 (by decide) (by simp only [List.set_cons_zero, List.set_cons_succ]; exact rfl) ?_
      refine V_iload F dR_against_107 rfl ?_
      refine V_iconst F dR_against_109 (by decide) ?_
      refine V_icmp_eq F 134 dR_against_110 (by decide) (fun h110 => ?_) (fun h110 => ?_)
      · first | (replace h110 := bz_ne0.mp h110) | (replace h110 := bz_eq0.mp h110) | skip
        refine V_iinc F dR_against_134 (by decide) rfl (by omega) (by simp only [List.set_cons_zero, List.set_cons_succ]; exact rfl) ?_
        refine V_goto F 86 dR_against_137 (by decide) ?_
        first
        | exact ih _ (o + 1) _ (by omega) (by omega) (by omega) (agF_or hf (by omega) (fun z _ _ => ⟨fun q => by
            rcases q with q | q | ⟨p, q1, q2, q3, q4⟩
            · exact Or.inl (Or.inl q)
            · exact Or.inl (Or.inr (Or.inl q))
            · by_cases hp : p = o
              · exact Or.inr (by rw [← q3, hp])
              · exact Or.inl (Or.inr (Or.inr ⟨p, q1, by omega, q3, q4⟩)), fun q => by
            rcases q with (q | q | ⟨p, q1, q2, q3, q4⟩) | q
            · exact Or.inl q
            · exact Or.inr (Or.inl q)
            · exact Or.inr (Or.inr ⟨p, q1, by omega, q3, q4⟩)
            · exact Or.inr (Or.inr ⟨o, by omega, by omega, q.symm, h124⟩)⟩))
        | exact ih _ (o + 1) _ (by omega) (by omega) (by omega) (agF_c hf (fun z hz _ => ⟨fun q => by
            rcases q with q | q | ⟨p, q1, q2, q3, q4⟩
            · exact Or.inl q
            · exact Or.inr (Or.inl q)
            · by_cases hp : p = o
              · subst hp
                first
                | exact absurd q4 h124
                | (exfalso; omega)
              · exact Or.inr (Or.inr ⟨p, q1, by omega, q3, q4⟩), fun q => by
            rcases q with q | q | ⟨p, q1, q2, q3, q4⟩
            · exact Or.inl q
            · exact Or.inr (Or.inl q)
            · exact Or.inr (Or.inr ⟨p, q1, by omega, q3, q4⟩)⟩))
      · first | (replace h110 := bz_ne0.mp h110) | (replace h110 := bz_eq0.mp h110) | skip
        refine V_getsN F 2 dR_against_113 (by decide) lfR_67 ?_
        refine V_iload F dR_against_116 rfl ?_
        first
          | refine V_sald F dR_against_118 (by decide) (by omega) (stt_in _ _) ?_
          | refine V_iald F dR_against_118 (by first | rfl | assumption) rfl (by omega) ?_
        refine V_iload F dR_against_119 rfl ?_
        refine V_ishr F _ dR_against_121 rfl ?_
        refine V_iconst F dR_against_122 (by decide) ?_
        refine V_iand F _ dR_against_123 (bit_1 (by omega) (by omega)) ?_
        refine V_if_eq F 134 dR_against_124 (by decide) (fun h124 => ?_) (fun h124 => ?_)
        · first | (replace h124 := bz_ne0.mp h124) | (replace h124 := bz_eq0.mp h124) | skip
          refine V_iinc F dR_against_134 (by decide) rfl (by omega) (by simp only [List.set_cons_zero, List.set_cons_succ]; exact rfl) ?_
          refine V_goto F 86 dR_against_137 (by decide) ?_
          first
          | exact ih _ (o + 1) _ (by omega) (by omega) (by omega) (agF_or hf (by omega) (fun z _ _ => ⟨fun q => by
              rcases q with q | q | ⟨p, q1, q2, q3, q4⟩
              · exact Or.inl (Or.inl q)
              · exact Or.inl (Or.inr (Or.inl q))
              · by_cases hp : p = o
                · exact Or.inr (by rw [← q3, hp])
                · exact Or.inl (Or.inr (Or.inr ⟨p, q1, by omega, q3, q4⟩)), fun q => by
              rcases q with (q | q | ⟨p, q1, q2, q3, q4⟩) | q
              · exact Or.inl q
              · exact Or.inr (Or.inl q)
              · exact Or.inr (Or.inr ⟨p, q1, by omega, q3, q4⟩)
              · exact Or.inr (Or.inr ⟨o, by omega, by omega, q.symm, h124⟩)⟩))
          | exact ih _ (o + 1) _ (by omega) (by omega) (by omega) (agF_c hf (fun z hz _ => ⟨fun q => by
              rcases q with q | q | ⟨p, q1, q2, q3, q4⟩
              · exact Or.inl q
              · exact Or.inr (Or.inl q)
              · by_cases hp : p = o
                · subst hp
                  first
                  | exact absurd q4 h124
                  | (exfalso; omega)
                · exact Or.inr (Or.inr ⟨p, q1, by omega, q3, q4⟩), fun q => by
              rcases q with q | q | ⟨p, q1, q2, q3, q4⟩
              · exact Or.inl q
              · exact Or.inr (Or.inl q)
              · exact Or.inr (Or.inr ⟨p, q1, by omega, q3, q4⟩)⟩))
        · first | (replace h124 := bz_ne0.mp h124) | (replace h124 := bz_eq0.mp h124) | skip
          refine V_iload_n (i := 3) F dR_against_127 rfl rfl ?_
          refine V_iconst F dR_against_128 (by decide) ?_
          refine V_iload F dR_against_129 rfl ?_
          refine V_ishl F _ dR_against_131 (ishl_1 (by omega)) ?_
          refine V_ior F _ dR_against_132 rfl ?_
          refine V_istore_n (i := 3) F dR_against_133 rfl (by decide) (by simp only [List.set_cons_zero, List.set_cons_succ]; exact rfl) ?_
          refine V_iinc F dR_against_134 (by decide) rfl (by omega) (by simp only [List.set_cons_zero, List.set_cons_succ]; exact rfl) ?_
          refine V_goto F 86 dR_against_137 (by decide) ?_
          first
          | exact ih _ (o + 1) _ (by omega) (by omega) (by omega) (agF_or hf (by omega) (fun z _ _ => ⟨fun q => by
              rcases q with q | q | ⟨p, q1, q2, q3, q4⟩
              · exact Or.inl (Or.inl q)
              · exact Or.inl (Or.inr (Or.inl q))
              · by_cases hp : p = o
                · exact Or.inr (by rw [← q3, hp])
                · exact Or.inl (Or.inr (Or.inr ⟨p, q1, by omega, q3, q4⟩)), fun q => by
              rcases q with (q | q | ⟨p, q1, q2, q3, q4⟩) | q
              · exact Or.inl q
              · exact Or.inr (Or.inl q)
              · exact Or.inr (Or.inr ⟨p, q1, by omega, q3, q4⟩)
              · exact Or.inr (Or.inr ⟨o, by omega, by omega, q.symm, h124⟩)⟩))
          | exact ih _ (o + 1) _ (by omega) (by omega) (by omega) (agF_c hf (fun z hz _ => ⟨fun q => by
              rcases q with q | q | ⟨p, q1, q2, q3, q4⟩
              · exact Or.inl q
              · exact Or.inr (Or.inl q)
              · by_cases hp : p = o
                · subst hp
                  first
                  | exact absurd q4 h124
                  | (exfalso; omega)
                · exact Or.inr (Or.inr ⟨p, q1, by omega, q3, q4⟩), fun q => by
              rcases q with q | q | ⟨p, q1, q2, q3, q4⟩
              · exact Or.inl q
              · exact Or.inr (Or.inl q)
              · exact Or.inr (Or.inr ⟨p, q1, by omega, q3, q4⟩)⟩))
theorem lpR_against {G : vG} {X : vX} {Q : State → Prop} {w : RW} {t : Int} (ht : 0 ≤ t ∧ t ≤ 6) (hn : 0 ≤ w 73 2 ∧ w 73 2 ≤ 257) (hx : ∀ i, 0 ≤ i → i < w 73 2 → okR (w 74 i)) (hh : ∀ p, 0 ≤ p → p < 384 → -1 ≤ w 5 p ∧ w 5 p < 6) (F : FX G X cR_against yR_against.cls 9 1) (hR : RetI G X cR_against 9 Q (fun r u => agF r t (agS w (w 73 2) t) ∧ ∀ j, j ≠ 75 → u j = w j)) : ∀ (m : Nat) (i f : Int) (v : RW) (a b c d : Option RV), 0 ≤ i → i ≤ w 73 2 → w 73 2 - i < m → (∀ j, j ≠ 75 → v j = w j) → agC w i (v 75) → agF f t (agS w i t) → V G X 9 Q 13 [some (.inr 73), some (.inr 2), some (.inl t), some (.inl f), some (.inl i), a, b, c, d] [] v := by
  intro m
  induction m with
  | zero => intro i f v a b c d h1 h2 h3; omega
  | succ m ih =>
    intro i f v a b c d h1 h2 h3 hu hc hf
    refine V_iload F dR_against_13 rfl ?_
    refine V_aload_n (i := 0) F dR_against_15 rfl rfl ?_
    refine V_geti (ci := 2) (C := R_R) (T := T_R) (N := 3) F dR_against_16 (by first | rfl | assumption) rfl (j := 2) 2 rfl (by decide) rfl lfR_18 ?_
    rw [hu 73 (by decide)]
    refine V_icmp_ge F 146 dR_against_19 (by decide) (fun h19 => ?_) (fun h19 => ?_)
    · first | (replace h19 := (not_congr (and_0 hcv.1 (by omega))).mp h19) | (replace h19 := (and_0 hcv.1 (by omega)).mp h19) | skip
      refine V_iload_n (i := 3) F dR_against_146 rfl rfl ?_
      exact hR _ _ _ _ dR_against_147 (by rw [show i = w 73 2 by omega] at hf; exact ⟨hf, hu⟩)
    · first | (replace h19 := (not_congr (and_0 hcv.1 (by omega))).mp h19) | (replace h19 := (and_0 hcv.1 (by omega)).mp h19) | skip
      have hin : 0 ≤ i ∧ i < w 73 2 := by omega
      obtain ⟨x1, x2, x3, x4, x5⟩ := hx i hin.1 hin.2
      have hcv := hc (w 74 i % 64) (by omega) (by omega)
      have s2 := stt_rng 2 (w 74 i % 512 / 64)
      have p6 := p2_lt6 (t := w 74 i % 512 / 64) (by omega)
      refine V_aload_n (i := 0) F dR_against_22 rfl rfl ?_
      refine V_getr (ci := 2) (C := R_R) (T := T_R) (N := 3) F dR_against_23 (by first | rfl | assumption) rfl (j := 0) (by decide) rfl lfR_9 ?_
      refine V_iload F dR_against_26 rfl ?_
      refine V_iald F dR_against_28 (by first | rfl | assumption) rfl (by omega) ?_
      rw [hu 74 (by decide)]
      refine V_callSi F dR_against_29 lmR_36 miS_tileOf msS_tileOf (ctS_tileOf (by omega)) (by decide) rfl (Nat.le_of_ble_eq_true rfl) (fun r u hr => ?_)
      obtain ⟨rfl, rfl⟩ := hr
      refine V_istore F dR_against_32 (by decide) (by simp only [List.set_cons_zero, List.set_cons_succ]; exact rfl) ?_
      refine V_aload_n (i := 0) F dR_against_34 rfl rfl ?_
      refine V_getr (ci := 2) (C := R_R) (T := T_R) (N := 3) F dR_against_35 (by first | rfl | assumption) rfl (j := 0) (by decide) rfl lfR_9 ?_
      refine V_iload F dR_against_38 rfl ?_
      refine V_iald F dR_against_40 (by first | rfl | assumption) rfl (by omega) ?_
      rw [hu 74 (by decide)]
      refine V_callSi F dR_against_41 lmR_64 miS_pieceOf msS_pieceOf (ctS_pieceOf (by omega)) (by decide) rfl (Nat.le_of_ble_eq_true rfl) (fun r u hr => ?_)
      obtain ⟨rfl, rfl⟩ := hr
      refine V_istore F dR_against_44 (by decide) (by simp only [List.set_cons_zero, List.set_cons_succ]; exact rfl) ?_
      refine V_aload_n (i := 0) F dR_against_46 rfl rfl ?_
      refine V_getr (ci := 2) (C := R_R) (T := T_R) (N := 3) F dR_against_47 (by first | rfl | assumption) rfl (j := 1) (by decide) rfl lfR_15 ?_
      refine V_iload F dR_against_50 rfl ?_
      first
        | refine V_sald F dR_against_52 (by decide) (by omega) (stt_in _ _) ?_
        | refine V_iald F dR_against_52 (by first | rfl | assumption) rfl (by omega) ?_
      refine V_getsN F 2 dR_against_53 (by decide) lfR_67 ?_
      refine V_iload F dR_against_56 rfl ?_
      first
        | refine V_sald F dR_against_58 (by decide) (by omega) (stt_in _ _) ?_
        | refine V_iald F dR_against_58 (by first | rfl | assumption) rfl (by omega) ?_
      refine V_iand F _ dR_against_59 rfl ?_
      refine V_if_eq F 69 dR_against_60 (by decide) (fun h60 => ?_) (fun h60 => ?_)
      · first | (replace h60 := (not_congr (and_0 hcv.1 (by omega))).mp h60) | (replace h60 := (and_0 hcv.1 (by omega)).mp h60) | skip
        refine V_aload_n (i := 0) F dR_against_69 rfl rfl ?_
        refine V_getr (ci := 2) (C := R_R) (T := T_R) (N := 3) F dR_against_70 (by first | rfl | assumption) rfl (j := 1) (by decide) rfl lfR_15 ?_
        refine V_iload F dR_against_73 rfl ?_
        refine V_dup2 F dR_against_75 ?_
        first
          | refine V_sald F dR_against_76 (by decide) (by omega) (stt_in _ _) ?_
          | refine V_iald F dR_against_76 (by first | rfl | assumption) rfl (by omega) ?_
        refine V_iconst F dR_against_77 (by decide) ?_
        refine V_iload F dR_against_78 rfl ?_
        refine V_ishl F _ dR_against_80 (ishl_1 (by omega)) ?_
        refine V_ior F _ dR_against_81 rfl ?_
        refine V_iast F dR_against_82 (by first | rfl | assumption) rfl (by omega) ?_
        refine V_iconst F dR_against_83 (by decide) ?_
        refine V_istore F dR_against_84 (by decide) (by simp only [List.set_cons_zero, List.set_cons_succ]; exact rfl) ?_
        have hu2 : ∀ j, j ≠ 75 → upw v 75 (w 74 i % 64) (ior (v 75 (w 74 i % 64)) (p2 (w 74 i % 512 / 64))) j = w j := fun j hj => by rw [upw_f hj]; exact hu j hj
        have hc2 : agC w (i + 1) (upw v 75 (w 74 i % 64) (ior (v 75 (w 74 i % 64)) (p2 (w 74 i % 512 / 64))) 75) := by
          intro c c1 c2
          by_cases hce : c = w 74 i % 64
          · subst hce
            rw [upw_s]
            refine ⟨or_lt 6 (by omega) hcv.1 ⟨by omega, by omega⟩, fun p p1 p3 => ?_⟩
            rw [tb_or (by omega) (by omega), hcv.2 p p1 p3, tb_p2 (by omega) p1]
            constructor
            · rintro (⟨j, q1, q2, q3, q4⟩ | q)
              · exact ⟨j, q1, by omega, q3, q4⟩
              · exact ⟨i, by omega, by omega, rfl, q.symm⟩
            · rintro ⟨j, q1, q2, q3, q4⟩
              by_cases hj : j = i
              · subst hj; exact Or.inr q4.symm
              · exact Or.inl ⟨j, q1, by omega, q3, q4⟩
          · rw [upw_i hce]
            refine ⟨(hc c c1 c2).1, fun p p1 p3 => ?_⟩
            rw [(hc c c1 c2).2 p p1 p3]
            constructor
            · rintro ⟨j, q1, q2, q3, q4⟩
              exact ⟨j, q1, by omega, q3, q4⟩
            · rintro ⟨j, q1, q2, q3, q4⟩
              by_cases hj : j = i
              · subst hj; exact absurd q3.symm hce
              · exact ⟨j, q1, by omega, q3, q4⟩
        refine lpR_againstI ht hn hx hh hin F hu2 (fun f2 o2 h2 hf2 => ?_) 7 _ 0 _ (by omega) (by omega) (by omega) ?_
        · refine V_iinc F dR_against_140 (by decide) rfl (by omega) (by simp only [List.set_cons_zero, List.set_cons_succ]; exact rfl) ?_
          refine V_goto F 13 dR_against_143 (by decide) ?_
          exact ih (i + 1) _ _ _ _ _ _ (by omega) (by omega) (by omega) hu2 hc2 hf2
        · first
          | exact agF_or hf (by omega) (fun z _ _ => ⟨fun q => by
              rcases q with q | ⟨q1, q2⟩ | ⟨p, q1, q2, q3, q4⟩
              · exact Or.inl q
              · exact Or.inr q1
              · omega, fun q => by
              rcases q with q | q
              · exact Or.inl q
              · refine Or.inr (Or.inl ⟨q, ?_⟩)
                apply Classical.byContradiction
                intro hno
                refine h60 (fun p p1 p3 hpp => hno ?_)
                obtain ⟨j, j1, j2, j3, j4⟩ := (hcv.2 p p1 p3).mp hpp.1
                exact ⟨j, j1, j2, j3.symm, by rw [j4]; exact hpp.2⟩⟩)
          | exact agF_c hf (fun z _ _ => ⟨fun q => by
              rcases q with q | ⟨q1, j, j1, j2, j3, j4⟩ | ⟨p, q1, q2, q3, q4⟩
              · exact q
              · obtain ⟨y1, y2, y3, y4, y5⟩ := hx j j1 (by omega)
                exact absurd ⟨(hcv.2 _ (by omega) y3).mpr ⟨j, j1, j2, j3.symm, rfl⟩, j4⟩ (h60 (w 74 j % 512 / 64) (by omega) y3)
              · omega, fun q => Or.inl q⟩)
      · first | (replace h60 := (not_congr (and_0 hcv.1 (by omega))).mp h60) | (replace h60 := (and_0 hcv.1 (by omega)).mp h60) | skip
        refine V_iload_n (i := 3) F dR_against_63 rfl rfl ?_
        refine V_iconst F dR_against_64 (by decide) ?_
        refine V_iload_n (i := 2) F dR_against_65 rfl rfl ?_
        refine V_ishl F _ dR_against_66 (ishl_1 (by omega)) ?_
        refine V_ior F _ dR_against_67 rfl ?_
        refine V_istore_n (i := 3) F dR_against_68 rfl (by decide) (by simp only [List.set_cons_zero, List.set_cons_succ]; exact rfl) ?_
        refine V_aload_n (i := 0) F dR_against_69 rfl rfl ?_
        refine V_getr (ci := 2) (C := R_R) (T := T_R) (N := 3) F dR_against_70 (by first | rfl | assumption) rfl (j := 1) (by decide) rfl lfR_15 ?_
        refine V_iload F dR_against_73 rfl ?_
        refine V_dup2 F dR_against_75 ?_
        first
          | refine V_sald F dR_against_76 (by decide) (by omega) (stt_in _ _) ?_
          | refine V_iald F dR_against_76 (by first | rfl | assumption) rfl (by omega) ?_
        refine V_iconst F dR_against_77 (by decide) ?_
        refine V_iload F dR_against_78 rfl ?_
        refine V_ishl F _ dR_against_80 (ishl_1 (by omega)) ?_
        refine V_ior F _ dR_against_81 rfl ?_
        refine V_iast F dR_against_82 (by first | rfl | assumption) rfl (by omega) ?_
        refine V_iconst F dR_against_83 (by decide) ?_
        refine V_istore F dR_against_84 (by decide) (by simp only [List.set_cons_zero, List.set_cons_succ]; exact rfl) ?_
        have hu2 : ∀ j, j ≠ 75 → upw v 75 (w 74 i % 64) (ior (v 75 (w 74 i % 64)) (p2 (w 74 i % 512 / 64))) j = w j := fun j hj => by rw [upw_f hj]; exact hu j hj
        have hc2 : agC w (i + 1) (upw v 75 (w 74 i % 64) (ior (v 75 (w 74 i % 64)) (p2 (w 74 i % 512 / 64))) 75) := by
          intro c c1 c2
          by_cases hce : c = w 74 i % 64
          · subst hce
            rw [upw_s]
            refine ⟨or_lt 6 (by omega) hcv.1 ⟨by omega, by omega⟩, fun p p1 p3 => ?_⟩
            rw [tb_or (by omega) (by omega), hcv.2 p p1 p3, tb_p2 (by omega) p1]
            constructor
            · rintro (⟨j, q1, q2, q3, q4⟩ | q)
              · exact ⟨j, q1, by omega, q3, q4⟩
              · exact ⟨i, by omega, by omega, rfl, q.symm⟩
            · rintro ⟨j, q1, q2, q3, q4⟩
              by_cases hj : j = i
              · subst hj; exact Or.inr q4.symm
              · exact Or.inl ⟨j, q1, by omega, q3, q4⟩
          · rw [upw_i hce]
            refine ⟨(hc c c1 c2).1, fun p p1 p3 => ?_⟩
            rw [(hc c c1 c2).2 p p1 p3]
            constructor
            · rintro ⟨j, q1, q2, q3, q4⟩
              exact ⟨j, q1, by omega, q3, q4⟩
            · rintro ⟨j, q1, q2, q3, q4⟩
              by_cases hj : j = i
              · subst hj; exact absurd q3.symm hce
              · exact ⟨j, q1, by omega, q3, q4⟩
        refine lpR_againstI ht hn hx hh hin F hu2 (fun f2 o2 h2 hf2 => ?_) 7 _ 0 _ (by omega) (by omega) (by omega) ?_
        · refine V_iinc F dR_against_140 (by decide) rfl (by omega) (by simp only [List.set_cons_zero, List.set_cons_succ]; exact rfl) ?_
          refine V_goto F 13 dR_against_143 (by decide) ?_
          exact ih (i + 1) _ _ _ _ _ _ (by omega) (by omega) (by omega) hu2 hc2 hf2
        · first
          | exact agF_or hf (by omega) (fun z _ _ => ⟨fun q => by
              rcases q with q | ⟨q1, q2⟩ | ⟨p, q1, q2, q3, q4⟩
              · exact Or.inl q
              · exact Or.inr q1
              · omega, fun q => by
              rcases q with q | q
              · exact Or.inl q
              · refine Or.inr (Or.inl ⟨q, ?_⟩)
                apply Classical.byContradiction
                intro hno
                refine h60 (fun p p1 p3 hpp => hno ?_)
                obtain ⟨j, j1, j2, j3, j4⟩ := (hcv.2 p p1 p3).mp hpp.1
                exact ⟨j, j1, j2, j3.symm, by rw [j4]; exact hpp.2⟩⟩)
          | exact agF_c hf (fun z _ _ => ⟨fun q => by
              rcases q with q | ⟨q1, j, j1, j2, j3, j4⟩ | ⟨p, q1, q2, q3, q4⟩
              · exact q
              · obtain ⟨y1, y2, y3, y4, y5⟩ := hx j j1 (by omega)
                exact absurd ⟨(hcv.2 _ (by omega) y3).mpr ⟨j, j1, j2, j3.symm, rfl⟩, j4⟩ (h60 (w 74 j % 512 / 64) (by omega) y3)
              · omega, fun q => Or.inl q⟩)
theorem ctR_against {G : vG} {l : Launch} {w : RW} {t : Int} (ht : 0 ≤ t ∧ t ≤ 6) (hn : 0 ≤ w 73 2 ∧ w 73 2 ≤ 257) (hx : ∀ i, 0 ≤ i → i < w 73 2 → okR (w 74 i)) (hh : ∀ p, 0 ≤ p → p < 384 → -1 ≤ w 5 p ∧ w 5 p < 6) : CTi G l yR_against cR_against 9 .int 1 [.inr 73, .inr 2, .inl t] w (fun r u => agF r t (agS w (w 73 2) t) ∧ ∀ j, j ≠ 75 → u j = w j) := by
  refine CTi.int (by decide) (Nat.le_of_ble_eq_true rfl) ?_
  intro X Q F hX hR
  subst hX
  show V G X 9 Q 0 [some (.inr 73), some (.inr 2), some (.inl t), none, none, none, none, none, none] [] w
  refine V_iconst F dR_against_0 (by decide) ?_
  refine V_istore_n (i := 3) F dR_against_1 rfl (by decide) (by simp only [List.set_cons_zero, List.set_cons_succ]; exact rfl) ?_
  refine V_aload_n (i := 0) F dR_against_2 rfl rfl ?_
  refine V_getr (ci := 2) (C := R_R) (T := T_R) (N := 3) F dR_against_3 (by first | rfl | assumption) rfl (j := 1) (by decide) rfl lfR_15 ?_
  refine V_iconst F dR_against_6 (by decide) ?_
  refine V_callSv F dR_against_7 lmR_58 miA_fill msA_fill (ctA_fill (k := 75) (n := 64) rfl (by decide)) (by decide) rfl (Nat.le_of_ble_eq_true rfl) (fun u hr => ?_)
  subst hr
  refine V_iconst F dR_against_10 (by decide) ?_
  refine V_istore F dR_against_11 (by decide) (by simp only [List.set_cons_zero, List.set_cons_succ]; exact rfl) ?_
  exact lpR_against ht hn hx hh F hR ((w 73 2).toNat + 1) 0 0 _ _ _ _ _ (by omega) (by omega) (by omega) (fun j hj => by funext q; simp [flw, hj]) (fun c c1 c2 => by
    have e : flw w 75 (64 : Nat) 0 75 c = 0 := by unfold flw; rw [if_pos ⟨rfl, by omega, by omega⟩]
    rw [e]
    exact ⟨by omega, fun p p1 p3 => ⟨fun q => absurd q (tb_0 p), fun ⟨j, q1, q2, _⟩ => by omega⟩⟩) ⟨by omega, fun z _ _ => ⟨fun q => absurd q (tb_0 z), fun q => by
    rcases q with ⟨_, i, j, q1, q2, q3, _⟩ | ⟨i, o, q1, q2, _⟩ <;> omega⟩⟩
