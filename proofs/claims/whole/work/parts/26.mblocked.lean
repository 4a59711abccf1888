theorem dM_waitsFor_0 : decode cM_waitsFor 0 = .ok (.aload_n 0, 1) := by decide +kernel
theorem dM_waitsFor_1 : decode cM_waitsFor 1 = .ok (.getfield 56, 3) := by decide +kernel
theorem dM_waitsFor_4 : decode cM_waitsFor 4 = .ok (.iload_n 1, 1) := by decide +kernel
theorem dM_waitsFor_5 : decode cM_waitsFor 5 = .ok (.iaload, 1) := by decide +kernel
theorem dM_waitsFor_6 : decode cM_waitsFor 6 = .ok (.ifCond .eq 52, 3) := by decide +kernel
theorem dM_waitsFor_9 : decode cM_waitsFor 9 = .ok (.aload_n 0, 1) := by decide +kernel
theorem dM_waitsFor_10 : decode cM_waitsFor 10 = .ok (.getfield 44, 3) := by decide +kernel
theorem dM_waitsFor_13 : decode cM_waitsFor 13 = .ok (.iload_n 1, 1) := by decide +kernel
theorem dM_waitsFor_14 : decode cM_waitsFor 14 = .ok (.iaload, 1) := by decide +kernel
theorem dM_waitsFor_15 : decode cM_waitsFor 15 = .ok (.ifCond .gt 43, 3) := by decide +kernel
theorem dM_waitsFor_18 : decode cM_waitsFor 18 = .ok (.aload_n 0, 1) := by decide +kernel
theorem dM_waitsFor_19 : decode cM_waitsFor 19 = .ok (.iload_n 1, 1) := by decide +kernel
theorem dM_waitsFor_20 : decode cM_waitsFor 20 = .ok (.invokevirtual 167, 3) := by decide +kernel
theorem dM_waitsFor_23 : decode cM_waitsFor 23 = .ok (.ifCond .ne 35, 3) := by decide +kernel
theorem dM_waitsFor_26 : decode cM_waitsFor 26 = .ok (.aload_n 0, 1) := by decide +kernel
theorem dM_waitsFor_27 : decode cM_waitsFor 27 = .ok (.getfield 41, 3) := by decide +kernel
theorem dM_waitsFor_30 : decode cM_waitsFor 30 = .ok (.iload_n 1, 1) := by decide +kernel
theorem dM_waitsFor_31 : decode cM_waitsFor 31 = .ok (.iaload, 1) := by decide +kernel
theorem dM_waitsFor_32 : decode cM_waitsFor 32 = .ok (.ifCond .gt 26, 3) := by decide +kernel
theorem dM_waitsFor_35 : decode cM_waitsFor 35 = .ok (.aload_n 0, 1) := by decide +kernel
theorem dM_waitsFor_36 : decode cM_waitsFor 36 = .ok (.iload_n 1, 1) := by decide +kernel
theorem dM_waitsFor_37 : decode cM_waitsFor 37 = .ok (.invokevirtual 135, 3) := by decide +kernel
theorem dM_waitsFor_40 : decode cM_waitsFor 40 = .ok (.ifCond .gt 18, 3) := by decide +kernel
theorem dM_waitsFor_43 : decode cM_waitsFor 43 = .ok (.aload_n 0, 1) := by decide +kernel
theorem dM_waitsFor_44 : decode cM_waitsFor 44 = .ok (.iload_n 1, 1) := by decide +kernel
theorem dM_waitsFor_45 : decode cM_waitsFor 45 = .ok (.invokevirtual 170, 3) := by decide +kernel
theorem dM_waitsFor_48 : decode cM_waitsFor 48 = .ok (.ifCond .eq 10, 3) := by decide +kernel
theorem dM_waitsFor_51 : decode cM_waitsFor 51 = .ok (.aload_n 0, 1) := by decide +kernel
theorem dM_waitsFor_52 : decode cM_waitsFor 52 = .ok (.invokevirtual 173, 3) := by decide +kernel
theorem dM_waitsFor_55 : decode cM_waitsFor 55 = .ok (.ifCond .eq 5, 3) := by decide +kernel
theorem dM_waitsFor_58 : decode cM_waitsFor 58 = .ok (.iconst 0, 1) := by decide +kernel
theorem dM_waitsFor_59 : decode cM_waitsFor 59 = .ok (.ireturn, 1) := by decide +kernel
theorem dM_waitsFor_60 : decode cM_waitsFor 60 = .ok (.aload_n 0, 1) := by decide +kernel
theorem dM_waitsFor_61 : decode cM_waitsFor 61 = .ok (.invokevirtual 157, 3) := by decide +kernel
theorem dM_waitsFor_64 : decode cM_waitsFor 64 = .ok (.ifCond .eq 9, 3) := by decide +kernel
theorem dM_waitsFor_67 : decode cM_waitsFor 67 = .ok (.iconst 1, 1) := by decide +kernel
theorem dM_waitsFor_68 : decode cM_waitsFor 68 = .ok (.iload_n 1, 1) := by decide +kernel
theorem dM_waitsFor_69 : decode cM_waitsFor 69 = .ok (.ishl, 1) := by decide +kernel
theorem dM_waitsFor_70 : decode cM_waitsFor 70 = .ok (.goto 4, 3) := by decide +kernel
theorem dM_waitsFor_73 : decode cM_waitsFor 73 = .ok (.iconst 0, 1) := by decide +kernel
theorem dM_waitsFor_74 : decode cM_waitsFor 74 = .ok (.istore_n 2, 1) := by decide +kernel
theorem dM_waitsFor_75 : decode cM_waitsFor 75 = .ok (.iconst 0, 1) := by decide +kernel
theorem dM_waitsFor_76 : decode cM_waitsFor 76 = .ok (.istore_n 3, 1) := by decide +kernel
theorem dM_waitsFor_77 : decode cM_waitsFor 77 = .ok (.iload_n 3, 1) := by decide +kernel
theorem dM_waitsFor_78 : decode cM_waitsFor 78 = .ok (.aload_n 0, 1) := by decide +kernel
theorem dM_waitsFor_79 : decode cM_waitsFor 79 = .ok (.getfield 141, 3) := by decide +kernel
theorem dM_waitsFor_82 : decode cM_waitsFor 82 = .ok (.if_icmp .ge 54, 3) := by decide +kernel
theorem dM_waitsFor_85 : decode cM_waitsFor 85 = .ok (.iconst 0, 1) := by decide +kernel
theorem dM_waitsFor_86 : decode cM_waitsFor 86 = .ok (.istore 4, 2) := by decide +kernel
theorem dM_waitsFor_88 : decode cM_waitsFor 88 = .ok (.iload 4, 2) := by decide +kernel
theorem dM_waitsFor_90 : decode cM_waitsFor 90 = .ok (.aload_n 0, 1) := by decide +kernel
theorem dM_waitsFor_91 : decode cM_waitsFor 91 = .ok (.getfield 147, 3) := by decide +kernel
theorem dM_waitsFor_94 : decode cM_waitsFor 94 = .ok (.if_icmp .ge 36, 3) := by decide +kernel
theorem dM_waitsFor_97 : decode cM_waitsFor 97 = .ok (.iload_n 2, 1) := by decide +kernel
theorem dM_waitsFor_98 : decode cM_waitsFor 98 = .ok (.aload_n 0, 1) := by decide +kernel
theorem dM_waitsFor_99 : decode cM_waitsFor 99 = .ok (.iload_n 3, 1) := by decide +kernel
theorem dM_waitsFor_100 : decode cM_waitsFor 100 = .ok (.aload_n 0, 1) := by decide +kernel
theorem dM_waitsFor_101 : decode cM_waitsFor 101 = .ok (.getfield 62, 3) := by decide +kernel
theorem dM_waitsFor_104 : decode cM_waitsFor 104 = .ok (.iload 4, 2) := by decide +kernel
theorem dM_waitsFor_106 : decode cM_waitsFor 106 = .ok (.iaload, 1) := by decide +kernel
theorem dM_waitsFor_107 : decode cM_waitsFor 107 = .ok (.iconst 2, 1) := by decide +kernel
theorem dM_waitsFor_108 : decode cM_waitsFor 108 = .ok (.idiv, 1) := by decide +kernel
theorem dM_waitsFor_109 : decode cM_waitsFor 109 = .ok (.invokevirtual 144, 3) := by decide +kernel
theorem dM_waitsFor_112 : decode cM_waitsFor 112 = .ok (.ifCond .eq 9, 3) := by decide +kernel
theorem dM_waitsFor_115 : decode cM_waitsFor 115 = .ok (.iconst 1, 1) := by decide +kernel
theorem dM_waitsFor_116 : decode cM_waitsFor 116 = .ok (.iload_n 3, 1) := by decide +kernel
theorem dM_waitsFor_117 : decode cM_waitsFor 117 = .ok (.ishl, 1) := by decide +kernel
theorem dM_waitsFor_118 : decode cM_waitsFor 118 = .ok (.goto 4, 3) := by decide +kernel
theorem dM_waitsFor_121 : decode cM_waitsFor 121 = .ok (.iconst 0, 1) := by decide +kernel
theorem dM_waitsFor_122 : decode cM_waitsFor 122 = .ok (.ior, 1) := by decide +kernel
theorem dM_waitsFor_123 : decode cM_waitsFor 123 = .ok (.istore_n 2, 1) := by decide +kernel
theorem dM_waitsFor_124 : decode cM_waitsFor 124 = .ok (.iinc 4 1, 3) := by decide +kernel
theorem dM_waitsFor_127 : decode cM_waitsFor 127 = .ok (.goto (-39), 3) := by decide +kernel
theorem dM_waitsFor_130 : decode cM_waitsFor 130 = .ok (.iinc 3 1, 3) := by decide +kernel
theorem dM_waitsFor_133 : decode cM_waitsFor 133 = .ok (.goto (-56), 3) := by decide +kernel
theorem dM_waitsFor_136 : decode cM_waitsFor 136 = .ok (.iload_n 2, 1) := by decide +kernel
theorem dM_waitsFor_137 : decode cM_waitsFor 137 = .ok (.ireturn, 1) := by decide +kernel
theorem dM_blocked_0 : decode cM_blocked 0 = .ok (.iconst 0, 1) := by decide +kernel
theorem dM_blocked_1 : decode cM_blocked 1 = .ok (.istore_n 1, 1) := by decide +kernel
theorem dM_blocked_2 : decode cM_blocked 2 = .ok (.iconst 0, 1) := by decide +kernel
theorem dM_blocked_3 : decode cM_blocked 3 = .ok (.istore_n 2, 1) := by decide +kernel
theorem dM_blocked_4 : decode cM_blocked 4 = .ok (.iload_n 2, 1) := by decide +kernel
theorem dM_blocked_5 : decode cM_blocked 5 = .ok (.aload_n 0, 1) := by decide +kernel
theorem dM_blocked_6 : decode cM_blocked 6 = .ok (.getfield 141, 3) := by decide +kernel
theorem dM_blocked_9 : decode cM_blocked 9 = .ok (.if_icmp .ge 27, 3) := by decide +kernel
theorem dM_blocked_12 : decode cM_blocked 12 = .ok (.iload_n 1, 1) := by decide +kernel
theorem dM_blocked_13 : decode cM_blocked 13 = .ok (.aload_n 0, 1) := by decide +kernel
theorem dM_blocked_14 : decode cM_blocked 14 = .ok (.iload_n 2, 1) := by decide +kernel
theorem dM_blocked_15 : decode cM_blocked 15 = .ok (.invokevirtual 213, 3) := by decide +kernel
theorem dM_blocked_18 : decode cM_blocked 18 = .ok (.ifCond .eq 9, 3) := by decide +kernel
theorem dM_blocked_21 : decode cM_blocked 21 = .ok (.iconst 1, 1) := by decide +kernel
theorem dM_blocked_22 : decode cM_blocked 22 = .ok (.iload_n 2, 1) := by decide +kernel
theorem dM_blocked_23 : decode cM_blocked 23 = .ok (.ishl, 1) := by decide +kernel
theorem dM_blocked_24 : decode cM_blocked 24 = .ok (.goto 4, 3) := by decide +kernel
theorem dM_blocked_27 : decode cM_blocked 27 = .ok (.iconst 0, 1) := by decide +kernel
theorem dM_blocked_28 : decode cM_blocked 28 = .ok (.ior, 1) := by decide +kernel
theorem dM_blocked_29 : decode cM_blocked 29 = .ok (.istore_n 1, 1) := by decide +kernel
theorem dM_blocked_30 : decode cM_blocked 30 = .ok (.iinc 2 1, 3) := by decide +kernel
theorem dM_blocked_33 : decode cM_blocked 33 = .ok (.goto (-29), 3) := by decide +kernel
theorem dM_blocked_36 : decode cM_blocked 36 = .ok (.iconst 0, 1) := by decide +kernel
theorem dM_blocked_37 : decode cM_blocked 37 = .ok (.istore_n 2, 1) := by decide +kernel
theorem dM_blocked_38 : decode cM_blocked 38 = .ok (.iload_n 2, 1) := by decide +kernel
theorem dM_blocked_39 : decode cM_blocked 39 = .ok (.bipush 6, 2) := by decide +kernel
theorem dM_blocked_41 : decode cM_blocked 41 = .ok (.if_icmp .ge 50, 3) := by decide +kernel
theorem dM_blocked_44 : decode cM_blocked 44 = .ok (.iconst 0, 1) := by decide +kernel
theorem dM_blocked_45 : decode cM_blocked 45 = .ok (.istore_n 3, 1) := by decide +kernel
theorem dM_blocked_46 : decode cM_blocked 46 = .ok (.iload_n 3, 1) := by decide +kernel
theorem dM_blocked_47 : decode cM_blocked 47 = .ok (.aload_n 0, 1) := by decide +kernel
theorem dM_blocked_48 : decode cM_blocked 48 = .ok (.getfield 141, 3) := by decide +kernel
theorem dM_blocked_51 : decode cM_blocked 51 = .ok (.if_icmp .ge 34, 3) := by decide +kernel
theorem dM_blocked_54 : decode cM_blocked 54 = .ok (.iload_n 1, 1) := by decide +kernel
theorem dM_blocked_55 : decode cM_blocked 55 = .ok (.iload_n 3, 1) := by decide +kernel
theorem dM_blocked_56 : decode cM_blocked 56 = .ok (.ishr, 1) := by decide +kernel
theorem dM_blocked_57 : decode cM_blocked 57 = .ok (.iconst 1, 1) := by decide +kernel
theorem dM_blocked_58 : decode cM_blocked 58 = .ok (.iand, 1) := by decide +kernel
theorem dM_blocked_59 : decode cM_blocked 59 = .ok (.iconst 1, 1) := by decide +kernel
theorem dM_blocked_60 : decode cM_blocked 60 = .ok (.if_icmp .ne 19, 3) := by decide +kernel
theorem dM_blocked_63 : decode cM_blocked 63 = .ok (.aload_n 0, 1) := by decide +kernel
theorem dM_blocked_64 : decode cM_blocked 64 = .ok (.iload_n 3, 1) := by decide +kernel
theorem dM_blocked_65 : decode cM_blocked 65 = .ok (.invokevirtual 213, 3) := by decide +kernel
theorem dM_blocked_68 : decode cM_blocked 68 = .ok (.iload_n 1, 1) := by decide +kernel
theorem dM_blocked_69 : decode cM_blocked 69 = .ok (.iand, 1) := by decide +kernel
theorem dM_blocked_70 : decode cM_blocked 70 = .ok (.ifCond .ne 9, 3) := by decide +kernel
theorem dM_blocked_73 : decode cM_blocked 73 = .ok (.iload_n 1, 1) := by decide +kernel
theorem dM_blocked_74 : decode cM_blocked 74 = .ok (.iconst 1, 1) := by decide +kernel
theorem dM_blocked_75 : decode cM_blocked 75 = .ok (.iload_n 3, 1) := by decide +kernel
theorem dM_blocked_76 : decode cM_blocked 76 = .ok (.ishl, 1) := by decide +kernel
theorem dM_blocked_77 : decode cM_blocked 77 = .ok (.isub, 1) := by decide +kernel
theorem dM_blocked_78 : decode cM_blocked 78 = .ok (.istore_n 1, 1) := by decide +kernel
theorem dM_blocked_79 : decode cM_blocked 79 = .ok (.iinc 3 1, 3) := by decide +kernel
theorem dM_blocked_82 : decode cM_blocked 82 = .ok (.goto (-36), 3) := by decide +kernel
theorem dM_blocked_85 : decode cM_blocked 85 = .ok (.iinc 2 1, 3) := by decide +kernel
theorem dM_blocked_88 : decode cM_blocked 88 = .ok (.goto (-50), 3) := by decide +kernel
theorem dM_blocked_91 : decode cM_blocked 91 = .ok (.iload_n 1, 1) := by decide +kernel
theorem dM_blocked_92 : decode cM_blocked 92 = .ok (.ireturn, 1) := by decide +kernel
theorem lmM_213 : Cond.methodLink R_M 213 yM_waitsFor ∈ bigW := bw 935 (by decide +kernel) rfl
theorem miM_waitsFor : MI yM_waitsFor cM_waitsFor 5 (some .int) 1 := ⟨bw 938 (by decide +kernel) rfl, bw 48 (by decide +kernel) rfl, ⟨by decide +kernel, by decide +kernel⟩, by decide +kernel, by decide⟩
theorem mvM_waitsFor : MV yM_waitsFor := ⟨bw 937 (by decide +kernel) rfl, bw 37 (by decide +kernel) rfl⟩
def bS (f : Int) (S : Int → Prop) : Prop := (0 ≤ f ∧ f < 64) ∧ ∀ z, 0 ≤ z → z < 6 → (tb f z ↔ S z)
theorem bS_c {f : Int} {S S' : Int → Prop} (h : bS f S) (hS : ∀ z, 0 ≤ z → z < 6 → (S' z ↔ S z)) : bS f S' := ⟨h.1, fun z h2 h3 => by rw [h.2 z h2 h3, hS z h2 h3]⟩
theorem bS_or {f y : Int} {S S' : Int → Prop} (h : bS f S) (hy : 0 ≤ y ∧ y < 6) (hS : ∀ z, 0 ≤ z → z < 6 → (S' z ↔ S z ∨ z = y)) : bS (ior f (p2 y)) S' := by
  have h1 := p2_lt6 hy
  have h2 := h.1
  refine ⟨or_lt 6 (by omega) (by simpa using h.1) (by simpa using (⟨by omega, h1.2⟩ : 0 ≤ p2 y ∧ p2 y < 64)) |> (fun q => by simpa using q), fun z z1 z2 => ?_⟩
  rw [tb_or ⟨h2.1, by omega⟩ ⟨by omega, by omega⟩, h.2 z z1 z2, tb_p2 hy.1 z1, hS z z1 z2]
theorem ior_0 {a : Int} (h : 0 ≤ a ∧ a < 2147483648) : ior a 0 = a := by
  rw [ior_nn h.1 (by omega) h.2 (by omega)]
  simp
  omega
theorem bS_0 {S : Int → Prop} (hS : ∀ z, 0 ≤ z → z < 6 → ¬ S z) : bS 0 S := ⟨by omega, fun z z1 z2 => ⟨fun q => absurd q (tb_0 z), fun q => absurd q (hS z z1 z2)⟩⟩
theorem sub_b1 : ∀ a, a < 64 → ∀ t, t < 6 → (Nat.testBit a t = true → 0 ≤ (a : Int) - p2 (t : Int) ∧ (a : Int) - p2 (t : Int) < 64) := by decide +kernel
theorem sub_b2 : ∀ a, a < 64 → ∀ t, t < 6 → ∀ n, n < 6 → (Nat.testBit a t = true → Nat.testBit ((a : Int) - p2 (t : Int)).toNat n = (Nat.testBit a n && !(n == t))) := by decide +kernel
theorem sub_bits {a t : Nat} (ha : a < 64) (ht : t < 6) (h : tb ((a : Nat) : Int) ((t : Nat) : Int)) : 0 ≤ (a : Int) - p2 (t : Int) ∧ (a : Int) - p2 (t : Int) < 64 ∧ ∀ n, n < 6 → (tb ((a : Int) - p2 (t : Int)) ((n : Nat) : Int) ↔ tb (a : Int) (n : Int) ∧ ¬ n = t) := by
  have h1 := sub_b1 a ha t ht h
  refine ⟨h1.1, h1.2, fun n hn => ?_⟩
  have h2 := sub_b2 a ha t ht n hn h
  unfold tb
  rw [show ((n : Nat) : Int).toNat = n from rfl, h2]
  simp
theorem bS_sub {f t : Int} {S S' : Int → Prop} (h : bS f S) (ht : 0 ≤ t ∧ t < 6) (hb : tb f t) (hS : ∀ z, 0 ≤ z → z < 6 → (S' z ↔ S z ∧ ¬ z = t)) : bS (f - p2 t) S' := by
  have h2 := h.1
  have e1 : ((f.toNat : Nat) : Int) = f := by omega
  have e2 : ((t.toNat : Nat) : Int) = t := by omega
  have h3 := sub_bits (a := f.toNat) (t := t.toNat) (by omega) (by omega) (by rw [e1, e2]; exact hb)
  rw [e1, e2] at h3
  refine ⟨⟨h3.1, h3.2.1⟩, fun z z1 z2 => ?_⟩
  have h4 := h3.2.2 z.toNat (by omega)
  rw [show ((z.toNat : Nat) : Int) = z by omega] at h4
  rw [h4, hS z z1 z2, h.2 z z1 z2]
  exact ⟨fun q => ⟨q.1, fun e => q.2 (by omega)⟩, fun q => ⟨q.1, fun e => q.2 (by omega)⟩⟩
def swM (w : RW) (t : Int) : Prop := ¬ w 93 t = 0 ∧ ¬ 0 < w 89 t ∧ ¬ dueM w t ∧ ¬ 0 < w 88 t ∧ ¬ 0 < w 86 t - w 87 t
def wfS (u : RW) (t z : Int) : Prop := (z = t ∧ cxs u) ∨ (z < u 77 10 ∧ ∃ k, 0 ≤ k ∧ k < u 77 21 ∧ brs u z (u 95 k / 2))
def wfM (w u : RW) (t r : Int) : Prop := (¬ swM w t ∧ r = 0 ∧ w = u) ∨ (swM w t ∧ ∃ r1, mqM w u t r1 ∧ ((¬ (r1 = 1 ∧ ¬ canG u) ∧ r = 0) ∨ ((r1 = 1 ∧ ¬ canG u) ∧ bS r (wfS u t))))
def wf1 (u : RW) (t n k z : Int) : Prop := (z = t ∧ cxs u) ∨ (z < n ∧ ∃ k, 0 ≤ k ∧ k < u 77 21 ∧ brs u z (u 95 k / 2)) ∨ (z = n ∧ ∃ j, 0 ≤ j ∧ j < k ∧ brs u z (u 95 j / 2))
theorem lpM_waitsI {G : vG} {X : vX} {Q : State → Prop} {w : RW} {t n : Int} {Post : Int → RW → Prop} (ht : 0 ≤ t ∧ t < 6) (hm : mOK w) (hq : rqOK w) (hn : 0 ≤ n ∧ n < w 77 10) (F : FX G X cM_waitsFor yM_waitsFor.cls 5 6) (K : ∀ f k, bS f (wf1 w t n (w 77 21)) → V G X 5 Q 130 [some (.inr 77), some (.inl t), some (.inl f), some (.inl n), some (.inl k)] [] w) : ∀ (m : Nat) (k f : Int), w 77 21 - k < m → (0 ≤ k) → (k ≤ w 77 21) → (bS f (wf1 w t n k)) → V G X 5 Q 88 [some (.inr 77), some (.inl t), some (.inl f), some (.inl n), some (.inl k)] [] w := by
  have k3 := hm.2.2.1
  have q1 := hq.1
  intro m
  induction m with
  | zero => intro k f hm0 h1 h2 hI; omega
  | succ m ih =>
    intro k f hm0 h1 h2 hI
    refine V_iload F dM_waitsFor_88 rfl ?_
    refine V_aload_n (i := 0) F dM_waitsFor_90 rfl rfl ?_
    refine V_geti (ci := 7) (C := R_M) (T := T_M) (N := 32) F dM_waitsFor_91 (by first | rfl | assumption) rfl (j := 21) 21 rfl (by decide) rfl lfM_147 ?_
    refine V_icmp_ge F 130 dM_waitsFor_94 (by decide) (fun h94 => ?_) (fun h94 => ?_)
    · first | (replace h94 := bz_ne0.mp h94) | (replace h94 := bz_eq0.mp h94) | skip
      exact K f k (by rw [show k = w 77 21 by omega] at hI; exact hI)
    · first | (replace h94 := bz_ne0.mp h94) | (replace h94 := bz_eq0.mp h94) | skip
      have q3 := hq.2 k h1 (by omega)
      have f1 := hI.1
      refine V_iload_n (i := 2) F dM_waitsFor_97 rfl rfl ?_
      refine V_aload_n (i := 0) F dM_waitsFor_98 rfl rfl ?_
      refine V_iload_n (i := 3) F dM_waitsFor_99 rfl rfl ?_
      refine V_aload_n (i := 0) F dM_waitsFor_100 rfl rfl ?_
      refine V_getr (ci := 7) (C := R_M) (T := T_M) (N := 32) F dM_waitsFor_101 (by first | rfl | assumption) rfl (j := 22) (by decide) rfl lfM_62 ?_
      refine V_iload F dM_waitsFor_104 rfl ?_
      first
        | refine V_sald F dM_waitsFor_106 (by decide) (by omega) (stt_in _ _) ?_
        | refine V_iald F dM_waitsFor_106 (by first | rfl | assumption) rfl (by omega) ?_
      refine V_iconst F dM_waitsFor_107 (by decide) ?_
      refine V_idiv F dM_waitsFor_108 (by omega) ?_
      refine V_callVi F dM_waitsFor_109 lmM_144 miM_bars mvM_bars (ctM_bars (by omega) (by omega) hm) (by decide) (by first | rfl | assumption) rfl rfl (Nat.le_of_ble_eq_true rfl) (fun r u hr => ?_)
      obtain ⟨rfl, rfl⟩ := hr
      refine V_if_eq F 121 dM_waitsFor_112 (by decide) (fun h112 => ?_) (fun h112 => ?_)
      · first | (replace h112 := bz_ne0.mp h112) | (replace h112 := bz_eq0.mp h112) | skip
        refine V_iconst F dM_waitsFor_121 (by decide) ?_
        first
        | refine V_ior F _ dM_waitsFor_122 (show ior f (p2 n) = ior f (p2 n) from rfl) ?_
        | refine V_ior F _ dM_waitsFor_122 (ior_0 (by omega)) ?_
        refine V_istore_n (i := 2) F dM_waitsFor_123 rfl (by decide) (by simp only [List.set_cons_zero, List.set_cons_succ]; exact rfl) ?_
        refine V_iinc F dM_waitsFor_124 (by decide) rfl (by omega) (by simp only [List.set_cons_zero, List.set_cons_succ]; exact rfl) ?_
        refine V_goto F 88 dM_waitsFor_127 (by decide) ?_
        first
        | (have hg : brs w n (w 95 k / 2) := h112
           refine ih (k + 1) _ (by omega) (by omega) (by omega) (bS_or hI (by omega) (fun z z1 z2 => ?_))
           unfold wf1
           constructor
           · rintro (a | a | ⟨a, j, j1, j2, j3⟩)
             · exact Or.inl (Or.inl a)
             · exact Or.inl (Or.inr (Or.inl a))
             · exact Or.inr a
           · rintro ((a | a | ⟨a, j, j1, j2, j3⟩) | a)
             · exact Or.inl a
             · exact Or.inr (Or.inl a)
             · exact Or.inr (Or.inr ⟨a, j, j1, by omega, j3⟩)
             · exact Or.inr (Or.inr ⟨a, k, h1, by omega, by rw [a]; exact hg⟩))
        | (have hg : ¬ brs w n (w 95 k / 2) := h112
           refine ih (k + 1) _ (by omega) (by omega) (by omega) (bS_c hI (fun z z1 z2 => ?_))
           unfold wf1
           constructor
           · rintro (a | a | ⟨a, j, j1, j2, j3⟩)
             · exact Or.inl a
             · exact Or.inr (Or.inl a)
             · by_cases e : j = k
               · rw [e, a] at j3; exact absurd j3 hg
               · exact Or.inr (Or.inr ⟨a, j, j1, by omega, j3⟩)
           · rintro (a | a | ⟨a, j, j1, j2, j3⟩)
             · exact Or.inl a
             · exact Or.inr (Or.inl a)
             · exact Or.inr (Or.inr ⟨a, j, j1, by omega, j3⟩))
      · first | (replace h112 := bz_ne0.mp h112) | (replace h112 := bz_eq0.mp h112) | skip
        refine V_iconst F dM_waitsFor_115 (by decide) ?_
        refine V_iload_n (i := 3) F dM_waitsFor_116 rfl rfl ?_
        refine V_ishl F _ dM_waitsFor_117 (ishl_1 (by omega)) ?_
        refine V_goto F 122 dM_waitsFor_118 (by decide) ?_
        first
        | refine V_ior F _ dM_waitsFor_122 (show ior f (p2 n) = ior f (p2 n) from rfl) ?_
        | refine V_ior F _ dM_waitsFor_122 (ior_0 (by omega)) ?_
        refine V_istore_n (i := 2) F dM_waitsFor_123 rfl (by decide) (by simp only [List.set_cons_zero, List.set_cons_succ]; exact rfl) ?_
        refine V_iinc F dM_waitsFor_124 (by decide) rfl (by omega) (by simp only [List.set_cons_zero, List.set_cons_succ]; exact rfl) ?_
        refine V_goto F 88 dM_waitsFor_127 (by decide) ?_
        first
        | (have hg : brs w n (w 95 k / 2) := h112
           refine ih (k + 1) _ (by omega) (by omega) (by omega) (bS_or hI (by omega) (fun z z1 z2 => ?_))
           unfold wf1
           constructor
           · rintro (a | a | ⟨a, j, j1, j2, j3⟩)
             · exact Or.inl (Or.inl a)
             · exact Or.inl (Or.inr (Or.inl a))
             · exact Or.inr a
           · rintro ((a | a | ⟨a, j, j1, j2, j3⟩) | a)
             · exact Or.inl a
             · exact Or.inr (Or.inl a)
             · exact Or.inr (Or.inr ⟨a, j, j1, by omega, j3⟩)
             · exact Or.inr (Or.inr ⟨a, k, h1, by omega, by rw [a]; exact hg⟩))
        | (have hg : ¬ brs w n (w 95 k / 2) := h112
           refine ih (k + 1) _ (by omega) (by omega) (by omega) (bS_c hI (fun z z1 z2 => ?_))
           unfold wf1
           constructor
           · rintro (a | a | ⟨a, j, j1, j2, j3⟩)
             · exact Or.inl a
             · exact Or.inr (Or.inl a)
             · by_cases e : j = k
               · rw [e, a] at j3; exact absurd j3 hg
               · exact Or.inr (Or.inr ⟨a, j, j1, by omega, j3⟩)
           · rintro (a | a | ⟨a, j, j1, j2, j3⟩)
             · exact Or.inl a
             · exact Or.inr (Or.inl a)
             · exact Or.inr (Or.inr ⟨a, j, j1, by omega, j3⟩))
theorem lpM_waits {G : vG} {X : vX} {Q : State → Prop} {w : RW} {t : Int} {Post : Int → RW → Prop} (ht : 0 ≤ t ∧ t < 6) (hm : mOK w) (hq : rqOK w) (F : FX G X cM_waitsFor yM_waitsFor.cls 5 6) (hR : RetI G X cM_waitsFor 5 Q Post) (hp : ∀ r, bS r (wfS w t) → Post r w) : ∀ (m : Nat) (n f : Int) (o : Option RV), w 77 10 - n < m → (0 ≤ n) → (n ≤ w 77 10) → (bS f (wf1 w t n 0)) → V G X 5 Q 77 [some (.inr 77), some (.inl t), some (.inl f), some (.inl n), o] [] w := by
  have k3 := hm.2.2.1
  have q1 := hq.1
  intro m
  induction m with
  | zero => intro n f o hm0 h1 h2 hI; omega
  | succ m ih =>
    intro n f o hm0 h1 h2 hI
    refine V_iload_n (i := 3) F dM_waitsFor_77 rfl rfl ?_
    refine V_aload_n (i := 0) F dM_waitsFor_78 rfl rfl ?_
    refine V_geti (ci := 7) (C := R_M) (T := T_M) (N := 32) F dM_waitsFor_79 (by first | rfl | assumption) rfl (j := 10) 10 rfl (by decide) rfl lfM_141 ?_
    refine V_icmp_ge F 136 dM_waitsFor_82 (by decide) (fun h82 => ?_) (fun h82 => ?_)
    · refine V_iload_n (i := 2) F dM_waitsFor_136 rfl rfl ?_
      exact hR _ _ _ _ dM_waitsFor_137 (hp f (bS_c hI (fun z z1 z2 => by
                    unfold wf1 wfS
                    rw [show n = w 77 10 by omega]
                    constructor
                    · rintro (a | a)
                      · exact Or.inl a
                      · exact Or.inr (Or.inl a)
                    · rintro (a | a | ⟨a, j, j1, j2, j3⟩)
                      · exact Or.inl a
                      · exact Or.inr a
                      · omega)))
    · refine V_iconst F dM_waitsFor_85 (by decide) ?_
      refine V_istore F dM_waitsFor_86 (by decide) (by simp only [List.set_cons_zero, List.set_cons_succ]; exact rfl) ?_
      refine lpM_waitsI (Post := Post) ht hm hq ⟨h1, by omega⟩ F (fun f2 k2 hf2 => ?_) 601 0 f (by omega) (by omega) (by omega) hI
      refine V_iinc F dM_waitsFor_130 (by decide) rfl (by omega) (by simp only [List.set_cons_zero, List.set_cons_succ]; exact rfl) ?_
      refine V_goto F 77 dM_waitsFor_133 (by decide) ?_
      refine ih (n + 1) _ _ (by omega) (by omega) (by omega) (bS_c hf2 (fun z z1 z2 => ?_))
      unfold wf1
      constructor
      · rintro (a | ⟨a, b⟩ | ⟨a, j, j1, j2, j3⟩)
        · exact Or.inl a
        · by_cases e : z = n
          · exact Or.inr (Or.inr ⟨e, b⟩)
          · exact Or.inr (Or.inl ⟨by omega, b⟩)
        · omega
      · rintro (a | ⟨a, b⟩ | ⟨a, b⟩)
        · exact Or.inl a
        · exact Or.inr (Or.inl ⟨by omega, b⟩)
        · exact Or.inr (Or.inl ⟨by omega, b⟩)
theorem ctM_waitsFor {G : vG} {l : Launch} {w : RW} {t : Int} (ht : 0 ≤ t ∧ t < 6) (hm : mOK w) (h1 : 1 ≤ w 87 t) (hk : kOK w) : CTi G l yM_waitsFor cM_waitsFor 5 .int 6 [.inr 77, .inl t] w (fun r u => wfM w u t r) := by
  refine CTi.int (by decide) (Nat.le_of_ble_eq_true rfl) ?_
  intro X Q F hX hR
  subst hX
  show V G X 5 Q 0 [some (.inr 77), some (.inl t), none, none, none] [] w
  have k5 := hm.2.2.2.2.1 t ht.1 ht.2
  refine V_aload_n (i := 0) F dM_waitsFor_0 rfl rfl ?_
  refine V_getr (ci := 7) (C := R_M) (T := T_M) (N := 32) F dM_waitsFor_1 (by first | rfl | assumption) rfl (j := 19) (by decide) rfl lfM_56 ?_
  refine V_iload_n (i := 1) F dM_waitsFor_4 rfl rfl ?_
  first
    | refine V_sald F dM_waitsFor_5 (by decide) (by omega) (stt_in _ _) ?_
    | refine V_iald F dM_waitsFor_5 (by first | rfl | assumption) rfl (by omega) ?_
  refine V_if_eq F 58 dM_waitsFor_6 (by decide) (fun h6 => ?_) (fun h6 => ?_)
  · first | (replace h6 := bz_ne0.mp h6) | (replace h6 := bz_eq0.mp h6) | skip
    refine V_iconst F dM_waitsFor_58 (by decide) ?_
    exact hR _ _ _ _ dM_waitsFor_59 (by
                  first
                  | exact Or.inr ⟨⟨h6, by omega, h23, by omega, by omega⟩, r1, hr1, Or.inl ⟨fun z => z.2 h55, rfl⟩⟩
                  | exact Or.inr ⟨⟨h6, by omega, h23, by omega, by omega⟩, r1, hr1, Or.inl ⟨fun z => by omega, rfl⟩⟩
                  | exact Or.inl ⟨fun z => z.2.2.1 h23, rfl, rfl⟩
                  | exact Or.inl ⟨fun z => by have a := z.1; have b := z.2.1; have c := z.2.2.2.1; have d := z.2.2.2.2; omega, rfl, rfl⟩)
  · first | (replace h6 := bz_ne0.mp h6) | (replace h6 := bz_eq0.mp h6) | skip
    refine V_aload_n (i := 0) F dM_waitsFor_9 rfl rfl ?_
    refine V_getr (ci := 7) (C := R_M) (T := T_M) (N := 32) F dM_waitsFor_10 (by first | rfl | assumption) rfl (j := 15) (by decide) rfl lfM_44 ?_
    refine V_iload_n (i := 1) F dM_waitsFor_13 rfl rfl ?_
    first
      | refine V_sald F dM_waitsFor_14 (by decide) (by omega) (stt_in _ _) ?_
      | refine V_iald F dM_waitsFor_14 (by first | rfl | assumption) rfl (by omega) ?_
    refine V_if_gt F 58 dM_waitsFor_15 (by decide) (fun h15 => ?_) (fun h15 => ?_)
    · first | (replace h15 := bz_ne0.mp h15) | (replace h15 := bz_eq0.mp h15) | skip
      refine V_iconst F dM_waitsFor_58 (by decide) ?_
      exact hR _ _ _ _ dM_waitsFor_59 (by
                    first
                    | exact Or.inr ⟨⟨h6, by omega, h23, by omega, by omega⟩, r1, hr1, Or.inl ⟨fun z => z.2 h55, rfl⟩⟩
                    | exact Or.inr ⟨⟨h6, by omega, h23, by omega, by omega⟩, r1, hr1, Or.inl ⟨fun z => by omega, rfl⟩⟩
                    | exact Or.inl ⟨fun z => z.2.2.1 h23, rfl, rfl⟩
                    | exact Or.inl ⟨fun z => by have a := z.1; have b := z.2.1; have c := z.2.2.2.1; have d := z.2.2.2.2; omega, rfl, rfl⟩)
    · first | (replace h15 := bz_ne0.mp h15) | (replace h15 := bz_eq0.mp h15) | skip
      refine V_aload_n (i := 0) F dM_waitsFor_18 rfl rfl ?_
      refine V_iload_n (i := 1) F dM_waitsFor_19 rfl rfl ?_
      refine V_callVi F dM_waitsFor_20 lmM_167 miM_due mvM_due (ctM_due ht hm (by omega)) (by decide) (by first | rfl | assumption) rfl rfl (Nat.le_of_ble_eq_true rfl) (fun r u hr => ?_)
      obtain ⟨rfl, rfl⟩ := hr
      refine V_if_ne F 58 dM_waitsFor_23 (by decide) (fun h23 => ?_) (fun h23 => ?_)
      · first | (replace h23 := bz_ne0.mp h23) | (replace h23 := bz_eq0.mp h23) | skip
        refine V_iconst F dM_waitsFor_58 (by decide) ?_
        exact hR _ _ _ _ dM_waitsFor_59 (by
                      first
                      | exact Or.inr ⟨⟨h6, by omega, h23, by omega, by omega⟩, r1, hr1, Or.inl ⟨fun z => z.2 h55, rfl⟩⟩
                      | exact Or.inr ⟨⟨h6, by omega, h23, by omega, by omega⟩, r1, hr1, Or.inl ⟨fun z => by omega, rfl⟩⟩
                      | exact Or.inl ⟨fun z => z.2.2.1 h23, rfl, rfl⟩
                      | exact Or.inl ⟨fun z => by have a := z.1; have b := z.2.1; have c := z.2.2.2.1; have d := z.2.2.2.2; omega, rfl, rfl⟩)
      · first | (replace h23 := bz_ne0.mp h23) | (replace h23 := bz_eq0.mp h23) | skip
        refine V_aload_n (i := 0) F dM_waitsFor_26 rfl rfl ?_
        refine V_getr (ci := 7) (C := R_M) (T := T_M) (N := 32) F dM_waitsFor_27 (by first | rfl | assumption) rfl (j := 14) (by decide) rfl lfM_41 ?_
        refine V_iload_n (i := 1) F dM_waitsFor_30 rfl rfl ?_
        first
          | refine V_sald F dM_waitsFor_31 (by decide) (by omega) (stt_in _ _) ?_
          | refine V_iald F dM_waitsFor_31 (by first | rfl | assumption) rfl (by omega) ?_
        refine V_if_gt F 58 dM_waitsFor_32 (by decide) (fun h32 => ?_) (fun h32 => ?_)
        · first | (replace h32 := bz_ne0.mp h32) | (replace h32 := bz_eq0.mp h32) | skip
          refine V_iconst F dM_waitsFor_58 (by decide) ?_
          exact hR _ _ _ _ dM_waitsFor_59 (by
                        first
                        | exact Or.inr ⟨⟨h6, by omega, h23, by omega, by omega⟩, r1, hr1, Or.inl ⟨fun z => z.2 h55, rfl⟩⟩
                        | exact Or.inr ⟨⟨h6, by omega, h23, by omega, by omega⟩, r1, hr1, Or.inl ⟨fun z => by omega, rfl⟩⟩
                        | exact Or.inl ⟨fun z => z.2.2.1 h23, rfl, rfl⟩
                        | exact Or.inl ⟨fun z => by have a := z.1; have b := z.2.1; have c := z.2.2.2.1; have d := z.2.2.2.2; omega, rfl, rfl⟩)
        · first | (replace h32 := bz_ne0.mp h32) | (replace h32 := bz_eq0.mp h32) | skip
          refine V_aload_n (i := 0) F dM_waitsFor_35 rfl rfl ?_
          refine V_iload_n (i := 1) F dM_waitsFor_36 rfl rfl ?_
          refine V_callVi F dM_waitsFor_37 lmM_135 miM_ahead mvM_ahead (ctM_ahead ht hm) (by decide) (by first | rfl | assumption) rfl rfl (Nat.le_of_ble_eq_true rfl) (fun r u hr => ?_)
          obtain ⟨rfl, rfl⟩ := hr
          refine V_if_gt F 58 dM_waitsFor_40 (by decide) (fun h40 => ?_) (fun h40 => ?_)
          · first | (replace h40 := bz_ne0.mp h40) | (replace h40 := bz_eq0.mp h40) | skip
            refine V_iconst F dM_waitsFor_58 (by decide) ?_
            exact hR _ _ _ _ dM_waitsFor_59 (by
                          first
                          | exact Or.inr ⟨⟨h6, by omega, h23, by omega, by omega⟩, r1, hr1, Or.inl ⟨fun z => z.2 h55, rfl⟩⟩
                          | exact Or.inr ⟨⟨h6, by omega, h23, by omega, by omega⟩, r1, hr1, Or.inl ⟨fun z => by omega, rfl⟩⟩
                          | exact Or.inl ⟨fun z => z.2.2.1 h23, rfl, rfl⟩
                          | exact Or.inl ⟨fun z => by have a := z.1; have b := z.2.1; have c := z.2.2.2.1; have d := z.2.2.2.2; omega, rfl, rfl⟩)
          · first | (replace h40 := bz_ne0.mp h40) | (replace h40 := bz_eq0.mp h40) | skip
            refine V_aload_n (i := 0) F dM_waitsFor_43 rfl rfl ?_
            refine V_iload_n (i := 1) F dM_waitsFor_44 rfl rfl ?_
            refine V_callVi F dM_waitsFor_45 lmM_170 miM_makeRequest mvM_makeRequest (ctM_makeRequest ht hm (by omega) hk) (by decide) (by first | rfl | assumption) rfl rfl (Nat.le_of_ble_eq_true rfl) (fun r1 u1 hr1 => ?_)
            have hfr := mqM_frame hm ht hk hr1
            have hm1 := mOK_c hfr.1 hfr.2.1 hm
            have hr01 : r1 = 0 ∨ r1 = 1 := by obtain ⟨_, _, _, _, _, h | h⟩ := hr1
                                              · exact Or.inr h.1
                                              · exact Or.inl h.1
            refine V_if_eq F 58 dM_waitsFor_48 (by decide) (fun h48 => ?_) (fun h48 => ?_)
            · first | (replace h48 := bz_ne0.mp h48) | (replace h48 := bz_eq0.mp h48) | skip
              refine V_iconst F dM_waitsFor_58 (by decide) ?_
              exact hR _ _ _ _ dM_waitsFor_59 (by
                            first
                            | exact Or.inr ⟨⟨h6, by omega, h23, by omega, by omega⟩, r1, hr1, Or.inl ⟨fun z => z.2 h55, rfl⟩⟩
                            | exact Or.inr ⟨⟨h6, by omega, h23, by omega, by omega⟩, r1, hr1, Or.inl ⟨fun z => by omega, rfl⟩⟩
                            | exact Or.inl ⟨fun z => z.2.2.1 h23, rfl, rfl⟩
                            | exact Or.inl ⟨fun z => by have a := z.1; have b := z.2.1; have c := z.2.2.2.1; have d := z.2.2.2.2; omega, rfl, rfl⟩)
            · first | (replace h48 := bz_ne0.mp h48) | (replace h48 := bz_eq0.mp h48) | skip
              refine V_aload_n (i := 0) F dM_waitsFor_51 rfl rfl ?_
              refine V_callVi F dM_waitsFor_52 lmM_173 miM_canGrant mvM_canGrant (ctM_canGrant hm1 hfr.2.2.2) (by decide) (by first | rfl | assumption) rfl rfl (Nat.le_of_ble_eq_true rfl) (fun r u hr => ?_)
              obtain ⟨rfl, rfl⟩ := hr
              refine V_if_eq F 60 dM_waitsFor_55 (by decide) (fun h55 => ?_) (fun h55 => ?_)
              · first | (replace h55 := bz_ne0.mp h55) | (replace h55 := bz_eq0.mp h55) | skip
                refine V_aload_n (i := 0) F dM_waitsFor_60 rfl rfl ?_
                refine V_callVi F dM_waitsFor_61 lmM_157 miM_crossesItself mvM_crossesItself (ctM_crossesItself hfr.2.2.2) (by decide) (by first | rfl | assumption) rfl rfl (Nat.le_of_ble_eq_true rfl) (fun r u hr => ?_)
                obtain ⟨rfl, rfl⟩ := hr
                refine V_if_eq F 73 dM_waitsFor_64 (by decide) (fun h64 => ?_) (fun h64 => ?_)
                · first | (replace h64 := bz_ne0.mp h64) | (replace h64 := bz_eq0.mp h64) | skip
                  refine V_iconst F dM_waitsFor_73 (by decide) ?_
                  refine V_istore_n (i := 2) F dM_waitsFor_74 rfl (by decide) (by simp only [List.set_cons_zero, List.set_cons_succ]; exact rfl) ?_
                  refine V_iconst F dM_waitsFor_75 (by decide) ?_
                  refine V_istore_n (i := 3) F dM_waitsFor_76 rfl (by decide) (by simp only [List.set_cons_zero, List.set_cons_succ]; exact rfl) ?_
                  have k3 := hm1.2.2.1
                  have hsw : swM w t := ⟨h6, by omega, h23, by omega, by omega⟩
                  have hr11 : r1 = 1 := by omega
                  refine lpM_waits ht hm1 hfr.2.2.2 F hR (fun r hr => Or.inr ⟨hsw, r1, hr1, Or.inr ⟨⟨hr11, h55⟩, hr⟩⟩) 7 0 _ none (by omega) (by omega) (by omega) ?_
                  first
                  | (have hg : cxs u1 := h64
                     have hpt := p2_lt6 ht
                     refine ⟨by omega, fun z z1 z2 => ?_⟩
                     rw [tb_p2 ht.1 z1]
                     unfold wf1
                     constructor
                     · exact fun a => Or.inl ⟨a, hg⟩
                     · rintro (a | ⟨a, _⟩ | ⟨a, j, j1, j2, _⟩)
                       · exact a.1
                       · omega
                       · omega)
                  | (have hg : ¬ cxs u1 := h64
                     refine bS_0 (fun z z1 z2 => ?_)
                     rintro (a | ⟨a, _⟩ | ⟨a, j, j1, j2, _⟩)
                     · exact hg a.2
                     · omega
                     · omega)
                · first | (replace h64 := bz_ne0.mp h64) | (replace h64 := bz_eq0.mp h64) | skip
                  refine V_iconst F dM_waitsFor_67 (by decide) ?_
                  refine V_iload_n (i := 1) F dM_waitsFor_68 rfl rfl ?_
                  refine V_ishl F _ dM_waitsFor_69 (ishl_1 (by omega)) ?_
                  refine V_goto F 74 dM_waitsFor_70 (by decide) ?_
                  refine V_istore_n (i := 2) F dM_waitsFor_74 rfl (by decide) (by simp only [List.set_cons_zero, List.set_cons_succ]; exact rfl) ?_
                  refine V_iconst F dM_waitsFor_75 (by decide) ?_
                  refine V_istore_n (i := 3) F dM_waitsFor_76 rfl (by decide) (by simp only [List.set_cons_zero, List.set_cons_succ]; exact rfl) ?_
                  have k3 := hm1.2.2.1
                  have hsw : swM w t := ⟨h6, by omega, h23, by omega, by omega⟩
                  have hr11 : r1 = 1 := by omega
                  refine lpM_waits ht hm1 hfr.2.2.2 F hR (fun r hr => Or.inr ⟨hsw, r1, hr1, Or.inr ⟨⟨hr11, h55⟩, hr⟩⟩) 7 0 _ none (by omega) (by omega) (by omega) ?_
                  first
                  | (have hg : cxs u1 := h64
                     have hpt := p2_lt6 ht
                     refine ⟨by omega, fun z z1 z2 => ?_⟩
                     rw [tb_p2 ht.1 z1]
                     unfold wf1
                     constructor
                     · exact fun a => Or.inl ⟨a, hg⟩
                     · rintro (a | ⟨a, _⟩ | ⟨a, j, j1, j2, _⟩)
                       · exact a.1
                       · omega
                       · omega)
                  | (have hg : ¬ cxs u1 := h64
                     refine bS_0 (fun z z1 z2 => ?_)
                     rintro (a | ⟨a, _⟩ | ⟨a, j, j1, j2, _⟩)
                     · exact hg a.2
                     · omega
                     · omega)
              · first | (replace h55 := bz_ne0.mp h55) | (replace h55 := bz_eq0.mp h55) | skip
                refine V_iconst F dM_waitsFor_58 (by decide) ?_
                exact hR _ _ _ _ dM_waitsFor_59 (by
                              first
                              | exact Or.inr ⟨⟨h6, by omega, h23, by omega, by omega⟩, r1, hr1, Or.inl ⟨fun z => z.2 h55, rfl⟩⟩
                              | exact Or.inr ⟨⟨h6, by omega, h23, by omega, by omega⟩, r1, hr1, Or.inl ⟨fun z => by omega, rfl⟩⟩
                              | exact Or.inl ⟨fun z => z.2.2.1 h23, rfl, rfl⟩
                              | exact Or.inl ⟨fun z => by have a := z.1; have b := z.2.1; have c := z.2.2.2.1; have d := z.2.2.2.2; omega, rfl, rfl⟩)
def frC (w v : RW) : Prop := (∀ j, j ≠ 77 → j ≠ 83 → j ≠ 84 → j ≠ 95 → v j = w j) ∧ ∀ f, f ≠ 21 → v 77 f = w 77 f
theorem frC_refl (w : RW) : frC w w := ⟨fun _ _ _ _ _ => rfl, fun _ _ => rfl⟩
theorem frC_trans {w v u : RW} (h : frC w v) (h2 : frC v u) : frC w u := ⟨fun j a b c d => by rw [h2.1 j a b c d, h.1 j a b c d], fun f hf => by rw [h2.2 f hf, h.2 f hf]⟩
theorem wfM_frame {w u : RW} {t r : Int} (hm : mOK w) (ht : 0 ≤ t ∧ t < 6) (hk : kOK w) (h : wfM w u t r) : frC w u ∧ kOK u := by
  rcases h with ⟨_, _, rfl⟩ | ⟨_, r1, h, _⟩
  · exact ⟨frC_refl _, hk⟩
  · have := mqM_frame hm ht hk h
    exact ⟨⟨this.1, this.2.1⟩, this.2.2.1⟩
def pst (W : Int → Int → Prop) (S : Int → Prop) (t : Int) : Int → Prop := fun z => S z ∧ ¬ (z = t ∧ ∀ y, 0 ≤ y → y < 6 → ¬ (W t y ∧ S y))
def pss (W : Int → Int → Prop) (S : Int → Prop) : Nat → Int → Prop
  | 0 => S
  | n + 1 => pst W (pss W S n) n
def prn (W : Int → Int → Prop) (n : Nat) (S : Int → Prop) : Nat → Int → Prop
  | 0 => S
  | k + 1 => pss W (prn W n S k) n
def bl0 (F : Int → Int) (n : Int) : Int → Prop := fun z => z < n ∧ ¬ F z = 0
def blH (w : RW) (f : Int → Int) : Prop := (∀ t, 0 ≤ t → t < w 77 10 → 0 ≤ f t ∧ f t < 64) ∧ ∀ v u t r, frC w v → mOK v → kOK v → 0 ≤ t → t < w 77 10 → wfM v u t r → r = f t
theorem lpM_blI {G : vG} {X : vX} {Q : State → Prop} {w : RW} {f : Int → Int} (hm : mOK w) (hs : ∀ t, 0 ≤ t → t < w 77 10 → 1 ≤ w 87 t) (hH : blH w f) {rd : Int} (F : FX G X cM_blocked yM_blocked.cls 4 7) {S : Int → Prop} (K : ∀ (a b : Int) (v : RW), frC w v → kOK v → bS a (pss (fun t y => tb (f t) y) S (w 77 10).toNat) → V G X 4 Q 85 [some (.inr 77), some (.inl a), some (.inl rd), some (.inl b)] [] v) : ∀ (m : Nat) (i a : Int) (v : RW), w 77 10 - i < m → (0 ≤ i) → (i ≤ w 77 10) → (frC w v) → (kOK v) → (bS a (pss (fun t y => tb (f t) y) S i.toNat)) → V G X 4 Q 46 [some (.inr 77), some (.inl a), some (.inl rd), some (.inl i)] [] v := by
  have k3 := hm.2.2.1
  intro m
  induction m with
  | zero => intro i a v hm0 h1 h2 hv hk hI; omega
  | succ m ih =>
    intro i a v hm0 h1 h2 hv hk hI
    have hmv : mOK v := mOK_c hv.1 hv.2 hm
    have e10 := hv.2 10 (by decide)
    have e87 := hv.1 87 (by decide) (by decide) (by decide) (by decide)
    have a1 := hI.1
    refine V_iload_n (i := 3) F dM_blocked_46 rfl rfl ?_
    refine V_aload_n (i := 0) F dM_blocked_47 rfl rfl ?_
    refine V_geti (ci := 7) (C := R_M) (T := T_M) (N := 32) F dM_blocked_48 (by first | rfl | assumption) rfl (j := 10) 10 rfl (by decide) rfl lfM_141 ?_
    refine V_icmp_ge F 85 dM_blocked_51 (by decide) (fun h51 => ?_) (fun h51 => ?_)
    · exact K a i v hv hk (by rw [show w 77 10 = i by omega]; exact hI)
    · refine V_iload_n (i := 1) F dM_blocked_54 rfl rfl ?_
      refine V_iload_n (i := 3) F dM_blocked_55 rfl rfl ?_
      refine V_ishr F _ dM_blocked_56 rfl ?_
      refine V_iconst F dM_blocked_57 (by decide) ?_
      refine V_iand F _ dM_blocked_58 (bit_1 (by omega) (by omega)) ?_
      refine V_iconst F dM_blocked_59 (by decide) ?_
      refine V_icmp_ne F 79 dM_blocked_60 (by decide) (fun h60 => ?_) (fun h60 => ?_)
      · refine V_iinc F dM_blocked_79 (by decide) rfl (by omega) (by simp only [List.set_cons_zero, List.set_cons_succ]; exact rfl) ?_
        refine V_goto F 46 dM_blocked_82 (by decide) ?_
        have en : (i + 1).toNat = i.toNat + 1 := by omega
        have ei : ((i.toNat : Nat) : Int) = i := by omega
        first
        | (have hg : iand (f i) a = 0 := h70
           have hb : tb a i := bz_eq1.mp h60
           refine ih (i + 1) _ u (by omega) (by omega) (by omega) (frC_trans hv hf.1) hf.2 ?_
           rw [en]
           refine bS_sub hI (by omega) hb (fun z z1 z2 => ?_)
           show _ ∧ ¬ (z = ((i.toNat : Nat) : Int) ∧ _) ↔ _
           rw [ei]
           have hz := (and_0 hfi hI.1.1).mp hg
           exact ⟨fun q => ⟨q.1, fun e => q.2 ⟨e, fun y y1 y2 y3 => hz y y1 y2 ⟨y3.1, (hI.2 y y1 y2).mpr y3.2⟩⟩⟩, fun q => ⟨q.1, fun e => q.2 e.1⟩⟩)
        | (have hg : ¬ iand (f i) a = 0 := h70
           refine ih (i + 1) _ u (by omega) (by omega) (by omega) (frC_trans hv hf.1) hf.2 ?_
           rw [en]
           refine bS_c hI (fun z z1 z2 => ?_)
           show _ ∧ ¬ (z = ((i.toNat : Nat) : Int) ∧ _) ↔ _
           rw [ei]
           have hz : ¬ ∀ n, 0 ≤ n → n < 6 → ¬ (tb (f i) n ∧ tb a n) := fun q => hg ((and_0 hfi hI.1.1).mpr q)
           exact ⟨fun q => q.1, fun q => ⟨q, fun e => hz (fun y y1 y2 y3 => e.2 y y1 y2 ⟨y3.1, (hI.2 y y1 y2).mp y3.2⟩)⟩⟩)
        | (have hb : ¬ tb a i := fun q => h60 (bz_eq1.mpr q)
           refine ih (i + 1) _ v (by omega) (by omega) (by omega) hv hk ?_
           rw [en]
           refine bS_c hI (fun z z1 z2 => ?_)
           show _ ∧ ¬ (z = ((i.toNat : Nat) : Int) ∧ _) ↔ _
           rw [ei]
           exact ⟨fun q => q.1, fun q => ⟨q, fun e => hb (by rw [← e.1]; exact (hI.2 z z1 z2).mpr q)⟩⟩)
      · refine V_aload_n (i := 0) F dM_blocked_63 rfl rfl ?_
        refine V_iload_n (i := 3) F dM_blocked_64 rfl rfl ?_
        refine V_callVi F dM_blocked_65 lmM_213 miM_waitsFor mvM_waitsFor (ctM_waitsFor (w := v) (by omega) hmv (by rw [e87]; exact hs i h1 (by omega)) hk) (by decide) (by first | rfl | assumption) rfl rfl (Nat.le_of_ble_eq_true rfl) (fun r u hr => ?_)
        have hf := wfM_frame hmv ⟨h1, by omega⟩ hk hr
        have hre := hH.2 v u i r hv hmv hk h1 (by omega) hr
        subst hre
        have hfi := hH.1 i h1 (by omega)
        refine V_iload_n (i := 1) F dM_blocked_68 rfl rfl ?_
        refine V_iand F _ dM_blocked_69 rfl ?_
        refine V_if_ne F 79 dM_blocked_70 (by decide) (fun h70 => ?_) (fun h70 => ?_)
        · refine V_iinc F dM_blocked_79 (by decide) rfl (by omega) (by simp only [List.set_cons_zero, List.set_cons_succ]; exact rfl) ?_
          refine V_goto F 46 dM_blocked_82 (by decide) ?_
          have en : (i + 1).toNat = i.toNat + 1 := by omega
          have ei : ((i.toNat : Nat) : Int) = i := by omega
          first
          | (have hg : iand (f i) a = 0 := h70
             have hb : tb a i := bz_eq1.mp h60
             refine ih (i + 1) _ u (by omega) (by omega) (by omega) (frC_trans hv hf.1) hf.2 ?_
             rw [en]
             refine bS_sub hI (by omega) hb (fun z z1 z2 => ?_)
             show _ ∧ ¬ (z = ((i.toNat : Nat) : Int) ∧ _) ↔ _
             rw [ei]
             have hz := (and_0 hfi hI.1.1).mp hg
             exact ⟨fun q => ⟨q.1, fun e => q.2 ⟨e, fun y y1 y2 y3 => hz y y1 y2 ⟨y3.1, (hI.2 y y1 y2).mpr y3.2⟩⟩⟩, fun q => ⟨q.1, fun e => q.2 e.1⟩⟩)
          | (have hg : ¬ iand (f i) a = 0 := h70
             refine ih (i + 1) _ u (by omega) (by omega) (by omega) (frC_trans hv hf.1) hf.2 ?_
             rw [en]
             refine bS_c hI (fun z z1 z2 => ?_)
             show _ ∧ ¬ (z = ((i.toNat : Nat) : Int) ∧ _) ↔ _
             rw [ei]
             have hz : ¬ ∀ n, 0 ≤ n → n < 6 → ¬ (tb (f i) n ∧ tb a n) := fun q => hg ((and_0 hfi hI.1.1).mpr q)
             exact ⟨fun q => q.1, fun q => ⟨q, fun e => hz (fun y y1 y2 y3 => e.2 y y1 y2 ⟨y3.1, (hI.2 y y1 y2).mp y3.2⟩)⟩⟩)
          | (have hb : ¬ tb a i := fun q => h60 (bz_eq1.mpr q)
             refine ih (i + 1) _ v (by omega) (by omega) (by omega) hv hk ?_
             rw [en]
             refine bS_c hI (fun z z1 z2 => ?_)
             show _ ∧ ¬ (z = ((i.toNat : Nat) : Int) ∧ _) ↔ _
             rw [ei]
             exact ⟨fun q => q.1, fun q => ⟨q, fun e => hb (by rw [← e.1]; exact (hI.2 z z1 z2).mpr q)⟩⟩)
        · refine V_iload_n (i := 1) F dM_blocked_73 rfl rfl ?_
          refine V_iconst F dM_blocked_74 (by decide) ?_
          refine V_iload_n (i := 3) F dM_blocked_75 rfl rfl ?_
          refine V_ishl F _ dM_blocked_76 (ishl_1 (by omega)) ?_
          have hp2 := p2_lt6 (t := i) (by omega)
          refine V_isub F dM_blocked_77 (by omega) ?_
          refine V_istore_n (i := 1) F dM_blocked_78 rfl (by decide) (by simp only [List.set_cons_zero, List.set_cons_succ]; exact rfl) ?_
          refine V_iinc F dM_blocked_79 (by decide) rfl (by omega) (by simp only [List.set_cons_zero, List.set_cons_succ]; exact rfl) ?_
          refine V_goto F 46 dM_blocked_82 (by decide) ?_
          have en : (i + 1).toNat = i.toNat + 1 := by omega
          have ei : ((i.toNat : Nat) : Int) = i := by omega
          first
          | (have hg : iand (f i) a = 0 := h70
             have hb : tb a i := bz_eq1.mp h60
             refine ih (i + 1) _ u (by omega) (by omega) (by omega) (frC_trans hv hf.1) hf.2 ?_
             rw [en]
             refine bS_sub hI (by omega) hb (fun z z1 z2 => ?_)
             show _ ∧ ¬ (z = ((i.toNat : Nat) : Int) ∧ _) ↔ _
             rw [ei]
             have hz := (and_0 hfi hI.1.1).mp hg
             exact ⟨fun q => ⟨q.1, fun e => q.2 ⟨e, fun y y1 y2 y3 => hz y y1 y2 ⟨y3.1, (hI.2 y y1 y2).mpr y3.2⟩⟩⟩, fun q => ⟨q.1, fun e => q.2 e.1⟩⟩)
          | (have hg : ¬ iand (f i) a = 0 := h70
             refine ih (i + 1) _ u (by omega) (by omega) (by omega) (frC_trans hv hf.1) hf.2 ?_
             rw [en]
             refine bS_c hI (fun z z1 z2 => ?_)
             show _ ∧ ¬ (z = ((i.toNat : Nat) : Int) ∧ _) ↔ _
             rw [ei]
             have hz : ¬ ∀ n, 0 ≤ n → n < 6 → ¬ (tb (f i) n ∧ tb a n) := fun q => hg ((and_0 hfi hI.1.1).mpr q)
             exact ⟨fun q => q.1, fun q => ⟨q, fun e => hz (fun y y1 y2 y3 => e.2 y y1 y2 ⟨y3.1, (hI.2 y y1 y2).mp y3.2⟩)⟩⟩)
          | (have hb : ¬ tb a i := fun q => h60 (bz_eq1.mpr q)
             refine ih (i + 1) _ v (by omega) (by omega) (by omega) hv hk ?_
             rw [en]
             refine bS_c hI (fun z z1 z2 => ?_)
             show _ ∧ ¬ (z = ((i.toNat : Nat) : Int) ∧ _) ↔ _
             rw [ei]
             exact ⟨fun q => q.1, fun q => ⟨q, fun e => hb (by rw [← e.1]; exact (hI.2 z z1 z2).mpr q)⟩⟩)
theorem lpM_blR {G : vG} {X : vX} {Q : State → Prop} {w : RW} {f : Int → Int} (hm : mOK w) (hs : ∀ t, 0 ≤ t → t < w 77 10 → 1 ≤ w 87 t) (hH : blH w f) {Post : Int → RW → Prop} {S : Int → Prop} (F : FX G X cM_blocked yM_blocked.cls 4 7) (hR : RetI G X cM_blocked 4 Q (fun r u => bS r (prn (fun t y => tb (f t) y) (w 77 10).toNat S 6) ∧ frC w u ∧ kOK u)) : ∀ (m : Nat) (i a : Int) (o : Option RV) (v : RW), 6 - i < m → (0 ≤ i) → (i ≤ 6) → (frC w v) → (kOK v) → (bS a (prn (fun t y => tb (f t) y) (w 77 10).toNat S i.toNat)) → V G X 4 Q 38 [some (.inr 77), some (.inl a), some (.inl i), o] [] v := by
  have k3 := hm.2.2.1
  intro m
  induction m with
  | zero => intro i a o v hm0 h1 h2 hv hk hI; omega
  | succ m ih =>
    intro i a o v hm0 h1 h2 hv hk hI
    refine V_iload_n (i := 2) F dM_blocked_38 rfl rfl ?_
    refine V_bipush F dM_blocked_39 (by decide) ?_
    refine V_icmp_ge F 91 dM_blocked_41 (by decide) (fun h41 => ?_) (fun h41 => ?_)
    · refine V_iload_n (i := 1) F dM_blocked_91 rfl rfl ?_
      exact hR _ _ _ _ dM_blocked_92 (by rw [show i = 6 by omega] at hI; exact ⟨hI, hv, hk⟩)
    · refine V_iconst F dM_blocked_44 (by decide) ?_
      refine V_istore_n (i := 3) F dM_blocked_45 rfl (by decide) (by simp only [List.set_cons_zero, List.set_cons_succ]; exact rfl) ?_
      refine lpM_blI hm hs hH F (fun b c u hu hku hbu => ?_) 7 0 a v (by omega) (by omega) (by omega) hv hk hI
      refine V_iinc F dM_blocked_85 (by decide) rfl (by omega) (by simp only [List.set_cons_zero, List.set_cons_succ]; exact rfl) ?_
      refine V_goto F 38 dM_blocked_88 (by decide) ?_
      exact ih (i + 1) b _ u (by omega) (by omega) (by omega) hu hku (by rw [show (i + 1).toNat = i.toNat + 1 by omega]; exact hbu)
theorem lpM_bl0 {G : vG} {X : vX} {Q : State → Prop} {w : RW} {f : Int → Int} (hm : mOK w) (hs : ∀ t, 0 ≤ t → t < w 77 10 → 1 ≤ w 87 t) (hH : blH w f) (F : FX G X cM_blocked yM_blocked.cls 4 7) (hR : RetI G X cM_blocked 4 Q (fun r u => bS r (prn (fun t y => tb (f t) y) (w 77 10).toNat (bl0 f (w 77 10)) 6) ∧ frC w u ∧ kOK u)) : ∀ (m : Nat) (i a : Int) (v : RW), w 77 10 - i < m → (0 ≤ i) → (i ≤ w 77 10) → (frC w v) → (kOK v) → (bS a (bl0 f i)) → V G X 4 Q 4 [some (.inr 77), some (.inl a), some (.inl i), none] [] v := by
  have k3 := hm.2.2.1
  intro m
  induction m with
  | zero => intro i a v hm0 h1 h2 hv hk hI; omega
  | succ m ih =>
    intro i a v hm0 h1 h2 hv hk hI
    have hmv : mOK v := mOK_c hv.1 hv.2 hm
    have e10 := hv.2 10 (by decide)
    have e87 := hv.1 87 (by decide) (by decide) (by decide) (by decide)
    have a1 := hI.1
    refine V_iload_n (i := 2) F dM_blocked_4 rfl rfl ?_
    refine V_aload_n (i := 0) F dM_blocked_5 rfl rfl ?_
    refine V_geti (ci := 7) (C := R_M) (T := T_M) (N := 32) F dM_blocked_6 (by first | rfl | assumption) rfl (j := 10) 10 rfl (by decide) rfl lfM_141 ?_
    refine V_icmp_ge F 36 dM_blocked_9 (by decide) (fun h9 => ?_) (fun h9 => ?_)
    · refine V_iconst F dM_blocked_36 (by decide) ?_
      refine V_istore_n (i := 2) F dM_blocked_37 rfl (by decide) (by simp only [List.set_cons_zero, List.set_cons_succ]; exact rfl) ?_
      exact lpM_blR (Post := fun _ _ => True) hm hs hH F hR 7 0 a none v (by omega) (by omega) (by omega) hv hk (by rw [show w 77 10 = i by omega]; exact hI)
    · refine V_iload_n (i := 1) F dM_blocked_12 rfl rfl ?_
      refine V_aload_n (i := 0) F dM_blocked_13 rfl rfl ?_
      refine V_iload_n (i := 2) F dM_blocked_14 rfl rfl ?_
      refine V_callVi F dM_blocked_15 lmM_213 miM_waitsFor mvM_waitsFor (ctM_waitsFor (w := v) (by omega) hmv (by rw [e87]; exact hs i h1 (by omega)) hk) (by decide) (by first | rfl | assumption) rfl rfl (Nat.le_of_ble_eq_true rfl) (fun r u hr => ?_)
      have hf := wfM_frame hmv ⟨h1, by omega⟩ hk hr
      have hre := hH.2 v u i r hv hmv hk h1 (by omega) hr
      subst hre
      have hfi := hH.1 i h1 (by omega)
      refine V_if_eq F 27 dM_blocked_18 (by decide) (fun h18 => ?_) (fun h18 => ?_)
      · refine V_iconst F dM_blocked_27 (by decide) ?_
        first
        | refine V_ior F _ dM_blocked_28 (show ior a (p2 i) = ior a (p2 i) from rfl) ?_
        | refine V_ior F _ dM_blocked_28 (ior_0 (by omega)) ?_
        refine V_istore_n (i := 1) F dM_blocked_29 rfl (by decide) (by simp only [List.set_cons_zero, List.set_cons_succ]; exact rfl) ?_
        refine V_iinc F dM_blocked_30 (by decide) rfl (by omega) (by simp only [List.set_cons_zero, List.set_cons_succ]; exact rfl) ?_
        refine V_goto F 4 dM_blocked_33 (by decide) ?_
        first
        | (have hg : ¬ f i = 0 := h18
           refine ih (i + 1) _ u (by omega) (by omega) (by omega) (frC_trans hv hf.1) hf.2 (bS_or hI (by omega) (fun z z1 z2 => ?_))
           unfold bl0
           constructor
           · rintro ⟨q1, q2⟩
             by_cases e : z = i
             · exact Or.inr e
             · exact Or.inl ⟨by omega, q2⟩
           · rintro (⟨q1, q2⟩ | q)
             · exact ⟨by omega, q2⟩
             · exact ⟨by omega, by rw [q]; exact hg⟩)
        | (have hg : f i = 0 := h18
           refine ih (i + 1) _ u (by omega) (by omega) (by omega) (frC_trans hv hf.1) hf.2 (bS_c hI (fun z z1 z2 => ?_))
           unfold bl0
           constructor
           · rintro ⟨q1, q2⟩
             by_cases e : z = i
             · rw [e] at q2; exact absurd hg q2
             · exact ⟨by omega, q2⟩
           · rintro ⟨q1, q2⟩
             exact ⟨by omega, q2⟩)
      · refine V_iconst F dM_blocked_21 (by decide) ?_
        refine V_iload_n (i := 2) F dM_blocked_22 rfl rfl ?_
        refine V_ishl F _ dM_blocked_23 (ishl_1 (by omega)) ?_
        refine V_goto F 28 dM_blocked_24 (by decide) ?_
        first
        | refine V_ior F _ dM_blocked_28 (show ior a (p2 i) = ior a (p2 i) from rfl) ?_
        | refine V_ior F _ dM_blocked_28 (ior_0 (by omega)) ?_
        refine V_istore_n (i := 1) F dM_blocked_29 rfl (by decide) (by simp only [List.set_cons_zero, List.set_cons_succ]; exact rfl) ?_
        refine V_iinc F dM_blocked_30 (by decide) rfl (by omega) (by simp only [List.set_cons_zero, List.set_cons_succ]; exact rfl) ?_
        refine V_goto F 4 dM_blocked_33 (by decide) ?_
        first
        | (have hg : ¬ f i = 0 := h18
           refine ih (i + 1) _ u (by omega) (by omega) (by omega) (frC_trans hv hf.1) hf.2 (bS_or hI (by omega) (fun z z1 z2 => ?_))
           unfold bl0
           constructor
           · rintro ⟨q1, q2⟩
             by_cases e : z = i
             · exact Or.inr e
             · exact Or.inl ⟨by omega, q2⟩
           · rintro (⟨q1, q2⟩ | q)
             · exact ⟨by omega, q2⟩
             · exact ⟨by omega, by rw [q]; exact hg⟩)
        | (have hg : f i = 0 := h18
           refine ih (i + 1) _ u (by omega) (by omega) (by omega) (frC_trans hv hf.1) hf.2 (bS_c hI (fun z z1 z2 => ?_))
           unfold bl0
           constructor
           · rintro ⟨q1, q2⟩
             by_cases e : z = i
             · rw [e] at q2; exact absurd hg q2
             · exact ⟨by omega, q2⟩
           · rintro ⟨q1, q2⟩
             exact ⟨by omega, q2⟩)
theorem ctM_blocked {G : vG} {l : Launch} {w : RW} {f : Int → Int} (hm : mOK w) (hs : ∀ t, 0 ≤ t → t < w 77 10 → 1 ≤ w 87 t) (hH : blH w f) (hk : kOK w) : CTi G l yM_blocked cM_blocked 4 .int 7 [.inr 77] w (fun r u => bS r (prn (fun t y => tb (f t) y) (w 77 10).toNat (bl0 f (w 77 10)) 6) ∧ frC w u ∧ kOK u) := by
  refine CTi.int (by decide) (Nat.le_of_ble_eq_true rfl) ?_
  intro X Q F hX hR
  subst hX
  show V G X 4 Q 0 [some (.inr 77), none, none, none] [] w
  refine V_iconst F dM_blocked_0 (by decide) ?_
  refine V_istore_n (i := 1) F dM_blocked_1 rfl (by decide) (by simp only [List.set_cons_zero, List.set_cons_succ]; exact rfl) ?_
  refine V_iconst F dM_blocked_2 (by decide) ?_
  refine V_istore_n (i := 2) F dM_blocked_3 rfl (by decide) (by simp only [List.set_cons_zero, List.set_cons_succ]; exact rfl) ?_
  have k3 := hm.2.2.1
  exact lpM_bl0 hm hs hH F hR 7 0 0 w (by omega) (by omega) (by omega) (frC_refl w) hk (bS_0 (fun z z1 z2 q => by have := q.1; omega))
