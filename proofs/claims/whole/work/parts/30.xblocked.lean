theorem dX_blocked_0 : decode cX_blocked 0 = .ok (.iconst 0, 1) := by decide +kernel
theorem dX_blocked_1 : decode cX_blocked 1 = .ok (.istore_n 1, 1) := by decide +kernel
theorem dX_blocked_2 : decode cX_blocked 2 = .ok (.iconst 0, 1) := by decide +kernel
theorem dX_blocked_3 : decode cX_blocked 3 = .ok (.istore_n 2, 1) := by decide +kernel
theorem dX_blocked_4 : decode cX_blocked 4 = .ok (.iload_n 2, 1) := by decide +kernel
theorem dX_blocked_5 : decode cX_blocked 5 = .ok (.aload_n 0, 1) := by decide +kernel
theorem dX_blocked_6 : decode cX_blocked 6 = .ok (.getfield 41, 3) := by decide +kernel
theorem dX_blocked_9 : decode cX_blocked 9 = .ok (.getfield 115, 3) := by decide +kernel
theorem dX_blocked_12 : decode cX_blocked 12 = .ok (.if_icmp .ge 55, 3) := by decide +kernel
theorem dX_blocked_15 : decode cX_blocked 15 = .ok (.aload_n 0, 1) := by decide +kernel
theorem dX_blocked_16 : decode cX_blocked 16 = .ok (.getfield 23, 3) := by decide +kernel
theorem dX_blocked_19 : decode cX_blocked 19 = .ok (.iload_n 2, 1) := by decide +kernel
theorem dX_blocked_20 : decode cX_blocked 20 = .ok (.aload_n 0, 1) := by decide +kernel
theorem dX_blocked_21 : decode cX_blocked 21 = .ok (.aload_n 0, 1) := by decide +kernel
theorem dX_blocked_22 : decode cX_blocked 22 = .ok (.getfield 41, 3) := by decide +kernel
theorem dX_blocked_25 : decode cX_blocked 25 = .ok (.getfield 129, 3) := by decide +kernel
theorem dX_blocked_28 : decode cX_blocked 28 = .ok (.iload_n 2, 1) := by decide +kernel
theorem dX_blocked_29 : decode cX_blocked 29 = .ok (.aaload, 1) := by decide +kernel
theorem dX_blocked_30 : decode cX_blocked 30 = .ok (.invokevirtual 216, 3) := by decide +kernel
theorem dX_blocked_33 : decode cX_blocked 33 = .ok (.ifCond .eq 11, 3) := by decide +kernel
theorem dX_blocked_36 : decode cX_blocked 36 = .ok (.aload_n 0, 1) := by decide +kernel
theorem dX_blocked_37 : decode cX_blocked 37 = .ok (.iload_n 2, 1) := by decide +kernel
theorem dX_blocked_38 : decode cX_blocked 38 = .ok (.invokevirtual 220, 3) := by decide +kernel
theorem dX_blocked_41 : decode cX_blocked 41 = .ok (.goto 4, 3) := by decide +kernel
theorem dX_blocked_44 : decode cX_blocked 44 = .ok (.iconst 0, 1) := by decide +kernel
theorem dX_blocked_45 : decode cX_blocked 45 = .ok (.iastore, 1) := by decide +kernel
theorem dX_blocked_46 : decode cX_blocked 46 = .ok (.aload_n 0, 1) := by decide +kernel
theorem dX_blocked_47 : decode cX_blocked 47 = .ok (.getfield 23, 3) := by decide +kernel
theorem dX_blocked_50 : decode cX_blocked 50 = .ok (.iload_n 2, 1) := by decide +kernel
theorem dX_blocked_51 : decode cX_blocked 51 = .ok (.iaload, 1) := by decide +kernel
theorem dX_blocked_52 : decode cX_blocked 52 = .ok (.ifCond .eq 9, 3) := by decide +kernel
theorem dX_blocked_55 : decode cX_blocked 55 = .ok (.iload_n 1, 1) := by decide +kernel
theorem dX_blocked_56 : decode cX_blocked 56 = .ok (.iconst 1, 1) := by decide +kernel
theorem dX_blocked_57 : decode cX_blocked 57 = .ok (.iload_n 2, 1) := by decide +kernel
theorem dX_blocked_58 : decode cX_blocked 58 = .ok (.ishl, 1) := by decide +kernel
theorem dX_blocked_59 : decode cX_blocked 59 = .ok (.ior, 1) := by decide +kernel
theorem dX_blocked_60 : decode cX_blocked 60 = .ok (.istore_n 1, 1) := by decide +kernel
theorem dX_blocked_61 : decode cX_blocked 61 = .ok (.iinc 2 1, 3) := by decide +kernel
theorem dX_blocked_64 : decode cX_blocked 64 = .ok (.goto (-60), 3) := by decide +kernel
theorem dX_blocked_67 : decode cX_blocked 67 = .ok (.iconst 0, 1) := by decide +kernel
theorem dX_blocked_68 : decode cX_blocked 68 = .ok (.istore_n 2, 1) := by decide +kernel
theorem dX_blocked_69 : decode cX_blocked 69 = .ok (.iload_n 2, 1) := by decide +kernel
theorem dX_blocked_70 : decode cX_blocked 70 = .ok (.aload_n 0, 1) := by decide +kernel
theorem dX_blocked_71 : decode cX_blocked 71 = .ok (.getfield 41, 3) := by decide +kernel
theorem dX_blocked_74 : decode cX_blocked 74 = .ok (.getfield 115, 3) := by decide +kernel
theorem dX_blocked_77 : decode cX_blocked 77 = .ok (.if_icmp .ge 47, 3) := by decide +kernel
theorem dX_blocked_80 : decode cX_blocked 80 = .ok (.iconst 0, 1) := by decide +kernel
theorem dX_blocked_81 : decode cX_blocked 81 = .ok (.istore_n 3, 1) := by decide +kernel
theorem dX_blocked_82 : decode cX_blocked 82 = .ok (.iload_n 3, 1) := by decide +kernel
theorem dX_blocked_83 : decode cX_blocked 83 = .ok (.aload_n 0, 1) := by decide +kernel
theorem dX_blocked_84 : decode cX_blocked 84 = .ok (.getfield 41, 3) := by decide +kernel
theorem dX_blocked_87 : decode cX_blocked 87 = .ok (.getfield 115, 3) := by decide +kernel
theorem dX_blocked_90 : decode cX_blocked 90 = .ok (.if_icmp .ge 28, 3) := by decide +kernel
theorem dX_blocked_93 : decode cX_blocked 93 = .ok (.aload_n 0, 1) := by decide +kernel
theorem dX_blocked_94 : decode cX_blocked 94 = .ok (.getfield 23, 3) := by decide +kernel
theorem dX_blocked_97 : decode cX_blocked 97 = .ok (.iload_n 3, 1) := by decide +kernel
theorem dX_blocked_98 : decode cX_blocked 98 = .ok (.iaload, 1) := by decide +kernel
theorem dX_blocked_99 : decode cX_blocked 99 = .ok (.iload_n 1, 1) := by decide +kernel
theorem dX_blocked_100 : decode cX_blocked 100 = .ok (.iand, 1) := by decide +kernel
theorem dX_blocked_101 : decode cX_blocked 101 = .ok (.ifCond .ne 11, 3) := by decide +kernel
theorem dX_blocked_104 : decode cX_blocked 104 = .ok (.iload_n 1, 1) := by decide +kernel
theorem dX_blocked_105 : decode cX_blocked 105 = .ok (.iconst 1, 1) := by decide +kernel
theorem dX_blocked_106 : decode cX_blocked 106 = .ok (.iload_n 3, 1) := by decide +kernel
theorem dX_blocked_107 : decode cX_blocked 107 = .ok (.ishl, 1) := by decide +kernel
theorem dX_blocked_108 : decode cX_blocked 108 = .ok (.iconst (-1), 1) := by decide +kernel
theorem dX_blocked_109 : decode cX_blocked 109 = .ok (.ixor, 1) := by decide +kernel
theorem dX_blocked_110 : decode cX_blocked 110 = .ok (.iand, 1) := by decide +kernel
theorem dX_blocked_111 : decode cX_blocked 111 = .ok (.istore_n 1, 1) := by decide +kernel
theorem dX_blocked_112 : decode cX_blocked 112 = .ok (.iinc 3 1, 3) := by decide +kernel
theorem dX_blocked_115 : decode cX_blocked 115 = .ok (.goto (-33), 3) := by decide +kernel
theorem dX_blocked_118 : decode cX_blocked 118 = .ok (.iinc 2 1, 3) := by decide +kernel
theorem dX_blocked_121 : decode cX_blocked 121 = .ok (.goto (-52), 3) := by decide +kernel
theorem dX_blocked_124 : decode cX_blocked 124 = .ok (.iload_n 1, 1) := by decide +kernel
theorem dX_blocked_125 : decode cX_blocked 125 = .ok (.ireturn, 1) := by decide +kernel
theorem lfX_23 : Cond.fieldLink R_X 23 "RailYard" "waitsFor" "[I" ∈ bigW := bw 251 (by decide +kernel) rfl
theorem lmX_216 : Cond.methodLink R_X 216 yX_standsWaiting ∈ bigW := bw 590 (by decide +kernel) rfl
theorem miX_standsWaiting : MI yX_standsWaiting cX_standsWaiting 2 (some .boolean) 1 := ⟨bw 593 (by decide +kernel) rfl, bw 39 (by decide +kernel) rfl, ⟨by decide +kernel, by decide +kernel⟩, by decide +kernel, by decide⟩
theorem mvX_standsWaiting : MV yX_standsWaiting := ⟨bw 592 (by decide +kernel) rfl, bw 8 (by decide +kernel) rfl⟩
theorem lsOK_c {w u : RW} {s g : Int} (h2 : u 2 = w 2) (h3 : u 3 = w 3) (h4 : u 4 = w 4) (hL : u (65 + s.toNat) = w (65 + s.toNat)) (h : lsOK w s g) : lsOK u s g := by
  unfold lsOK at *
  rw [edC_c h2 h3 h4, hL]
  exact h
theorem wOK_ln {w v : RW} {s : Int} (hs : 0 ≤ s ∧ s < w 1 3) (hn : w 1 3 ≤ 6) (hw : wOK w) (h : lnP w v s (w (7 + s.toNat) 0)) : wOK v ∧ lsOK v s (w (7 + s.toNat) 0) := by
  rcases h with ⟨a, rfl⟩ | ⟨a, ⟨b1, b2⟩, c, d, e⟩
  · exact ⟨hw, (hw.2.2.2 s hs.1 (by omega) a).2⟩
  · refine ⟨⟨c, d, ?_, fun s' s1 s2 hb => ?_⟩, e⟩
    · rw [b2]
      have := p2_lt6 (t := s) (by omega)
      have h1 := hw.2.2.1
      exact or_lt 6 (by omega) (by simpa using h1) (by simpa using (⟨by omega, this.2⟩ : 0 ≤ p2 s ∧ p2 s < 64)) |> (fun q => by simpa using q)
    · have h1 := hw.2.2.1
      have hp := p2_lt6 (t := s) (by omega)
      rw [b2, tb_or ⟨h1.1, by omega⟩ ⟨by omega, by omega⟩, tb_p2 hs.1 s1] at hb
      rw [b1 1 (by decide) (by decide) (by decide) (by omega), b1 (7 + s'.toNat) (by omega) (by omega) (by omega) (by omega)]
      by_cases e2 : s' = s
      · rw [e2]; exact ⟨hs.2, e⟩
      · have := hw.2.2.2 s' s1 s2 (hb.resolve_right e2)
        exact ⟨this.1, lsOK_c (b1 2 (by decide) (by decide) (by decide) (by omega)) (b1 3 (by decide) (by decide) (by decide) (by omega)) (b1 4 (by decide) (by decide) (by decide) (by omega)) (b1 _ (by omega) (by omega) (by omega) (by omega)) this.2⟩
theorem QI_c3 {w u : RW} (h1 : u 63 = w 63) (h2 : u 71 = w 71) (h3 : u 72 = w 72) (h : QI w) : QI u := by
  have e : qL u = qL w := qL_c (by rw [h1]) (by rw [h1]) h2
  unfold QI at *
  rw [e, h1, h3]
  exact h
theorem wOK_c {w u : RW} (h : ∀ j, j ≠ 73 → j ≠ 74 → j ≠ 75 → j ≠ 76 → j < 77 → u j = w j) (hw : wOK w) : wOK u := by
  refine ⟨QI_c3 (h 63 (by decide) (by decide) (by decide) (by decide) (by decide)) (h 71 (by decide) (by decide) (by decide) (by decide) (by decide)) (h 72 (by decide) (by decide) (by decide) (by decide) (by decide)) hw.1, ?_, ?_, fun s s1 s2 hb => ?_⟩
  · rw [h 63 (by decide) (by decide) (by decide) (by decide) (by decide)]; exact hw.2.1
  · rw [h 63 (by decide) (by decide) (by decide) (by decide) (by decide)]; exact hw.2.2.1
  · rw [h 63 (by decide) (by decide) (by decide) (by decide) (by decide)] at hb
    rw [h 1 (by decide) (by decide) (by decide) (by decide) (by decide), h (7 + s.toNat) (by omega) (by omega) (by omega) (by omega) (by omega)]
    have := hw.2.2.2 s s1 s2 hb
    exact ⟨this.1, lsOK_c (h 2 (by decide) (by decide) (by decide) (by decide) (by decide)) (h 3 (by decide) (by decide) (by decide) (by decide) (by decide)) (h 4 (by decide) (by decide) (by decide) (by decide) (by decide)) (h _ (by omega) (by omega) (by omega) (by omega) (by omega)) this.2⟩
theorem wOK_mq {w u : RW} {t r : Int} (hs : 0 ≤ gTr w t ∧ gTr w t < w 1 3) (hn : w 1 3 ≤ 6) (hw : wOK w) (h : mqP w u t r) : wOK u := by
  obtain ⟨v, u1, h1, h2, h3, h4⟩ := h
  have hv := (wOK_ln hs hn hw h1).1
  exact wOK_c (fun j j1 j2 j3 j4 j5 => by rw [h4 j j3, h2.1 j j1 j2]) hv
def frX (w v : RW) : Prop := ∀ j, j < 63 ∨ 77 ≤ j → v j = w j
theorem cOK_c {w v : RW} (h : frX w v) (hc : cOK w) : cOK v := by
  obtain ⟨k1, k2, k3, k4, k5, k6⟩ := hc
  have e1 := h 1 (by decide)
  have e2 := h 2 (by decide)
  have e3 := h 3 (by decide)
  have e4 := h 4 (by decide)
  have e5 := h 5 (by decide)
  unfold cOK
  rw [e1, e2, e3, e4, e5]
  refine ⟨k1, k2, k3, k4, fun s s1 s2 => ?_, fun y y1 y2 => ?_⟩
  · have es := h (7 + s.toNat) (by omega)
    unfold gok
    rw [e2, e3, es]
    exact k5 s s1 s2
  · have a1 := h (14 + y.toNat) (by omega)
    have a2 := h (20 + y.toNat) (by omega)
    have a3 := h (26 + y.toNat) (by omega)
    unfold tok
    rw [a1, a2, a3]
    exact k6 y y1 y2
theorem swC_c {w v : RW} {t : Int} (h : frX w v) (hc : cOK w) (ht : 0 ≤ t ∧ t < w 1 4) : swC v t ↔ swC w t := by
  have k4 := hc.2.2.2.1
  have ko := hc.2.2.2.2.2 t ht.1 ht.2
  unfold tok at ko
  have a1 := h (14 + t.toNat) (by omega)
  have a2 := h (20 + t.toNat) (by omega)
  have a3 := h (26 + t.toNat) (by omega)
  unfold swC duC gTr
  rw [a1, a2, a3]
  by_cases h7 : 0 < w (14 + t.toNat) 7
  · have hg := ko.2.2.2.2 (w (14 + t.toNat) 8) (by omega) (by omega)
    rw [h (7 + (w (26 + t.toNat) (w (14 + t.toNat) 8)).toNat) (by omega)]
  · exact ⟨fun q => absurd q.1 h7, fun q => absurd q.1 h7⟩
theorem bit6 : ∀ a, a < 128 → Nat.testBit a 6 = decide (64 ≤ a) := by decide +kernel
theorem mq_64 {w u : RW} {t r : Int} (hc : cOK w) (hs : 0 ≤ gTr w t ∧ gTr w t < 6) (ht : 0 ≤ t ∧ t < 6) (h : mqP w u t r) : 0 ≤ r ∧ r < 64 := by
  obtain ⟨v, u1, h1, h2, h3, h4⟩ := h
  have e5 : u1 5 = w 5 := by
    rw [h2.1 5 (by decide) (by decide)]
    rcases h1 with ⟨_, rfl⟩ | ⟨_, b, _⟩
    · rfl
    · exact b.1 5 (by decide) (by decide) (by decide) (by omega)
  have hr := h3.1
  refine ⟨hr.1, ?_⟩
  apply Classical.byContradiction
  intro hn
  have hb : tb r 6 := by
    unfold tb
    have := bit6 r.toNat (by omega)
    rw [show (6 : Int).toNat = 6 by decide, this]
    exact decide_eq_true (by omega)
  rcases (h3.2 6 (by decide) (by decide)).mp hb with ⟨e, _⟩ | ⟨i, o, i1, i2, o1, o2, q, _⟩
  · omega
  · rw [e5] at q
    have := (hc.2.2.1 (u1 74 i % 64 + 64 * o) (by omega) (by omega)).2.2.2
    omega
theorem bl0_up {v u : RW} {i r z : Int} (hu : u 76 = v 76) : bl0 (upw u 76 i r 76) (i + 1) z ↔ bl0 (v 76) i z ∨ (z = i ∧ ¬ r = 0) := by
  unfold bl0
  by_cases e : z = i
  · rw [e, upw_s]; omega
  · rw [upw_i e, hu]
    exact ⟨fun q => Or.inl ⟨by omega, q.2⟩, fun q => q.elim (fun q => ⟨by omega, q.2⟩) (fun q => absurd q.1 e)⟩
def ok1 (w : RW) (t r : Int) : Prop := (0 ≤ r ∧ r < 64) ∧ (¬ swC w t → r = 0) ∧ (swC w t → ∃ v u, frX w v ∧ wOK v ∧ mqP v u t r)
theorem and_b1 : ∀ a, a < 64 → ∀ t, t < 6 → (0 ≤ iand ((a : Nat) : Int) (ixor (p2 ((t : Nat) : Int)) (-1)) ∧ iand ((a : Nat) : Int) (ixor (p2 ((t : Nat) : Int)) (-1)) < 64) := by decide +kernel
theorem and_b2 : ∀ a, a < 64 → ∀ t, t < 6 → ∀ n, n < 6 → (Nat.testBit (iand ((a : Nat) : Int) (ixor (p2 ((t : Nat) : Int)) (-1))).toNat n = (Nat.testBit a n && !(n == t))) := by decide +kernel
theorem bS_clr {f t : Int} {S S' : Int → Prop} (h : bS f S) (ht : 0 ≤ t ∧ t < 6) (hS : ∀ z, 0 ≤ z → z < 6 → (S' z ↔ S z ∧ ¬ z = t)) : bS (iand f (ixor (p2 t) (-1))) S' := by
  have h2 := h.1
  have e1 : ((f.toNat : Nat) : Int) = f := by omega
  have e2 : ((t.toNat : Nat) : Int) = t := by omega
  have h3 := and_b1 f.toNat (by omega) t.toNat (by omega)
  rw [e1, e2] at h3
  refine ⟨h3, fun z z1 z2 => ?_⟩
  have h4 := and_b2 f.toNat (by omega) t.toNat (by omega) z.toNat (by omega)
  rw [e1, e2] at h4
  rw [hS z z1 z2, ← h.2 z z1 z2]
  unfold tb
  rw [h4]
  simp only [Bool.and_eq_true, Bool.not_eq_true', beq_eq_false_iff_ne, ne_eq]
  exact ⟨fun q => ⟨q.1, fun e => q.2 (by omega)⟩, fun q => ⟨q.1, fun e => q.2 (by omega)⟩⟩
def wfA (w v : RW) (n : Int) : Prop := frX w v ∧ wOK v ∧ ∀ t, 0 ≤ t → t < n → ok1 w t (v 76 t)
theorem lpX_blI {G : vG} {X : vX} {Q : State → Prop} {w : RW} (hc : cOK w) {rd : Int} {S : Int → Prop} {v : RW} (hv : wfA w v (w 1 4)) (F : FX G X cX_blocked yX_blocked.cls 4 5) (K : ∀ (a b : Int), bS a (pss (fun t y => tb (v 76 t) y) S (w 1 4).toNat) → V G X 4 Q 118 [some (.inr 0), some (.inl a), some (.inl rd), some (.inl b)] [] v) : ∀ (m : Nat) (i a : Int), w 1 4 - i < m → (0 ≤ i) → (i ≤ w 1 4) → (bS a (pss (fun t y => tb (v 76 t) y) S i.toNat)) → V G X 4 Q 82 [some (.inr 0), some (.inl a), some (.inl rd), some (.inl i)] [] v := by
  have k4 := hc.2.2.2.1
  have e1 := hv.1 1 (by decide)
  intro m
  induction m with
  | zero => intro i a hm0 h1 h2 hI; omega
  | succ m ih =>
    intro i a hm0 h1 h2 hI
    have a1 := hI.1
    refine V_iload_n (i := 3) F dX_blocked_82 rfl rfl ?_
    refine V_aload_n (i := 0) F dX_blocked_83 rfl rfl ?_
    refine V_getr (ci := 6) (C := R_X) (T := T_X) (N := 5) F dX_blocked_84 (by first | rfl | assumption) rfl (j := 0) (by decide) rfl lfX_41 ?_
    refine V_getiN (ci := 5) (C := R_Y) (T := T_Y) (N := 8) F dX_blocked_87 (by first | rfl | assumption) rfl (j := 4) 4 rfl (by decide) rfl lfX_115 ?_
    rw [e1]
    refine V_icmp_ge F 118 dX_blocked_90 (by decide) (fun h90 => ?_) (fun h90 => ?_)
    · exact K a i (by rw [show w 1 4 = i by omega]; exact hI)
    · refine V_aload_n (i := 0) F dX_blocked_93 rfl rfl ?_
      refine V_getr (ci := 6) (C := R_X) (T := T_X) (N := 5) F dX_blocked_94 (by first | rfl | assumption) rfl (j := 4) (by decide) rfl lfX_23 ?_
      refine V_iload_n (i := 3) F dX_blocked_97 rfl rfl ?_
      first
        | refine V_sald F dX_blocked_98 (by decide) (by omega) (stt_in _ _) ?_
        | refine V_iald F dX_blocked_98 (by first | rfl | assumption) rfl (by omega) ?_
      have hfi := (hv.2.2 i h1 (by omega)).1
      refine V_iload_n (i := 1) F dX_blocked_99 rfl rfl ?_
      refine V_iand F _ dX_blocked_100 rfl ?_
      refine V_if_ne F 112 dX_blocked_101 (by decide) (fun h101 => ?_) (fun h101 => ?_)
      · refine V_iinc F dX_blocked_112 (by decide) rfl (by omega) (by simp only [List.set_cons_zero, List.set_cons_succ]; exact rfl) ?_
        refine V_goto F 82 dX_blocked_115 (by decide) ?_
        have en : (i + 1).toNat = i.toNat + 1 := by omega
        have ei : ((i.toNat : Nat) : Int) = i := by omega
        first
        | (have hg : iand (v 76 i) a = 0 := h101
           refine ih (i + 1) _ (by omega) (by omega) (by omega) ?_
           rw [en]
           refine bS_clr hI (by omega) (fun z z1 z2 => ?_)
           show _ ∧ ¬ (z = ((i.toNat : Nat) : Int) ∧ _) ↔ _
           rw [ei]
           have hz := (and_0 hfi hI.1.1).mp hg
           exact ⟨fun q => ⟨q.1, fun e => q.2 ⟨e, fun y y1 y2 y3 => hz y y1 y2 ⟨y3.1, (hI.2 y y1 y2).mpr y3.2⟩⟩⟩, fun q => ⟨q.1, fun e => q.2 e.1⟩⟩)
        | (have hg : ¬ iand (v 76 i) a = 0 := h101
           refine ih (i + 1) _ (by omega) (by omega) (by omega) ?_
           rw [en]
           refine bS_c hI (fun z z1 z2 => ?_)
           show _ ∧ ¬ (z = ((i.toNat : Nat) : Int) ∧ _) ↔ _
           rw [ei]
           have hz : ¬ ∀ n, 0 ≤ n → n < 6 → ¬ (tb (v 76 i) n ∧ tb a n) := fun q => hg ((and_0 hfi hI.1.1).mpr q)
           exact ⟨fun q => q.1, fun q => ⟨q, fun e => hz (fun y y1 y2 y3 => e.2 y y1 y2 ⟨y3.1, (hI.2 y y1 y2).mp y3.2⟩)⟩⟩)
      · refine V_iload_n (i := 1) F dX_blocked_104 rfl rfl ?_
        refine V_iconst F dX_blocked_105 (by decide) ?_
        refine V_iload_n (i := 3) F dX_blocked_106 rfl rfl ?_
        refine V_ishl F _ dX_blocked_107 (ishl_1 (by omega)) ?_
        refine V_iconst F dX_blocked_108 (by decide) ?_
        refine V_ixor F _ dX_blocked_109 rfl ?_
        refine V_iand F _ dX_blocked_110 rfl ?_
        refine V_istore_n (i := 1) F dX_blocked_111 rfl (by decide) (by simp only [List.set_cons_zero, List.set_cons_succ]; exact rfl) ?_
        refine V_iinc F dX_blocked_112 (by decide) rfl (by omega) (by simp only [List.set_cons_zero, List.set_cons_succ]; exact rfl) ?_
        refine V_goto F 82 dX_blocked_115 (by decide) ?_
        have en : (i + 1).toNat = i.toNat + 1 := by omega
        have ei : ((i.toNat : Nat) : Int) = i := by omega
        first
        | (have hg : iand (v 76 i) a = 0 := h101
           refine ih (i + 1) _ (by omega) (by omega) (by omega) ?_
           rw [en]
           refine bS_clr hI (by omega) (fun z z1 z2 => ?_)
           show _ ∧ ¬ (z = ((i.toNat : Nat) : Int) ∧ _) ↔ _
           rw [ei]
           have hz := (and_0 hfi hI.1.1).mp hg
           exact ⟨fun q => ⟨q.1, fun e => q.2 ⟨e, fun y y1 y2 y3 => hz y y1 y2 ⟨y3.1, (hI.2 y y1 y2).mpr y3.2⟩⟩⟩, fun q => ⟨q.1, fun e => q.2 e.1⟩⟩)
        | (have hg : ¬ iand (v 76 i) a = 0 := h101
           refine ih (i + 1) _ (by omega) (by omega) (by omega) ?_
           rw [en]
           refine bS_c hI (fun z z1 z2 => ?_)
           show _ ∧ ¬ (z = ((i.toNat : Nat) : Int) ∧ _) ↔ _
           rw [ei]
           have hz : ¬ ∀ n, 0 ≤ n → n < 6 → ¬ (tb (v 76 i) n ∧ tb a n) := fun q => hg ((and_0 hfi hI.1.1).mpr q)
           exact ⟨fun q => q.1, fun q => ⟨q, fun e => hz (fun y y1 y2 y3 => e.2 y y1 y2 ⟨y3.1, (hI.2 y y1 y2).mp y3.2⟩)⟩⟩)
theorem lpX_blR {G : vG} {X : vX} {Q : State → Prop} {w : RW} (hc : cOK w) {v : RW} (hv : wfA w v (w 1 4)) (F : FX G X cX_blocked yX_blocked.cls 4 5) (hR : RetI G X cX_blocked 4 Q (fun r u => ∃ f : Int → Int, (∀ t, 0 ≤ t → t < w 1 4 → ok1 w t (f t)) ∧ bS r (prn (fun t y => tb (f t) y) (w 1 4).toNat (bl0 f (w 1 4)) (w 1 4).toNat) ∧ frX w u ∧ wOK u)) : ∀ (m : Nat) (i a : Int) (o : Option RV), w 1 4 - i < m → (0 ≤ i) → (i ≤ w 1 4) → (bS a (prn (fun t y => tb (v 76 t) y) (w 1 4).toNat (bl0 (v 76) (w 1 4)) i.toNat)) → V G X 4 Q 69 [some (.inr 0), some (.inl a), some (.inl i), o] [] v := by
  have k4 := hc.2.2.2.1
  have e1 := hv.1 1 (by decide)
  intro m
  induction m with
  | zero => intro i a o hm0 h1 h2 hI; omega
  | succ m ih =>
    intro i a o hm0 h1 h2 hI
    refine V_iload_n (i := 2) F dX_blocked_69 rfl rfl ?_
    refine V_aload_n (i := 0) F dX_blocked_70 rfl rfl ?_
    refine V_getr (ci := 6) (C := R_X) (T := T_X) (N := 5) F dX_blocked_71 (by first | rfl | assumption) rfl (j := 0) (by decide) rfl lfX_41 ?_
    refine V_getiN (ci := 5) (C := R_Y) (T := T_Y) (N := 8) F dX_blocked_74 (by first | rfl | assumption) rfl (j := 4) 4 rfl (by decide) rfl lfX_115 ?_
    rw [e1]
    refine V_icmp_ge F 124 dX_blocked_77 (by decide) (fun h77 => ?_) (fun h77 => ?_)
    · refine V_iload_n (i := 1) F dX_blocked_124 rfl rfl ?_
      exact hR _ _ _ _ dX_blocked_125 (by rw [show i = w 1 4 by omega] at hI; exact ⟨v 76, hv.2.2, hI, hv.1, hv.2.1⟩)
    · refine V_iconst F dX_blocked_80 (by decide) ?_
      refine V_istore_n (i := 3) F dX_blocked_81 rfl (by decide) (by simp only [List.set_cons_zero, List.set_cons_succ]; exact rfl) ?_
      refine lpX_blI hc hv F (fun b c hbu => ?_) 7 0 a (by omega) (by omega) (by omega) hI
      refine V_iinc F dX_blocked_118 (by decide) rfl (by omega) (by simp only [List.set_cons_zero, List.set_cons_succ]; exact rfl) ?_
      refine V_goto F 69 dX_blocked_121 (by decide) ?_
      exact ih (i + 1) b _ (by omega) (by omega) (by omega) (by rw [show (i + 1).toNat = i.toNat + 1 by omega]; exact hbu)
theorem lpX_bl0 {G : vG} {X : vX} {Q : State → Prop} {w : RW} (hc : cOK w) (F : FX G X cX_blocked yX_blocked.cls 4 5) (hR : RetI G X cX_blocked 4 Q (fun r u => ∃ f : Int → Int, (∀ t, 0 ≤ t → t < w 1 4 → ok1 w t (f t)) ∧ bS r (prn (fun t y => tb (f t) y) (w 1 4).toNat (bl0 f (w 1 4)) (w 1 4).toNat) ∧ frX w u ∧ wOK u)) : ∀ (m : Nat) (i a : Int) (v : RW), w 1 4 - i < m → (0 ≤ i) → (i ≤ w 1 4) → (wfA w v i) → (bS a (bl0 (v 76) i)) → V G X 4 Q 4 [some (.inr 0), some (.inl a), some (.inl i), none] [] v := by
  have k4 := hc.2.2.2.1
  intro m
  induction m with
  | zero => intro i a v hm0 h1 h2 hv hI; omega
  | succ m ih =>
    intro i a v hm0 h1 h2 hv hI
    have a1 := hI.1
    have e1 := hv.1 1 (by decide)
    have hcv := cOK_c hv.1 hc
    refine V_iload_n (i := 2) F dX_blocked_4 rfl rfl ?_
    refine V_aload_n (i := 0) F dX_blocked_5 rfl rfl ?_
    refine V_getr (ci := 6) (C := R_X) (T := T_X) (N := 5) F dX_blocked_6 (by first | rfl | assumption) rfl (j := 0) (by decide) rfl lfX_41 ?_
    refine V_getiN (ci := 5) (C := R_Y) (T := T_Y) (N := 8) F dX_blocked_9 (by first | rfl | assumption) rfl (j := 4) 4 rfl (by decide) rfl lfX_115 ?_
    rw [e1]
    refine V_icmp_ge F 67 dX_blocked_12 (by decide) (fun h12 => ?_) (fun h12 => ?_)
    · first | (replace h12 := bz_ne0.mp h12) | (replace h12 := bz_eq0.mp h12) | skip
      refine V_iconst F dX_blocked_67 (by decide) ?_
      refine V_istore_n (i := 2) F dX_blocked_68 rfl (by decide) (by simp only [List.set_cons_zero, List.set_cons_succ]; exact rfl) ?_
      exact lpX_blR hc (by rw [show w 1 4 = i by omega]; exact hv) F hR 7 0 a none (by omega) (by omega) (by omega) (by rw [show w 1 4 = i by omega]; exact hI)
    · first | (replace h12 := bz_ne0.mp h12) | (replace h12 := bz_eq0.mp h12) | skip
      have hti : 0 ≤ i ∧ i < v 1 4 := by rw [e1]; exact ⟨h1, by omega⟩
      have b1 := tr14_at (i := i) (by omega)
      refine V_aload_n (i := 0) F dX_blocked_15 rfl rfl ?_
      refine V_getr (ci := 6) (C := R_X) (T := T_X) (N := 5) F dX_blocked_16 (by first | rfl | assumption) rfl (j := 4) (by decide) rfl lfX_23 ?_
      refine V_iload_n (i := 2) F dX_blocked_19 rfl rfl ?_
      refine V_aload_n (i := 0) F dX_blocked_20 rfl rfl ?_
      refine V_aload_n (i := 0) F dX_blocked_21 rfl rfl ?_
      refine V_getr (ci := 6) (C := R_X) (T := T_X) (N := 5) F dX_blocked_22 (by first | rfl | assumption) rfl (j := 0) (by decide) rfl lfX_41 ?_
      refine V_getrN (ci := 5) (C := R_Y) (T := T_Y) (N := 8) F dX_blocked_25 (by first | rfl | assumption) rfl (j := 2) (by decide) rfl lfX_129 ?_
      refine V_iload_n (i := 2) F dX_blocked_28 rfl rfl ?_
      first
        | refine V_aald F dX_blocked_29 (by first | rfl | assumption) rfl (by omega) (by first | rfl | assumption) ?_
        | refine V_aaldA F dX_blocked_29 (by first | rfl | assumption) rfl (by omega) (by first | rfl | assumption) ?_
      refine V_callVi F dX_blocked_30 lmX_216 miX_standsWaiting mvX_standsWaiting (ctX_standsWaiting hti hcv) (by decide) (by first | rfl | assumption) rfl rfl (Nat.le_of_ble_eq_true rfl) (fun r u hr => ?_)
      obtain ⟨rfl, rfl⟩ := hr
      refine V_if_eq F 44 dX_blocked_33 (by decide) (fun h33 => ?_) (fun h33 => ?_)
      · first | (replace h33 := bz_ne0.mp h33) | (replace h33 := bz_eq0.mp h33) | skip
        refine V_iconst F dX_blocked_44 (by decide) ?_
        refine V_iast F dX_blocked_45 (by first | rfl | assumption) rfl (by omega) ?_
        refine V_aload_n (i := 0) F dX_blocked_46 rfl rfl ?_
        refine V_getr (ci := 6) (C := R_X) (T := T_X) (N := 5) F dX_blocked_47 (by first | rfl | assumption) rfl (j := 4) (by decide) rfl lfX_23 ?_
        refine V_iload_n (i := 2) F dX_blocked_50 rfl rfl ?_
        first
          | refine V_sald F dX_blocked_51 (by decide) (by omega) (stt_in _ _) ?_
          | refine V_iald F dX_blocked_51 (by first | rfl | assumption) rfl (by omega) ?_
        rw [upw_s]
        refine V_if_eq F 61 dX_blocked_52 (by decide) (fun h52 => ?_) (fun h52 => ?_)
        · first | (replace h52 := bz_ne0.mp h52) | (replace h52 := bz_eq0.mp h52) | skip
          refine V_iinc F dX_blocked_61 (by decide) rfl (by omega) (by simp only [List.set_cons_zero, List.set_cons_succ]; exact rfl) ?_
          refine V_goto F 4 dX_blocked_64 (by decide) ?_
          have hsw := Classical.em (swC v i)
          first
          | (have hg : ¬ r = 0 := h52
             have hq : swC v i := h33
             refine ih (i + 1) _ _ (by omega) (by omega) (by omega) ⟨fun j hj => by rw [upw_f (by omega), hfr.1 j (by omega)]; exact hv.1 j hj, wOK_c (fun j _ _ _ j4 _ => upw_f j4) hwu, fun t t1 t2 => ?_⟩ (bS_or hI (by omega) (fun z z1 z2 => ?_))
             · by_cases e : t = i
               · rw [e, upw_s]; exact hok
               · rw [upw_i e, hfr.1 76 (by omega)]; exact hv.2.2 t t1 (by omega)
             · rw [bl0_up (hfr.1 76 (by omega))]
               exact ⟨fun q => q.elim Or.inl (fun q => Or.inr q.1), fun q => q.elim Or.inl (fun q => Or.inr ⟨q, hg⟩)⟩)
          | (have hg : r = 0 := h52
             have hq : swC v i := h33
             refine ih (i + 1) _ _ (by omega) (by omega) (by omega) ⟨fun j hj => by rw [upw_f (by omega), hfr.1 j (by omega)]; exact hv.1 j hj, wOK_c (fun j _ _ _ j4 _ => upw_f j4) hwu, fun t t1 t2 => ?_⟩ (bS_c hI (fun z z1 z2 => ?_))
             · by_cases e : t = i
               · rw [e, upw_s]; exact hok
               · rw [upw_i e, hfr.1 76 (by omega)]; exact hv.2.2 t t1 (by omega)
             · rw [bl0_up (hfr.1 76 (by omega))]
               exact ⟨fun q => q.elim id (fun q => absurd hg q.2), Or.inl⟩)
          | (have hq : ¬ swC v i := h33
             have hz : (0 : Int) = 0 := h52
             have hsx : ¬ swC w i := fun q => hq ((swC_c hv.1 hc (by omega)).mpr q)
             refine ih (i + 1) _ _ (by omega) (by omega) (by omega) ⟨fun j hj => by rw [upw_f (by omega)]; exact hv.1 j hj, wOK_c (fun j _ _ _ j4 _ => upw_f j4) hv.2.1, fun t t1 t2 => ?_⟩ (bS_c hI (fun z z1 z2 => ?_))
             · by_cases e : t = i
               · rw [e, upw_s]; exact ⟨by omega, fun _ => rfl, fun q => absurd q hsx⟩
               · rw [upw_i e]; exact hv.2.2 t t1 (by omega)
             · rw [bl0_up rfl]
               exact ⟨fun q => q.elim id (fun q => absurd rfl q.2), Or.inl⟩)
          | exact absurd rfl h52
        · first | (replace h52 := bz_ne0.mp h52) | (replace h52 := bz_eq0.mp h52) | skip
          refine V_iload_n (i := 1) F dX_blocked_55 rfl rfl ?_
          refine V_iconst F dX_blocked_56 (by decide) ?_
          refine V_iload_n (i := 2) F dX_blocked_57 rfl rfl ?_
          refine V_ishl F _ dX_blocked_58 (ishl_1 (by omega)) ?_
          refine V_ior F _ dX_blocked_59 (show ior a (p2 i) = ior a (p2 i) from rfl) ?_
          refine V_istore_n (i := 1) F dX_blocked_60 rfl (by decide) (by simp only [List.set_cons_zero, List.set_cons_succ]; exact rfl) ?_
          refine V_iinc F dX_blocked_61 (by decide) rfl (by omega) (by simp only [List.set_cons_zero, List.set_cons_succ]; exact rfl) ?_
          refine V_goto F 4 dX_blocked_64 (by decide) ?_
          have hsw := Classical.em (swC v i)
          first
          | (have hg : ¬ r = 0 := h52
             have hq : swC v i := h33
             refine ih (i + 1) _ _ (by omega) (by omega) (by omega) ⟨fun j hj => by rw [upw_f (by omega), hfr.1 j (by omega)]; exact hv.1 j hj, wOK_c (fun j _ _ _ j4 _ => upw_f j4) hwu, fun t t1 t2 => ?_⟩ (bS_or hI (by omega) (fun z z1 z2 => ?_))
             · by_cases e : t = i
               · rw [e, upw_s]; exact hok
               · rw [upw_i e, hfr.1 76 (by omega)]; exact hv.2.2 t t1 (by omega)
             · rw [bl0_up (hfr.1 76 (by omega))]
               exact ⟨fun q => q.elim Or.inl (fun q => Or.inr q.1), fun q => q.elim Or.inl (fun q => Or.inr ⟨q, hg⟩)⟩)
          | (have hg : r = 0 := h52
             have hq : swC v i := h33
             refine ih (i + 1) _ _ (by omega) (by omega) (by omega) ⟨fun j hj => by rw [upw_f (by omega), hfr.1 j (by omega)]; exact hv.1 j hj, wOK_c (fun j _ _ _ j4 _ => upw_f j4) hwu, fun t t1 t2 => ?_⟩ (bS_c hI (fun z z1 z2 => ?_))
             · by_cases e : t = i
               · rw [e, upw_s]; exact hok
               · rw [upw_i e, hfr.1 76 (by omega)]; exact hv.2.2 t t1 (by omega)
             · rw [bl0_up (hfr.1 76 (by omega))]
               exact ⟨fun q => q.elim id (fun q => absurd hg q.2), Or.inl⟩)
          | (have hq : ¬ swC v i := h33
             have hz : (0 : Int) = 0 := h52
             have hsx : ¬ swC w i := fun q => hq ((swC_c hv.1 hc (by omega)).mpr q)
             refine ih (i + 1) _ _ (by omega) (by omega) (by omega) ⟨fun j hj => by rw [upw_f (by omega)]; exact hv.1 j hj, wOK_c (fun j _ _ _ j4 _ => upw_f j4) hv.2.1, fun t t1 t2 => ?_⟩ (bS_c hI (fun z z1 z2 => ?_))
             · by_cases e : t = i
               · rw [e, upw_s]; exact ⟨by omega, fun _ => rfl, fun q => absurd q hsx⟩
               · rw [upw_i e]; exact hv.2.2 t t1 (by omega)
             · rw [bl0_up rfl]
               exact ⟨fun q => q.elim id (fun q => absurd rfl q.2), Or.inl⟩)
          | exact absurd rfl h52
      · first | (replace h33 := bz_ne0.mp h33) | (replace h33 := bz_eq0.mp h33) | skip
        refine V_aload_n (i := 0) F dX_blocked_36 rfl rfl ?_
        refine V_iload_n (i := 2) F dX_blocked_37 rfl rfl ?_
        refine V_callVi F dX_blocked_38 lmX_220 miX_makeRequest mvX_makeRequest (ctX_makeRequest hti hcv h33.1 hv.2.1) (by decide) (by first | rfl | assumption) rfl rfl (Nat.le_of_ble_eq_true rfl) (fun r u hr => ?_)
        have ko := hcv.2.2.2.2.2 i hti.1 hti.2
        have hg : 0 ≤ gTr v i ∧ gTr v i < v 1 3 := ko.2.2.2.2 _ (by have := ko.2.2.1; omega) (by have := ko.2.2.1; have := h33.1; omega)
        have hfr := mqP_frame (w := v) (by rw [e1] at hg; omega) hr
        have hwu := wOK_mq hg (by rw [e1]; omega) hv.2.1 hr
        have hfi := mq_64 hcv (by rw [e1] at hg; omega) (by omega) hr
        have hsx := (swC_c hv.1 hc (by omega)).mp h33
        have hok : ok1 w i r := ⟨hfi, fun q => absurd hsx q, fun _ => ⟨v, u, hv.1, hv.2.1, hr⟩⟩
        refine V_goto F 45 dX_blocked_41 (by decide) ?_
        refine V_iast F dX_blocked_45 (by first | rfl | assumption) rfl (by omega) ?_
        refine V_aload_n (i := 0) F dX_blocked_46 rfl rfl ?_
        refine V_getr (ci := 6) (C := R_X) (T := T_X) (N := 5) F dX_blocked_47 (by first | rfl | assumption) rfl (j := 4) (by decide) rfl lfX_23 ?_
        refine V_iload_n (i := 2) F dX_blocked_50 rfl rfl ?_
        first
          | refine V_sald F dX_blocked_51 (by decide) (by omega) (stt_in _ _) ?_
          | refine V_iald F dX_blocked_51 (by first | rfl | assumption) rfl (by omega) ?_
        rw [upw_s]
        refine V_if_eq F 61 dX_blocked_52 (by decide) (fun h52 => ?_) (fun h52 => ?_)
        · first | (replace h52 := bz_ne0.mp h52) | (replace h52 := bz_eq0.mp h52) | skip
          refine V_iinc F dX_blocked_61 (by decide) rfl (by omega) (by simp only [List.set_cons_zero, List.set_cons_succ]; exact rfl) ?_
          refine V_goto F 4 dX_blocked_64 (by decide) ?_
          have hsw := Classical.em (swC v i)
          first
          | (have hg : ¬ r = 0 := h52
             have hq : swC v i := h33
             refine ih (i + 1) _ _ (by omega) (by omega) (by omega) ⟨fun j hj => by rw [upw_f (by omega), hfr.1 j (by omega)]; exact hv.1 j hj, wOK_c (fun j _ _ _ j4 _ => upw_f j4) hwu, fun t t1 t2 => ?_⟩ (bS_or hI (by omega) (fun z z1 z2 => ?_))
             · by_cases e : t = i
               · rw [e, upw_s]; exact hok
               · rw [upw_i e, hfr.1 76 (by omega)]; exact hv.2.2 t t1 (by omega)
             · rw [bl0_up (hfr.1 76 (by omega))]
               exact ⟨fun q => q.elim Or.inl (fun q => Or.inr q.1), fun q => q.elim Or.inl (fun q => Or.inr ⟨q, hg⟩)⟩)
          | (have hg : r = 0 := h52
             have hq : swC v i := h33
             refine ih (i + 1) _ _ (by omega) (by omega) (by omega) ⟨fun j hj => by rw [upw_f (by omega), hfr.1 j (by omega)]; exact hv.1 j hj, wOK_c (fun j _ _ _ j4 _ => upw_f j4) hwu, fun t t1 t2 => ?_⟩ (bS_c hI (fun z z1 z2 => ?_))
             · by_cases e : t = i
               · rw [e, upw_s]; exact hok
               · rw [upw_i e, hfr.1 76 (by omega)]; exact hv.2.2 t t1 (by omega)
             · rw [bl0_up (hfr.1 76 (by omega))]
               exact ⟨fun q => q.elim id (fun q => absurd hg q.2), Or.inl⟩)
          | (have hq : ¬ swC v i := h33
             have hz : (0 : Int) = 0 := h52
             have hsx : ¬ swC w i := fun q => hq ((swC_c hv.1 hc (by omega)).mpr q)
             refine ih (i + 1) _ _ (by omega) (by omega) (by omega) ⟨fun j hj => by rw [upw_f (by omega)]; exact hv.1 j hj, wOK_c (fun j _ _ _ j4 _ => upw_f j4) hv.2.1, fun t t1 t2 => ?_⟩ (bS_c hI (fun z z1 z2 => ?_))
             · by_cases e : t = i
               · rw [e, upw_s]; exact ⟨by omega, fun _ => rfl, fun q => absurd q hsx⟩
               · rw [upw_i e]; exact hv.2.2 t t1 (by omega)
             · rw [bl0_up rfl]
               exact ⟨fun q => q.elim id (fun q => absurd rfl q.2), Or.inl⟩)
          | exact absurd rfl h52
        · first | (replace h52 := bz_ne0.mp h52) | (replace h52 := bz_eq0.mp h52) | skip
          refine V_iload_n (i := 1) F dX_blocked_55 rfl rfl ?_
          refine V_iconst F dX_blocked_56 (by decide) ?_
          refine V_iload_n (i := 2) F dX_blocked_57 rfl rfl ?_
          refine V_ishl F _ dX_blocked_58 (ishl_1 (by omega)) ?_
          refine V_ior F _ dX_blocked_59 (show ior a (p2 i) = ior a (p2 i) from rfl) ?_
          refine V_istore_n (i := 1) F dX_blocked_60 rfl (by decide) (by simp only [List.set_cons_zero, List.set_cons_succ]; exact rfl) ?_
          refine V_iinc F dX_blocked_61 (by decide) rfl (by omega) (by simp only [List.set_cons_zero, List.set_cons_succ]; exact rfl) ?_
          refine V_goto F 4 dX_blocked_64 (by decide) ?_
          have hsw := Classical.em (swC v i)
          first
          | (have hg : ¬ r = 0 := h52
             have hq : swC v i := h33
             refine ih (i + 1) _ _ (by omega) (by omega) (by omega) ⟨fun j hj => by rw [upw_f (by omega), hfr.1 j (by omega)]; exact hv.1 j hj, wOK_c (fun j _ _ _ j4 _ => upw_f j4) hwu, fun t t1 t2 => ?_⟩ (bS_or hI (by omega) (fun z z1 z2 => ?_))
             · by_cases e : t = i
               · rw [e, upw_s]; exact hok
               · rw [upw_i e, hfr.1 76 (by omega)]; exact hv.2.2 t t1 (by omega)
             · rw [bl0_up (hfr.1 76 (by omega))]
               exact ⟨fun q => q.elim Or.inl (fun q => Or.inr q.1), fun q => q.elim Or.inl (fun q => Or.inr ⟨q, hg⟩)⟩)
          | (have hg : r = 0 := h52
             have hq : swC v i := h33
             refine ih (i + 1) _ _ (by omega) (by omega) (by omega) ⟨fun j hj => by rw [upw_f (by omega), hfr.1 j (by omega)]; exact hv.1 j hj, wOK_c (fun j _ _ _ j4 _ => upw_f j4) hwu, fun t t1 t2 => ?_⟩ (bS_c hI (fun z z1 z2 => ?_))
             · by_cases e : t = i
               · rw [e, upw_s]; exact hok
               · rw [upw_i e, hfr.1 76 (by omega)]; exact hv.2.2 t t1 (by omega)
             · rw [bl0_up (hfr.1 76 (by omega))]
               exact ⟨fun q => q.elim id (fun q => absurd hg q.2), Or.inl⟩)
          | (have hq : ¬ swC v i := h33
             have hz : (0 : Int) = 0 := h52
             have hsx : ¬ swC w i := fun q => hq ((swC_c hv.1 hc (by omega)).mpr q)
             refine ih (i + 1) _ _ (by omega) (by omega) (by omega) ⟨fun j hj => by rw [upw_f (by omega)]; exact hv.1 j hj, wOK_c (fun j _ _ _ j4 _ => upw_f j4) hv.2.1, fun t t1 t2 => ?_⟩ (bS_c hI (fun z z1 z2 => ?_))
             · by_cases e : t = i
               · rw [e, upw_s]; exact ⟨by omega, fun _ => rfl, fun q => absurd q hsx⟩
               · rw [upw_i e]; exact hv.2.2 t t1 (by omega)
             · rw [bl0_up rfl]
               exact ⟨fun q => q.elim id (fun q => absurd rfl q.2), Or.inl⟩)
          | exact absurd rfl h52
theorem ctX_blocked {G : vG} {l : Launch} {w : RW} (hc : cOK w) (hw : wOK w) : CTi G l yX_blocked cX_blocked 4 .int 5 [.inr 0] w (fun r u => ∃ f : Int → Int, (∀ t, 0 ≤ t → t < w 1 4 → ok1 w t (f t)) ∧ bS r (prn (fun t y => tb (f t) y) (w 1 4).toNat (bl0 f (w 1 4)) (w 1 4).toNat) ∧ frX w u ∧ wOK u) := by
  refine CTi.int (by decide) (Nat.le_of_ble_eq_true rfl) ?_
  intro X Q F hX hR
  subst hX
  show V G X 4 Q 0 [some (.inr 0), none, none, none] [] w
  refine V_iconst F dX_blocked_0 (by decide) ?_
  refine V_istore_n (i := 1) F dX_blocked_1 rfl (by decide) (by simp only [List.set_cons_zero, List.set_cons_succ]; exact rfl) ?_
  refine V_iconst F dX_blocked_2 (by decide) ?_
  refine V_istore_n (i := 2) F dX_blocked_3 rfl (by decide) (by simp only [List.set_cons_zero, List.set_cons_succ]; exact rfl) ?_
  have k4 := hc.2.2.2.1
  exact lpX_bl0 hc F hR 7 0 0 w (by omega) (by omega) (by omega) ⟨fun _ _ => rfl, hw, fun t t1 t2 => by omega⟩ (bS_0 (fun z z1 z2 q => by have := q.1; omega))
