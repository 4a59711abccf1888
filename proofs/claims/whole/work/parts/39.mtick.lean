theorem dM_tick_0 : decode cM_tick 0 = .ok (.iload_n 1, 1) := by decide +kernel
theorem dM_tick_1 : decode cM_tick 1 = .ok (.ifCond .lt 9, 3) := by decide +kernel
theorem dM_tick_4 : decode cM_tick 4 = .ok (.iload_n 1, 1) := by decide +kernel
theorem dM_tick_5 : decode cM_tick 5 = .ok (.bipush 20, 2) := by decide +kernel
theorem dM_tick_7 : decode cM_tick 7 = .ok (.if_icmp .le 5, 3) := by decide +kernel
theorem dM_tick_10 : decode cM_tick 10 = .ok (.iconst (-1), 1) := by decide +kernel
theorem dM_tick_11 : decode cM_tick 11 = .ok (.ireturn, 1) := by decide +kernel
theorem dM_tick_12 : decode cM_tick 12 = .ok (.iconst 0, 1) := by decide +kernel
theorem dM_tick_13 : decode cM_tick 13 = .ok (.istore_n 2, 1) := by decide +kernel
theorem dM_tick_14 : decode cM_tick 14 = .ok (.iconst 0, 1) := by decide +kernel
theorem dM_tick_15 : decode cM_tick 15 = .ok (.istore_n 3, 1) := by decide +kernel
theorem dM_tick_16 : decode cM_tick 16 = .ok (.iload_n 3, 1) := by decide +kernel
theorem dM_tick_17 : decode cM_tick 17 = .ok (.iload_n 1, 1) := by decide +kernel
theorem dM_tick_18 : decode cM_tick 18 = .ok (.if_icmp .ge 141, 3) := by decide +kernel
theorem dM_tick_21 : decode cM_tick 21 = .ok (.aload_n 0, 1) := by decide +kernel
theorem dM_tick_22 : decode cM_tick 22 = .ok (.dup, 1) := by decide +kernel
theorem dM_tick_23 : decode cM_tick 23 = .ok (.getfield 182, 3) := by decide +kernel
theorem dM_tick_26 : decode cM_tick 26 = .ok (.iconst 1, 1) := by decide +kernel
theorem dM_tick_27 : decode cM_tick 27 = .ok (.iadd, 1) := by decide +kernel
theorem dM_tick_28 : decode cM_tick 28 = .ok (.putfield 182, 3) := by decide +kernel
theorem dM_tick_31 : decode cM_tick 31 = .ok (.iconst 0, 1) := by decide +kernel
theorem dM_tick_32 : decode cM_tick 32 = .ok (.istore 4, 2) := by decide +kernel
theorem dM_tick_34 : decode cM_tick 34 = .ok (.iload 4, 2) := by decide +kernel
theorem dM_tick_36 : decode cM_tick 36 = .ok (.aload_n 0, 1) := by decide +kernel
theorem dM_tick_37 : decode cM_tick 37 = .ok (.getfield 185, 3) := by decide +kernel
theorem dM_tick_40 : decode cM_tick 40 = .ok (.if_icmp .ge 76, 3) := by decide +kernel
theorem dM_tick_43 : decode cM_tick 43 = .ok (.aload_n 0, 1) := by decide +kernel
theorem dM_tick_44 : decode cM_tick 44 = .ok (.getfield 23, 3) := by decide +kernel
theorem dM_tick_47 : decode cM_tick 47 = .ok (.iload 4, 2) := by decide +kernel
theorem dM_tick_49 : decode cM_tick 49 = .ok (.iaload, 1) := by decide +kernel
theorem dM_tick_50 : decode cM_tick 50 = .ok (.aload_n 0, 1) := by decide +kernel
theorem dM_tick_51 : decode cM_tick 51 = .ok (.getfield 20, 3) := by decide +kernel
theorem dM_tick_54 : decode cM_tick 54 = .ok (.iload 4, 2) := by decide +kernel
theorem dM_tick_56 : decode cM_tick 56 = .ok (.iaload, 1) := by decide +kernel
theorem dM_tick_57 : decode cM_tick 57 = .ok (.iadd, 1) := by decide +kernel
theorem dM_tick_58 : decode cM_tick 58 = .ok (.sipush 500, 3) := by decide +kernel
theorem dM_tick_61 : decode cM_tick 61 = .ok (.if_icmp .le 17, 3) := by decide +kernel
theorem dM_tick_64 : decode cM_tick 64 = .ok (.sipush 500, 3) := by decide +kernel
theorem dM_tick_67 : decode cM_tick 67 = .ok (.aload_n 0, 1) := by decide +kernel
theorem dM_tick_68 : decode cM_tick 68 = .ok (.getfield 23, 3) := by decide +kernel
theorem dM_tick_71 : decode cM_tick 71 = .ok (.iload 4, 2) := by decide +kernel
theorem dM_tick_73 : decode cM_tick 73 = .ok (.iaload, 1) := by decide +kernel
theorem dM_tick_74 : decode cM_tick 74 = .ok (.isub, 1) := by decide +kernel
theorem dM_tick_75 : decode cM_tick 75 = .ok (.goto 10, 3) := by decide +kernel
theorem dM_tick_78 : decode cM_tick 78 = .ok (.aload_n 0, 1) := by decide +kernel
theorem dM_tick_79 : decode cM_tick 79 = .ok (.getfield 20, 3) := by decide +kernel
theorem dM_tick_82 : decode cM_tick 82 = .ok (.iload 4, 2) := by decide +kernel
theorem dM_tick_84 : decode cM_tick 84 = .ok (.iaload, 1) := by decide +kernel
theorem dM_tick_85 : decode cM_tick 85 = .ok (.istore 5, 2) := by decide +kernel
theorem dM_tick_87 : decode cM_tick 87 = .ok (.aload_n 0, 1) := by decide +kernel
theorem dM_tick_88 : decode cM_tick 88 = .ok (.getfield 23, 3) := by decide +kernel
theorem dM_tick_91 : decode cM_tick 91 = .ok (.iload 4, 2) := by decide +kernel
theorem dM_tick_93 : decode cM_tick 93 = .ok (.dup2, 1) := by decide +kernel
theorem dM_tick_94 : decode cM_tick 94 = .ok (.iaload, 1) := by decide +kernel
theorem dM_tick_95 : decode cM_tick 95 = .ok (.iload 5, 2) := by decide +kernel
theorem dM_tick_97 : decode cM_tick 97 = .ok (.iadd, 1) := by decide +kernel
theorem dM_tick_98 : decode cM_tick 98 = .ok (.iastore, 1) := by decide +kernel
theorem dM_tick_99 : decode cM_tick 99 = .ok (.aload_n 0, 1) := by decide +kernel
theorem dM_tick_100 : decode cM_tick 100 = .ok (.dup, 1) := by decide +kernel
theorem dM_tick_101 : decode cM_tick 101 = .ok (.getfield 188, 3) := by decide +kernel
theorem dM_tick_104 : decode cM_tick 104 = .ok (.iload 5, 2) := by decide +kernel
theorem dM_tick_106 : decode cM_tick 106 = .ok (.iadd, 1) := by decide +kernel
theorem dM_tick_107 : decode cM_tick 107 = .ok (.putfield 188, 3) := by decide +kernel
theorem dM_tick_110 : decode cM_tick 110 = .ok (.iinc 4 1, 3) := by decide +kernel
theorem dM_tick_113 : decode cM_tick 113 = .ok (.goto (-79), 3) := by decide +kernel
theorem dM_tick_116 : decode cM_tick 116 = .ok (.iconst 0, 1) := by decide +kernel
theorem dM_tick_117 : decode cM_tick 117 = .ok (.istore 4, 2) := by decide +kernel
theorem dM_tick_119 : decode cM_tick 119 = .ok (.iload 4, 2) := by decide +kernel
theorem dM_tick_121 : decode cM_tick 121 = .ok (.aload_n 0, 1) := by decide +kernel
theorem dM_tick_122 : decode cM_tick 122 = .ok (.getfield 141, 3) := by decide +kernel
theorem dM_tick_125 : decode cM_tick 125 = .ok (.if_icmp .ge 28, 3) := by decide +kernel
theorem dM_tick_128 : decode cM_tick 128 = .ok (.aload_n 0, 1) := by decide +kernel
theorem dM_tick_129 : decode cM_tick 129 = .ok (.getfield 56, 3) := by decide +kernel
theorem dM_tick_132 : decode cM_tick 132 = .ok (.iload 4, 2) := by decide +kernel
theorem dM_tick_134 : decode cM_tick 134 = .ok (.iaload, 1) := by decide +kernel
theorem dM_tick_135 : decode cM_tick 135 = .ok (.ifCond .le 12, 3) := by decide +kernel
theorem dM_tick_138 : decode cM_tick 138 = .ok (.iload_n 2, 1) := by decide +kernel
theorem dM_tick_139 : decode cM_tick 139 = .ok (.aload_n 0, 1) := by decide +kernel
theorem dM_tick_140 : decode cM_tick 140 = .ok (.iload 4, 2) := by decide +kernel
theorem dM_tick_142 : decode cM_tick 142 = .ok (.invokevirtual 191, 3) := by decide +kernel
theorem dM_tick_145 : decode cM_tick 145 = .ok (.iadd, 1) := by decide +kernel
theorem dM_tick_146 : decode cM_tick 146 = .ok (.istore_n 2, 1) := by decide +kernel
theorem dM_tick_147 : decode cM_tick 147 = .ok (.iinc 4 1, 3) := by decide +kernel
theorem dM_tick_150 : decode cM_tick 150 = .ok (.goto (-31), 3) := by decide +kernel
theorem dM_tick_153 : decode cM_tick 153 = .ok (.iinc 3 1, 3) := by decide +kernel
theorem dM_tick_156 : decode cM_tick 156 = .ok (.goto (-140), 3) := by decide +kernel
theorem dM_tick_159 : decode cM_tick 159 = .ok (.iload_n 2, 1) := by decide +kernel
theorem dM_tick_160 : decode cM_tick 160 = .ok (.ireturn, 1) := by decide +kernel
theorem lmM_191 : Cond.methodLink R_M 191 yM_act ∈ bigW := bw 734 (by decide +kernel) rfl
theorem miM_act : MI yM_act cM_act 4 (some .int) 1 := ⟨bw 737 (by decide +kernel) rfl, bw 48 (by decide +kernel) rfl, ⟨by decide +kernel, by decide +kernel⟩, by decide +kernel, by decide⟩
theorem mvM_act : MV yM_act := ⟨bw 736 (by decide +kernel) rfl, bw 9 (by decide +kernel) rfl⟩
def gIn (g : RW) (s : Int) : Int := if 500 < g 82 s + g 81 s then 500 - g 82 s else g 81 s
def gmS (g : RW) : Nat → Int
  | 0 => 0
  | n + 1 => gmS g n + gIn g (n : Int)
def gmI (g u : RW) (n : Int) : Prop := (∀ j, j ≠ 77 → j ≠ 82 → u j = g j) ∧ (u 77 23 = g 77 23 + gmS g n.toNat ∧ ∀ f, f ≠ 23 → u 77 f = g 77 f) ∧ ∀ s, u 82 s = if 0 ≤ s ∧ s < n then g 82 s + gIn g s else g 82 s
theorem gIn_rng {g : RW} (hm : mOK g) {s : Int} (h : 0 ≤ s ∧ s < 6) : 0 ≤ gIn g s ∧ gIn g s ≤ 50 ∧ 0 ≤ g 82 s + gIn g s ∧ g 82 s + gIn g s ≤ 500 := by
  have := hm.2.2.2.1 s h.1 h.2
  unfold gIn
  split <;> omega
theorem gmS_rng {g : RW} (hm : mOK g) : ∀ n : Nat, n ≤ 6 → 0 ≤ gmS g n ∧ gmS g n ≤ 50 * n
  | 0, _ => ⟨Int.le_refl _, by show (0 : Int) ≤ _; omega⟩
  | n + 1, h => by
    have h1 := gmS_rng hm n (by omega)
    have h2 := gIn_rng hm (s := (n : Int)) (by omega)
    show 0 ≤ gmS g n + gIn g n ∧ gmS g n + gIn g n ≤ _
    omega
theorem gm_sum {w g : RW} (hR : Rel w g) : ∀ n : Nat, (n : Int) ≤ g 77 4 → gSum w n = gmS g n
  | 0, _ => rfl
  | n + 1, h => by
    show gSum w n + gInc w n = gmS g n + gIn g n
    have hs := hR.2.2.2.1 (n : Int) (by omega) (by omega)
    rw [gm_sum hR n (by omega)]
    unfold gInc gIn
    rw [hs.2.1, hs.2.2]
    (repeat' split) <;> omega
/-- cargo comes alike on either side -/
theorem rel_gr {w v g u : RW} (hR : Rel w g) (hC : CI w) (hm : mOK g) (hk : kOK g) (hg : grI w v (w 1 3)) (hu : gmI g u (g 77 4)) : Rel v u ∧ mOK u ∧ kOK u := by
  have k3 := hm.2.2.1
  obtain ⟨a, b, c, d, e⟩ := hR
  have hR : Rel w g := ⟨a, b, c, d, e⟩
  obtain ⟨g1, g2, g3⟩ := hg
  obtain ⟨u1, u2, u3⟩ := hu
  have fr : ∀ j, j ≠ 1 → (j < 7 ∨ 13 ≤ j) → v j = w j := fun j j1 j2 => g1 j j1 (fun s s1 s2 => by rw [rl_ns hR] at s2; omega)
  refine ⟨?_, ?_, kOK_c hm (u2.2 0 (by decide)) (u2.2 1 (by decide)) (u1 78 (by decide) (by decide)) (u1 79 (by decide) (by decide)) (u1 80 (by decide) (by decide)) (u1 83 (by decide) (by decide)) (u1 84 (by decide) (by decide)) hk⟩
  · unfold Rel
    rw [fr 2 (by decide) (by decide), fr 3 (by decide) (by decide), fr 4 (by decide) (by decide), g2.2 3 (by decide), g2.2 4 (by decide), g2.2 6 (by decide), g2.1, u1 78 (by decide) (by decide), u1 79 (by decide) (by decide), u2.2 0 (by decide), u2.2 1 (by decide), u2.2 4 (by decide), u2.2 10 (by decide), u2.2 24 (by decide), u2.1]
    refine ⟨a, ⟨b.1, b.2.1, ?_, b.2.2.2⟩, c, fun s s1 s2 => ?_, fun t t1 t2 => ?_⟩
    · rw [b.2.2.1, b.1, gm_sum hR _ (by omega)]
    · have hs := d s s1 s2
      have h3 := g3 s s1 (by rw [b.1]; exact s2)
      unfold RelS at *
      rw [h3.2 0 (by decide), h3.2 1 (by decide), h3.1, u1 80 (by decide) (by decide), u1 81 (by decide) (by decide), u3 s, if_pos ⟨s1, s2⟩]
      refine ⟨hs.1, hs.2.1, ?_⟩
      unfold gInc gIn
      rw [hs.2.1, hs.2.2]
      (repeat' split) <;> omega
    · have hT := e t t1 t2
      unfold RelT at *
      rw [fr (14 + t.toNat) (by omega) (by omega), fr (20 + t.toNat) (by omega) (by omega), fr (26 + t.toNat) (by omega) (by omega), u1 85 (by decide) (by decide), u1 86 (by decide) (by decide), u1 87 (by decide) (by decide), u1 88 (by decide) (by decide), u1 89 (by decide) (by decide), u1 90 (by decide) (by decide), u1 91 (by decide) (by decide), u1 92 (by decide) (by decide), u1 93 (by decide) (by decide), u1 94 (by decide) (by decide)]
      exact hT
  · refine mOK_d hm ⟨u2.2 0 (by decide), u2.2 1 (by decide), u2.2 4 (by decide), u2.2 10 (by decide)⟩ ⟨u1 78 (by decide) (by decide), u1 79 (by decide) (by decide), u1 80 (by decide) (by decide), u1 81 (by decide) (by decide), u1 87 (by decide) (by decide), u1 92 (by decide) (by decide), u1 93 (by decide) (by decide)⟩ (fun s s1 s2 => ?_) (fun i i1 i2 => by rw [u1 85 (by decide) (by decide)]; exact hm.2.2.2.2.2.1 i i1 i2) (fun y y1 y2 => ?_)
    · rw [u3 s]
      have := hm.2.2.2.1 s s1 s2
      have := gIn_rng hm (s := s) ⟨s1, s2⟩
      split <;> omega
    · have ky := hm.2.2.2.2.1 y y1 y2
      rw [u1 86 (by decide) (by decide), u1 88 (by decide) (by decide), u1 89 (by decide) (by decide), u1 90 (by decide) (by decide), u1 91 (by decide) (by decide), u1 94 (by decide) (by decide)]
      refine ⟨by omega, by omega, by omega, by omega, by omega, by omega, by omega, by omega, by omega, ky.2.2.2.2.2.2.2.2.2.2.2.1, by omega, by omega⟩
theorem act_77 {g g' : RW} {t r : Int} (hm : mOK g) (ht : 0 ≤ t ∧ t < 6) (hk : kOK g) (h : actM g g' t r) : ∀ f, f ≠ 21 → f ≠ 24 → g' 77 f = g 77 f := by
  intro f h1 h2
  rcases h with ⟨_, _, rfl⟩ | ⟨_, v, hv, _, rfl⟩
  · exact ldM_v.2.1 f h2
  · rw [acZ_f (by decide) (by decide) (by decide) (by decide) (by decide)]
    rcases hv with ⟨_, rfl⟩ | ⟨_, u, r1, hq, ⟨_, rfl⟩ | ⟨_, rfl⟩⟩
    · rfl
    · exact (mqM_frame hm ht hk hq).2.1 f h1
    · rw [gtM_f (by decide) (by decide)]; exact (mqM_frame hm ht hk hq).2.1 f h1
/-- cells beyond the model's own run of a tick -/
def frA (g u : RW) : Prop := ∀ j, j < 77 ∨ 96 ≤ j → u j = g j
theorem act_fr {g g' : RW} {t r : Int} (hm : mOK g) (ht : 0 ≤ t ∧ t < 6) (hk : kOK g) (h : actM g g' t r) : frA g g' := by
  intro j hj
  rcases h with ⟨_, _, rfl⟩ | ⟨_, v, hv, _, rfl⟩
  · exact ldM_v.1 j (by omega) (by omega) (by omega) (by omega) (by omega) (by omega)
  · rw [acZ_f (by omega) (by omega) (by omega) (by omega) (by omega)]
    rcases hv with ⟨_, rfl⟩ | ⟨_, u, r1, hq, ⟨_, rfl⟩ | ⟨_, rfl⟩⟩
    · rfl
    · exact (mqM_frame hm ht hk hq).1 j (by omega) (by omega) (by omega) (by omega)
    · rw [gtM_f (by omega) (by omega)]; exact (mqM_frame hm ht hk hq).1 j (by omega) (by omega) (by omega) (by omega)
theorem frA_trans {w v u : RW} (h : frA w v) (h2 : frA v u) : frA w u := fun j hj => by rw [h2 j hj, h j hj]
/-- the two runs stand at one place -/
def PR (c g : RW) : Prop := Rel c g ∧ CI c ∧ wOK c ∧ mOK g ∧ kOK g
theorem rel_17 {w g : RW} {z : Int} (hm : mOK g) (hR : Rel w g) : Rel (upw w 1 7 z) g := by
  have k3 := hm.2.2.1
  obtain ⟨a, b, c, d, e⟩ := hR
  have f : ∀ j, j ≠ 1 → upw w 1 7 z j = w j := fun j hj => upw_f hj
  unfold Rel
  rw [f 2 (by decide), f 3 (by decide), f 4 (by decide), upw_i (i' := 3) (by decide), upw_i (i' := 4) (by decide), upw_i (i' := 5) (by decide), upw_i (i' := 6) (by decide)]
  refine ⟨a, b, c, fun s s1 s2 => ?_, fun t t1 t2 => ?_⟩
  · unfold RelS; rw [f (7 + s.toNat) (by omega)]; exact d s s1 s2
  · unfold RelT; rw [f (14 + t.toNat) (by omega), f (20 + t.toNat) (by omega), f (26 + t.toNat) (by omega)]; exact e t t1 t2
theorem rel_25 {w g : RW} {z : Int} (hm : mOK g) (hk : kOK g) (hR : Rel w g) : Rel w (upw g 77 25 z) ∧ mOK (upw g 77 25 z) ∧ kOK (upw g 77 25 z) := by
  have k3 := hm.2.2.1
  obtain ⟨a, b, c, d, e⟩ := hR
  have f : ∀ j, j ≠ 77 → upw g 77 25 z j = g j := fun j hj => upw_f hj
  have n : ∀ q, q ≠ 25 → upw g 77 25 z 77 q = g 77 q := fun q hq => upw_i hq
  refine ⟨?_, ?_, kOK_c hm (n 0 (by decide)) (n 1 (by decide)) (f 78 (by decide)) (f 79 (by decide)) (f 80 (by decide)) (f 83 (by decide)) (f 84 (by decide)) hk⟩
  · unfold Rel
    rw [n 0 (by decide), n 1 (by decide), n 4 (by decide), n 10 (by decide), n 23 (by decide), n 24 (by decide), f 78 (by decide), f 79 (by decide)]
    refine ⟨a, b, c, fun s s1 s2 => ?_, fun t t1 t2 => ?_⟩
    · unfold RelS; rw [f 80 (by decide), f 81 (by decide), f 82 (by decide)]; exact d s s1 s2
    · unfold RelT; rw [f 85 (by decide), f 86 (by decide), f 87 (by decide), f 88 (by decide), f 89 (by decide), f 90 (by decide), f 91 (by decide), f 92 (by decide), f 93 (by decide), f 94 (by decide)]; exact e t t1 t2
  · exact mOK_d hm ⟨n 0 (by decide), n 1 (by decide), n 4 (by decide), n 10 (by decide)⟩ ⟨f 78 (by decide), f 79 (by decide), f 80 (by decide), f 81 (by decide), f 87 (by decide), f 92 (by decide), f 93 (by decide)⟩ (fun s s1 s2 => by rw [f 82 (by decide)]; have := hm.2.2.2.1 s s1 s2; omega) (fun i i1 i2 => by rw [f 85 (by decide)]; exact hm.2.2.2.2.2.1 i i1 i2) (fun y y1 y2 => by
      have ky := hm.2.2.2.2.1 y y1 y2
      rw [f 86 (by decide), f 88 (by decide), f 89 (by decide), f 90 (by decide), f 91 (by decide), f 94 (by decide)]
      exact ⟨by omega, by omega, by omega, by omega, by omega, by omega, by omega, by omega, by omega, ky.2.2.2.2.2.2.2.2.2.2.2.1, by omega, by omega⟩)
theorem lpM_tickS {G : vG} {X : vX} {Q : State → Prop} {w : RW} {n k m0 : Int} (hm : mOK w) (hb : 0 ≤ w 77 23 ∧ w 77 23 ≤ 1000000000) (F : FX G X cM_tick yM_tick.cls 6 7) (K : ∀ (s : Int) (o : Option RV) (u : RW), gmI w u (w 77 4) → V G X 6 Q 116 [some (.inr 77), some (.inl n), some (.inl m0), some (.inl k), some (.inl s), o] [] u) : ∀ (m : Nat) (s : Int) (o : Option RV) (u : RW), w 77 4 - s < m → (0 ≤ s) → (s ≤ w 77 4) → (gmI w u s) → V G X 6 Q 34 [some (.inr 77), some (.inl n), some (.inl m0), some (.inl k), some (.inl s), o] [] u := by
  have k3 := hm.2.2.1
  intro m
  induction m with
  | zero => intro s o u hm0 h1 h2 hI; omega
  | succ m ih =>
    intro s o u hm0 h1 h2 hI
    have e4 : u 77 4 = w 77 4 := hI.2.1.2 4 (by decide)
    have e81 : u 81 = w 81 := hI.1 81 (by decide) (by decide)
    have e82 : u 82 s = w 82 s := by rw [hI.2.2 s, if_neg (by omega)]
    have e23 := hI.2.1.1
    refine V_iload F dM_tick_34 rfl ?_
    refine V_aload_n (i := 0) F dM_tick_36 rfl rfl ?_
    refine V_geti (ci := 7) (C := R_M) (T := T_M) (N := 32) F dM_tick_37 (by first | rfl | assumption) rfl (j := 4) 4 rfl (by decide) rfl lfM_185 ?_
    rw [e4]
    refine V_icmp_ge F 116 dM_tick_40 (by decide) (fun h40 => ?_) (fun h40 => ?_)
    · exact K s o u (by rw [show w 77 4 = s by omega]; exact hI)
    · have k4 := hm.2.2.2.1 s h1 (by omega)
      have hi := gIn_rng hm (s := s) ⟨h1, by omega⟩
      have hgs := gmS_rng hm s.toNat (by omega)
      refine V_aload_n (i := 0) F dM_tick_43 rfl rfl ?_
      refine V_getr (ci := 7) (C := R_M) (T := T_M) (N := 32) F dM_tick_44 (by first | rfl | assumption) rfl (j := 7) (by decide) rfl lfM_23 ?_
      refine V_iload F dM_tick_47 rfl ?_
      first
        | refine V_sald F dM_tick_49 (by decide) (by omega) (stt_in _ _) ?_
        | refine V_iald F dM_tick_49 (by first | rfl | assumption) rfl (by omega) ?_
      rw [e82]
      refine V_aload_n (i := 0) F dM_tick_50 rfl rfl ?_
      refine V_getr (ci := 7) (C := R_M) (T := T_M) (N := 32) F dM_tick_51 (by first | rfl | assumption) rfl (j := 6) (by decide) rfl lfM_20 ?_
      refine V_iload F dM_tick_54 rfl ?_
      first
        | refine V_sald F dM_tick_56 (by decide) (by omega) (stt_in _ _) ?_
        | refine V_iald F dM_tick_56 (by first | rfl | assumption) rfl (by omega) ?_
      rw [e81]
      refine V_iadd F dM_tick_57 (by omega) ?_
      refine V_sipush F dM_tick_58 (by decide) ?_
      refine V_icmp_le F 78 dM_tick_61 (by decide) (fun h61 => ?_) (fun h61 => ?_)
      · refine V_aload_n (i := 0) F dM_tick_78 rfl rfl ?_
        refine V_getr (ci := 7) (C := R_M) (T := T_M) (N := 32) F dM_tick_79 (by first | rfl | assumption) rfl (j := 6) (by decide) rfl lfM_20 ?_
        refine V_iload F dM_tick_82 rfl ?_
        first
          | refine V_sald F dM_tick_84 (by decide) (by omega) (stt_in _ _) ?_
          | refine V_iald F dM_tick_84 (by first | rfl | assumption) rfl (by omega) ?_
        rw [e81]
        refine V_istore F dM_tick_85 (by decide) (by simp only [List.set_cons_zero, List.set_cons_succ]; exact rfl) ?_
        refine V_aload_n (i := 0) F dM_tick_87 rfl rfl ?_
        refine V_getr (ci := 7) (C := R_M) (T := T_M) (N := 32) F dM_tick_88 (by first | rfl | assumption) rfl (j := 7) (by decide) rfl lfM_23 ?_
        refine V_iload F dM_tick_91 rfl ?_
        refine V_dup2 F dM_tick_93 ?_
        first
          | refine V_sald F dM_tick_94 (by decide) (by omega) (stt_in _ _) ?_
          | refine V_iald F dM_tick_94 (by first | rfl | assumption) rfl (by omega) ?_
        rw [e82]
        refine V_iload F dM_tick_95 rfl ?_
        refine V_iadd F dM_tick_97 (by omega) ?_
        refine V_iast F dM_tick_98 (by first | rfl | assumption) rfl (by omega) ?_
        refine V_aload_n (i := 0) F dM_tick_99 rfl rfl ?_
        refine V_dup F dM_tick_100 ?_
        refine V_geti (ci := 7) (C := R_M) (T := T_M) (N := 32) F dM_tick_101 (by first | rfl | assumption) rfl (j := 23) 23 rfl (by decide) rfl lfM_188 ?_
        try simp only [upw_s, upw_f (show (77 : Nat) ≠ 82 by decide)]
        rw [e23]
        refine V_iload F dM_tick_104 rfl ?_
        refine V_iadd F dM_tick_106 (by omega) ?_
        refine V_puti (ci := 7) (C := R_M) (T := T_M) (N := 32) F dM_tick_107 (by first | rfl | assumption) rfl (j := 23) 23 rfl (by decide) rfl rfl rfl lfM_188 ?_
        refine V_iinc F dM_tick_110 (by decide) rfl (by omega) (by simp only [List.set_cons_zero, List.set_cons_succ]; exact rfl) ?_
        refine V_goto F 34 dM_tick_113 (by decide) ?_
        have hgi : gIn w s = _ := (by unfold gIn; first | exact if_pos (by omega) | exact if_neg (by omega))
        refine ih (s + 1) _ _ (by omega) (by omega) (by omega) ⟨fun j j1 j2 => by rw [upw_f j1, upw_f j2]; exact hI.1 j j1 j2, ⟨?_, fun f hf => by rw [upw_i hf, upw_f (by decide)]; exact hI.2.1.2 f hf⟩, fun z => ?_⟩
        · rw [upw_s, show (s + 1).toNat = s.toNat + 1 by omega]
          show _ = w 77 23 + (gmS w s.toNat + gIn w ((s.toNat : Nat) : Int))
          rw [show ((s.toNat : Nat) : Int) = s by omega, hgi]
          omega
        · rw [upw_f (by decide)]
          by_cases e : z = s
          · rw [e, upw_s, if_pos (by omega), hgi]
          · rw [upw_i e, hI.2.2 z]
            by_cases e2 : 0 ≤ z ∧ z < s
            · rw [if_pos e2, if_pos (by omega)]
            · rw [if_neg e2, if_neg (by omega)]
      · refine V_sipush F dM_tick_64 (by decide) ?_
        refine V_aload_n (i := 0) F dM_tick_67 rfl rfl ?_
        refine V_getr (ci := 7) (C := R_M) (T := T_M) (N := 32) F dM_tick_68 (by first | rfl | assumption) rfl (j := 7) (by decide) rfl lfM_23 ?_
        refine V_iload F dM_tick_71 rfl ?_
        first
          | refine V_sald F dM_tick_73 (by decide) (by omega) (stt_in _ _) ?_
          | refine V_iald F dM_tick_73 (by first | rfl | assumption) rfl (by omega) ?_
        rw [e82]
        refine V_isub F dM_tick_74 (by omega) ?_
        refine V_goto F 85 dM_tick_75 (by decide) ?_
        refine V_istore F dM_tick_85 (by decide) (by simp only [List.set_cons_zero, List.set_cons_succ]; exact rfl) ?_
        refine V_aload_n (i := 0) F dM_tick_87 rfl rfl ?_
        refine V_getr (ci := 7) (C := R_M) (T := T_M) (N := 32) F dM_tick_88 (by first | rfl | assumption) rfl (j := 7) (by decide) rfl lfM_23 ?_
        refine V_iload F dM_tick_91 rfl ?_
        refine V_dup2 F dM_tick_93 ?_
        first
          | refine V_sald F dM_tick_94 (by decide) (by omega) (stt_in _ _) ?_
          | refine V_iald F dM_tick_94 (by first | rfl | assumption) rfl (by omega) ?_
        rw [e82]
        refine V_iload F dM_tick_95 rfl ?_
        refine V_iadd F dM_tick_97 (by omega) ?_
        refine V_iast F dM_tick_98 (by first | rfl | assumption) rfl (by omega) ?_
        refine V_aload_n (i := 0) F dM_tick_99 rfl rfl ?_
        refine V_dup F dM_tick_100 ?_
        refine V_geti (ci := 7) (C := R_M) (T := T_M) (N := 32) F dM_tick_101 (by first | rfl | assumption) rfl (j := 23) 23 rfl (by decide) rfl lfM_188 ?_
        try simp only [upw_s, upw_f (show (77 : Nat) ≠ 82 by decide)]
        rw [e23]
        refine V_iload F dM_tick_104 rfl ?_
        refine V_iadd F dM_tick_106 (by omega) ?_
        refine V_puti (ci := 7) (C := R_M) (T := T_M) (N := 32) F dM_tick_107 (by first | rfl | assumption) rfl (j := 23) 23 rfl (by decide) rfl rfl rfl lfM_188 ?_
        refine V_iinc F dM_tick_110 (by decide) rfl (by omega) (by simp only [List.set_cons_zero, List.set_cons_succ]; exact rfl) ?_
        refine V_goto F 34 dM_tick_113 (by decide) ?_
        have hgi : gIn w s = _ := (by unfold gIn; first | exact if_pos (by omega) | exact if_neg (by omega))
        refine ih (s + 1) _ _ (by omega) (by omega) (by omega) ⟨fun j j1 j2 => by rw [upw_f j1, upw_f j2]; exact hI.1 j j1 j2, ⟨?_, fun f hf => by rw [upw_i hf, upw_f (by decide)]; exact hI.2.1.2 f hf⟩, fun z => ?_⟩
        · rw [upw_s, show (s + 1).toNat = s.toNat + 1 by omega]
          show _ = w 77 23 + (gmS w s.toNat + gIn w ((s.toNat : Nat) : Int))
          rw [show ((s.toNat : Nat) : Int) = s by omega, hgi]
          omega
        · rw [upw_f (by decide)]
          by_cases e : z = s
          · rw [e, upw_s, if_pos (by omega), hgi]
          · rw [upw_i e, hI.2.2 z]
            by_cases e2 : 0 ≤ z ∧ z < s
            · rw [if_pos e2, if_pos (by omega)]
            · rw [if_neg e2, if_neg (by omega)]
theorem lpM_tickT {G : vG} {X : vX} {Q : State → Prop} {w : RW} {n k m0 r : Int} {c v : RW} {C : Nat → RW} {R : Nat → Int} (hv : PR c v) (hmk : 0 ≤ m0 ∧ m0 ≤ 400) (hb : 0 ≤ c 1 6 ∧ c 1 6 ≤ 900000000) (hC0 : C 0 = c) (hR0 : R 0 = 0) (hCs : ∀ i, i < (v 77 10).toNat → aP i (C i) (C (i + 1)) (R (i + 1) - R i)) (F : FX G X cM_tick yM_tick.cls 6 7) (K : ∀ (t : Int) (o : Option RV) (u : RW), PR (C (v 77 10).toNat) u → (∀ f, f ≠ 21 → f ≠ 24 → u 77 f = v 77 f) → frA v u → V G X 6 Q 153 [some (.inr 77), some (.inl n), some (.inl (m0 + R (v 77 10).toNat)), some (.inl k), some (.inl t), o] [] u) : ∀ (m : Nat) (t : Int) (o : Option RV) (u : RW), v 77 10 - t < m → (0 ≤ t) → (t ≤ v 77 10) → (PR (C t.toNat) u) → (∀ f, f ≠ 21 → f ≠ 24 → u 77 f = v 77 f) → (frA v u) → ((∀ f, f ≠ 6 → C t.toNat 1 f = c 1 f) ∧ (c 1 6 ≤ C t.toNat 1 6 ∧ C t.toNat 1 6 ≤ c 1 6 + 100 * t) ∧ 0 ≤ R t.toNat ∧ R t.toNat ≤ 3 * t) → V G X 6 Q 119 [some (.inr 77), some (.inl n), some (.inl (m0 + R t.toNat)), some (.inl k), some (.inl t), o] [] u := by
  have k3 := hv.2.2.2.1.2.2.1
  intro m
  induction m with
  | zero => intro t o u hm0 h1 h2 hI hu hfr hc; omega
  | succ m ih =>
    intro t o u hm0 h1 h2 hI hu hfr hc
    have e10 : u 77 10 = v 77 10 := hu 10 (by decide) (by decide)
    obtain ⟨i1, i2, i3, i4, i5⟩ := hI
    have en : (t + 1).toNat = t.toNat + 1 := by omega
    have et : ((t.toNat : Nat) : Int) = t := by omega
    refine V_iload F dM_tick_119 rfl ?_
    refine V_aload_n (i := 0) F dM_tick_121 rfl rfl ?_
    refine V_geti (ci := 7) (C := R_M) (T := T_M) (N := 32) F dM_tick_122 (by first | rfl | assumption) rfl (j := 10) 10 rfl (by decide) rfl lfM_141 ?_
    rw [e10]
    refine V_icmp_ge F 153 dM_tick_125 (by decide) (fun h125 => ?_) (fun h125 => ?_)
    · have ht10 : v 77 10 = t := by omega
      rw [ht10] at K
      exact K t o u ⟨i1, i2, i3, i4, i5⟩ hu hfr
    · have hst : advC (C t.toNat) (C (t.toNat + 1)) t (R (t.toNat + 1) - R t.toNat) := by
        have := hCs t.toNat (by omega)
        unfold aP at this
        rw [et] at this
        exact this
      have htc : 0 ≤ t ∧ t < C t.toNat 1 4 := by rw [rl_nt i1, e10]; omega
      have hT := (i1.2.2.2.2 t h1 (by rw [e10]; omega)).1
      obtain ⟨p1, p2, p3, p4, p5⟩ := CI_adv i2 i3 htc hst
      have k5 := i4.2.2.2.2.1 t h1 (by omega)
      have hb6 : u 77 24 = C t.toNat 1 6 := i1.2.1.2.2.2.symm
      have hc2 : (∀ f, f ≠ 6 → C (t.toNat + 1) 1 f = c 1 f) ∧ (c 1 6 ≤ C (t.toNat + 1) 1 6 ∧ C (t.toNat + 1) 1 6 ≤ c 1 6 + 100 * (t + 1)) ∧ 0 ≤ R (t.toNat + 1) ∧ R (t.toNat + 1) ≤ 3 * (t + 1) := ⟨fun f hf => by rw [p3 f hf]; exact hc.1 f hf, by omega, by omega, by omega⟩
      refine V_aload_n (i := 0) F dM_tick_128 rfl rfl ?_
      refine V_getr (ci := 7) (C := R_M) (T := T_M) (N := 32) F dM_tick_129 (by first | rfl | assumption) rfl (j := 19) (by decide) rfl lfM_56 ?_
      refine V_iload F dM_tick_132 rfl ?_
      first
        | refine V_sald F dM_tick_134 (by decide) (by omega) (stt_in _ _) ?_
        | refine V_iald F dM_tick_134 (by first | rfl | assumption) rfl (by omega) ?_
      refine V_if_le F 147 dM_tick_135 (by decide) (fun h135 => ?_) (fun h135 => ?_)
      · refine V_iinc F dM_tick_147 (by decide) rfl (by omega) (by simp only [List.set_cons_zero, List.set_cons_succ]; exact rfl) ?_
        refine V_goto F 119 dM_tick_150 (by decide) ?_
        first
        | (have hs2 : R (t.toNat + 1) - R t.toNat = z := hz1
           have := ih (t + 1) o y (by omega) (by omega) (by omega) (by rw [en]; exact ⟨hs.2.1, p1, p2, hs.2.2.1, hs.2.2.2⟩) (fun f f1 f2 => by rw [act_77 i4 ⟨h1, by omega⟩ i5 hz f f1 f2]; exact hu f f1 f2) (frA_trans hfr (act_fr i4 ⟨h1, by omega⟩ i5 hz)) (by rw [en]; exact hc2)
           rw [en, show m0 + R (t.toNat + 1) = m0 + R t.toNat + z by omega] at this
           exact this)
        | (have hz0 : C t.toNat (14 + t.toNat) 7 = 0 := by rw [hT.2.2.2.2.2.1]; omega
           have h0 : R (t.toNat + 1) - R t.toNat = 0 ∧ C t.toNat = C (t.toNat + 1) := by
             rcases hst with ⟨_, q1, q2⟩ | ⟨q, _⟩ | ⟨q, _⟩
             · exact ⟨q1, q2⟩
             · omega
             · omega
           have := ih (t + 1) o u (by omega) (by omega) (by omega) (by rw [en, ← h0.2]; exact ⟨i1, i2, i3, i4, i5⟩) hu hfr (by rw [en]; exact hc2)
           rw [en, show m0 + R (t.toNat + 1) = m0 + R t.toNat by omega] at this
           exact this)
      · have hsz := (i2.1.2.2.2.2.2 t htc.1 htc.2).1
        refine V_iload_n (i := 2) F dM_tick_138 rfl rfl ?_
        refine V_aload_n (i := 0) F dM_tick_139 rfl rfl ?_
        refine V_iload F dM_tick_140 rfl ?_
        refine V_callVi F dM_tick_142 lmM_191 miM_act mvM_act (ctM_act (w := u) ⟨h1, by omega⟩ i4 (by omega) i5 (by omega) (by omega) (act_cap i1 i2 i4 i3 i5 ⟨h1, by rw [e10]; omega⟩ (by omega) hst)) (by decide) (by first | rfl | assumption) rfl rfl (Nat.le_of_ble_eq_true rfl) (fun z y hz => ?_)
        have hs := act_sim i1 i2 i4 i3 i5 ⟨h1, by rw [e10]; omega⟩ (by omega) hst hz
        have hz1 := hs.1
        refine V_iadd F dM_tick_145 (by omega) ?_
        refine V_istore_n (i := 2) F dM_tick_146 rfl (by decide) (by simp only [List.set_cons_zero, List.set_cons_succ]; exact rfl) ?_
        refine V_iinc F dM_tick_147 (by decide) rfl (by omega) (by simp only [List.set_cons_zero, List.set_cons_succ]; exact rfl) ?_
        refine V_goto F 119 dM_tick_150 (by decide) ?_
        first
        | (have hs2 : R (t.toNat + 1) - R t.toNat = z := hz1
           have := ih (t + 1) o y (by omega) (by omega) (by omega) (by rw [en]; exact ⟨hs.2.1, p1, p2, hs.2.2.1, hs.2.2.2⟩) (fun f f1 f2 => by rw [act_77 i4 ⟨h1, by omega⟩ i5 hz f f1 f2]; exact hu f f1 f2) (frA_trans hfr (act_fr i4 ⟨h1, by omega⟩ i5 hz)) (by rw [en]; exact hc2)
           rw [en, show m0 + R (t.toNat + 1) = m0 + R t.toNat + z by omega] at this
           exact this)
        | (have hz0 : C t.toNat (14 + t.toNat) 7 = 0 := by rw [hT.2.2.2.2.2.1]; omega
           have h0 : R (t.toNat + 1) - R t.toNat = 0 ∧ C t.toNat = C (t.toNat + 1) := by
             rcases hst with ⟨_, q1, q2⟩ | ⟨q, _⟩ | ⟨q, _⟩
             · exact ⟨q1, q2⟩
             · omega
             · omega
           have := ih (t + 1) o u (by omega) (by omega) (by omega) (by rw [en, ← h0.2]; exact ⟨i1, i2, i3, i4, i5⟩) hu hfr (by rw [en]; exact hc2)
           rw [en, show m0 + R (t.toNat + 1) = m0 + R t.toNat by omega] at this
           exact this)
theorem lpM_tick {G : vG} {X : vX} {Q : State → Prop} {w : RW} {n r0 : Int} {c c1 : RW} {W : Nat → RW} {M : Nat → Int} (hn : 0 ≤ n ∧ n ≤ 20) (hb : (0 ≤ c 1 5 ∧ c 1 5 ≤ 500000000) ∧ (0 ≤ c 1 6 ∧ c 1 6 ≤ 500000000) ∧ 0 ≤ c 1 7 ∧ c 1 7 ≤ 500000000) (hW0 : W 0 = c) (hM0 : M 0 = 0) (hWn : W n.toNat = c1) (hMn : M n.toNat = r0) (hWs : ∀ i, i < n.toNat → tP i (W i) (W (i + 1)) (M (i + 1) - M i)) (F : FX G X cM_tick yM_tick.cls 6 7) (hR : RetI G X cM_tick 6 Q (fun r u => r = r0 ∧ PR c1 u ∧ c1 1 7 = u 77 25 ∧ frA w u)) : ∀ (m : Nat) (k : Int) (o1 o2 : Option RV) (u : RW), n - k < m → (0 ≤ k) → (k ≤ n) → (PR (W k.toNat) u) → (W k.toNat 1 7 = u 77 25) → (frA w u) → ((c 1 5 ≤ W k.toNat 1 5 ∧ W k.toNat 1 5 ≤ c 1 5 + 300 * k) ∧ (c 1 6 ≤ W k.toNat 1 6 ∧ W k.toNat 1 6 ≤ c 1 6 + 600 * k) ∧ W k.toNat 1 7 = c 1 7 + k ∧ 0 ≤ M k.toNat ∧ M k.toNat ≤ 18 * k) → V G X 6 Q 16 [some (.inr 77), some (.inl n), some (.inl (M k.toNat)), some (.inl k), o1, o2] [] u := by
  intro m
  induction m with
  | zero => intro k o1 o2 u hm0 h1 h2 hI h7 hfr hc; omega
  | succ m ih =>
    intro k o1 o2 u hm0 h1 h2 hI h7 hfr hc
    obtain ⟨i1, i2, i3, i4, i5⟩ := hI
    have en : (k + 1).toNat = k.toNat + 1 := by omega
    have e5 := i1.2.1.2.2.1
    have e6 := i1.2.1.2.2.2
    refine V_iload_n (i := 3) F dM_tick_16 rfl rfl ?_
    refine V_iload_n (i := 1) F dM_tick_17 rfl rfl ?_
    refine V_icmp_ge F 159 dM_tick_18 (by decide) (fun h18 => ?_) (fun h18 => ?_)
    · refine V_iload_n (i := 2) F dM_tick_159 rfl rfl ?_
      exact hR _ _ _ _ dM_tick_160 (by rw [show k = n by omega, hMn]; exact ⟨rfl, by rw [← hWn, show n = k by omega]; exact ⟨i1, i2, i3, i4, i5⟩, by rw [← hWn, show n = k by omega]; exact h7, hfr⟩)
    · refine V_aload_n (i := 0) F dM_tick_21 rfl rfl ?_
      refine V_dup F dM_tick_22 ?_
      refine V_geti (ci := 7) (C := R_M) (T := T_M) (N := 32) F dM_tick_23 (by first | rfl | assumption) rfl (j := 25) 25 rfl (by decide) rfl lfM_182 ?_
      refine V_iconst F dM_tick_26 (by decide) ?_
      refine V_iadd F dM_tick_27 (by omega) ?_
      refine V_puti (ci := 7) (C := R_M) (T := T_M) (N := 32) F dM_tick_28 (by first | rfl | assumption) rfl (j := 25) 25 rfl (by decide) rfl rfl rfl lfM_182 ?_
      refine V_iconst F dM_tick_31 (by decide) ?_
      refine V_istore F dM_tick_32 (by decide) (by simp only [List.set_cons_zero, List.set_cons_succ]; exact rfl) ?_
      obtain ⟨cv, cx, s1, s2, s3⟩ := hWs k.toNat (by omega)
      have hv0 := rel_25 (z := u 77 25 + 1) i4 i5 i1
      refine lpM_tickS (w := upw u 77 25 (u 77 25 + 1)) (Q := Q) hv0.2.1 (by rw [upw_i (by decide)]; omega) F (fun s o v2 hv2 => ?_) 7 0 _ _ (by have := hv0.2.1.2.2.1; omega) (by omega) (by have := hv0.2.1.2.2.1; omega) ⟨fun _ _ _ => rfl, ⟨by show _ = _ + 0; omega, fun _ _ => rfl⟩, fun z => by rw [if_neg (by omega)]⟩
      have hgr := rel_gr hv0.1 i2 hv0.2.1 hv0.2.2 s1 hv2
      have hcv := CI_gr i2 i3 s1
      obtain ⟨C, R, d1, d2, d3, d4, d5⟩ := s2
      have n4 : (cv 1 4).toNat = (v2 77 10).toNat := by rw [rl_nt hgr.1]
      rw [n4] at d3 d4 d5
      have m6 : cv 1 6 = W k.toNat 1 6 := s1.2.1.2 6 (by decide)
      have m7 : cv 1 7 = W k.toNat 1 7 := s1.2.1.2 7 (by decide)
      have m5 := gr_sum i2 s1
      have k3v := hgr.2.1.2.2.1
      have hta : ∀ j : Nat, j ≤ (v2 77 10).toNat → taI cv (C j) (j : Int) (R j) := by
        intro j
        induction j with
        | zero => intro _; rw [d1, d2]; exact ⟨sq_0, hcv.1, hcv.2, frK_refl _, fun _ _ => rfl, by omega, by omega, by omega⟩
        | succ j ihj =>
          intro hj
          have q := taI_s (t := (j : Int)) (by omega) (by rw [rl_nt hgr.1]; omega) (ihj (by omega)) (d5 j (by omega))
          rw [show R j + (R (j + 1) - R j) = R (j + 1) by omega] at q
          exact q
      have htn := hta (v2 77 10).toNat (by omega)
      have htn2 := htn.2.2.2.2
      have v25 : v2 77 25 = u 77 25 + 1 := by rw [hv2.2.1.2 25 (by decide), upw_s]
      have hK : ∀ (t : Int) (o : Option RV) (u : RW), PR (C (v2 77 10).toNat) u → (∀ f, f ≠ 21 → f ≠ 24 → u 77 f = v2 77 f) → frA v2 u → V G X 6 Q 153 [some (.inr 77), some (.inl n), some (.inl (M k.toNat + R (v2 77 10).toNat)), some (.inl k), some (.inl t), o] [] u := by
        intro t o u q1 q2 q3
        refine V_iinc F dM_tick_153 (by decide) rfl (by omega) (by simp only [List.set_cons_zero, List.set_cons_succ]; exact rfl) ?_
        refine V_goto F 16 dM_tick_156 (by decide) ?_
        have hz := CI_17 (w := cx) (z := cx 1 7 + 1) (by rw [← d3]; exact q1.2.1) (by rw [← d3]; exact q1.2.2.1)
        have hrz := rel_17 (w := cx) (z := cx 1 7 + 1) q1.2.2.2.1 (by rw [← d3]; exact q1.1)
        have x7 : cx 1 7 = cv 1 7 := by rw [← d3]; exact htn2.1 7 (by decide)
        have x6 : cx 1 6 = C (v2 77 10).toNat 1 6 := by rw [d3]
        have x5 : cx 1 5 = cv 1 5 := by rw [← d3]; exact htn2.1 5 (by decide)
        have hst := ih (k + 1) (some (.inl t)) o u (by omega) (by omega) (by omega) (by rw [en, ← s3]; exact ⟨hrz, hz.1, hz.2, q1.2.2.2.1, q1.2.2.2.2⟩) (by rw [en, ← s3, upw_s, q2 25 (by decide) (by decide), v25]; omega) (frA_trans hfr (frA_trans (fun j hj => by rw [hv2.1 j (by omega) (by omega), upw_f (by omega)]) q3)) (by rw [en, ← s3, upw_s, upw_i (i' := 5) (by decide), upw_i (i' := 6) (by decide)]; exact ⟨by omega, by omega, by omega, by omega, by omega⟩)
        rw [en, show M (k.toNat + 1) = M k.toNat + R (v2 77 10).toNat by omega] at hst
        exact hst
      refine V_iconst F dM_tick_116 (by decide) ?_
      refine V_istore F dM_tick_117 (by decide) (by simp only [List.set_cons_zero, List.set_cons_succ]; exact rfl) ?_
      have hst := lpM_tickT (w := w) (Q := Q) (r := 0) (m0 := M k.toNat) (C := C) (R := R) (c := cv) (v := v2) ⟨hgr.1, hcv.1, hcv.2, hgr.2.1, hgr.2.2⟩ (by omega) (by omega) d1 d2 d5 F hK 7 0 o v2 (by omega) (by omega) (by omega) (by show PR (C 0) v2; rw [d1]; exact ⟨hgr.1, hcv.1, hcv.2, hgr.2.1, hgr.2.2⟩) (fun _ _ _ => rfl) (fun _ _ => rfl) (by show (∀ f, f ≠ 6 → C 0 1 f = cv 1 f) ∧ (cv 1 6 ≤ C 0 1 6 ∧ C 0 1 6 ≤ cv 1 6 + 100 * 0) ∧ 0 ≤ R 0 ∧ R 0 ≤ 3 * 0; rw [d1, d2]; exact ⟨fun _ _ => rfl, by omega, by omega, by omega⟩)
      rw [show M k.toNat + R (0 : Int).toNat = M k.toNat by rw [show (0 : Int).toNat = 0 from rfl, d2]; omega] at hst
      exact hst
theorem ctM_tick {G : vG} {l : Launch} {w : RW} {n r0 : Int} {c c1 : RW} (hI : PR c w) (hc7 : c 1 7 = w 77 25) (hb : (0 ≤ c 1 5 ∧ c 1 5 ≤ 500000000) ∧ (0 ≤ c 1 6 ∧ c 1 6 ≤ 500000000) ∧ 0 ≤ c 1 7 ∧ c 1 7 ≤ 500000000) (ht : (¬ (0 ≤ n ∧ n ≤ 20) ∧ r0 = -1 ∧ c = c1) ∨ ((0 ≤ n ∧ n ≤ 20) ∧ tkI c c1 n r0)) : CTi G l yM_tick cM_tick 6 .int 7 [.inr 77, .inl n] w (fun r u => r = r0 ∧ PR c1 u ∧ c1 1 7 = u 77 25 ∧ frA w u) := by
  refine CTi.int (by decide) (Nat.le_of_ble_eq_true rfl) ?_
  intro X Q F hX hR
  subst hX
  show V G X 6 Q 0 [some (.inr 77), some (.inl n), none, none, none, none] [] w
  refine V_iload_n (i := 1) F dM_tick_0 rfl rfl ?_
  refine V_if_lt F 10 dM_tick_1 (by decide) (fun h1 => ?_) (fun h1 => ?_)
  · refine V_iconst F dM_tick_10 (by decide) ?_
    exact hR _ _ _ _ dM_tick_11 (by
                  rcases ht with ⟨_, q1, q2⟩ | ⟨hn, _⟩
                  · exact ⟨q1.symm, by rw [← q2]; exact hI, by rw [← q2]; exact hc7, fun _ _ => rfl⟩
                  · omega)
  · refine V_iload_n (i := 1) F dM_tick_4 rfl rfl ?_
    refine V_bipush F dM_tick_5 (by decide) ?_
    refine V_icmp_le F 12 dM_tick_7 (by decide) (fun h7 => ?_) (fun h7 => ?_)
    · refine V_iconst F dM_tick_12 (by decide) ?_
      refine V_istore_n (i := 2) F dM_tick_13 rfl (by decide) (by simp only [List.set_cons_zero, List.set_cons_succ]; exact rfl) ?_
      refine V_iconst F dM_tick_14 (by decide) ?_
      refine V_istore_n (i := 3) F dM_tick_15 rfl (by decide) (by simp only [List.set_cons_zero, List.set_cons_succ]; exact rfl) ?_
      rcases ht with ⟨q, _⟩ | ⟨hn, hq⟩
      · exact absurd (by omega) q
      · obtain ⟨⟨W, M, w1, w2, w3, w4, w5⟩, _⟩ := hq
        have hst := lpM_tick (w := w) (Q := Q) hn hb w1 w2 w3 w4 w5 F hR 21 0 none none w (by omega) (by omega) (by omega) (by show PR (W 0) w; rw [w1]; exact hI) (by show W 0 1 7 = w 77 25; rw [w1]; exact hc7) (fun _ _ => rfl) (by show (c 1 5 ≤ W 0 1 5 ∧ W 0 1 5 ≤ c 1 5 + 300 * 0) ∧ (c 1 6 ≤ W 0 1 6 ∧ W 0 1 6 ≤ c 1 6 + 600 * 0) ∧ W 0 1 7 = c 1 7 + 0 ∧ 0 ≤ M 0 ∧ M 0 ≤ 18 * 0; rw [w1, w2]; exact ⟨by omega, by omega, by omega, by omega, by omega⟩)
        rw [show M (0 : Int).toNat = 0 by exact w2] at hst
        exact hst
    · refine V_iconst F dM_tick_10 (by decide) ?_
      exact hR _ _ _ _ dM_tick_11 (by
                    rcases ht with ⟨_, q1, q2⟩ | ⟨hn, _⟩
                    · exact ⟨q1.symm, by rw [← q2]; exact hI, by rw [← q2]; exact hc7, fun _ _ => rfl⟩
                    · omega)
