/-- one train's numbers change on both sides -/
theorem Rel_t {w u g g' : RW} {t : Int} (hR : Rel w g) (hm : mOK g) (ht : 0 ≤ t ∧ t < g 77 10) (hw : ∀ j, j < 63 → j ≠ 5 → j ≠ 14 + t.toNat → j ≠ 20 + t.toNat → u j = w j) (h77 : ∀ f, f ≠ 21 → g' 77 f = g 77 f) (hg : g' 78 = g 78 ∧ g' 79 = g 79 ∧ g' 80 = g 80 ∧ g' 81 = g 81 ∧ g' 82 = g 82 ∧ g' 92 = g 92)
    (ho : ∀ y, 0 ≤ y → y < 6 → y ≠ t → (g' 86 y = g 86 y ∧ g' 87 y = g 87 y ∧ g' 88 y = g 88 y ∧ g' 89 y = g 89 y ∧ g' 90 y = g 90 y ∧ g' 91 y = g 91 y ∧ g' 93 y = g 93 y ∧ g' 94 y = g 94 y) ∧ ∀ k, 0 ≤ k → k < g 86 y → g' 85 (300 * y + k) = g 85 (300 * y + k)) (hT : RelT u g' t) : Rel u g' := by
  obtain ⟨a, b, c, d, e⟩ := hR
  have k3 := hm.2.2.1
  have e1 := hw 1 (by decide) (by decide) (by omega) (by omega)
  have e2 := hw 2 (by decide) (by decide) (by omega) (by omega)
  have e3 := hw 3 (by decide) (by decide) (by omega) (by omega)
  have e4 := hw 4 (by decide) (by decide) (by omega) (by omega)
  obtain ⟨g1, g2, g3, g4, g5, g6⟩ := hg
  unfold Rel
  rw [e1, e2, e3, e4, h77 0 (by decide), h77 1 (by decide), h77 4 (by decide), h77 10 (by decide), h77 23 (by decide), h77 24 (by decide), g1, g2]
  refine ⟨a, b, c, fun s s1 s2 => ?_, fun y y1 y2 => ?_⟩
  · have := d s s1 s2
    unfold RelS at *
    rw [hw (7 + s.toNat) (by omega) (by omega) (by omega) (by omega), g3, g4, g5]
    exact this
  · by_cases q : y = t
    · rw [q]; exact hT
    · have h1 := e y y1 y2
      obtain ⟨⟨o1, o2, o3, o4, o5, o6, o7, o8⟩, o9⟩ := ho y y1 (by omega) q
      unfold RelT at *
      rw [hw (14 + y.toNat) (by omega) (by omega) (by omega) (by omega), hw (20 + y.toNat) (by omega) (by omega) (by omega) (by omega), hw (26 + y.toNat) (by omega) (by omega) (by omega) (by omega), o1, o2, o3, o4, o5, o6, o7, o8, g6]
      exact ⟨h1.1, fun k k1 k2 => by rw [o9 k k1 k2]; exact h1.2.1 k k1 k2, h1.2.2⟩
theorem rel_mv {w g : RW} {t : Int} (hR : Rel w g) (hm : mOK g) (ht : 0 ≤ t ∧ t < g 77 10) (h1 : 1 ≤ g 86 t) : Rel (xmM w t) (mvM g t) := by
  have k3 := hm.2.2.1
  have hT := hR.2.2.2.2 t ht.1 ht.2
  obtain ⟨⟨a1, a2, a3, a4, a5, a6, a7, a8⟩, b, c⟩ := hT
  have f : ∀ j, j ≠ 85 → j ≠ 86 → j ≠ 91 → mvM g t j = g j := fun j x y z => mvM_f x y z
  refine Rel_t hR hm ht (fun j _ j1 j2 j3 => xmM_f j1 j2 j3) (fun f' hf => by rw [f 77 (by decide) (by decide) (by decide)]) ⟨f 78 (by decide) (by decide) (by decide), f 79 (by decide) (by decide) (by decide), f 80 (by decide) (by decide) (by decide), f 81 (by decide) (by decide) (by decide), f 82 (by decide) (by decide) (by decide), f 92 (by decide) (by decide) (by decide)⟩ (fun y y1 y2 y3 => ?_) ?_
  · rw [mvM_86i y3, mvM_91i y3, f 87 (by decide) (by decide) (by decide), f 88 (by decide) (by decide) (by decide), f 89 (by decide) (by decide) (by decide), f 90 (by decide) (by decide) (by decide), f 93 (by decide) (by decide) (by decide), f 94 (by decide) (by decide) (by decide)]
    have ky := hm.2.2.2.2.1 y y1 y2
    have kt := hm.2.2.2.2.1 t ht.1 (by omega)
    exact ⟨⟨rfl, rfl, rfl, rfl, rfl, rfl, rfl, rfl⟩, fun k k1 k2 => by rw [mvM_85, if_neg (by omega)]⟩
  · unfold RelT
    simp only [xmM_k]
    simp only [show ¬ (1 : Int) = 9 by decide, show ¬ (2 : Int) = 9 by decide, show ¬ (2 : Int) = 1 by decide, show ¬ (3 : Int) = 9 by decide, show ¬ (3 : Int) = 1 by decide, show ¬ (4 : Int) = 9 by decide, show ¬ (4 : Int) = 1 by decide, show ¬ (5 : Int) = 9 by decide, show ¬ (5 : Int) = 1 by decide, show ¬ (7 : Int) = 9 by decide, show ¬ (7 : Int) = 1 by decide, show ¬ (8 : Int) = 9 by decide, show ¬ (8 : Int) = 1 by decide, if_true, if_false]
    rw [mvM_86, mvM_91, f 87 (by decide) (by decide) (by decide), f 88 (by decide) (by decide) (by decide), f 89 (by decide) (by decide) (by decide), f 90 (by decide) (by decide) (by decide), f 93 (by decide) (by decide) (by decide), f 94 (by decide) (by decide) (by decide), f 92 (by decide) (by decide) (by decide), xmM_f (j := 26 + t.toNat) (by omega) (by omega) (by omega)]
    refine ⟨⟨by omega, a2, a3, a4, a5, a6, a7, rfl⟩, fun k k1 k2 => ?_, c⟩
    rw [xmM_r k1, if_pos (by omega), mvM_85, if_pos (by omega), b (k + 1) (by omega) (by omega)]
    congr 2
    omega
theorem rel_mvK {w g : RW} {t : Int} (hR : Rel w g) (hm : mOK g) (ht : 0 ≤ t ∧ t < g 77 10) : ∀ n : Nat, (n : Int) ≤ g 86 t - g 87 t → 1 ≤ g 87 t → Rel (xmK w t n) (mvK g t n)
  | 0, _, _ => hR
  | n + 1, h, h1 => by
    have k3 := hm.2.2.1
    refine rel_mv (rel_mvK hR hm ht n (by omega) h1) (mOK_mvK ⟨ht.1, by omega⟩ hm n (by omega)) (by rw [mvK_f (by decide) (by decide) (by decide)]; exact ht) ?_
    rw [mvK_86]
    omega
theorem rel_88 {w g : RW} {t z : Int} (hR : Rel w g) (hm : mOK g) (ht : 0 ≤ t ∧ t < g 77 10) : Rel (upw w (14 + t.toNat) 3 z) (upw g 88 t z) := by
  have k3 := hm.2.2.1
  obtain ⟨⟨a1, a2, a3, a4, a5, a6, a7, a8⟩, b, c⟩ := hR.2.2.2.2 t ht.1 ht.2
  refine Rel_t hR hm ht (fun j _ j1 j2 j3 => upw_f j2) (fun f' hf => by rw [upw_f (by decide)]) ⟨upw_f (by decide), upw_f (by decide), upw_f (by decide), upw_f (by decide), upw_f (by decide), upw_f (by decide)⟩ (fun y y1 y2 y3 => ?_) ?_
  · exact ⟨⟨by rw [upw_f (by decide)], by rw [upw_f (by decide)], upw_i y3, by rw [upw_f (by decide)], by rw [upw_f (by decide)], by rw [upw_f (by decide)], by rw [upw_f (by decide)], by rw [upw_f (by decide)]⟩, fun k k1 k2 => by rw [upw_f (by decide)]⟩
  · unfold RelT
    rw [upw_f (k := 88) (k' := 86) (by decide), upw_f (k := 88) (k' := 87) (by decide), upw_s (k := 88), upw_f (k := 88) (k' := 89) (by decide), upw_f (k := 88) (k' := 90) (by decide), upw_f (k := 88) (k' := 91) (by decide), upw_f (k := 88) (k' := 93) (by decide), upw_f (k := 88) (k' := 94) (by decide), upw_f (k := 88) (k' := 92) (by decide), upw_f (k := 88) (k' := 85) (by decide), upw_f (k' := 20 + t.toNat) (by omega), upw_f (k' := 26 + t.toNat) (by omega), upw_i (i' := 1) (by decide), upw_i (i' := 2) (by decide), upw_s, upw_i (i' := 4) (by decide), upw_i (i' := 5) (by decide), upw_i (i' := 7) (by decide), upw_i (i' := 8) (by decide), upw_i (i' := 9) (by decide)]
    exact ⟨⟨a1, a2, rfl, a4, a5, a6, a7, a8⟩, b, c⟩
theorem rel_89 {w g : RW} {t z : Int} (hR : Rel w g) (hm : mOK g) (ht : 0 ≤ t ∧ t < g 77 10) : Rel (upw w (14 + t.toNat) 4 z) (upw g 89 t z) := by
  have k3 := hm.2.2.1
  obtain ⟨⟨a1, a2, a3, a4, a5, a6, a7, a8⟩, b, c⟩ := hR.2.2.2.2 t ht.1 ht.2
  refine Rel_t hR hm ht (fun j _ j1 j2 j3 => upw_f j2) (fun f' hf => by rw [upw_f (by decide)]) ⟨upw_f (by decide), upw_f (by decide), upw_f (by decide), upw_f (by decide), upw_f (by decide), upw_f (by decide)⟩ (fun y y1 y2 y3 => ?_) ?_
  · exact ⟨⟨by rw [upw_f (by decide)], by rw [upw_f (by decide)], by rw [upw_f (by decide)], upw_i y3, by rw [upw_f (by decide)], by rw [upw_f (by decide)], by rw [upw_f (by decide)], by rw [upw_f (by decide)]⟩, fun k k1 k2 => by rw [upw_f (by decide)]⟩
  · unfold RelT
    rw [upw_f (k := 89) (k' := 86) (by decide), upw_f (k := 89) (k' := 87) (by decide), upw_s (k := 89), upw_f (k := 89) (k' := 88) (by decide), upw_f (k := 89) (k' := 90) (by decide), upw_f (k := 89) (k' := 91) (by decide), upw_f (k := 89) (k' := 93) (by decide), upw_f (k := 89) (k' := 94) (by decide), upw_f (k := 89) (k' := 92) (by decide), upw_f (k := 89) (k' := 85) (by decide), upw_f (k' := 20 + t.toNat) (by omega), upw_f (k' := 26 + t.toNat) (by omega), upw_i (i' := 1) (by decide), upw_i (i' := 2) (by decide), upw_i (i' := 3) (by decide), upw_s, upw_i (i' := 5) (by decide), upw_i (i' := 7) (by decide), upw_i (i' := 8) (by decide), upw_i (i' := 9) (by decide)]
    exact ⟨⟨a1, a2, a3, rfl, a5, a6, a7, a8⟩, b, c⟩
/-- the moves of a tick are the same on either side -/
theorem rel_Z {w g : RW} {t : Int} (hR : Rel w g) (hC : CI w) (hw : wOK w) (hm : mOK g) (ht : 0 ≤ t ∧ t < g 77 10) (ho : 0 < g 93 t) : xS w t = acS g t ∧ Rel (xZ w t) (acZ g t) ∧ mOK (acZ g t) := by
  have k3 := hm.2.2.1
  obtain ⟨⟨a1, a2, a3, a4, a5, a6, a7, a8⟩, b, c⟩ := hR.2.2.2.2 t ht.1 ht.2
  have htw : 0 ≤ t ∧ t < w 1 4 := by rw [rl_nt hR]; exact ht
  obtain ⟨t1, t2, t3, t4, t5⟩ := hC.1.2.2.2.2.2 t htw.1 htw.2
  have hS : xS w t = acS g t := by unfold xS acS; rw [a1, a2, a3]
  have hs : 0 ≤ acS g t ∧ acS g t ≤ 3 ∧ acS g t ≤ g 86 t - g 87 t := nsp_rng (by omega)
  have m1 : mOK (upw g 88 t (acS g t)) := mOK_88 hm (by omega)
  have r1 : Rel (upw w (14 + t.toNat) 3 (xS w t)) (upw g 88 t (acS g t)) := by rw [hS]; exact rel_88 hR hm ht
  have ht1 : 0 ≤ t ∧ t < upw g 88 t (acS g t) 77 10 := by rw [upw_f (by decide)]; exact ht
  have e86 : upw g 88 t (acS g t) 86 = g 86 := upw_f (by decide)
  have e87 : upw g 88 t (acS g t) 87 = g 87 := upw_f (by decide)
  have m2 : mOK (acV g t) := mOK_mvK ⟨ht.1, by omega⟩ m1 _ (by rw [e86, e87]; omega)
  have r2 : Rel (xV w t) (acV g t) := by
    have := rel_mvK r1 m1 ht1 (acS g t).toNat (by rw [e86, e87]; omega) (by rw [e87]; omega)
    unfold xV acV
    rw [hS] at this ⊢
    exact this
  have h1 := CI_fld hC hw (t := t) (f := 3) (z := xS w t) htw (by decide) (cOK_3 htw hC.1 (by rw [hS]; omega))
  have c2 : CI (xV w t) ∧ wOK (xV w t) := CI_mvK h1.1 h1.2 (t := t) (by rw [upw_f (by omega)]; exact htw) (xS w t).toNat (by rw [upw_i (i' := 1) (by decide), upw_i (i' := 2) (by decide), hS]; omega)
  have ev : ∀ j, j ≠ 85 → j ≠ 86 → j ≠ 91 → j ≠ 88 → acV g t j = g j := fun j x y z q => by unfold acV; rw [mvK_f x y z, upw_f q]
  have ht2 : 0 ≤ t ∧ t < acV g t 77 10 := by rw [ev 77 (by decide) (by decide) (by decide) (by decide)]; exact ht
  have ho2 : 0 < acV g t 93 t := by rw [ev 93 (by decide) (by decide) (by decide) (by decide)]; exact ho
  have hd := rl_due r2 c2.1 m2 ht2 ho2
  have hT2 := (r2.2.2.2.2 t ht2.1 ht2.2).1
  refine ⟨hS, ?_⟩
  unfold xZ acZ
  by_cases e : dueM (acV g t) t ∧ acV g t 86 t - acV g t 87 t = 0
  · have e' : duC (xV w t) t ∧ xV w t (14 + t.toNat) 1 - xV w t (14 + t.toNat) 2 = 0 := ⟨hd.mpr e.1, by rw [hT2.1, hT2.2.1]; exact e.2⟩
    rw [wif_t e, wif_t e']
    have m3 : mOK (upw (acV g t) 88 t 0) := mOK_88 m2 (by omega)
    exact ⟨rel_89 (rel_88 r2 m2 ht2) m3 (by rw [upw_f (by decide)]; exact ht2), mOK_89 m3 (by omega)⟩
  · have e' : ¬ (duC (xV w t) t ∧ xV w t (14 + t.toNat) 1 - xV w t (14 + t.toNat) 2 = 0) := fun z => e ⟨hd.mp z.1, by rw [hT2.1, hT2.2.1] at z; exact z.2⟩
    rw [wif_f e, wif_f e']
    exact ⟨r2, m2⟩
theorem acZ_f {g : RW} {t : Int} {j : Nat} (h1 : j ≠ 85) (h2 : j ≠ 86) (h3 : j ≠ 91) (h4 : j ≠ 88) (h5 : j ≠ 89) : acZ g t j = g j := by
  have ev : acV g t j = g j := by unfold acV; rw [mvK_f h1 h2 h3, upw_f h4]
  unfold acZ
  by_cases e : dueM (acV g t) t ∧ acV g t 86 t - acV g t 87 t = 0
  · rw [wif_t e, upw_f h5, upw_f h4, ev]
  · rw [wif_f e, ev]
/-- a grant is the same on either side -/
theorem rel_grant {w u1 u2 v g h : RW} {t : Int} (hR : Rel w g) (hC : CI w) (hm : mOK g) (ht : 0 ≤ t ∧ t < g 77 10) (ho : 0 < g 93 t) (hq : mqP w u1 t 0) (h2 : hoI u1 u2 t (u1 73 2)) (h3 : rvI u2 v (14 + t.toNat) (20 + t.toNat) (u1 73 2)) (hh : frC g h) (hn : h 77 21 = u1 73 2) (hx : ∀ j, 0 ≤ j → j < u1 73 2 → u1 74 j = rn (h 95 j) ∧ 0 ≤ h 95 j ∧ h 95 j < 576) : Rel v (gtM h t (h 77 21)) ∧ mOK (gtM h t (h 77 21)) := by
  have k3 := hm.2.2.1
  obtain ⟨⟨a1, a2, a3, a4, a5, a6, a7, a8⟩, b, c⟩ := hR.2.2.2.2 t ht.1 ht.2
  have htw : 0 ≤ t ∧ t < w 1 4 := by rw [rl_nt hR]; exact ht
  have how : 0 < w (14 + t.toNat) 7 := by rw [a6]; exact ho
  obtain ⟨m1, m2, m3, m4⟩ := mq_wish hC htw how hq
  have hcap := cap_x hC htw how hq
  have kt := hm.2.2.2.2.1 t ht.1 (by omega)
  have hmh : mOK h := mOK_c hh.1 hh.2 hm
  have fr : ∀ j, j < 63 → j ≠ 5 → j ≠ 14 + t.toNat → j ≠ 20 + t.toNat → v j = w j := fun j j0 j1 j2 j3 => by rw [h3.1 j j2 j3, h2.1 j j1, m1 j (Or.inl j0)]
  have ek : u2 (14 + t.toNat) = w (14 + t.toNat) := by rw [h2.1 _ (by omega), m1 _ (by omega)]
  have er : u2 (20 + t.toNat) = w (20 + t.toNat) := by rw [h2.1 _ (by omega), m1 _ (by omega)]
  have e74 : u2 74 = u1 74 := h2.1 74 (by decide)
  have ek1 : v (14 + t.toNat) 1 = w (14 + t.toNat) 1 + u1 73 2 := by rw [h3.2.1.1, ek]
  have ekf : ∀ f, f ≠ 1 → v (14 + t.toNat) f = w (14 + t.toNat) f := fun f hf => by rw [h3.2.1.2 f hf, ek]
  have hf : ∀ j, j ≠ 85 → j ≠ 86 → j ≠ 77 → j ≠ 83 → j ≠ 84 → j ≠ 95 → gtM h t (h 77 21) j = g j := fun j j1 j2 j3 j4 j5 j6 => by rw [gtM_f j1 j2]; exact hh.1 j j3 j4 j5 j6
  have e86 : h 86 = g 86 := hh.1 86 (by decide) (by decide) (by decide) (by decide)
  have e85 : h 85 = g 85 := hh.1 85 (by decide) (by decide) (by decide) (by decide)
  have g85 : ∀ i, gtM h t (h 77 21) 85 i = if 300 * t + g 86 t ≤ i ∧ i < 300 * t + g 86 t + u1 73 2 then h 95 (i - (300 * t + g 86 t)) else g 85 i := fun i => by
    unfold gtM
    rw [e86, e85, hn]
    by_cases e : 300 * t + g 86 t ≤ i ∧ i < 300 * t + g 86 t + u1 73 2
    · rw [if_pos e, if_pos ⟨rfl, e⟩]
    · rw [if_neg e, if_neg (fun z => e z.2), if_neg (fun z => absurd z.1 (by decide))]
  have g86 : ∀ i, gtM h t (h 77 21) 86 i = if i = t then g 86 t + u1 73 2 else g 86 i := fun i => by
    unfold gtM
    rw [if_neg (fun z => absurd z.1 (by decide)), e86, hn]
    by_cases e : i = t
    · rw [if_pos e, if_pos ⟨rfl, e⟩]
    · rw [if_neg e, if_neg (fun z => e z.2)]
  refine ⟨?_, mOK_gt ⟨ht.1, by omega⟩ hmh (by rw [hn, e86]; omega) (fun j j1 j2 => by rw [hn] at j2; exact (hx j j1 j2).2)⟩
  refine Rel_t hR hm ht fr (fun f hf2 => by rw [gtM_f (by decide) (by decide)]; exact hh.2 f hf2) ⟨hf 78 (by decide) (by decide) (by decide) (by decide) (by decide) (by decide), hf 79 (by decide) (by decide) (by decide) (by decide) (by decide) (by decide), hf 80 (by decide) (by decide) (by decide) (by decide) (by decide) (by decide), hf 81 (by decide) (by decide) (by decide) (by decide) (by decide) (by decide), hf 82 (by decide) (by decide) (by decide) (by decide) (by decide) (by decide), hf 92 (by decide) (by decide) (by decide) (by decide) (by decide) (by decide)⟩ (fun y y1 y2 y3 => ?_) ?_
  · rw [g86, if_neg y3, hf 87 (by decide) (by decide) (by decide) (by decide) (by decide) (by decide), hf 88 (by decide) (by decide) (by decide) (by decide) (by decide) (by decide), hf 89 (by decide) (by decide) (by decide) (by decide) (by decide) (by decide), hf 90 (by decide) (by decide) (by decide) (by decide) (by decide) (by decide), hf 91 (by decide) (by decide) (by decide) (by decide) (by decide) (by decide), hf 93 (by decide) (by decide) (by decide) (by decide) (by decide) (by decide), hf 94 (by decide) (by decide) (by decide) (by decide) (by decide) (by decide)]
    have ky := hm.2.2.2.2.1 y y1 y2
    exact ⟨⟨rfl, rfl, rfl, rfl, rfl, rfl, rfl, rfl⟩, fun k k1 k2 => by rw [g85, if_neg (by omega)]⟩
  · unfold RelT
    rw [g86, if_pos rfl, hf 87 (by decide) (by decide) (by decide) (by decide) (by decide) (by decide), hf 88 (by decide) (by decide) (by decide) (by decide) (by decide) (by decide), hf 89 (by decide) (by decide) (by decide) (by decide) (by decide) (by decide), hf 90 (by decide) (by decide) (by decide) (by decide) (by decide) (by decide), hf 91 (by decide) (by decide) (by decide) (by decide) (by decide) (by decide), hf 92 (by decide) (by decide) (by decide) (by decide) (by decide) (by decide), hf 93 (by decide) (by decide) (by decide) (by decide) (by decide) (by decide), hf 94 (by decide) (by decide) (by decide) (by decide) (by decide) (by decide), ek1, ekf 2 (by decide), ekf 3 (by decide), ekf 4 (by decide), ekf 5 (by decide), ekf 7 (by decide), ekf 8 (by decide), ekf 9 (by decide), fr (26 + t.toNat) (by omega) (by omega) (by omega) (by omega)]
    refine ⟨⟨by omega, a2, a3, a4, a5, a6, a7, a8⟩, fun k k1 k2 => ?_, c⟩
    rw [g85]
    by_cases e : k < g 86 t
    · rw [if_neg (by omega), h3.2.2.2 k (by rw [ek, a1]; exact e), er]
      exact b k k1 e
    · rw [if_pos (by omega)]
      have := h3.2.2.1 (k - g 86 t) (by omega) (by omega)
      rw [ek, a1, show g 86 t + (k - g 86 t) = k by omega, e74, (hx _ (by omega) (by omega)).1] at this
      rw [this]
      congr 2
      omega
theorem ldM_v {g : RW} {t : Int} :
    (∀ j, j ≠ 77 → j ≠ 82 → j ≠ 89 → j ≠ 90 → j ≠ 91 → j ≠ 94 → ldM g t j = g j) ∧ (∀ f, f ≠ 24 → ldM g t 77 f = g 77 f) ∧ ldM g t 77 24 = (if g 89 t - 1 = 0 then g 77 24 + g 90 t else g 77 24) ∧
    (∀ s, s ≠ gMt g t → ldM g t 82 s = g 82 s) ∧ ldM g t 82 (gMt g t) = (if g 89 t - 1 = 0 then g 82 (gMt g t) - ldC g t else g 82 (gMt g t)) ∧
    (∀ y, y ≠ t → ldM g t 89 y = g 89 y ∧ ldM g t 90 y = g 90 y ∧ ldM g t 91 y = g 91 y ∧ ldM g t 94 y = g 94 y) ∧ ldM g t 89 t = g 89 t - 1 ∧ ldM g t 90 t = (if g 89 t - 1 = 0 then ldC g t else g 90 t) ∧ ldM g t 91 t = (if g 89 t - 1 = 0 then 1 else g 91 t) ∧ ldM g t 94 t = (if g 89 t - 1 = 0 then (g 94 t + 1) % g 93 t else g 94 t) := by
  unfold ldM
  by_cases e : g 89 t - 1 = 0
  · simp only [if_pos e]
    refine ⟨fun j j1 j2 j3 j4 j5 j6 => by rw [upw_f j5, upw_f j6, upw_f j2, upw_f j4, upw_f j1, upw_f j3], fun f hf => ?_, ?_, fun s hs => ?_, ?_, fun y hy => ⟨?_, ?_, ?_, ?_⟩, ?_, ?_, ?_, ?_⟩ <;> (repeat (first | rw [upw_ne (by omega)] | rw [upw_eq (by omega) (by omega)]))
  · simp only [if_neg e]
    refine ⟨fun j j1 j2 j3 j4 j5 j6 => upw_f j3, fun f hf => ?_, ?_, fun s hs => ?_, ?_, fun y hy => ⟨?_, ?_, ?_, ?_⟩, ?_, ?_, ?_, ?_⟩ <;> (repeat (first | rw [upw_ne (by omega)] | rw [upw_eq (by omega) (by omega)]))
/-- loading is the same on either side -/
theorem rel_ld {w g : RW} {t : Int} (hR : Rel w g) (hC : CI w) (hm : mOK g) (ht : 0 ≤ t ∧ t < g 77 10) (ho : 0 < g 93 t) (hl : 0 < g 89 t) : Rel (ldX w t) (ldM g t) ∧ mOK (ldM g t) := by
  obtain ⟨hg1, hg2, hg3, hg4⟩ := rl_gk hR hC ht ho
  have k3 := hm.2.2.1
  have kt := hm.2.2.2.2.1 t ht.1 (by omega)
  have k4 := hm.2.2.2.1 (gMt g t) hg4.1 (by omega)
  obtain ⟨⟨a1, a2, a3, a4, a5, a6, a7, a8⟩, b, c⟩ := hR.2.2.2.2 t ht.1 ht.2
  have hsp := hR.2.2.2.1 (gMt g t) hg4.1 hg4.2
  obtain ⟨v1, v2, v3, v4, v5, v6, v7, v8, v9, v10⟩ := ldX_v (w := w) (t := t) ⟨ht.1, by omega⟩ (by rw [hg3]; omega)
  obtain ⟨m1, m2, m3, m4, m5, m6, m7, m8, m9, m10⟩ := ldM_v (g := g) (t := t)
  rw [hg3] at v1 v4 v5
  have hcc : ldXC w t = ldC g t := by
    unfold ldXC ldC
    rw [hg3, hsp.2.2, a2]
    (repeat' split) <;> omega
  have hC0 : 0 ≤ ldC g t ∧ ldC g t ≤ 100 ∧ ldC g t ≤ g 82 (gMt g t) := by unfold ldC; split <;> omega
  have hem : 0 ≤ (g 94 t + 1) % g 93 t ∧ (g 94 t + 1) % g 93 t < g 93 t := ⟨Int.emod_nonneg _ (by omega), Int.emod_lt_of_pos _ ho⟩
  have htn : (g 94 t + 1) % g 93 t = if g 94 t + 1 < g 93 t then g 94 t + 1 else 0 := by
    split
    · exact Int.emod_eq_of_lt (by omega) (by omega)
    · rw [show g 94 t + 1 = g 93 t by omega, Int.emod_self]
  constructor
  · obtain ⟨r1, r2, r3, r4, r5⟩ := hR
    unfold Rel
    rw [v1 2 (by decide) (by omega) (by omega), v1 3 (by decide) (by omega) (by omega), v1 4 (by decide) (by omega) (by omega), v2 3 (by decide), v2 4 (by decide), v2 5 (by decide), v3, m1 78 (by decide) (by decide) (by decide) (by decide) (by decide) (by decide), m1 79 (by decide) (by decide) (by decide) (by decide) (by decide) (by decide), m2 0 (by decide), m2 1 (by decide), m2 4 (by decide), m2 10 (by decide), m2 23 (by decide), m3]
    refine ⟨r1, ⟨r2.1, r2.2.1, r2.2.2.1, by rw [a4, a5, r2.2.2.2]; (repeat' split) <;> omega⟩, r3, fun s s1 s2 => ?_, fun y y1 y2 => ?_⟩
    · unfold RelS
      rw [m1 80 (by decide) (by decide) (by decide) (by decide) (by decide) (by decide), m1 81 (by decide) (by decide) (by decide) (by decide) (by decide) (by decide)]
      by_cases e : s = gMt g t
      · rw [e, v4 0 (by decide), v4 1 (by decide), v5, m5, hcc]
        refine ⟨hsp.1, hsp.2.1, ?_⟩
        rw [hsp.2.2, a4]
        (repeat' split) <;> omega
      · rw [v1 (7 + s.toNat) (by omega) (by omega) (by omega), m4 s e]
        exact r4 s s1 s2
    · unfold RelT
      rw [v1 (20 + y.toNat) (by omega) (by omega) (by omega), v1 (26 + y.toNat) (by omega) (by omega) (by omega), m1 85 (by decide) (by decide) (by decide) (by decide) (by decide) (by decide), m1 86 (by decide) (by decide) (by decide) (by decide) (by decide) (by decide), m1 87 (by decide) (by decide) (by decide) (by decide) (by decide) (by decide), m1 88 (by decide) (by decide) (by decide) (by decide) (by decide) (by decide), m1 92 (by decide) (by decide) (by decide) (by decide) (by decide) (by decide), m1 93 (by decide) (by decide) (by decide) (by decide) (by decide) (by decide)]
      by_cases e : y = t
      · subst e
        rw [v6 1 (by decide) (by decide) (by decide) (by decide), v6 2 (by decide) (by decide) (by decide) (by decide), v6 3 (by decide) (by decide) (by decide) (by decide), v6 7 (by decide) (by decide) (by decide) (by decide), v7, v8, v9, v10, m7, m8, m9, m10, hcc, a4, a5, a6, a7, a8, htn]
        exact ⟨⟨a1, a2, a3, rfl, by (repeat' split) <;> omega, rfl, by (repeat' split) <;> omega, by (repeat' split) <;> omega⟩, b, c⟩
      · rw [v1 (14 + y.toNat) (by omega) (by omega) (by omega), (m6 y e).1, (m6 y e).2.1, (m6 y e).2.2.1, (m6 y e).2.2.2]
        exact r5 y y1 y2
  · refine mOK_d hm ⟨m2 0 (by decide), m2 1 (by decide), m2 4 (by decide), m2 10 (by decide)⟩ ⟨m1 78 (by decide) (by decide) (by decide) (by decide) (by decide) (by decide), m1 79 (by decide) (by decide) (by decide) (by decide) (by decide) (by decide), m1 80 (by decide) (by decide) (by decide) (by decide) (by decide) (by decide), m1 81 (by decide) (by decide) (by decide) (by decide) (by decide) (by decide), m1 87 (by decide) (by decide) (by decide) (by decide) (by decide) (by decide), m1 92 (by decide) (by decide) (by decide) (by decide) (by decide) (by decide), m1 93 (by decide) (by decide) (by decide) (by decide) (by decide) (by decide)⟩ (fun s s1 s2 => ?_) (fun i i1 i2 => by rw [m1 85 (by decide) (by decide) (by decide) (by decide) (by decide) (by decide)]; exact hm.2.2.2.2.2.1 i i1 i2) (fun y y1 y2 => ?_)
    · by_cases e : s = gMt g t
      · rw [e, m5]; split <;> omega
      · rw [m4 s e]; have := hm.2.2.2.1 s s1 s2; omega
    · have ky := hm.2.2.2.2.1 y y1 y2
      rw [m1 86 (by decide) (by decide) (by decide) (by decide) (by decide) (by decide), m1 88 (by decide) (by decide) (by decide) (by decide) (by decide) (by decide)]
      by_cases e : y = t
      · subst e
        rw [m7, m8, m9, m10]
        refine ⟨by omega, by omega, by omega, by omega, by omega, by omega, by omega, by split <;> omega, by split <;> omega, ?_, by split <;> omega, by split <;> omega⟩
        split
        · exact Or.inr rfl
        · exact ky.2.2.2.2.2.2.2.2.2.2.2.1
      · rw [(m6 y e).1, (m6 y e).2.1, (m6 y e).2.2.1, (m6 y e).2.2.2]
        refine ⟨by omega, by omega, by omega, by omega, by omega, by omega, by omega, by omega, by omega, ky.2.2.2.2.2.2.2.2.2.2.2.1, by omega, by omega⟩
theorem rel_nil {u1 u2 v h : RW} {t : Int} (hR : Rel u1 h) (hm : mOK h) (ht : 0 ≤ t ∧ t < h 77 10) (h2 : hoI u1 u2 t (u1 73 2)) (h3 : rvI u2 v (14 + t.toNat) (20 + t.toNat) (u1 73 2)) (h0 : u1 73 2 = 0) : Rel v h := by
  have k3 := hm.2.2.1
  obtain ⟨⟨a1, a2, a3, a4, a5, a6, a7, a8⟩, b, c⟩ := hR.2.2.2.2 t ht.1 ht.2
  have ek : u2 (14 + t.toNat) = u1 (14 + t.toNat) := h2.1 _ (by omega)
  have ekf : ∀ f, f ≠ 1 → v (14 + t.toNat) f = u1 (14 + t.toNat) f := fun f hf => by rw [h3.2.1.2 f hf, ek]
  refine Rel_t hR hm ht (fun j _ j1 j2 j3 => by rw [h3.1 j j2 j3, h2.1 j j1]) (fun _ _ => rfl) ⟨rfl, rfl, rfl, rfl, rfl, rfl⟩ (fun y y1 y2 y3 => ⟨⟨rfl, rfl, rfl, rfl, rfl, rfl, rfl, rfl⟩, fun _ _ _ => rfl⟩) ?_
  unfold RelT
  rw [h3.2.1.1, ek, h0, ekf 2 (by decide), ekf 3 (by decide), ekf 4 (by decide), ekf 5 (by decide), ekf 7 (by decide), ekf 8 (by decide), ekf 9 (by decide), h3.1 (26 + t.toNat) (by omega) (by omega), h2.1 (26 + t.toNat) (by omega)]
  refine ⟨⟨by omega, a2, a3, a4, a5, a6, a7, a8⟩, fun k k1 k2 => ?_, c⟩
  rw [h3.2.2.2 k (by rw [ek, a1]; exact k2), h2.1 (20 + t.toNat) (by omega)]
  exact b k k1 k2
/-- what a tick does to a train is the same on either side -/
theorem act_cap {w u g : RW} {t r : Int} (hR : Rel w g) (hC : CI w) (hm : mOK g) (hw : wOK w) (hk : kOK g) (ht : 0 ≤ t ∧ t < g 77 10) (ho : 0 < g 93 t) (h : advC w u t r) : g 89 t ≤ 0 → ¬ dueM g t → g 86 t - g 87 t < 6 → ∀ h, mqM g h t 1 → canG h → g 86 t + h 77 21 ≤ 96 := by
  intro w0 hd ha h' hM hc
  have k3 := hm.2.2.1
  obtain ⟨⟨a1, a2, a3, a4, a5, a6, a7, a8⟩, b, c⟩ := hR.2.2.2.2 t ht.1 ht.2
  have htw : 0 ≤ t ∧ t < w 1 4 := by rw [rl_nt hR]; exact ht
  have how : 0 < w (14 + t.toNat) 7 := by rw [a6]; exact ho
  rcases h with ⟨y, _⟩ | ⟨_, y, _⟩ | ⟨_, _, v, hv, _⟩
  · omega
  · omega
  · rcases hv with ⟨y, _⟩ | ⟨_, u1, f, hq, _⟩
    · exact absurd ⟨fun z => hd ((rl_due hR hC hm ht ho).mp z), by omega⟩ y
    · have hs := req_sim hR hC hm hw hk ht ho hq hM
      have hfr := mqM_frame hm ⟨ht.1, by omega⟩ hk hM
      rcases hs with ⟨y, _⟩ | ⟨_, y1, y2, y3⟩
      · omega
      · have hag := ag_sim hR hC hm ht ho hq ⟨hfr.1, hfr.2.1⟩ y2 (fun j j1 j2 => ⟨(y3 j j1 j2).1, (y3 j j1 j2).2.1⟩)
        have hf0 := hag.2.2.mpr hc
        rw [hf0] at hq
        have := cap_x hC htw how hq
        omega
theorem act_sim {w u g g' : RW} {t r r' : Int} (hR : Rel w g) (hC : CI w) (hm : mOK g) (hw : wOK w) (hk : kOK g) (ht : 0 ≤ t ∧ t < g 77 10) (ho : 0 < g 93 t) (h : advC w u t r) (hM : actM g g' t r') : r = r' ∧ Rel u g' ∧ mOK g' ∧ kOK g' := by
  have k3 := hm.2.2.1
  obtain ⟨⟨a1, a2, a3, a4, a5, a6, a7, a8⟩, b, c⟩ := hR.2.2.2.2 t ht.1 ht.2
  have htw : 0 ≤ t ∧ t < w 1 4 := by rw [rl_nt hR]; exact ht
  have how : 0 < w (14 + t.toNat) 7 := by rw [a6]; exact ho
  rcases h with ⟨y, _⟩ | ⟨_, y, rfl, rfl⟩ | ⟨_, y, v, hv, rfl, rfl⟩
  · omega
  · rcases hM with ⟨z, rfl, rfl⟩ | ⟨z, _⟩
    · have := rel_ld hR hC hm ht ho z
      obtain ⟨m1, m2, _⟩ := ldM_v (g := g) (t := t)
      exact ⟨rfl, this.1, this.2, kOK_c hm (m2 0 (by decide)) (m2 1 (by decide)) (m1 78 (by decide) (by decide) (by decide) (by decide) (by decide) (by decide)) (m1 79 (by decide) (by decide) (by decide) (by decide) (by decide) (by decide)) (m1 80 (by decide) (by decide) (by decide) (by decide) (by decide) (by decide)) (m1 83 (by decide) (by decide) (by decide) (by decide) (by decide) (by decide)) (m1 84 (by decide) (by decide) (by decide) (by decide) (by decide) (by decide)) hk⟩
    · omega
  · rcases hM with ⟨z, _⟩ | ⟨z, v', hv', rfl, rfl⟩
    · omega
    · have hdue := rl_due hR hC hm ht ho
      -- the worlds behind the request
      have key : Rel v v' ∧ CI v ∧ wOK v ∧ mOK v' ∧ kOK v' ∧ v' 77 10 = g 77 10 ∧ v' 93 = g 93 := by
        rcases hv with ⟨x1, rfl⟩ | ⟨x1, u1, f, hq, x2⟩
        · rcases hv' with ⟨x1', rfl⟩ | ⟨x1', _⟩
          · exact ⟨hR, hC, hw, hm, hk, rfl, rfl⟩
          · exact absurd ⟨fun q => x1'.1 (hdue.mp q), by omega⟩ x1
        · rcases hv' with ⟨x1', _⟩ | ⟨x1', h', rr, hq', x2'⟩
          · exact absurd ⟨fun q => x1.1 (hdue.mpr q), by omega⟩ x1'
          · have hs := req_sim hR hC hm hw hk ht ho hq hq'
            have hfr := mqM_frame hm ⟨ht.1, by omega⟩ hk hq'
            have hfc : frC g h' := ⟨hfr.1, hfr.2.1⟩
            have hmh : mOK h' := mOK_c hfr.1 hfr.2.1 hm
            have hwi := CI_wish hC hw htw how hq
            have mw := mq_wish hC htw how hq
            have e93 : h' 93 = g 93 := hfr.1 93 (by decide) (by decide) (by decide) (by decide)
            have e10 : h' 77 10 = g 77 10 := hfr.2.1 10 (by decide)
            have Rw : Rel u1 h' := Rel_g hm hfc (Rel_w hm (fun j hj => mw.1 j (Or.inl hj)) hR)
            rcases hs with ⟨s1, s2⟩ | ⟨s1, s2, s3, s4⟩
            · have hf0 := ag_none hq s2
              rcases x2' with ⟨_, rfl⟩ | ⟨⟨q, _⟩, _⟩
              · rcases x2 with ⟨q, _⟩ | ⟨_, u2, h2, h3⟩
                · exact absurd hf0 q
                · rw [hf0] at hq
                  have hgr := CI_grant hC hw htw how hq h2 h3
                  refine ⟨?_, hgr.1, hgr.2, hmh, hfr.2.2.1, e10, e93⟩
                  exact rel_nil Rw hmh (by rw [e10]; exact ht) h2 h3 s2
              · omega
            · have hx : ∀ j, 0 ≤ j → j < u1 73 2 → u1 74 j = rn (h' 95 j) ∧ 0 ≤ h' 95 j ∧ h' 95 j < 576 := fun j j1 j2 => ⟨(s4 j j1 j2).1, (s4 j j1 j2).2.1⟩
              have hag := ag_sim hR hC hm ht ho hq hfc s3 hx
              rcases x2 with ⟨q, rfl⟩ | ⟨q, u2, h2, h3⟩
              · rcases x2' with ⟨_, rfl⟩ | ⟨⟨_, q2⟩, _⟩
                · exact ⟨Rw, hwi.1, hwi.2, hmh, hfr.2.2.1, e10, e93⟩
                · exact absurd (hag.2.2.mpr q2) q
              · rcases x2' with ⟨q2, _⟩ | ⟨_, rfl⟩
                · exact absurd ⟨s1, hag.2.2.mp q⟩ q2
                · subst q
                  have hgr := CI_grant hC hw htw how hq h2 h3
                  have hrg := rel_grant hR hC hm ht ho hq h2 h3 hfc s3 hx
                  refine ⟨hrg.1, hgr.1, hgr.2, hrg.2, kOK_c hmh (by rw [gtM_f (by decide) (by decide)]) (by rw [gtM_f (by decide) (by decide)]) (gtM_f (by decide) (by decide)) (gtM_f (by decide) (by decide)) (gtM_f (by decide) (by decide)) (gtM_f (by decide) (by decide)) (gtM_f (by decide) (by decide)) hfr.2.2.1, by rw [gtM_f (by decide) (by decide)]; exact e10, by rw [gtM_f (by decide) (by decide)]; exact e93⟩
      obtain ⟨r1, r2, r3, r4, r5, r6, r7⟩ := key
      obtain ⟨z1, z2, z3⟩ := rel_Z r1 r2 r3 r4 (t := t) (by rw [r6]; exact ht) (by rw [r7]; exact ho)
      exact ⟨z1, z2, z3, kOK_c r4 (by rw [acZ_f (by decide) (by decide) (by decide) (by decide) (by decide)]) (by rw [acZ_f (by decide) (by decide) (by decide) (by decide) (by decide)]) (acZ_f (by decide) (by decide) (by decide) (by decide) (by decide)) (acZ_f (by decide) (by decide) (by decide) (by decide) (by decide)) (acZ_f (by decide) (by decide) (by decide) (by decide) (by decide)) (acZ_f (by decide) (by decide) (by decide) (by decide) (by decide)) (acZ_f (by decide) (by decide) (by decide) (by decide) (by decide)) r5⟩
