def eqC (w u : RW) : Prop := (u 2 0 = w 2 0 ∧ u 2 1 = w 2 1) ∧ (∀ i, 0 ≤ i → i < 64 → u 3 i = w 3 i) ∧ (∀ i, 0 ≤ i → i < 384 → u 4 i = w 4 i ∧ u 5 i = w 5 i) ∧ (u 1 3 = w 1 3 ∧ u 1 4 = w 1 4 ∧ u 1 5 = w 1 5 ∧ u 1 6 = w 1 6 ∧ u 1 7 = w 1 7) ∧
  (∀ s, 0 ≤ s → s < w 1 3 → u (7 + s.toNat) 0 = w (7 + s.toNat) 0 ∧ u (7 + s.toNat) 1 = w (7 + s.toNat) 1 ∧ u (7 + s.toNat) 2 = w (7 + s.toNat) 2) ∧
  ∀ t, 0 ≤ t → t < w 1 4 → (u (14 + t.toNat) 1 = w (14 + t.toNat) 1 ∧ u (14 + t.toNat) 2 = w (14 + t.toNat) 2 ∧ u (14 + t.toNat) 3 = w (14 + t.toNat) 3 ∧ u (14 + t.toNat) 4 = w (14 + t.toNat) 4 ∧ u (14 + t.toNat) 5 = w (14 + t.toNat) 5 ∧ u (14 + t.toNat) 7 = w (14 + t.toNat) 7 ∧ u (14 + t.toNat) 8 = w (14 + t.toNat) 8 ∧ u (14 + t.toNat) 9 = w (14 + t.toNat) 9) ∧ (∀ i, 0 ≤ i → i < 96 → u (20 + t.toNat) i = w (20 + t.toNat) i) ∧ ∀ i, 0 ≤ i → i < 6 → u (26 + t.toNat) i = w (26 + t.toNat) i
def eqM (g h : RW) : Prop := (h 77 0 = g 77 0 ∧ h 77 1 = g 77 1 ∧ h 77 4 = g 77 4 ∧ h 77 10 = g 77 10 ∧ h 77 23 = g 77 23 ∧ h 77 24 = g 77 24) ∧ (∀ i, 0 ≤ i → i < 288 → h 78 i = g 78 i ∧ h 79 i = g 79 i) ∧ (∀ i, 0 ≤ i → i < 1800 → h 85 i = g 85 i) ∧
  (∀ t, 0 ≤ t → t < 6 → (h 86 t = g 86 t ∧ h 87 t = g 87 t ∧ h 88 t = g 88 t ∧ h 89 t = g 89 t ∧ h 90 t = g 90 t ∧ h 91 t = g 91 t ∧ h 93 t = g 93 t ∧ h 94 t = g 94 t) ∧ h 80 t = g 80 t ∧ h 81 t = g 81 t ∧ h 82 t = g 82 t) ∧ ∀ i, 0 ≤ i → i < 36 → h 92 i = g 92 i
theorem eqC_of {w u : RW} (h : ∀ j, j < 32 → u j = w j) (hc : cOK w) : eqC w u := by
  have k4 := hc.2.2.2.1
  unfold eqC
  rw [h 1 (by decide), h 2 (by decide), h 3 (by decide), h 4 (by decide), h 5 (by decide)]
  exact ⟨⟨rfl, rfl⟩, fun _ _ _ => rfl, fun _ _ _ => ⟨rfl, rfl⟩, ⟨rfl, rfl, rfl, rfl, rfl⟩, fun s s1 s2 => by rw [h (7 + s.toNat) (by omega)]; exact ⟨rfl, rfl, rfl⟩, fun t t1 t2 => by
    rw [h (14 + t.toNat) (by omega), h (20 + t.toNat) (by omega), h (26 + t.toNat) (by omega)]
    exact ⟨⟨rfl, rfl, rfl, rfl, rfl, rfl, rfl, rfl⟩, fun _ _ _ => rfl, fun _ _ _ => rfl⟩⟩
theorem cOK_eq {w u : RW} (he : eqC w u) (hc : cOK w) : cOK u := by
  obtain ⟨e2, e3, e4, e1, es, et⟩ := he
  obtain ⟨k1, k2, k3, k4, k5, k6⟩ := hc
  unfold cOK
  rw [e2.1, e2.2, e1.1, e1.2.1]
  refine ⟨k1, fun t t1 t2 => ?_, fun p q1 q2 => ?_, k4, fun s s1 s2 => ?_, fun t t1 t2 => ?_⟩
  · rw [e3 t t1 t2]; exact k2 t t1 t2
  · rw [(e4 p q1 q2).1, (e4 p q1 q2).2]; exact k3 p q1 q2
  · obtain ⟨a, b, c⟩ := es s s1 s2
    have := k5 s s1 s2
    unfold gok at this ⊢
    rw [a, b, c, e2.1, e2.2, e3 _ (by omega) (by omega)]
    exact this
  · obtain ⟨⟨a1, a2, a3, a4, a5, a7, a8, a9⟩, b, c⟩ := et t t1 t2
    have := k6 t t1 t2
    unfold tok at this ⊢
    rw [a1, a2, a3, a4, a5, a7, a8, a9]
    exact ⟨this.1, this.2.1, this.2.2.1, fun i i1 i2 => by rw [b i i1 (by omega)]; exact this.2.2.2.1 i i1 i2, fun i i1 i2 => by rw [c i i1 (by omega)]; exact this.2.2.2.2 i i1 i2⟩
theorem CI_eq {w u : RW} (he : eqC w u) (hC : CI w) : CI u := by
  have hcu := cOK_eq he hC.1
  have hC0 := hC
  obtain ⟨e2, e3, e4, e1, es, et⟩ := he
  obtain ⟨a, b, c, d, e, f⟩ := hC
  have k4 := a.2.2.2.1
  have k5 := a.2.2.2.2.1
  have k6 := a.2.2.2.2.2
  have hh : ∀ t k, heX u t k ↔ heX w t k := fun t k => by
    unfold heX
    rw [e1.2.1]
    constructor
    · rintro ⟨h1, h2⟩; rw [(et t h1.1 h1.2).1.1] at h2; exact ⟨h1, h2⟩
    · rintro ⟨h1, h2⟩; rw [(et t h1.1 h1.2).1.1]; exact ⟨h1, h2⟩
  have hx : ∀ t k, heX w t k → rX u t k = rX w t k := fun t k hq => by
    unfold rX
    have h1 := k6 t hq.1.1 hq.1.2
    unfold tok at h1
    exact (et t hq.1.1 hq.1.2).2.1 k hq.2.1 (by have := hq.2.2; omega)
  refine ⟨hcu, ?_, ?_, ?_, ?_, ?_⟩
  · rw [e2.1, e2.2]
    intro x p c1 c2 p1 p2 ht
    rw [e3 x c1 (by omega)] at ht
    exact b x p c1 c2 p1 p2 ht
  · rw [e1.1]
    intro s s1 s2
    have hg := (k5 s s1 s2).1.1
    rw [(es s s1 s2).1, (e4 _ hg.1 hg.2).1]
    exact c s s1 s2
  · intro t k hq
    have h5 := (hh t k).mp hq
    have ho := heX_ok hC0 h5
    unfold okR at ho
    rw [hx t k h5, e3 _ (by omega) (by omega)]
    exact d t k h5
  · intro t k t' k' hq hq' hcx
    have h5 := (hh t k).mp hq
    have h6 := (hh t' k').mp hq'
    rw [hx t k h5, hx t' k' h6] at hcx
    exact e t k t' k' h5 h6 hcx
  · intro i i1 i2 i3 t t1
    rw [(e4 i i1 i2).2, f i i1 i2 i3 t t1]
    constructor
    · rintro ⟨k, hq, hcx⟩
      exact ⟨k, (hh t k).mpr hq, by rw [hx t k hq]; exact hcx⟩
    · rintro ⟨k, hq, hcx⟩
      have h5 := (hh t k).mp hq
      exact ⟨k, h5, by rw [← hx t k h5]; exact hcx⟩
theorem Rel_eq {w u g h : RW} (he : eqC w u) (hg : eqM g h) (hm : mOK g) (hR : Rel w g) : Rel u h := by
  obtain ⟨e2, e3, e4, e1, es, et⟩ := he
  obtain ⟨g1, g2, g3, g4, g5⟩ := hg
  obtain ⟨a, b, c, d, e⟩ := hR
  have k3 := hm.2.2.1
  unfold Rel
  rw [e2.1, e2.2, e1.1, e1.2.1, e1.2.2.1, e1.2.2.2.1, g1.1, g1.2.1, g1.2.2.1, g1.2.2.2.1, g1.2.2.2.2.1, g1.2.2.2.2.2]
  refine ⟨a, b, fun i i1 i2 => ?_, fun s s1 s2 => ?_, fun t t1 t2 => ?_⟩
  · have hp := plc_f ⟨i1, i2⟩
    rw [e3 _ (by omega) (by omega), (e4 _ hp.2.2.1 hp.2.2.2.1).1, (g2 i i1 i2).1, (g2 i i1 i2).2]
    exact c i i1 i2
  · obtain ⟨q1, q2, q3⟩ := es s s1 (by omega)
    obtain ⟨_, q4, q5, q6⟩ := g4 s s1 (by omega)
    unfold RelS
    rw [q1, q2, q3, q4, q5, q6]
    exact d s s1 s2
  · obtain ⟨⟨a1, a2, a3, a4, a5, a7, a8, a9⟩, r1, r2⟩ := et t t1 (by omega)
    obtain ⟨⟨b1, b2, b3, b4, b5, b6, b7, b8⟩, _⟩ := g4 t t1 (by omega)
    have k5 := hm.2.2.2.2.1 t t1 (by omega)
    have := e t t1 t2
    unfold RelT at this ⊢
    rw [a1, a2, a3, a4, a5, a7, a8, a9, b1, b2, b3, b4, b5, b6, b7, b8]
    refine ⟨this.1, fun k i1 i2 => ?_, fun k i1 i2 => ?_⟩
    · rw [r1 k i1 (by omega), g3 _ (by omega) (by omega)]
      exact this.2.1 k i1 i2
    · rw [r2 k i1 (by omega), g5 _ (by omega) (by omega)]
      exact this.2.2 k i1 i2
theorem mOK_eq {g h : RW} (hg : eqM g h) (hm : mOK g) : mOK h := by
  obtain ⟨g1, g2, g3, g4, g5⟩ := hg
  obtain ⟨k1, k2, k3, k4, k5, k6, k7⟩ := hm
  unfold mOK
  rw [g1.1, g1.2.1, g1.2.2.1, g1.2.2.2.1]
  refine ⟨k1, fun p q1 q2 => ?_, k3, fun s s1 s2 => ?_, fun t t1 t2 => ?_, fun i i1 i2 => ?_, fun i i1 i2 => ?_⟩
  · rw [(g2 p q1 q2).1, (g2 p q1 q2).2]; exact k2 p q1 q2
  · obtain ⟨_, q4, q5, q6⟩ := g4 s s1 s2
    rw [q4, q5, q6]; exact k4 s s1 s2
  · obtain ⟨⟨b1, b2, b3, b4, b5, b6, b7, b8⟩, _⟩ := g4 t t1 t2
    rw [b1, b2, b3, b4, b5, b6, b7, b8]; exact k5 t t1 t2
  · rw [g3 i i1 i2]; exact k6 i i1 i2
  · rw [g5 i i1 i2]; exact k7 i i1 i2
theorem shw_at {z : RW} {k : Nat} (h : 1 ≤ k ∧ k < 32) : shw z k = z (k + 31) := by
  unfold shw
  exact if_pos h
theorem shw_at2 {z : RW} {b : Nat} {s : Int} (h : 1 ≤ b + s.toNat ∧ b + s.toNat < 32) : shw z (b + s.toNat) = z (b + 31 + s.toNat) := by
  rw [shw_at h, show b + s.toNat + 31 = b + 31 + s.toNat by omega]
/-- the save: what is kept is what was -/
theorem eq_save {z u : RW} (h : cyP z u 32 1) (h2 : z 33 0 = z 2 0 ∧ z 33 1 = z 2 1) (hc : cOK z) : eqC z (shw u) := by
  obtain ⟨c1, c2, c3, c4, c5, c6, c7, c8, c9, c10, c11, c12⟩ := h
  have k4 := hc.2.2.2.1
  unfold eqC
  rw [shw_at (k := 1) (by decide), shw_at (k := 2) (by decide), shw_at (k := 3) (by decide), shw_at (k := 4) (by decide), shw_at (k := 5) (by decide)]
  refine ⟨?_, c4, c5, ⟨c8, c9, c10, c11, c12⟩, fun s s1 s2 => ?_, fun t t1 t2 => ?_⟩
  · show u 33 0 = z 2 0 ∧ u 33 1 = z 2 1
    rw [c3]; exact h2
  · rw [shw_at2 (by omega)]
    exact c6 s s1 s2
  · rw [shw_at2 (b := 14) (by omega), shw_at2 (b := 20) (by omega), shw_at2 (b := 26) (by omega)]
    exact c7 t t1 t2
theorem eq_rest {z u : RW} (h : cyP z u 1 32) (h2 : z 33 0 = z 2 0 ∧ z 33 1 = z 2 1) (hc : cOK (shw z)) : eqC (shw z) u := by
  obtain ⟨c1, c2, c3, c4, c5, c6, c7, c8, c9, c10, c11, c12⟩ := h
  have k4 := hc.2.2.2.1
  unfold eqC
  rw [shw_at (k := 1) (by decide)] at k4 ⊢
  rw [shw_at (k := 2) (by decide), shw_at (k := 3) (by decide), shw_at (k := 4) (by decide), shw_at (k := 5) (by decide)]
  refine ⟨?_, c4, c5, ⟨c8, c9, c10, c11, c12⟩, fun s s1 s2 => ?_, fun t t1 t2 => ?_⟩
  · show u 2 0 = z 33 0 ∧ u 2 1 = z 33 1
    rw [h2.1, h2.2]
    exact ⟨by rw [show u 2 = z 2 from c3], by rw [show u 2 = z 2 from c3]⟩
  · rw [shw_at2 (by omega)]
    exact c6 s s1 s2
  · rw [shw_at2 (b := 14) (by omega), shw_at2 (b := 20) (by omega), shw_at2 (b := 26) (by omega)]
    exact c7 t t1 t2
theorem eqM_save {u v : RW} (hm : mOK u) (h : svM u v) : eqM u (kp v) ∧ ∀ t, 0 ≤ t → t < 6 → 0 ≤ v 99 (30 + t) := by
  obtain ⟨f, a, b, c, d, n1, n2, n3, n4, n5⟩ := h
  have k5 := hm.2.2.2.2.1
  have e77 := f 77 (by decide)
  refine ⟨⟨⟨?_, ?_, n1, n2, n3, n4⟩, a, b, fun t t1 t2 => ?_, d⟩, fun t t1 t2 => ?_⟩
  · show v 77 0 = u 77 0; rw [e77]
  · show v 77 1 = u 77 1; rw [e77]
  · obtain ⟨⟨c1, c2, c3, c4, c5, c6⟩, c7, c8, c9⟩ := c t t1 t2
    have := k5 t t1 t2
    refine ⟨⟨c1, c2, c3, c4, c5, ?_, ?_, ?_⟩, c7, c8, c9⟩
    · show (if v 99 (30 + t) < 64 then (0 : Int) else 1) = u 91 t
      rw [c6]
      by_cases e : u 91 t = 0
      · rw [if_pos e, if_pos (by omega), e]
      · rw [if_neg e, if_neg (by omega)]; omega
    · show v 99 (30 + t) % 8 = u 93 t
      rw [c6]; split <;> omega
    · show v 99 (30 + t) / 8 % 8 = u 94 t
      rw [c6]; split <;> omega
  · rw [(c t t1 t2).1.2.2.2.2.2]
    have := k5 t t1 t2
    split <;> omega
theorem eqM_rest {u v : RW} (h : rsM u v) : eqM (kp u) v := by
  obtain ⟨f, ⟨n1, n2, n3, n4, n5, n6, n7⟩, a, b, c, d, _⟩ := h
  refine ⟨⟨n6, n7, n1, n2, n3, n4⟩, a, b, fun t t1 t2 => ?_, d⟩
  obtain ⟨⟨c1, c2, c3, c4, c5, c6, c7, c8⟩, c9, c10, c11⟩ := c t t1 t2
  exact ⟨⟨c1, c2, c3, c4, c5, c8, c6, c7⟩, c9, c10, c11⟩
theorem ST_wid {n : Int} {z : RW} (h : ST n z) : z 33 0 = z 2 0 ∧ z 33 1 = z 2 1 := by
  have a := h.1.1.1
  have b := h.2.2.2.1.1
  rw [shw_at (k := 2) (by decide)] at b
  have b1 : z 33 0 = z 77 0 := b.1
  have b2 : z 33 1 = z 77 1 := b.2
  exact ⟨by rw [b1, a.1], by rw [b2, a.2]⟩
theorem s_save {n : Int} {z u v : RW} (hz : ST n z) (hc : cyP z u 32 1) (hM : svM u v) : ST (n + 1) v := by
  have hz0 := hz
  obtain ⟨⟨p1, P2, p3, p4, p5⟩, h7, hb, _⟩ := hz
  have hu : ∀ j, j < 32 → u j = z j := hc.1
  have hu2 : ∀ j, 63 ≤ j → u j = z j := hc.2.1
  have hv : ∀ j, j < 96 → v j = u j := hM.1
  have hvz : ∀ j, j < 32 → v j = z j := fun j hj => by rw [hv j (by omega), hu j hj]
  have hvm : ∀ j, 63 ≤ j → j < 96 → v j = z j := fun j hj h2 => by rw [hv j h2, hu2 j hj]
  have hmu : mOK u := mOK_g (fun j hj => hu2 j (by omega)) p4
  have es := eq_save hc (ST_wid hz0) P2.1
  have em := eqM_save hmu hM
  have emz : eqM z (kp v) := by
    have := em.1
    unfold eqM at *
    rw [hu2 77 (by decide), hu2 78 (by decide), hu2 79 (by decide), hu2 80 (by decide), hu2 81 (by decide), hu2 82 (by decide), hu2 85 (by decide), hu2 86 (by decide), hu2 87 (by decide), hu2 88 (by decide), hu2 89 (by decide), hu2 90 (by decide), hu2 91 (by decide), hu2 92 (by decide), hu2 93 (by decide), hu2 94 (by decide)] at this
    exact this
  have eqz : eqC z v := eqC_of hvz P2.1
  have hmv : mOK v := by
    unfold mOK at *
    rw [hvm 77 (by decide) (by decide), hvm 78 (by decide) (by decide), hvm 79 (by decide) (by decide), hvm 80 (by decide) (by decide), hvm 81 (by decide) (by decide), hvm 82 (by decide) (by decide), hvm 85 (by decide) (by decide), hvm 86 (by decide) (by decide), hvm 87 (by decide) (by decide), hvm 88 (by decide) (by decide), hvm 89 (by decide) (by decide), hvm 90 (by decide) (by decide), hvm 91 (by decide) (by decide), hvm 92 (by decide) (by decide), hvm 93 (by decide) (by decide), hvm 94 (by decide) (by decide)]
    exact p4
  have emv : eqM z v := by
    unfold eqM
    rw [hvm 77 (by decide) (by decide), hvm 78 (by decide) (by decide), hvm 79 (by decide) (by decide), hvm 80 (by decide) (by decide), hvm 81 (by decide) (by decide), hvm 82 (by decide) (by decide), hvm 85 (by decide) (by decide), hvm 86 (by decide) (by decide), hvm 87 (by decide) (by decide), hvm 88 (by decide) (by decide), hvm 89 (by decide) (by decide), hvm 90 (by decide) (by decide), hvm 91 (by decide) (by decide), hvm 92 (by decide) (by decide), hvm 93 (by decide) (by decide), hvm 94 (by decide) (by decide)]
    exact ⟨⟨rfl, rfl, rfl, rfl, rfl, rfl⟩, fun _ _ _ => ⟨rfl, rfl⟩, fun _ _ _ => rfl, fun _ _ _ => ⟨⟨rfl, rfl, rfl, rfl, rfl, rfl, rfl, rfl⟩, rfl, rfl, rfl⟩, fun _ _ _ => rfl⟩
  have k4 := P2.1.2.2.2.1
  have hsh : shw v = shw u := shw_c (fun j a b => hv j (by omega))
  refine ⟨⟨Rel_eq eqz emv p4 p1, CI_eq eqz P2, ?_, hmv, ?_⟩, ?_, ?_, ?_⟩
  · exact wOK_upd p3 (by omega) (fun j a b => hvm j a (by omega)) (hvz 2 (by decide)) (hvz 3 (by decide)) (hvz 4 (by decide)) (by rw [hvz 1 (by decide)]) (fun s s1 s2 => by rw [hvz (7 + s.toNat) (by omega)])
  · exact kOK_c p4 (by rw [hvm 77 (by decide) (by decide)]) (by rw [hvm 77 (by decide) (by decide)]) (hvm 78 (by decide) (by decide)) (hvm 79 (by decide) (by decide)) (hvm 80 (by decide) (by decide)) (hvm 83 (by decide) (by decide)) (hvm 84 (by decide) (by decide)) p5
  · rw [hvz 1 (by decide), hvm 77 (by decide) (by decide)]; exact h7
  · unfold cB; rw [hvz 1 (by decide)]; exact cB_mono hb
  · unfold KR
    rw [hsh]
    have e1 : shw u 1 = u 32 := shw_at (k := 1) (by decide)
    refine ⟨Rel_eq es emz p4 p1, CI_eq es P2, mOK_eq emz p4, ?_, ?_, em.2⟩
    · rw [e1]
      show u 32 7 = v 101 4
      rw [hM.2.2.2.2.2.2.2.2.2, hu2 77 (by decide), ← h7]
      exact hc.2.2.2.2.2.2.2.2.2.2.2
    · have := cB_mono hb
      unfold cB at *
      rw [es.2.2.2.1.2.2.1, es.2.2.2.1.2.2.2.1, es.2.2.2.1.2.2.2.2]
      exact this
theorem rest_hyp {n : Int} {z : RW} (hz : ST n z) : ((0 ≤ z 32 3 ∧ z 32 3 ≤ 6) ∧ 0 ≤ z 32 4 ∧ z 32 4 ≤ 6) ∧ (∀ t, 0 ≤ t → t < z 32 4 → z (45 + t.toNat) 9 = 0 ∨ z (45 + t.toNat) 9 = 1) ∧ (∀ i, 0 ≤ i → i < 288 → z 96 i = 0 ∨ z 96 i = 1) ∧ ∀ t, 0 ≤ t → t < 6 → 0 ≤ z 99 (30 + t) := by
  obtain ⟨_, _, _, k1, k2, k3, k4, k5, k6⟩ := hz
  obtain ⟨c1, c2, c3, c4, c5, c6⟩ := k2.1
  rw [shw_at (k := 1) (by decide)] at c4 c6
  refine ⟨⟨⟨c4.1, c4.2.1⟩, c4.2.2⟩, fun t t1 t2 => ?_, fun i i1 i2 => (k3.2.1 i i1 i2).1, k6⟩
  have c42 : z 32 4 ≤ 6 := c4.2.2.2
  have := (c6 t t1 t2).2.2.1.2.2.2.2
  rw [shw_at2 (b := 14) (by omega)] at this
  exact this
theorem s_restore {n : Int} {z u v : RW} (hz : ST n z) (hc : ∃ x, cyP z x 1 32 ∧ upw x 63 1 0 = u) (hM : rsM u v) : ST (n + 1) v := by
  have hz0 := hz
  obtain ⟨⟨p1, P2, p3, p4, p5⟩, h7, hb, q1, q2, q3, q4, q5, q6⟩ := hz
  obtain ⟨x, hc, rfl⟩ := hc
  have hx : ∀ j, 32 ≤ j → x j = z j := hc.2.1
  have hu : ∀ j, 32 ≤ j → j ≠ 63 → upw x 63 1 0 j = z j := fun j a b => by rw [upw_f b, hx j a]
  have hlow : ∀ j, j < 32 → upw x 63 1 0 j = x j := fun j hj => upw_f (by omega)
  have ex := eq_rest hc (ST_wid hz0) q2.1
  have hcx := cOK_eq ex q2.1
  have k4 := q2.1.2.2.2.1
  have ex2 : eqC x (upw x 63 1 0) := eqC_of hlow hcx
  have hCx := CI_eq ex q2
  have hCu := CI_eq ex2 hCx
  have ekp : kp (upw x 63 1 0) = kp z := kp_c (fun j a => hu j (by omega) (by omega)) (by rw [hu 77 (by decide) (by decide)]) (by rw [hu 77 (by decide) (by decide)])
  have em := eqM_rest hM
  rw [ekp] at em
  have hmv := mOK_eq em q3
  have erfl : eqM (kp z) (kp z) := ⟨⟨rfl, rfl, rfl, rfl, rfl, rfl⟩, fun _ _ _ => ⟨rfl, rfl⟩, fun _ _ _ => rfl, fun _ _ _ => ⟨⟨rfl, rfl, rfl, rfl, rfl, rfl, rfl, rfl⟩, rfl, rfl, rfl⟩, fun _ _ _ => rfl⟩
  have hRu := Rel_eq ex2 em q3 (Rel_eq ex erfl q3 q1)
  obtain ⟨m1, ⟨n1, n2, n3, n4, n5, n6, n7⟩, m3, m4, m5, m6, m7⟩ := hM
  have hW : wOK (upw x 63 1 0) := by
    refine wOK_0 p3 (upw_s _ _ _ _) (fun q hq => ?_) (hu 71 (by decide) (by decide)) (hu 72 (by decide) (by decide))
    rw [upw_i hq, hx 63 (by decide)]
  have e1 : shw z 1 = z 32 := shw_at (k := 1) (by decide)
  refine st_fin hz0 (fun j hj => ?_) m1 ?_ ?_ ⟨hRu, hCu, hW, hmv, kOK_0 m7⟩ ?_ ?_
  · exact hu j (by omega) (by omega)
  · rw [n6, hu 77 (by decide) (by decide)]
  · rw [n7, hu 77 (by decide) (by decide)]
  · rw [n5, hlow 1 (by decide), ex.2.2.2.1.2.2.2.2, q4, hu 101 (by decide) (by decide)]
    rfl
  · have := cB_mono q5
    unfold cB at *
    rw [hlow 1 (by decide), ex.2.2.2.1.2.2.1, ex.2.2.2.1.2.2.2.1, ex.2.2.2.1.2.2.2.2]
    exact this
