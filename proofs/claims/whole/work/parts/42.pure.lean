theorem frOK_s {w u : RW} {s : Int} (h0 : u 77 0 = w 77 0) (h1 : u 77 1 = w 77 1) (h2 : u 78 = w 78) (h3 : u 79 = w 79) (h4 : u 80 s = w 80 s) (h5 : u 84 = w 84) (h : frOK w s) : frOK u s := by
  have e : edM u s = edM w s := by
    unfold edM
    rw [bhd_c2 h0 h1 h2 h3, h2, h3, h4]
  unfold frOK frR fh at *
  rw [e, h4, h5]
  exact h
theorem opR_refl {z g : RW} (hP : PR z g) : opR z z g g := ⟨hP, frK_refl _, fun _ _ => rfl, fun _ _ _ _ => rfl, fun _ _ _ => rfl⟩
theorem s_station {z u g v : RW} {x y p c r r' : Int} (hP : PR z g) (hc : (¬ stOK z x y p c ∧ r = -1 ∧ z = u) ∨ (stOK z x y p c ∧ 6 ≤ z 1 3 ∧ r = -2 ∧ z = u) ∨ (stOK z x y p c ∧ z 1 3 < 6 ∧ r = z 1 3 ∧ stW z x y p c = u)) (hM : (¬ soM g x y p c ∧ r' = -1 ∧ g = v) ∨ (soM g x y p c ∧ g 77 4 = 6 ∧ r' = -2 ∧ g = v) ∨ (soM g x y p c ∧ ¬ g 77 4 = 6 ∧ r' = g 77 4 ∧ soW g x y p c = v)) : r = r' ∧ opR z u g v := by
  have hP0 := hP
  obtain ⟨p1, P2, p3, p4, p5⟩ := hP
  have hns := rl_ns p1
  have k3 := p4.2.2.1
  have hiff : stOK z x y p c ↔ soM g x y p c := by
    unfold stOK soM
    rw [rl_tr p1 p4]
    by_cases h : lpc g x y p
    · have hx := lpc_xy p4 h
      have hd := rl_hd p1 P2 p4 (c := x + 8 * y) (by omega)
      rw [show hdM g (x + 8 * y) (g 77 10) = hdM g (8 * y + x) (g 77 10) by rw [show x + 8 * y = 8 * y + x by omega]] at hd
      have hon := rl_on2 p1 P2 p4 (c := x + 8 * y) (by omega)
      have hlt := rl_lt p1 (i := 6 * (8 * y + x) + p) (by omega)
      rw [show plc (6 * (8 * y + x) + p) = x + 8 * y + 64 * p by unfold plc; omega, show (6 * (8 * y + x) + p) % 6 = p by omega] at hlt
      have hmk := (p4.2.1 (6 * (8 * y + x) + p) (by omega) (by omega)).2
      have hz : z 4 (x + 8 * y + 64 * p) = 0 ↔ g 79 (6 * (8 * y + x) + p) = 0 := by rw [hlt]; exact (lgt_f (by omega) hmk).2.2.1
      have hst : (onS z (x + 8 * y) ∨ onS z (x + 8 * y + 64)) ↔ stM g (g 77 4) x y (-1) := by
        rw [hon]
        unfold stM stP
        exact ⟨fun ⟨s, a, b, c⟩ => ⟨s, a, b, fun _ => by omega, fun q => absurd (by decide) q⟩, fun ⟨s, a, b, c⟩ => ⟨s, a, b, by have := c.1 (by decide); omega⟩⟩
      rw [hz, hd, hst]
    · exact ⟨fun q => absurd q.2.1 h, fun q => absurd q.2.1 h⟩
  rcases hc with ⟨h1, h2, rfl⟩ | ⟨h1, h0, h2, rfl⟩ | ⟨h1, h0, h2, rfl⟩
  · rcases hM with ⟨m1, m2, rfl⟩ | ⟨m1, m0, m2, rfl⟩ | ⟨m1, m0, m2, rfl⟩
    · exact ⟨by rw [h2, m2], opR_refl hP0⟩
    · exact absurd (hiff.mpr m1) h1
    · exact absurd (hiff.mpr m1) h1
  · rcases hM with ⟨m1, m2, rfl⟩ | ⟨m1, m0, m2, rfl⟩ | ⟨m1, m0, m2, rfl⟩
    · exact absurd (hiff.mp h1) m1
    · exact ⟨by rw [h2, m2], opR_refl hP0⟩
    · omega
  · rcases hM with ⟨m1, m2, rfl⟩ | ⟨m1, m0, m2, rfl⟩ | ⟨m1, m0, m2, rfl⟩
    · exact absurd (hiff.mp h1) m1
    · omega
    · refine ⟨by rw [h2, m2, hns], ?_⟩
      obtain ⟨o1, o2, o3, o4, o5⟩ := h1
      have hx := lpc_xy p4 m1.2.1
      obtain ⟨k1z, k2z, k3z, k4z, k5z, k6z⟩ := P2.1
      have f : ∀ j, j ≠ 1 → j ≠ 7 + (z 1 3).toNat → stW z x y p c j = z j := fun j a b => by unfold stW; rw [upw_f a, upw_f b, upw_f b, upw_f b]
      have f13 : stW z x y p c 1 3 = z 1 3 + 1 := upw_s _ _ _ _
      have f1 : ∀ q, q ≠ 3 → stW z x y p c 1 q = z 1 q := fun q hq => by
        unfold stW
        rw [upw_i hq, upw_f (by omega), upw_f (by omega), upw_f (by omega)]
      have fn : stW z x y p c (7 + (z 1 3).toNat) 0 = x + 8 * y + 64 * p ∧ stW z x y p c (7 + (z 1 3).toNat) 1 = c ∧ stW z x y p c (7 + (z 1 3).toNat) 2 = 0 := by
        unfold stW
        refine ⟨?_, ?_, ?_⟩
        · rw [upw_f (by omega), upw_i (by decide), upw_i (by decide), upw_s]
        · rw [upw_f (by omega), upw_i (by decide), upw_s]
        · rw [upw_f (by omega), upw_s]
      have g0 : ∀ j, j ≠ 77 → j ≠ 80 → j ≠ 81 → j ≠ 82 → j ≠ 83 → soW g x y p c j = g j := fun j a b c d e => by unfold soW; rw [upw_f a, upw_f e, upw_f d, upw_f c, upw_f b]
      have g774 : soW g x y p c 77 4 = g 77 4 + 1 := upw_s _ _ _ _
      have g77 : ∀ q, q ≠ 4 → soW g x y p c 77 q = g 77 q := fun q hq => by unfold soW; rw [upw_i hq, upw_f (by decide), upw_f (by decide), upw_f (by decide), upw_f (by decide)]
      have gn : soW g x y p c 80 (g 77 4) = 6 * (8 * y + x) + p ∧ soW g x y p c 81 (g 77 4) = c ∧ soW g x y p c 82 (g 77 4) = 0 ∧ soW g x y p c 83 (g 77 4) = 0 := by
        unfold soW
        refine ⟨?_, ?_, ?_, ?_⟩
        · rw [upw_f (by decide), upw_f (by decide), upw_f (by decide), upw_f (by decide), upw_s]
        · rw [upw_f (by decide), upw_f (by decide), upw_f (by decide), upw_s]
        · rw [upw_f (by decide), upw_f (by decide), upw_s]
        · rw [upw_f (by decide), upw_s]
      have gs : ∀ s, s ≠ g 77 4 → soW g x y p c 80 s = g 80 s ∧ soW g x y p c 81 s = g 81 s ∧ soW g x y p c 82 s = g 82 s ∧ soW g x y p c 83 s = g 83 s := fun s hs => by
        unfold soW
        refine ⟨?_, ?_, ?_, ?_⟩
        · rw [upw_f (by decide), upw_f (by decide), upw_f (by decide), upw_f (by decide), upw_i hs]
        · rw [upw_f (by decide), upw_f (by decide), upw_f (by decide), upw_i hs, upw_f (by decide)]
        · rw [upw_f (by decide), upw_f (by decide), upw_i hs, upw_f (by decide), upw_f (by decide)]
        · rw [upw_f (by decide), upw_i hs, upw_f (by decide), upw_f (by decide), upw_f (by decide)]
      generalize hu : stW z x y p c = u at *
      generalize hv : soW g x y p c = v at *
      have hp1 := m1.1.2.2
      have hc50 := m1.1
      have hpl : plc (6 * (8 * y + x) + p) = x + 8 * y + 64 * p := by unfold plc; omega
      have e2 := f 2 (by decide) (by omega)
      have e3 := f 3 (by decide) (by omega)
      have e4 := f 4 (by decide) (by omega)
      have e5 := f 5 (by decide) (by omega)
      have tr : ∀ t : Int, 0 ≤ t → t < 6 → u (14 + t.toNat) = z (14 + t.toNat) ∧ u (20 + t.toNat) = z (20 + t.toNat) ∧ u (26 + t.toNat) = z (26 + t.toNat) := fun t t1 t2 => ⟨f _ (by omega) (by omega), f _ (by omega) (by omega), f _ (by omega) (by omega)⟩
      have st : ∀ s : Int, 0 ≤ s → s < z 1 3 → u (7 + s.toNat) = z (7 + s.toNat) := fun s s1 s2 => f _ (by omega) (by omega)
      have hck : cOK u := by
        unfold cOK
        rw [f13, f1 4 (by decide), e2, e3, e4, e5]
        refine ⟨k1z, k2z, k3z, by omega, fun s s1 s2 => ?_, fun t t1 t2 => ?_⟩
        · unfold gok
          rw [e2, e3]
          by_cases e : s = z 1 3
          · rw [e, fn.1, fn.2.1, fn.2.2]
            have q1 : (x + 8 * y + 64 * p) % 64 = x + 8 * y := by omega
            have q2 : (x + 8 * y + 64 * p) / 64 = p := by omega
            have q3 : (x + 8 * y) % 8 = x := by omega
            have q4 : (x + 8 * y) / 8 = y := by omega
            rw [q1, q2, q3, q4]
            exact ⟨⟨by omega, o2.1, o2.2.2⟩, by omega, by omega, by omega, by omega⟩
          · rw [st s s1 (by omega)]
            exact k5z s s1 (by omega)
        · obtain ⟨a, b, d⟩ := tr t t1 (by omega)
          unfold tok
          rw [a, b, d]
          have := k6z t t1 t2
          unfold tok at this
          exact ⟨this.1, this.2.1, this.2.2.1, this.2.2.2.1, fun i i1 i2 => by have := this.2.2.2.2 i i1 i2; omega⟩
      have hh : ∀ t k, heX u t k ↔ heX z t k := fun t k => by
        unfold heX
        rw [f1 4 (by decide)]
        constructor
        · rintro ⟨h1, h2⟩; rw [(tr t h1.1 (by omega)).1] at h2; exact ⟨h1, h2⟩
        · rintro ⟨h1, h2⟩; rw [(tr t h1.1 (by omega)).1]; exact ⟨h1, h2⟩
      have hX : ∀ t k, heX z t k → rX u t k = rX z t k := fun t k hq => by
        unfold rX
        have := hq.1
        rw [(tr t hq.1.1 (by omega)).2.1]
      have hCu : CI u := by
        obtain ⟨a, b, d, e, h, i⟩ := P2
        refine ⟨hck, by rw [e2, e3]; exact b, fun s s1 s2 => ?_, fun t k hq => ?_, fun t k t' k' hq hq' hcx => ?_, fun q q1 q2 q3 t t1 => ?_⟩
        · rw [f13] at s2
          rw [e4]
          by_cases e : s = z 1 3
          · rw [e, fn.1]; exact ⟨o3, by omega⟩
          · rw [st s s1 (by omega)]; exact d s s1 (by omega)
        · have h5 := (hh t k).mp hq
          rw [hX t k h5, e3]
          exact e t k h5
        · have h5 := (hh t k).mp hq
          have h6 := (hh t' k').mp hq'
          rw [hX t k h5, hX t' k' h6] at hcx
          exact h t k t' k' h5 h6 hcx
        · rw [e5, i q q1 q2 q3 t t1]
          constructor
          · rintro ⟨k, hq, hcx⟩
            exact ⟨k, (hh t k).mpr hq, by rw [hX t k hq]; exact hcx⟩
          · rintro ⟨k, hq, hcx⟩
            have h5 := (hh t k).mp hq
            exact ⟨k, h5, by rw [← hX t k h5]; exact hcx⟩
      have hW : wOK u := by
        refine ⟨QI_c3 (f 63 (by decide) (by omega)) (f 71 (by decide) (by omega)) (f 72 (by decide) (by omega)) p3.1, ?_, ?_, fun s s1 s2 hb => ?_⟩
        · rw [f 63 (by decide) (by omega)]; exact p3.2.1
        · rw [f 63 (by decide) (by omega)]; exact p3.2.2.1
        · rw [f 63 (by decide) (by omega)] at hb
          have := p3.2.2.2 s s1 s2 hb
          rw [f13, st s s1 this.1]
          exact ⟨by omega, lsOK_c e2 e3 e4 (f _ (by omega) (by omega)) this.2⟩
      have hRu : Rel u v := by
        obtain ⟨a, b, d, e9, h⟩ := p1
        unfold Rel
        rw [e2, e3, e4, f13, f1 4 (by decide), f1 5 (by decide), f1 6 (by decide), g774, g77 0 (by decide), g77 1 (by decide), g77 10 (by decide), g77 23 (by decide), g77 24 (by decide), g0 78 (by decide) (by decide) (by decide) (by decide) (by decide), g0 79 (by decide) (by decide) (by decide) (by decide) (by decide)]
        refine ⟨a, ⟨by omega, b.2⟩, d, fun s s1 s2 => ?_, fun t t1 t2 => ?_⟩
        · unfold RelS
          by_cases e : s = g 77 4
          · rw [e, gn.1, gn.2.1, gn.2.2.1, hpl, ← hns]
            exact fn
          · rw [(gs s e).1, (gs s e).2.1, (gs s e).2.2.1, st s s1 (by omega)]
            exact e9 s s1 (by omega)
        · obtain ⟨a, b, d⟩ := tr t t1 (by omega)
          unfold RelT
          rw [a, b, d, g0 85 (by decide) (by decide) (by decide) (by decide) (by decide), g0 86 (by decide) (by decide) (by decide) (by decide) (by decide), g0 87 (by decide) (by decide) (by decide) (by decide) (by decide), g0 88 (by decide) (by decide) (by decide) (by decide) (by decide), g0 89 (by decide) (by decide) (by decide) (by decide) (by decide), g0 90 (by decide) (by decide) (by decide) (by decide) (by decide), g0 91 (by decide) (by decide) (by decide) (by decide) (by decide), g0 92 (by decide) (by decide) (by decide) (by decide) (by decide), g0 93 (by decide) (by decide) (by decide) (by decide) (by decide), g0 94 (by decide) (by decide) (by decide) (by decide) (by decide)]
          exact h t t1 t2
      have hmu : mOK v := by
        obtain ⟨q1, q2, q3, q4, q5, q6, q7⟩ := p4
        unfold mOK
        rw [g774, g77 0 (by decide), g77 1 (by decide), g77 10 (by decide), g0 78 (by decide) (by decide) (by decide) (by decide) (by decide), g0 79 (by decide) (by decide) (by decide) (by decide) (by decide), g0 85 (by decide) (by decide) (by decide) (by decide) (by decide), g0 86 (by decide) (by decide) (by decide) (by decide) (by decide), g0 87 (by decide) (by decide) (by decide) (by decide) (by decide), g0 88 (by decide) (by decide) (by decide) (by decide) (by decide), g0 89 (by decide) (by decide) (by decide) (by decide) (by decide), g0 90 (by decide) (by decide) (by decide) (by decide) (by decide), g0 91 (by decide) (by decide) (by decide) (by decide) (by decide), g0 92 (by decide) (by decide) (by decide) (by decide) (by decide), g0 93 (by decide) (by decide) (by decide) (by decide) (by decide), g0 94 (by decide) (by decide) (by decide) (by decide) (by decide)]
        refine ⟨q1, q2, by omega, fun s s1 s2 => ?_, q5, q6, q7⟩
        by_cases e : s = g 77 4
        · rw [e, gn.1, gn.2.1, gn.2.2.1]; omega
        · rw [(gs s e).1, (gs s e).2.1, (gs s e).2.2.1]; exact q4 s s1 s2
      have hku : kOK v := by
        intro s s1 s2
        by_cases e : s = g 77 4
        · rw [e, gn.2.2.2]; exact ⟨Or.inl rfl, fun q => absurd q (by decide)⟩
        · rw [(gs s e).2.2.2]
          have := p5 s s1 s2
          exact ⟨this.1, fun q => frOK_s (g77 0 (by decide)) (g77 1 (by decide)) (g0 78 (by decide) (by decide) (by decide) (by decide) (by decide)) (g0 79 (by decide) (by decide) (by decide) (by decide) (by decide)) (gs s e).1 (g0 84 (by decide) (by decide) (by decide) (by decide) (by decide)) (this.2 q)⟩
      exact ⟨⟨hRu, hCu, hW, hmu, hku⟩, fun j hj => f j (by omega) (by omega), fun j hj => g0 j (by omega) (by omega) (by omega) (by omega) (by omega), fun q q1 _ _ => g77 q q1, fun q q1 _ => f1 q q1⟩
theorem s_order {z u g v : RW} {t s r r' : Int} (hP : PR z g) (hc : (orOK z t s ∧ r = 1 ∧ orW z t s = u) ∨ (¬ orOK z t s ∧ r = 0 ∧ z = u)) (hM : (ooM g t s ∧ r' = 1 ∧ ooW g t s = v) ∨ (¬ ooM g t s ∧ r' = 0 ∧ g = v)) : r = r' ∧ opR z u g v := by
  have hP0 := hP
  obtain ⟨p1, P2, p3, p4, p5⟩ := hP
  have hns := rl_ns p1
  have hnt := rl_nt p1
  have k3 := p4.2.2.1
  have hiff : orOK z t s ↔ ooM g t s := by
    unfold orOK ooM
    rw [hns, hnt]
    by_cases h : 0 ≤ t ∧ t < g 77 10
    · have h7 := (p1.2.2.2.2 t h.1 h.2).1.2.2.2.2.2.1
      have := (p4.2.2.2.2.1 t h.1 (by omega))
      rw [h7]
      exact ⟨fun q => ⟨q.1, q.2.1, by omega⟩, fun q => ⟨q.1, q.2.1, by omega⟩⟩
    · exact ⟨fun q => absurd q.1 h, fun q => absurd q.1 h⟩
  rcases hc with ⟨h1, h2, rfl⟩ | ⟨h1, h2, rfl⟩
  · rcases hM with ⟨m1, m2, rfl⟩ | ⟨m1, m2, rfl⟩
    · refine ⟨by rw [h2, m2], ?_⟩
      obtain ⟨o1, o2, o3⟩ := h1
      obtain ⟨m3, m4, m5⟩ := m1
      obtain ⟨k1z, k2z, k3z, k4z, k5z, k6z⟩ := P2.1
      have ht := k6z t o1.1 o1.2
      have hrt := p1.2.2.2.2 t m3.1 m3.2
      have h7 := hrt.1.2.2.2.2.2.1
      have f : ∀ j, j ≠ 14 + t.toNat → j ≠ 26 + t.toNat → orW z t s j = z j := fun j a b => by unfold orW; rw [upw_f a, upw_f b]
      have f7 : orW z t s (14 + t.toNat) 7 = z (14 + t.toNat) 7 + 1 := upw_s _ _ _ _
      have f14 : ∀ q, q ≠ 7 → orW z t s (14 + t.toNat) q = z (14 + t.toNat) q := fun q hq => by unfold orW; rw [upw_i hq, upw_f (by omega)]
      have f26 : ∀ q, orW z t s (26 + t.toNat) q = if q = z (14 + t.toNat) 7 then s else z (26 + t.toNat) q := fun q => by
        unfold orW
        rw [upw_f (by omega)]
        by_cases e : q = z (14 + t.toNat) 7
        · rw [e, upw_s, if_pos rfl]
        · rw [upw_i e, if_neg e]
      have g0 : ∀ j, j ≠ 92 → j ≠ 93 → ooW g t s j = g j := fun j a b => by unfold ooW; rw [upw_f b, upw_f a]
      have g93 : ∀ q, ooW g t s 93 q = if q = t then g 93 t + 1 else g 93 q := fun q => by
        unfold ooW
        by_cases e : q = t
        · rw [e, upw_s, if_pos rfl]
        · rw [upw_i e, if_neg e, upw_f (by decide)]
      have g92 : ∀ q, ooW g t s 92 q = if q = 6 * t + g 93 t then s else g 92 q := fun q => by
        unfold ooW
        rw [upw_f (by decide)]
        by_cases e : q = 6 * t + g 93 t
        · rw [e, upw_s, if_pos rfl]
        · rw [upw_i e, if_neg e]
      generalize hu : orW z t s = u at *
      generalize hv : ooW g t s = v at *
      have e1 := f 1 (by omega) (by omega)
      have e2 := f 2 (by omega) (by omega)
      have e3 := f 3 (by omega) (by omega)
      have e4 := f 4 (by omega) (by omega)
      have e5 := f 5 (by omega) (by omega)
      have hck : cOK u := by
        unfold cOK
        rw [e1, e2, e3, e4, e5]
        refine ⟨k1z, k2z, k3z, k4z, fun q s1 s2 => ?_, fun t' t1 t2 => ?_⟩
        · unfold gok
          rw [e2, e3, f (7 + q.toNat) (by omega) (by omega)]
          exact k5z q s1 s2
        · by_cases e : t' = t
          · subst e
            unfold tok at ht ⊢
            rw [f7, f14 1 (by decide), f14 2 (by decide), f14 3 (by decide), f14 4 (by decide), f14 5 (by decide), f14 8 (by decide), f14 9 (by decide), f (20 + t'.toNat) (by omega) (by omega)]
            refine ⟨ht.1, ht.2.1, ?_, ht.2.2.2.1, fun i i1 i2 => ?_⟩
            · have h3 := ht.2.2.1
              refine ⟨by omega, by omega, by omega, Or.inl ?_, h3.2.2.2.2⟩
              rcases h3.2.2.2.1 with q | q <;> omega
            · rw [f26]
              split
              · omega
              · exact ht.2.2.2.2 i i1 (by omega)
          · unfold tok
            rw [f (14 + t'.toNat) (by omega) (by omega), f (20 + t'.toNat) (by omega) (by omega), f (26 + t'.toNat) (by omega) (by omega)]
            exact k6z t' t1 t2
      have hCu : CI u := CI_upd P2 hck e2 e3 e4 e5 (by rw [e1]) (by rw [e1]) (fun q q1 q2 => by rw [f (7 + q.toNat) (by omega) (by omega)]) (fun t' t1 t2 => ⟨by
          by_cases e : t' = t
          · rw [e, f14 1 (by decide)]
          · rw [f (14 + t'.toNat) (by omega) (by omega)], f (20 + t'.toNat) (by omega) (by omega)⟩)
      have hW : wOK u := wOK_upd p3 (by omega) (fun j _ _ => f j (by omega) (by omega)) e2 e3 e4 (by rw [e1]) (fun q q1 q2 => by rw [f (7 + q.toNat) (by omega) (by omega)])
      have hRu : Rel u v := by
        obtain ⟨a, b, c, d, e⟩ := p1
        unfold Rel
        rw [e1, e2, e3, e4, g0 77 (by decide) (by decide), g0 78 (by decide) (by decide), g0 79 (by decide) (by decide)]
        refine ⟨a, b, c, fun q q1 q2 => ?_, fun t' t1 t2 => ?_⟩
        · unfold RelS
          rw [f (7 + q.toNat) (by omega) (by omega), g0 80 (by decide) (by decide), g0 81 (by decide) (by decide), g0 82 (by decide) (by decide)]
          exact d q q1 q2
        · have he := e t' t1 t2
          unfold RelT at he ⊢
          rw [f (20 + t'.toNat) (by omega) (by omega), g0 85 (by decide) (by decide), g0 86 (by decide) (by decide), g0 87 (by decide) (by decide), g0 88 (by decide) (by decide), g0 89 (by decide) (by decide), g0 90 (by decide) (by decide), g0 91 (by decide) (by decide), g0 94 (by decide) (by decide), g93]
          by_cases eq : t' = t
          · subst eq
            rw [f7, f14 1 (by decide), f14 2 (by decide), f14 3 (by decide), f14 4 (by decide), f14 5 (by decide), f14 8 (by decide), f14 9 (by decide), if_pos rfl]
            obtain ⟨⟨a1, a2, a3, a4, a5, a6, a7, a8⟩, b2, b3⟩ := he
            refine ⟨⟨a1, a2, a3, a4, a5, by omega, a7, a8⟩, b2, fun k q1 q2 => ?_⟩
            rw [f26, g92, h7]
            by_cases ek : k = g 93 t'
            · rw [if_pos ek, if_pos (by omega)]
            · rw [if_neg ek, if_neg (by omega)]
              exact b3 k q1 (by omega)
          · rw [f (14 + t'.toNat) (by omega) (by omega), f (26 + t'.toNat) (by omega) (by omega), if_neg eq]
            have h9 := (p4.2.2.2.2.1 t' t1 (by omega))
            have h10 := (p4.2.2.2.2.1 t m3.1 (by omega))
            refine ⟨he.1, he.2.1, fun k q1 q2 => ?_⟩
            rw [g92, if_neg (by omega)]
            exact he.2.2 k q1 q2
      have hmu : mOK v := by
        obtain ⟨q1, q2, q3, q4, q5, q6, q7⟩ := p4
        unfold mOK
        rw [g0 77 (by decide) (by decide), g0 78 (by decide) (by decide), g0 79 (by decide) (by decide), g0 80 (by decide) (by decide), g0 81 (by decide) (by decide), g0 82 (by decide) (by decide), g0 85 (by decide) (by decide), g0 86 (by decide) (by decide), g0 87 (by decide) (by decide), g0 88 (by decide) (by decide), g0 89 (by decide) (by decide), g0 90 (by decide) (by decide), g0 91 (by decide) (by decide), g0 94 (by decide) (by decide)]
        refine ⟨q1, q2, q3, q4, fun t' t1 t2 => ?_, q6, fun i i1 i2 => ?_⟩
        · have := q5 t' t1 t2
          rw [g93]
          split
          · rename_i e; subst e; exact ⟨this.1, this.2.1, this.2.2.1, this.2.2.2.1, this.2.2.2.2.1, this.2.2.2.2.2.1, this.2.2.2.2.2.2.1, this.2.2.2.2.2.2.2.1, this.2.2.2.2.2.2.2.2.1, this.2.2.2.2.2.2.2.2.2.1, this.2.2.2.2.2.2.2.2.2.2.1, this.2.2.2.2.2.2.2.2.2.2.2.1, by omega, by omega, by omega, by omega⟩
          · exact this
        · rw [g92]
          split
          · omega
          · exact q7 i i1 i2
      have hku : kOK v := kOK_c p4 (by rw [g0 77 (by decide) (by decide)]) (by rw [g0 77 (by decide) (by decide)]) (g0 78 (by decide) (by decide)) (g0 79 (by decide) (by decide)) (g0 80 (by decide) (by decide)) (g0 83 (by decide) (by decide)) (g0 84 (by decide) (by decide)) p5
      exact ⟨⟨hRu, hCu, hW, hmu, hku⟩, fun j hj => f j (by omega) (by omega), fun j hj => g0 j (by omega) (by omega), fun q _ _ _ => by rw [g0 77 (by decide) (by decide)], fun q _ _ => by rw [e1]⟩
    · exact absurd (hiff.mp h1) m1
  · rcases hM with ⟨m1, m2, rfl⟩ | ⟨m1, m2, rfl⟩
    · exact absurd (hiff.mpr m1) h1
    · exact ⟨by rw [h2, m2], opR_refl hP0⟩
