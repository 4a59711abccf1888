theorem otE_hs {p e : Int} (h : hsE p e) : hsE p (otE p e) := by
  unfold hsE at *
  unfold otE
  omega
theorem flp_f {x : Int} (h : okR x) : okR (flp x) ∧ flp x % 512 = x % 512 ∧ flp x / 512 = otE (x % 512 / 64) (x / 512) := by
  have hr := otE_rng (p := x % 512 / 64) (e := x / 512) (by have := h.1; have := h.2.2.1; omega) h.2.2.2.2
  have hh := otE_hs h.2.2.2.2
  have e1 : flp x % 512 = x % 512 := by unfold flp; omega
  have e2 : flp x / 512 = otE (x % 512 / 64) (x / 512) := by unfold flp; omega
  refine ⟨?_, e1, e2⟩
  unfold okR
  rw [e1, e2]
  have h1 := h.2.1
  have h2 := h.2.2.1
  exact ⟨by unfold flp; have := h.1; omega, by omega, h2, hr.2, hh⟩
theorem fl1_f {q : Int} (h : 0 ≤ q ∧ q < 576) : (0 ≤ fl1 q ∧ fl1 q < 576) ∧ fl1 q / 2 = q / 2 ∧ rn (fl1 q) = flp (rn q) := by
  have h1 : fl1 q / 2 = q / 2 := by unfold fl1; omega
  have h2 : fl1 q / 12 = q / 12 := by unfold fl1; omega
  have h3 : eoQ (fl1 q) = otE (q / 2 % 6) (eoQ q) := by
    unfold eoQ otE
    rw [h1]
    by_cases e : q % 2 = 0
    · rw [if_pos e, if_neg (by unfold fl1; omega)]; omega
    · rw [if_neg e, if_pos (by unfold fl1; omega)]; omega
  have hr := rn_f h
  refine ⟨by unfold fl1; omega, h1, ?_⟩
  unfold flp
  rw [hr.2.1, hr.2.2.1, hr.2.2.2.1, ← h3]
  unfold rn plc
  rw [h1, h2]
  omega
theorem flp_cx {x y : Int} (hx : okR x) (hy : okR y) : (cxX (flp x) y ↔ cxX x y) ∧ (cxX x (flp y) ↔ cxX x y) := by
  have a := (flp_f hx).2.1
  have b := (flp_f hy).2.1
  unfold cxX
  rw [a, b, show flp x % 64 = x % 64 by omega, show flp y % 64 = y % 64 by omega]
  exact ⟨Iff.rfl, Iff.rfl⟩
theorem s_reverse {z u g v : RW} {t r r' : Int} (hP : PR z g) (hc : (rvX z t ∧ r = 1 ∧ taP z u (14 + t.toNat) (20 + t.toNat)) ∨ (¬ rvX z t ∧ r = 0 ∧ z = u)) (hM : (rvC g t ∧ r' = 1 ∧ rvM g v t) ∨ (¬ rvC g t ∧ r' = 0 ∧ g = v)) : r = r' ∧ opR z u g v := by
  have hP0 := hP
  obtain ⟨p1, P2, p3, p4, p5⟩ := hP
  have hns := rl_ns p1
  have hnt := rl_nt p1
  have k3 := p4.2.2.1
  have hiff : rvX z t ↔ rvC g t := by
    unfold rvX rvC
    rw [hnt]
    by_cases h : 0 ≤ t ∧ t < g 77 10
    · obtain ⟨⟨a1, a2, a3, a4, a5, a6, a7, a8⟩, b2, b3⟩ := p1.2.2.2.2 t h.1 h.2
      rw [a1, a2, a3, a4]
      have hk : ∀ k, 0 ≤ k → k < g 86 t → (z 4 (z (20 + t.toNat) k % 512) = 0 ↔ g 79 (g 85 (300 * t + k) / 2) = 0) := fun k q1 q2 => by
        have hr := rl_row p4 ⟨h, q1, q2⟩
        rw [b2 k q1 q2, (rn_f hr).2.2.1, rl_lt p1 (by omega)]
        exact (lgt_f (by omega) (p4.2.1 _ (by omega) (by omega)).2).2.2.1
      exact ⟨fun q => ⟨q.1, q.2.1, q.2.2.1, q.2.2.2.1, fun k q1 q2 => (hk k q1 q2).mp (q.2.2.2.2 k q1 q2)⟩, fun q => ⟨q.1, q.2.1, q.2.2.1, q.2.2.2.1, fun k q1 q2 => (hk k q1 q2).mpr (q.2.2.2.2 k q1 q2)⟩⟩
    · exact ⟨fun q => absurd q.1 h, fun q => absurd q.1 h⟩
  rcases hc with ⟨h1, h2, h3⟩ | ⟨h1, h2, rfl⟩
  · rcases hM with ⟨m1, m2, m3⟩ | ⟨m1, m2, rfl⟩
    · refine ⟨by rw [h2, m2], ?_⟩
      obtain ⟨f, ⟨f9, f14⟩, f20, _⟩ := h3
      obtain ⟨g0, g91, g85⟩ := m3
      have o1 := h1.1
      have m4 := m1.1
      obtain ⟨k1z, k2z, k3z, k4z, k5z, k6z⟩ := P2.1
      have ht := k6z t o1.1 o1.2
      have hrt := p1.2.2.2.2 t m4.1 m4.2
      have hcn := hrt.1.1
      have e1 := f 1 (by omega) (by omega)
      have e2 := f 2 (by omega) (by omega)
      have e3 := f 3 (by omega) (by omega)
      have e4 := f 4 (by omega) (by omega)
      have e5 := f 5 (by omega) (by omega)
      have hck : cOK u := by
        unfold cOK
        rw [e1, e2, e3, e4, e5]
        refine ⟨k1z, k2z, k3z, k4z, fun q s1 s2 => ?_, fun t' t1 t2 => ?_⟩
        · unfold gok
          rw [e2, e3, f (7 + q.toNat) (by omega) (by omega)]
          exact k5z q s1 s2
        · by_cases e : t' = t
          · subst e
            unfold tok at ht ⊢
            rw [f9, f14 1 (by decide), f14 2 (by decide), f14 3 (by decide), f14 4 (by decide), f14 5 (by decide), f14 7 (by decide), f14 8 (by decide), f (26 + t'.toNat) (by omega) (by omega)]
            refine ⟨ht.1, ht.2.1, ⟨ht.2.2.1.1, ht.2.2.1.2.1, ht.2.2.1.2.2.1, ht.2.2.1.2.2.2.1, Or.inl rfl⟩, fun i i1 i2 => ?_, ht.2.2.2.2⟩
            rw [f20 i i1 i2]
            exact (flp_f (ht.2.2.2.1 _ (by omega) (by omega))).1
          · unfold tok
            rw [f (14 + t'.toNat) (by omega) (by omega), f (20 + t'.toNat) (by omega) (by omega), f (26 + t'.toNat) (by omega) (by omega)]
            exact k6z t' t1 t2
      have hh : ∀ t' k, heX u t' k ↔ heX z t' k := fun t' k => by
        unfold heX
        rw [e1]
        by_cases e : t' = t
        · rw [e, f14 1 (by decide)]
        · constructor
          · rintro ⟨a, b⟩; rw [f (14 + t'.toNat) (by omega) (by omega)] at b; exact ⟨a, b⟩
          · rintro ⟨a, b⟩; rw [f (14 + t'.toNat) (by omega) (by omega)]; exact ⟨a, b⟩
      -- where a run lay before it was turned
      have hX : ∀ t' k, heX z t' k → ∃ k', heX z t' k' ∧ okR (rX z t' k') ∧ (rX u t' k = rX z t' k' ∨ rX u t' k = flp (rX z t' k')) ∧ (if t' = t then k' = z (14 + t.toNat) 1 - 1 - k else k' = k) := fun t' k hq => by
        by_cases e : t' = t
        · subst e
          have hq' : heX z t' (z (14 + t'.toNat) 1 - 1 - k) := ⟨hq.1, by have := hq.2; omega, by have := hq.2; omega⟩
          refine ⟨z (14 + t'.toNat) 1 - 1 - k, hq', heX_ok P2 hq', Or.inr ?_, by rw [if_pos rfl]⟩
          unfold rX
          exact f20 k hq.2.1 hq.2.2
        · refine ⟨k, hq, heX_ok P2 hq, Or.inl ?_, by rw [if_neg e]⟩
          unfold rX
          have := hq.1
          rw [f (20 + t'.toNat) (by omega) (by omega)]
      have hpl : ∀ x y, okR y → (x = y ∨ x = flp y) → okR x ∧ x % 512 = y % 512 := fun x y hy h => by
        rcases h with rfl | rfl
        · exact ⟨hy, rfl⟩
        · exact ⟨(flp_f hy).1, (flp_f hy).2.1⟩
      have hcx : ∀ x y x' y', okR y → okR y' → (x = y ∨ x = flp y) → (x' = y' ∨ x' = flp y') → cxX x x' → cxX y y' := fun x y x' y' hy hy' a b h => by
        have c1 := (hpl x y hy a).2
        have c2 := (hpl x' y' hy' b).2
        unfold cxX at *
        rw [c1, c2, show x % 64 = y % 64 by omega, show x' % 64 = y' % 64 by omega] at h
        exact h
      have hCu : CI u := by
        obtain ⟨a, b, d, e, h, i⟩ := P2
        refine ⟨hck, by rw [e2, e3]; exact b, fun s s1 s2 => ?_, fun t' k hq => ?_, fun t1 k1 t2 k2 hq hq' hx => ?_, fun q q1 q2 q3 t' t1 => ?_⟩
        · rw [e1] at s2
          rw [e4, f (7 + s.toNat) (by omega) (by omega)]
          exact d s s1 s2
        · obtain ⟨k', b1, b2, b3, _⟩ := hX t' k ((hh t' k).mp hq)
          have := (hpl _ _ b2 b3).2
          rw [e3, this, show rX u t' k % 64 = rX z t' k' % 64 by omega]
          exact e t' k' b1
        · obtain ⟨k', b1, b2, b3, b4⟩ := hX t1 k1 ((hh t1 k1).mp hq)
          obtain ⟨k'', c1, c2, c3, c4⟩ := hX t2 k2 ((hh t2 k2).mp hq')
          have := h t1 k' t2 k'' b1 c1 (hcx _ _ _ _ b2 c2 b3 c3 hx)
          refine ⟨this.1, ?_⟩
          rw [← this.1] at c4
          by_cases e : t1 = t
          · rw [if_pos e] at b4 c4; omega
          · rw [if_neg e] at b4 c4; omega
        · rw [e5, i q q1 q2 q3 t' t1]
          constructor
          · rintro ⟨k, hq, hz⟩
            by_cases e : t' = t
            · subst e
              have hq' : heX z t' (z (14 + t'.toNat) 1 - 1 - k) := ⟨hq.1, by have := hq.2; omega, by have := hq.2; omega⟩
              obtain ⟨k', b1, b2, b3, b4⟩ := hX t' _ hq'
              rw [if_pos rfl] at b4
              refine ⟨_, (hh t' _).mpr hq', ?_⟩
              rw [(hpl _ _ b2 b3).2, b4, show z (14 + t'.toNat) 1 - 1 - (z (14 + t'.toNat) 1 - 1 - k) = k by omega]
              exact hz
            · obtain ⟨k', b1, b2, b3, b4⟩ := hX t' _ hq
              rw [if_neg e] at b4
              refine ⟨k, (hh t' _).mpr hq, ?_⟩
              rw [(hpl _ _ b2 b3).2, b4]
              exact hz
          · rintro ⟨k, hq, hz⟩
            obtain ⟨k', b1, b2, b3, b4⟩ := hX t' _ ((hh t' k).mp hq)
            exact ⟨k', b1, by rw [← (hpl _ _ b2 b3).2]; exact hz⟩
      have hW : wOK u := wOK_upd p3 (by omega) (fun j _ _ => f j (by omega) (by omega)) e2 e3 e4 (by rw [e1]) (fun q q1 q2 => by rw [f (7 + q.toNat) (by omega) (by omega)])
      have hRu : Rel u v := by
        obtain ⟨a, b, c, d, e⟩ := p1
        unfold Rel
        rw [e1, e2, e3, e4, g0 77 (by decide) (by decide) (by decide), g0 78 (by decide) (by decide) (by decide), g0 79 (by decide) (by decide) (by decide)]
        refine ⟨a, b, c, fun q q1 q2 => ?_, fun t' t1 t2 => ?_⟩
        · unfold RelS
          rw [f (7 + q.toNat) (by omega) (by omega), g0 80 (by decide) (by decide) (by decide), g0 81 (by decide) (by decide) (by decide), g0 82 (by decide) (by decide) (by decide)]
          exact d q q1 q2
        · have he := e t' t1 t2
          unfold RelT at he ⊢
          rw [f (26 + t'.toNat) (by omega) (by omega), g0 86 (by decide) (by decide) (by decide), g0 87 (by decide) (by decide) (by decide), g0 88 (by decide) (by decide) (by decide), g0 89 (by decide) (by decide) (by decide), g0 90 (by decide) (by decide) (by decide), g0 92 (by decide) (by decide) (by decide), g0 93 (by decide) (by decide) (by decide), g0 94 (by decide) (by decide) (by decide), g91]
          by_cases eq : t' = t
          · subst eq
            rw [f9, f14 1 (by decide), f14 2 (by decide), f14 3 (by decide), f14 4 (by decide), f14 5 (by decide), f14 7 (by decide), f14 8 (by decide), upw_s]
            obtain ⟨⟨a1, a2, a3, a4, a5, a6, a7, a8⟩, b2, b3⟩ := he
            refine ⟨⟨a1, a2, a3, a4, a5, a6, a7, rfl⟩, fun k q1 q2 => ?_, b3⟩
            rw [f20 k q1 (by omega), g85, if_pos (by omega), hcn, b2 _ (by omega) (by omega), show 300 * t' + k - 300 * t' = k by omega]
            exact (fl1_f (rl_row p4 ⟨m4, by omega, by omega⟩)).2.2.symm
          · rw [f (14 + t'.toNat) (by omega) (by omega), f (20 + t'.toNat) (by omega) (by omega), upw_i eq]
            refine ⟨he.1, fun k q1 q2 => ?_, he.2.2⟩
            have h9 := (p4.2.2.2.2.1 t' t1 (by omega))
            have h10 := (p4.2.2.2.2.1 t m4.1 (by omega))
            rw [g85, if_neg (by omega)]
            exact he.2.1 k q1 q2
      have hmu : mOK v := by
        obtain ⟨q1, q2, q3, q4, q5, q6, q7⟩ := p4
        unfold mOK
        rw [g0 77 (by decide) (by decide) (by decide), g0 78 (by decide) (by decide) (by decide), g0 79 (by decide) (by decide) (by decide), g0 80 (by decide) (by decide) (by decide), g0 81 (by decide) (by decide) (by decide), g0 82 (by decide) (by decide) (by decide), g0 86 (by decide) (by decide) (by decide), g0 87 (by decide) (by decide) (by decide), g0 88 (by decide) (by decide) (by decide), g0 89 (by decide) (by decide) (by decide), g0 90 (by decide) (by decide) (by decide), g0 92 (by decide) (by decide) (by decide), g0 93 (by decide) (by decide) (by decide), g0 94 (by decide) (by decide) (by decide), g91]
        refine ⟨q1, q2, q3, q4, fun t' t1 t2 => ?_, fun i i1 i2 => ?_, q7⟩
        · have := q5 t' t1 t2
          by_cases e : t' = t
          · subst e
            rw [upw_s]
            exact ⟨this.1, this.2.1, this.2.2.1, this.2.2.2.1, this.2.2.2.2.1, this.2.2.2.2.2.1, this.2.2.2.2.2.2.1, this.2.2.2.2.2.2.2.1, this.2.2.2.2.2.2.2.2.1, this.2.2.2.2.2.2.2.2.2.1, this.2.2.2.2.2.2.2.2.2.2.1, Or.inl rfl, this.2.2.2.2.2.2.2.2.2.2.2.2⟩
          · rw [upw_i e]; exact this
        · rw [g85]
          split
          · have h10 := q5 t m4.1 (by omega)
            exact (fl1_f (q6 _ (by omega) (by omega))).1
          · exact q6 i i1 i2
      have hku : kOK v := kOK_c p4 (by rw [g0 77 (by decide) (by decide) (by decide)]) (by rw [g0 77 (by decide) (by decide) (by decide)]) (g0 78 (by decide) (by decide) (by decide)) (g0 79 (by decide) (by decide) (by decide)) (g0 80 (by decide) (by decide) (by decide)) (g0 83 (by decide) (by decide) (by decide)) (g0 84 (by decide) (by decide) (by decide)) p5
      exact ⟨⟨hRu, hCu, hW, hmu, hku⟩, fun j hj => f j (by omega) (by omega), fun j hj => g0 j (by omega) (by omega) (by omega), fun q _ _ _ => by rw [g0 77 (by decide) (by decide) (by decide)], fun q _ _ => by rw [e1]⟩
    · exact absurd (hiff.mp h1) m1
  · rcases hM with ⟨m1, m2, m3⟩ | ⟨m1, m2, rfl⟩
    · exact absurd (hiff.mpr m1) h1
    · exact ⟨by rw [h2, m2], opR_refl hP0⟩
