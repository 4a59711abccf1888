theorem fst6_congr {P Q : Int → Prop} (h : ∀ j, 0 ≤ j → j < 6 → (P j ↔ Q j)) : fst6 P = fst6 Q := by
  unfold fst6
  rw [propext (h 0 (by decide) (by decide)), propext (h 1 (by decide) (by decide)), propext (h 2 (by decide) (by decide)), propext (h 3 (by decide) (by decide)), propext (h 4 (by decide) (by decide)), propext (h 5 (by decide) (by decide))]
theorem bf_sim {z g : RW} (hR : Rel z g) (hm : mOK g) {q : Int} (hq : 0 ≤ q ∧ q < 576) : (bef g q = -1 ∧ fbf z (rn q) = -1) ∨ ((0 ≤ bef g q ∧ bef g q < 576) ∧ fbf z (rn q) = rn (bef g q) ∧ ¬ g 78 (bef g q / 2) = 0) := by
  have hr := rn_f hq
  have k1 := hm.1
  have hI : otE (rn q % 512 / 64) (rn q / 512) = bfI q := by
    rw [hr.2.1, hr.2.2.2.1]
    unfold otE bfI eoQ
    by_cases e : q % 2 = 0
    · rw [if_pos e, if_pos e]; omega
    · rw [if_neg e, if_neg e]; omega
  have hT : fbT z (rn q) = bfT g q := by
    unfold fbT bfT
    rw [hI, hr.1, hR.1.1, hR.1.2]
  have hE : fbE (rn q) = bfO q := by
    unfold fbE bfO
    rw [hI]
  have hTr : bfT g q = -1 ∨ (0 ≤ bfT g q ∧ bfT g q < 48) := acr_rng (by omega) (by omega)
  have hOr : 0 ≤ bfO q ∧ bfO q < 4 := by unfold bfO; omega
  by_cases h0 : bfT g q = -1
  · left
    unfold bef fbf
    rw [cif_t (Or.inl h0), cif_t (Or.inl (by rw [hT, h0]))]
    exact ⟨rfl, rfl⟩
  · have hP : fst6 (fbP z (rn q)) = fst6 (bfP g q) := fst6_congr (fun j j1 j2 => by
      unfold fbP bfP
      rw [hT, hE]
      have := (hR.2.2.1 (6 * bfT g q + j) (by omega) (by omega)).1
      rw [show (6 * bfT g q + j) / 6 = bfT g q by omega, show (6 * bfT g q + j) % 6 = j by omega] at this
      rw [this])
    rcases fst6_or (bfP g q) with ⟨a, _⟩ | ⟨a1, a2, a3, _⟩
    · left
      unfold bef fbf
      rw [cif_t (Or.inr a), cif_t (Or.inr (by rw [hP, a]))]
      exact ⟨rfl, rfl⟩
    · right
      have hb : bef g q = 2 * (6 * bfT g q + fst6 (bfP g q)) + (if bfO q = stt 0 ((6 * bfT g q + fst6 (bfP g q)) % 6) then 0 else 1) := by
        unfold bef
        rw [cif_f (by omega), show (6 * bfT g q + fst6 (bfP g q)) % 6 = fst6 (bfP g q) by omega]
      have hbt := eoQ_bit (i := 6 * bfT g q + fst6 (bfP g q)) (e := bfO q) (by omega) (by rw [show (6 * bfT g q + fst6 (bfP g q)) % 6 = fst6 (bfP g q) by omega]; exact a3.2)
      rw [← hb] at hbt
      refine ⟨by omega, ?_, by rw [hbt.2]; exact a3.1⟩
      unfold fbf
      rw [cif_f (by rw [hT, hP]; omega), hT, hP, hE]
      unfold rn
      rw [hbt.1, hbt.2, show bef g q / 12 = bfT g q by omega]
      omega
theorem mc_sim {z g : RW} (hR : Rel z g) (hm : mOK g) {q : Int} (hq : 0 ≤ q ∧ q < 576) (hl : ¬ g 78 (q / 2) = 0) : ∀ n : Nat, (∀ j : Nat, j < n → (0 ≤ mbf g q j ∨ okR (cbf z (rn q) j))) → (mbf g q n = -1 ∧ cbf z (rn q) n = -1) ∨ ((0 ≤ mbf g q n ∧ mbf g q n < 576) ∧ cbf z (rn q) n = rn (mbf g q n) ∧ ¬ g 78 (mbf g q n / 2) = 0)
  | 0, _ => Or.inr ⟨hq, rfl, hl⟩
  | n + 1, h => by
    rcases mc_sim hR hm hq hl n (fun j hj => h j (by omega)) with ⟨a, b⟩ | ⟨a, b, c⟩
    · rcases h n (by omega) with h1 | h1
      · omega
      · rw [b] at h1; exact absurd h1.1 (by decide)
    · have := bf_sim hR hm a
      show (bef g (mbf g q n) = -1 ∧ fbf z (cbf z (rn q) n) = -1) ∨ _
      rw [b]
      rcases this with ⟨d, e⟩ | ⟨d, e, f⟩
      · exact Or.inl ⟨d, e⟩
      · refine Or.inr ⟨d, ?_, f⟩
        show fbf z (cbf z (rn q) n) = _
        rw [b]
        exact e
/-- a new train's rows -/
theorem CI_new {z u : RW} {t0 n : Int} {A : Int → Int} (hC : CI z) (hw : wOK z) (ht0 : t0 = z 1 4) (ht6 : t0 < 6) (hn : 1 ≤ n ∧ n ≤ 5)
    (f : ∀ j, j ≠ 1 → j ≠ 5 → j ≠ 14 + t0.toNat → j ≠ 20 + t0.toNat → j ≠ 73 → j ≠ 74 → j ≠ 75 → u j = z j)
    (f14 : u 1 4 = t0 + 1) (f1 : ∀ q, q ≠ 4 → u 1 q = z 1 q)
    (f5 : ∀ i, 0 ≤ i → i < n → u 5 (A i % 512) = t0) (f5n : ∀ p, (∀ i, 0 ≤ i → i < n → ¬ A i % 512 = p) → u 5 p = z 5 p)
    (fk : u (14 + t0.toNat) 1 = n ∧ u (14 + t0.toNat) 2 = n ∧ u (14 + t0.toNat) 3 = 0 ∧ u (14 + t0.toNat) 4 = 0 ∧ u (14 + t0.toNat) 5 = 0 ∧ u (14 + t0.toNat) 7 = 0 ∧ u (14 + t0.toNat) 8 = 0 ∧ u (14 + t0.toNat) 9 = 0)
    (fr : ∀ i, 0 ≤ i → i < n → u (20 + t0.toNat) i = A (n - 1 - i))
    (hA : ∀ i, 0 ≤ i → i < n → okR (A i) ∧ tb (z 3 (A i % 64)) (A i % 512 / 64))
    (nc1 : ∀ i t k, 0 ≤ i → i < n → heX z t k → ¬ cxX (A i) (rX z t k)) (nc2 : ∀ i j, 0 ≤ j → j < i → i < n → ¬ cxX (A i) (A j)) : CI u ∧ wOK u := by
  obtain ⟨a, b, d, e, h, i⟩ := hC
  have hC : CI z := ⟨a, b, d, e, h, i⟩
  obtain ⟨k1z, k2z, k3z, k4z, k5z, k6z⟩ := a
  have e2 := f 2 (by decide) (by decide) (by omega) (by omega) (by decide) (by decide) (by decide)
  have e3 := f 3 (by decide) (by decide) (by omega) (by omega) (by decide) (by decide) (by decide)
  have e4 := f 4 (by decide) (by decide) (by omega) (by omega) (by decide) (by decide) (by decide)
  have st : ∀ s : Int, 0 ≤ s → s < z 1 3 → u (7 + s.toNat) = z (7 + s.toNat) := fun s s1 s2 => f _ (by omega) (by omega) (by omega) (by omega) (by omega) (by omega) (by omega)
  have tr : ∀ t : Int, 0 ≤ t → t < t0 → u (14 + t.toNat) = z (14 + t.toNat) ∧ u (20 + t.toNat) = z (20 + t.toNat) ∧ u (26 + t.toNat) = z (26 + t.toNat) := fun t t1 t2 => ⟨f _ (by omega) (by omega) (by omega) (by omega) (by omega) (by omega) (by omega), f _ (by omega) (by omega) (by omega) (by omega) (by omega) (by omega) (by omega), f _ (by omega) (by omega) (by omega) (by omega) (by omega) (by omega) (by omega)⟩
  have hck : cOK u := by
    unfold cOK
    rw [f14, f1 3 (by decide), e2, e3, e4]
    refine ⟨k1z, k2z, fun p q1 q2 => ?_, by omega, fun s s1 s2 => ?_, fun t t1 t2 => ?_⟩
    · have h3 := k3z p q1 q2
      by_cases hp : ∃ i, 0 ≤ i ∧ i < n ∧ A i % 512 = p
      · obtain ⟨i, i1, i2, i3⟩ := hp
        have := f5 i i1 i2
        rw [i3] at this
        exact ⟨h3.1, h3.2.1, by omega, by omega⟩
      · rw [f5n p (fun i i1 i2 i3 => hp ⟨i, i1, i2, i3⟩)]; exact h3
    · unfold gok
      rw [e2, e3, st s s1 s2]
      exact k5z s s1 s2
    · by_cases et : t = t0
      · subst et
        unfold tok
        obtain ⟨q1, q2, q3, q4, q5, q7, q8, q9⟩ := fk
        rw [q1, q2, q3, q4, q5, q7, q8, q9]
        refine ⟨by omega, by omega, ⟨by omega, by omega, by omega, Or.inr ⟨rfl, rfl⟩, Or.inl rfl⟩, fun i i1 i2 => ?_, fun i i1 i2 => by omega⟩
        rw [fr i i1 i2]
        exact (hA _ (by omega) (by omega)).1
      · obtain ⟨r1, r2, r3⟩ := tr t t1 (by omega)
        unfold tok
        rw [r1, r2, r3]
        exact k6z t t1 (by omega)
  have hold : ∀ t k, heX z t k → heX u t k ∧ rX u t k = rX z t k := fun t k hq => by
    have hq1 := hq.1
    obtain ⟨r1, r2, r3⟩ := tr t hq1.1 (by omega)
    unfold heX rX
    rw [r1, r2, f14]
    exact ⟨⟨by omega, hq.2⟩, rfl⟩
  have hnew : ∀ k, 0 ≤ k → k < n → heX u t0 k ∧ rX u t0 k = A (n - 1 - k) := fun k q1 q2 => by
    unfold heX rX
    rw [f14, fk.1]
    exact ⟨⟨by omega, q1, q2⟩, fr k q1 q2⟩
  have hcs : ∀ t k, heX u t k → (heX z t k ∧ rX u t k = rX z t k) ∨ (t = t0 ∧ 0 ≤ k ∧ k < n ∧ rX u t k = A (n - 1 - k)) := fun t k hq => by
    by_cases et : t = t0
    · subst et
      have h2 := hq.2
      rw [fk.1] at h2
      exact Or.inr ⟨rfl, h2.1, h2.2, (hnew k h2.1 h2.2).2⟩
    · have h1 := hq.1
      rw [f14] at h1
      have hz : heX z t k := by
        obtain ⟨r1, r2, r3⟩ := tr t h1.1 (by omega)
        have h2 := hq.2
        rw [r1] at h2
        exact ⟨by omega, h2⟩
      exact Or.inl ⟨hz, (hold t k hz).2⟩
  refine ⟨⟨hck, by rw [e2, e3]; exact b, fun s s1 s2 => ?_, fun t k hq => ?_, fun t k t' k' hq hq' hcx => ?_, fun p q1 q2 q3 t t1 => ?_⟩, ?_⟩
  · rw [f1 3 (by decide)] at s2
    rw [e4, st s s1 s2]
    exact d s s1 s2
  · rw [e3]
    rcases hcs t k hq with ⟨h1, h2⟩ | ⟨_, h1, h2, h3⟩
    · rw [h2]; exact e t k h1
    · rw [h3]; exact (hA _ (by omega) (by omega)).2
  · rcases hcs t k hq with ⟨h1, h2⟩ | ⟨h0, h1, h2, h3⟩
    · rcases hcs t' k' hq' with ⟨h1', h2'⟩ | ⟨h0', h1', h2', h3'⟩
      · rw [h2, h2'] at hcx; exact h t k t' k' h1 h1' hcx
      · rw [h2, h3'] at hcx
        exact absurd (cxX_sym (heX_ok hC h1) (hA _ (by omega) (by omega)).1 hcx) (nc1 _ t k (by omega) (by omega) h1)
    · rcases hcs t' k' hq' with ⟨h1', h2'⟩ | ⟨h0', h1', h2', h3'⟩
      · rw [h3, h2'] at hcx
        exact absurd hcx (nc1 _ t' k' (by omega) (by omega) h1')
      · rw [h3, h3'] at hcx
        refine ⟨by omega, ?_⟩
        by_cases ek : k = k'
        · exact ek
        · exfalso
          by_cases lt : k < k'
          · exact nc2 (n - 1 - k) (n - 1 - k') (by omega) (by omega) (by omega) hcx
          · exact nc2 (n - 1 - k') (n - 1 - k) (by omega) (by omega) (by omega) (cxX_sym (hA _ (by omega) (by omega)).1 (hA _ (by omega) (by omega)).1 hcx)
  · by_cases hp : ∃ i, 0 ≤ i ∧ i < n ∧ A i % 512 = p
    · obtain ⟨j, j1, j2, j3⟩ := hp
      have h5 := f5 j j1 j2
      rw [j3] at h5
      rw [h5]
      constructor
      · intro et
        subst et
        refine ⟨n - 1 - j, (hnew _ (by omega) (by omega)).1, ?_⟩
        rw [(hnew _ (by omega) (by omega)).2, show n - 1 - (n - 1 - j) = j by omega]
        exact j3
      · rintro ⟨k, hq, hz⟩
        rcases hcs t k hq with ⟨h1, h2⟩ | ⟨h0, h1, h2, h3⟩
        · exact absurd (cxX_place (hA j j1 j2).1 (heX_ok hC h1) (by rw [j3, ← hz, h2])) (nc1 j t k j1 j2 h1)
        · exact h0.symm
    · have hp' : ∀ i, 0 ≤ i → i < n → ¬ A i % 512 = p := fun j j1 j2 j3 => hp ⟨j, j1, j2, j3⟩
      rw [f5n p hp', i p q1 q2 q3 t t1]
      constructor
      · rintro ⟨k, hq, hz⟩
        exact ⟨k, (hold t k hq).1, by rw [(hold t k hq).2]; exact hz⟩
      · rintro ⟨k, hq, hz⟩
        rcases hcs t k hq with ⟨h1, h2⟩ | ⟨h0, h1, h2, h3⟩
        · exact ⟨k, h1, by rw [← h2]; exact hz⟩
        · rw [h3] at hz
          exact absurd hz (hp' _ (by omega) (by omega))
  · have g : ∀ j, 63 ≤ j → j < 73 → u j = z j := fun j a b => f j (by omega) (by omega) (by omega) (by omega) (by omega) (by omega) (by omega)
    exact wOK_upd hw (by omega) g e2 e3 e4 (f1 3 (by decide)) (fun s s1 s2 => by rw [st s s1 s2])
theorem opR_idle {z u g v : RW} (hP : PR z g) (hu : ∀ j, j ≠ 73 → j ≠ 74 → j ≠ 75 → u j = z j) (hv : frM g v) : opR z u g v := by
  obtain ⟨p1, P2, p3, p4, p5⟩ := hP
  have hC : frC g v := ⟨fun j a _ _ b => hv.1 j a b, hv.2⟩
  refine ⟨⟨Rel_g p4 hC (Rel_w p4 (fun j hj => hu j (by omega) (by omega) (by omega)) p1), CI_c (fun j hj => hu j (by omega) (by omega) (by omega)) P2, wOK_c (fun j a b c _ _ => hu j a b c) p3, mOK_c hC.1 hC.2 p4, ?_⟩, fun j hj => hu j (by omega) (by omega) (by omega), fun j hj => hv.1 j (by omega) (by omega), fun q _ _ h => hv.2 q h, fun q _ _ => by rw [hu 1 (by decide) (by decide) (by decide)]⟩
  exact kOK_c p4 (hv.2 0 (by decide)) (hv.2 1 (by decide)) (hv.1 78 (by decide) (by decide)) (hv.1 79 (by decide) (by decide)) (hv.1 80 (by decide) (by decide)) (hv.1 83 (by decide) (by decide)) (hv.1 84 (by decide) (by decide)) p5
theorem s_train {z u g v : RW} {x y p e n r r' : Int} (hP : PR z g) (hc : (¬ xtO z x y p e n ∧ r = -1 ∧ z = u) ∨ (xtO z x y p e n ∧ xtQ z u (x + 8 * y + 64 * p + 512 * e) n r)) (hM : (¬ ((lpc g x y p ∧ hsE p e) ∧ 1 ≤ n ∧ n ≤ 5) ∧ r' = -1 ∧ g = v) ∨ (((lpc g x y p ∧ hsE p e) ∧ 1 ≤ n ∧ n ≤ 5) ∧ tnP g v (twd g x y p e) n r')) : r = r' ∧ opR z u g v := by
  have hP0 := hP
  obtain ⟨p1, P2, p3, p4, p5⟩ := hP
  have hns := rl_ns p1
  have hnt := rl_nt p1
  have k3 := p4.2.2.1
  have hiff : xtO z x y p e n ↔ ((lpc g x y p ∧ hsE p e) ∧ 1 ≤ n ∧ n ≤ 5) := by
    unfold xtO
    rw [rl_tr p1 p4]
    exact ⟨fun q => ⟨⟨q.1, q.2.1⟩, q.2.2⟩, fun q => ⟨q.1.1, q.1.2, q.2⟩⟩
  rcases hc with ⟨h1, h2, rfl⟩ | ⟨h1, h2⟩
  · rcases hM with ⟨m1, m2, rfl⟩ | ⟨m1, m2⟩
    · exact ⟨by rw [h2, m2], opR_refl hP0⟩
    · exact absurd (hiff.mpr m1) h1
  · rcases hM with ⟨m1, m2, rfl⟩ | ⟨m1, m2⟩
    · exact absurd (hiff.mp h1) m1
    · have ht := twd_rn p4 m1.1
      have hn := m1.2
      have hl : ¬ g 78 (twd g x y p e / 2) = 0 := by rw [ht.2.1]; exact m1.1.1.2.2
      rw [← ht.2.2.2] at h2
      generalize twd g x y p e = q at *
      have hq := ht.1
      clear ht
      obtain ⟨c, w, hcn, ⟨w0, w73, w74⟩, hstop, hrest⟩ := h2
      have hmc : ∀ j : Int, 0 ≤ j → j < c → (0 ≤ mbf g q j.toNat ∧ mbf g q j.toNat < 576) ∧ w 74 j = rn (mbf g q j.toNat) ∧ ¬ g 78 (mbf g q j.toNat / 2) = 0 := fun j j1 j2 => by
        rcases mc_sim p1 p4 hq hl j.toNat (fun i hi => by
            have := (w74 (i : Int) (by omega) (by omega)).2
            rw [Int.toNat_natCast] at this
            exact Or.inr this) with ⟨a, b⟩ | ⟨a, b, d⟩
        · have := (w74 j j1 j2).2
          rw [b] at this
          exact absurd this.1 (by decide)
        · exact ⟨a, by rw [(w74 j j1 j2).1, b], d⟩
      have hfull : tnB g q n → c = n := fun hb => by
        rcases hstop with h | h
        · exact h
        · by_cases hlt : c < n
          · rcases mc_sim p1 p4 hq hl c.toNat (fun i hi => by
              have := (w74 (i : Int) (by omega) (by omega)).2
              rw [Int.toNat_natCast] at this
              exact Or.inr this) with ⟨a, b⟩ | ⟨a, b, d⟩
            · have := (hb c hcn.1 hlt).1.1
              omega
            · have := (rn_f a).2.2.2.2.1
              omega
          · omega
      have hcl : ∀ i j, 0 ≤ i → i < c → 0 ≤ j → j < c → (cxX (w 74 i) (w 74 j) ↔ crs (mbf g q i.toNat / 2) (mbf g q j.toNat / 2)) := fun i j i1 i2 j1 j2 => by
        rw [(hmc i i1 i2).2.1, (hmc j j1 j2).2.1]
        exact cxX_rn (hmc i i1 i2).1 (hmc j j1 j2).1
      have hcr : ∀ i t k, 0 ≤ i → i < c → heX z t k → (cxX (w 74 i) (rX z t k) ↔ crs (g 85 (300 * t + k) / 2) (mbf g q i.toNat / 2)) := fun i t k i1 i2 hk => by
        have hk' := (rl_he p1).mp hk
        rw [(hmc i i1 i2).2.1, rl_rX p1 hk', cxX_rn (hmc i i1 i2).1 (rl_row p4 hk')]
        exact ⟨crs_sym, crs_sym⟩
      have hag : ∀ f, agF f (z 1 4) (agS w n (z 1 4)) → c = n → (f = 0 ↔ tnB g q n) := fun f hf hcn2 => by
        subst hcn2
        rw [bits_0 hf.1]
        constructor
        · intro h j j1 j2
          refine ⟨⟨(hmc j j1 j2).1.1, ?_⟩, fun i i1 i2 hx => ?_⟩
          · rintro ⟨t, t1, t2, k, q1, q2, hx⟩
            have hk : heX z t k := (rl_he p1).mpr ⟨⟨t1, t2⟩, q1, q2⟩
            have hcx := (hcr j t k j1 j2 hk).mpr hx
            have ho := heX_ho P2 hk
            have hok := heX_ok P2 hk
            refine h t t1 (by omega) ((hf.2 t t1 (by omega)).mpr (Or.inr ⟨j, rX z t k % 512 / 64, j1, j2, by have := hok.1; omega, hok.2.2.1, ?_, hcx.2⟩))
            rw [w0 5 (by decide) (by decide), hcx.1, show rX z t k % 64 + 64 * (rX z t k % 512 / 64) = rX z t k % 512 by omega]
            exact ho
          · have hcx := (hcl j i j1 j2 i1 (by omega)).mpr hx
            exact h (z 1 4) (by omega) (by omega) ((hf.2 _ (by omega) (by omega)).mpr (Or.inl ⟨rfl, j, i, i1, i2, j2, hcx.1, hcx.2⟩))
        · intro hb t t1 t2 hbit
          rcases (hf.2 t t1 t2).mp hbit with ⟨_, i, j, j1, j2, j3, hx1, hx2⟩ | ⟨i, o, i1, i2, o1, o2, h5, hx⟩
          · exact (hb i (by omega) j3).2 j j1 j2 ((hcl i j (by omega) j3 j1 (by omega)).mp ⟨hx1, hx2⟩)
          · rw [w0 5 (by decide) (by decide)] at h5
            have hok : okR (w 74 i) := by rw [(hmc i i1 i2).2.1]; exact rn_ok (hmc i i1 i2).1
            have hok1 := hok.1
            have hok2 := hok.2.1
            obtain ⟨k, hk, hkp⟩ := (P2.2.2.2.2.2 (w 74 i % 64 + 64 * o) (by omega) (by omega) (by omega) t t1).mp h5
            have hkx : cxX (w 74 i) (rX z t k) := ⟨by omega, by rw [show rX z t k % 512 / 64 = o by omega]; exact hx⟩
            have hk' := (rl_he p1).mp hk
            exact (hb i i1 i2).1.2 ⟨t, hk'.1.1, hk'.1.2, k, hk'.2.1, hk'.2.2, (hcr i t k i1 i2 hk).mp hkx⟩
      rcases hrest with ⟨r1, r2, rfl⟩ | ⟨r1, f, u2, r2, r3, r4⟩
      · have hnb : ¬ tnB g q n := fun h => by have := hfull h; omega
        rcases m2 with ⟨_, a2, a3⟩ | ⟨a1, _⟩ | ⟨a1, _⟩
        · exact ⟨by rw [r2, a2], opR_idle hP0 (fun j a b _ => w0 j a b) a3⟩
        · exact absurd a1 hnb
        · exact absurd a1 hnb
      · have hf := hag f r2 r1
        rcases r4 with ⟨b1, b2, rfl⟩ | ⟨b1, b0, b2, rfl⟩ | ⟨b1, b0, b2, u3, u4, b3, b4, rfl⟩
        · rcases m2 with ⟨_, a2, a3⟩ | ⟨a1, _⟩ | ⟨a1, _⟩
          · exact ⟨by rw [b2, a2], opR_idle hP0 (fun j a b c => by rw [r3 j c, w0 j a b]) a3⟩
          · exact absurd (hf.mpr a1) b1
          · exact absurd (hf.mpr a1) b1
        · rcases m2 with ⟨a1, _⟩ | ⟨_, a0, a2, a3⟩ | ⟨a1, a0, _⟩
          · exact absurd (hf.mp b1) a1
          · exact ⟨by rw [b2, a2], opR_idle hP0 (fun j a b c => by rw [r3 j c, w0 j a b]) a3⟩
          · omega
        · rcases m2 with ⟨a1, _⟩ | ⟨_, a0, _⟩ | ⟨a1, a0, a2, a3⟩
          · exact absurd (hf.mp b1) a1
          · omega
          · refine ⟨by rw [b2, a2, hnt], ?_⟩
            subst r1
            have hnt2 : 0 ≤ z 1 4 := by omega
            obtain ⟨g0, ⟨g10, g77⟩, ⟨g86, g87, g88, g89, g90, g91, g93, g94⟩, g85⟩ := a3
            obtain ⟨s0, s14, s20, _⟩ := b3
            obtain ⟨o0, o5, o5n⟩ := b4
            have u73 : u2 73 2 = c := by rw [r3 73 (by decide)]; exact w73
            have u74 : ∀ i, 0 ≤ i → i < c → u2 74 i = rn (mbf g q i.toNat) := fun i i1 i2 => by rw [r3 74 (by decide)]; exact (hmc i i1 i2).2.1
            have u374 : u3 74 = u2 74 := s0 74 (by omega) (by omega)
            have u35 : u3 5 = z 5 := by rw [s0 5 (by omega) (by omega), r3 5 (by decide), w0 5 (by decide) (by decide)]
            have F0 : ∀ j, j ≠ 1 → j ≠ 5 → j ≠ 14 + (z 1 4).toNat → j ≠ 20 + (z 1 4).toNat → j ≠ 73 → j ≠ 74 → j ≠ 75 → upw u4 1 4 (z 1 4 + 1) j = z j := fun j a b c d e f g => by
              rw [upw_f a, o0 j b, s0 j c d, r3 j g, w0 j e f]
            have F14 : upw u4 1 4 (z 1 4 + 1) 1 4 = z 1 4 + 1 := upw_s _ _ _ _
            have F1 : ∀ q, q ≠ 4 → upw u4 1 4 (z 1 4 + 1) 1 q = z 1 q := fun q hq => by
              rw [upw_i hq, o0 1 (by decide), s0 1 (by omega) (by omega), r3 1 (by decide), w0 1 (by decide) (by decide)]
            have F5 : ∀ i, 0 ≤ i → i < c → upw u4 1 4 (z 1 4 + 1) 5 (rn (mbf g q i.toNat) % 512) = z 1 4 := fun i i1 i2 => by
              rw [upw_f (by decide)]
              have := o5 i i1 i2
              rw [u374, u74 i i1 i2] at this
              exact this
            have F5n : ∀ p, (∀ i, 0 ≤ i → i < c → ¬ rn (mbf g q i.toNat) % 512 = p) → upw u4 1 4 (z 1 4 + 1) 5 p = z 5 p := fun p hp => by
              rw [upw_f (by decide), o5n p (fun i i1 i2 => by rw [u374, u74 i i1 i2]; exact hp i i1 i2), u35]
            have Fk : upw u4 1 4 (z 1 4 + 1) (14 + (z 1 4).toNat) 1 = c ∧ upw u4 1 4 (z 1 4 + 1) (14 + (z 1 4).toNat) 2 = c ∧ upw u4 1 4 (z 1 4 + 1) (14 + (z 1 4).toNat) 3 = 0 ∧ upw u4 1 4 (z 1 4 + 1) (14 + (z 1 4).toNat) 4 = 0 ∧ upw u4 1 4 (z 1 4 + 1) (14 + (z 1 4).toNat) 5 = 0 ∧ upw u4 1 4 (z 1 4 + 1) (14 + (z 1 4).toNat) 7 = 0 ∧ upw u4 1 4 (z 1 4 + 1) (14 + (z 1 4).toNat) 8 = 0 ∧ upw u4 1 4 (z 1 4 + 1) (14 + (z 1 4).toNat) 9 = 0 := by
              rw [upw_f (by omega), o0 _ (by omega)]
              rw [u73] at s14
              exact s14
            have Fr : ∀ i, 0 ≤ i → i < c → upw u4 1 4 (z 1 4 + 1) (20 + (z 1 4).toNat) i = rn (mbf g q (c - 1 - i).toNat) := fun i i1 i2 => by
              rw [upw_f (by omega), o0 _ (by omega), s20 i i1 (by omega), u73]
              exact u74 _ (by omega) (by omega)
            have hnew := CI_new (A := fun i => rn (mbf g q i.toNat)) P2 p3 rfl b0 hn F0 F14 F1 F5 F5n Fk Fr (fun i i1 i2 => by
                have h3 := hmc i i1 i2
                have hrn := rn_f h3.1
                refine ⟨rn_ok h3.1, ?_⟩
                show tb (z 3 (rn (mbf g q i.toNat) % 64)) (rn (mbf g q i.toNat) % 512 / 64)
                rw [hrn.1, hrn.2.1]
                have := (p1.2.2.1 (mbf g q i.toNat / 2) (by omega) (by omega)).1.mpr h3.2.2
                rw [show mbf g q i.toNat / 2 / 6 = mbf g q i.toNat / 12 by omega] at this
                exact this) (fun i t k i1 i2 hk hx => by
                have hk' := (rl_he p1).mp hk
                have := (hcr i t k i1 i2 hk).mp (by rw [(hmc i i1 i2).2.1]; exact hx)
                exact (a1 i i1 i2).1.2 ⟨t, hk'.1.1, hk'.1.2, k, hk'.2.1, hk'.2.2, this⟩) (fun i j j1 j2 j3 hx => by
                exact (a1 i (by omega) j3).2 j j1 j2 ((hcl i j (by omega) j3 j1 (by omega)).mp (by rw [(hmc i (by omega) j3).2.1, (hmc j j1 (by omega)).2.1]; exact hx)))
            generalize upw u4 1 4 (z 1 4 + 1) = U at *
            have e2 := F0 2 (by decide) (by decide) (by omega) (by omega) (by decide) (by decide) (by decide)
            have e3 := F0 3 (by decide) (by decide) (by omega) (by omega) (by decide) (by decide) (by decide)
            have e4 := F0 4 (by decide) (by decide) (by omega) (by omega) (by decide) (by decide) (by decide)
            have ge : ∀ j, j = 78 ∨ j = 79 ∨ j = 80 ∨ j = 81 ∨ j = 82 ∨ j = 83 ∨ j = 84 ∨ j = 92 ∨ j < 77 ∨ 96 ≤ j → v j = g j := fun j hj => g0 j (by omega) (by omega) (by omega) (by omega) (by omega) (by omega) (by omega) (by omega) (by omega) (by omega) (by omega)
            have hRu : Rel U v := by
              unfold Rel
              rw [e2, e3, e4, F14, F1 3 (by decide), F1 5 (by decide), F1 6 (by decide), g10, g77 0 (by decide) (by decide), g77 1 (by decide) (by decide), g77 4 (by decide) (by decide), g77 23 (by decide) (by decide), g77 24 (by decide) (by decide), ge 78 (by decide), ge 79 (by decide)]
              refine ⟨p1.1, ⟨p1.2.1.1, by omega, p1.2.1.2.2⟩, p1.2.2.1, fun s s1 s2 => ?_, fun t t1 t2 => ?_⟩
              · unfold RelS
                rw [F0 (7 + s.toNat) (by omega) (by omega) (by omega) (by omega) (by omega) (by omega) (by omega), ge 80 (by decide), ge 81 (by decide), ge 82 (by decide)]
                exact p1.2.2.2.1 s s1 s2
              · unfold RelT
                rw [g86, g87, g88, g89, g90, g91, g93, g94, ge 92 (by decide)]
                by_cases et : t = g 77 10
                · rw [et, upw_s, upw_s, upw_s, upw_s, upw_s, upw_s, upw_s, upw_s, ← hnt]
                  obtain ⟨q1, q2, q3, q4, q5, q7, q8, q9⟩ := Fk
                  refine ⟨⟨q1, q2, q3, q4, q5, q7, q8, q9⟩, fun k i1 i2 => ?_, fun k i1 i2 => by omega⟩
                  rw [Fr k i1 i2, g85, ← hnt, if_pos (by omega), show 300 * z 1 4 + k - 300 * z 1 4 = k by omega]
                · rw [upw_i et, upw_i et, upw_i et, upw_i et, upw_i et, upw_i et, upw_i et, upw_i et, F0 (14 + t.toNat) (by omega) (by omega) (by omega) (by omega) (by omega) (by omega) (by omega), F0 (20 + t.toNat) (by omega) (by omega) (by omega) (by omega) (by omega) (by omega) (by omega), F0 (26 + t.toNat) (by omega) (by omega) (by omega) (by omega) (by omega) (by omega) (by omega)]
                  have := p1.2.2.2.2 t t1 (by omega)
                  refine ⟨this.1, fun k i1 i2 => ?_, this.2.2⟩
                  have h9 := (p4.2.2.2.2.1 t t1 (by omega))
                  rw [g85, if_neg (by omega)]
                  exact this.2.1 k i1 i2
            have hmu : mOK v := by
              obtain ⟨q1, q2, q3, q4, q5, q6, q7⟩ := p4
              unfold mOK
              rw [g10, g77 0 (by decide) (by decide), g77 1 (by decide) (by decide), g77 4 (by decide) (by decide), ge 78 (by decide), ge 79 (by decide), ge 80 (by decide), ge 81 (by decide), ge 82 (by decide), ge 92 (by decide), g86, g87, g88, g89, g90, g91, g93, g94]
              refine ⟨q1, q2, by omega, q4, fun t t1 t2 => ?_, fun i i1 i2 => ?_, q7⟩
              · by_cases et : t = g 77 10
                · rw [et, upw_s, upw_s, upw_s, upw_s, upw_s, upw_s, upw_s, upw_s]; omega
                · rw [upw_i et, upw_i et, upw_i et, upw_i et, upw_i et, upw_i et, upw_i et, upw_i et]; exact q5 t t1 t2
              · rw [g85]
                split
                · exact (hmc _ (by omega) (by omega)).1
                · exact q6 i i1 i2
            have hku : kOK v := kOK_c p4 (g77 0 (by decide) (by decide)) (g77 1 (by decide) (by decide)) (ge 78 (by decide)) (ge 79 (by decide)) (ge 80 (by decide)) (ge 83 (by decide)) (ge 84 (by decide)) p5
            exact ⟨⟨hRu, hnew.1, hnew.2, hmu, hku⟩, fun j hj => F0 j (by omega) (by omega) (by omega) (by omega) (by omega) (by omega) (by omega), fun j hj => ge j (by omega), fun q _ h10 h21 => g77 q h21 h10, fun q _ h4 => F1 q h4⟩
