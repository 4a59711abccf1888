theorem CI_upd {w u : RW} (hC : CI w) (hc : cOK u) (e2 : u 2 = w 2) (e3 : u 3 = w 3) (e4 : u 4 = w 4) (e5 : u 5 = w 5) (n3 : u 1 3 = w 1 3) (n4 : u 1 4 = w 1 4) (hs : ∀ s, 0 ≤ s → s < w 1 3 → u (7 + s.toNat) 0 = w (7 + s.toNat) 0) (ht : ∀ t, 0 ≤ t → t < w 1 4 → u (14 + t.toNat) 1 = w (14 + t.toNat) 1 ∧ u (20 + t.toNat) = w (20 + t.toNat)) : CI u := by
  obtain ⟨a, b, c, d, e, f⟩ := hC
  have hh : ∀ t k, heX u t k ↔ heX w t k := fun t k => by
    unfold heX
    rw [n4]
    constructor
    · rintro ⟨h1, h2⟩; rw [(ht t h1.1 h1.2).1] at h2; exact ⟨h1, h2⟩
    · rintro ⟨h1, h2⟩; rw [(ht t h1.1 h1.2).1]; exact ⟨h1, h2⟩
  have hx : ∀ t k, heX w t k → rX u t k = rX w t k := fun t k h => by
    unfold rX
    rw [(ht t h.1.1 h.1.2).2]
  refine ⟨hc, ?_, ?_, ?_, ?_, ?_⟩
  · rw [e2, e3]; exact b
  · rw [n3, e4]
    intro s s1 s2
    rw [hs s s1 s2]
    exact c s s1 s2
  · intro t k h
    have h2 := (hh t k).mp h
    rw [hx t k h2, e3]
    exact d t k h2
  · intro t k t' k' h h' hq
    have h2 := (hh t k).mp h
    have h3 := (hh t' k').mp h'
    rw [hx t k h2, hx t' k' h3] at hq
    exact e t k t' k' h2 h3 hq
  · intro i i1 i2 i3 t t1
    rw [e5, f i i1 i2 i3 t t1]
    constructor
    · rintro ⟨k, h, hq⟩
      exact ⟨k, (hh t k).mpr h, by rw [hx t k h]; exact hq⟩
    · rintro ⟨k, h, hq⟩
      have h2 := (hh t k).mp h
      exact ⟨k, h2, by rw [← hx t k h2]; exact hq⟩
theorem wOK_upd {w u : RW} (hw : wOK w) (hn : w 1 3 ≤ 6) (h : ∀ j, 63 ≤ j → j < 73 → u j = w j) (e2 : u 2 = w 2) (e3 : u 3 = w 3) (e4 : u 4 = w 4) (n3 : u 1 3 = w 1 3) (hs : ∀ s, 0 ≤ s → s < w 1 3 → u (7 + s.toNat) 0 = w (7 + s.toNat) 0) : wOK u := by
  obtain ⟨a, b, c, d⟩ := hw
  have e63 := h 63 (by decide) (by decide)
  refine ⟨QI_c3 e63 (h 71 (by decide) (by decide)) (h 72 (by decide) (by decide)) a, by rw [e63]; exact b, by rw [e63]; exact c, fun s s1 s2 hb => ?_⟩
  rw [e63] at hb
  have := d s s1 s2 hb
  rw [n3, hs s s1 this.1]
  exact ⟨this.1, lsOK_c e2 e3 e4 (h _ (by omega) (by omega)) this.2⟩
theorem ldXC_rng {w : RW} {t : Int} (h1 : 0 ≤ w (14 + t.toNat) 2 ∧ w (14 + t.toNat) 2 ≤ 5) (h2 : 0 ≤ w (7 + (gTr w t).toNat) 2) : 0 ≤ ldXC w t ∧ ldXC w t ≤ 100 ∧ ldXC w t ≤ w (7 + (gTr w t).toNat) 2 := by
  unfold ldXC
  split <;> omega
theorem ldX_v {w : RW} {t : Int} (ht : 0 ≤ t ∧ t < 6) (hg : 0 ≤ gTr w t ∧ gTr w t < 6) :
    (∀ j, j ≠ 1 → j ≠ 14 + t.toNat → j ≠ 7 + (gTr w t).toNat → ldX w t j = w j) ∧ (∀ f, f ≠ 6 → ldX w t 1 f = w 1 f) ∧ ldX w t 1 6 = (if 0 < w (14 + t.toNat) 4 - 1 then w 1 6 else w 1 6 + w (14 + t.toNat) 5) ∧
    (∀ f, f ≠ 2 → ldX w t (7 + (gTr w t).toNat) f = w (7 + (gTr w t).toNat) f) ∧ ldX w t (7 + (gTr w t).toNat) 2 = (if 0 < w (14 + t.toNat) 4 - 1 then w (7 + (gTr w t).toNat) 2 else w (7 + (gTr w t).toNat) 2 - ldXC w t) ∧
    (∀ f, f ≠ 4 → f ≠ 5 → f ≠ 8 → f ≠ 9 → ldX w t (14 + t.toNat) f = w (14 + t.toNat) f) ∧ ldX w t (14 + t.toNat) 4 = w (14 + t.toNat) 4 - 1 ∧ ldX w t (14 + t.toNat) 5 = (if 0 < w (14 + t.toNat) 4 - 1 then w (14 + t.toNat) 5 else ldXC w t) ∧
    ldX w t (14 + t.toNat) 8 = (if 0 < w (14 + t.toNat) 4 - 1 then w (14 + t.toNat) 8 else if w (14 + t.toNat) 8 + 1 < w (14 + t.toNat) 7 then w (14 + t.toNat) 8 + 1 else 0) ∧ ldX w t (14 + t.toNat) 9 = (if 0 < w (14 + t.toNat) 4 - 1 then w (14 + t.toNat) 9 else 1) := by
  unfold ldX
  by_cases e : 0 < w (14 + t.toNat) 4 - 1
  · simp only [if_pos e]
    refine ⟨fun j j1 j2 j3 => upw_f j2, fun f hf => ?_, ?_, fun f hf => ?_, ?_, fun f f1 f2 f3 f4 => ?_, ?_, ?_, ?_, ?_⟩ <;> (repeat (first | rw [upw_ne (by omega)] | rw [upw_eq (by omega) (by omega)]))
  · simp only [if_neg e]
    refine ⟨fun j j1 j2 j3 => by rw [upw_f j2, upw_f j2, upw_f j2, upw_f j3, upw_f j1, upw_f j2], fun f hf => ?_, ?_, fun f hf => ?_, ?_, fun f f1 f2 f3 f4 => ?_, ?_, ?_, ?_, ?_⟩ <;> (repeat (first | rw [upw_ne (by omega)] | rw [upw_eq (by omega) (by omega)]))
theorem cOK_ld {w : RW} (hc : cOK w) {t : Int} (ht : 0 ≤ t ∧ t < w 1 4) (ho : 0 < w (14 + t.toNat) 7) (hl : 0 < w (14 + t.toNat) 4) : cOK (ldX w t) := by
  obtain ⟨k1, k2, k3, k4, k5, k6⟩ := hc
  obtain ⟨t1, t2, t3, t4, t5⟩ := k6 t ht.1 ht.2
  have hg : 0 ≤ gTr w t ∧ gTr w t < w 1 3 := t5 _ (by omega) (by omega)
  obtain ⟨v1, v2, v3, v4, v5, v6, v7, v8, v9, v10⟩ := ldX_v (w := w) (t := t) ⟨ht.1, by omega⟩ ⟨hg.1, by omega⟩
  have hs := (k5 _ hg.1 hg.2).2
  have hC := ldXC_rng (w := w) (t := t) (by omega) (by omega)
  have e2 := v1 2 (by decide) (by omega) (by omega)
  have e3 := v1 3 (by decide) (by omega) (by omega)
  have e4 := v1 4 (by decide) (by omega) (by omega)
  have e5 := v1 5 (by decide) (by omega) (by omega)
  have n3 := v2 3 (by decide)
  have n4 := v2 4 (by decide)
  unfold cOK
  rw [e2, e3, e4, e5, n3, n4]
  refine ⟨k1, k2, k3, k4, fun s s1 s2 => ?_, fun y y1 y2 => ?_⟩
  · unfold gok
    rw [e2, e3]
    by_cases e : s = gTr w t
    · have h := k5 s s1 s2
      unfold gok at h
      rw [e] at h ⊢
      rw [v4 0 (by decide), v4 1 (by decide), v5]
      exact ⟨h.1, h.2.1, h.2.2.1, by split <;> omega, by split <;> omega⟩
    · rw [v1 (7 + s.toNat) (by omega) (by omega) (by omega)]
      exact k5 s s1 s2
  · unfold tok
    rw [v1 (20 + y.toNat) (by omega) (by omega) (by omega), v1 (26 + y.toNat) (by omega) (by omega) (by omega)]
    by_cases e : y = t
    · subst e
      rw [v6 1 (by decide) (by decide) (by decide) (by decide), v6 2 (by decide) (by decide) (by decide) (by decide), v6 3 (by decide) (by decide) (by decide) (by decide), v6 7 (by decide) (by decide) (by decide) (by decide), v7, v8, v9, v10]
      refine ⟨t1, ⟨by omega, by omega, by omega, by omega, by split <;> omega, by split <;> omega⟩, ⟨by omega, by omega, by (repeat' split) <;> omega, ?_, ?_⟩, t4, t5⟩
      · left
        (repeat' split) <;> omega
      · split
        · exact t3.2.2.2.2
        · exact Or.inr rfl
    · rw [v1 (14 + y.toNat) (by omega) (by omega) (by omega)]
      exact k6 y y1 y2
theorem CI_ld {w : RW} (hC : CI w) (hw : wOK w) {t : Int} (ht : 0 ≤ t ∧ t < w 1 4) (ho : 0 < w (14 + t.toNat) 7) (hl : 0 < w (14 + t.toNat) 4) : CI (ldX w t) ∧ wOK (ldX w t) := by
  have hk := cOK_ld hC.1 ht ho hl
  have k4 := hC.1.2.2.2.1
  obtain ⟨t1, t2, t3, t4, t5⟩ := hC.1.2.2.2.2.2 t ht.1 ht.2
  have hg : 0 ≤ gTr w t ∧ gTr w t < w 1 3 := t5 _ (by omega) (by omega)
  obtain ⟨v1, v2, v3, v4, v5, v6, v7, v8, v9, v10⟩ := ldX_v (w := w) (t := t) ⟨ht.1, by omega⟩ ⟨hg.1, by omega⟩
  have e2 := v1 2 (by decide) (by omega) (by omega)
  have e3 := v1 3 (by decide) (by omega) (by omega)
  have e4 := v1 4 (by decide) (by omega) (by omega)
  have e5 := v1 5 (by decide) (by omega) (by omega)
  have hs : ∀ s, 0 ≤ s → s < w 1 3 → ldX w t (7 + s.toNat) 0 = w (7 + s.toNat) 0 := fun s s1 s2 => by
    by_cases e : s = gTr w t
    · rw [e]; exact v4 0 (by decide)
    · rw [v1 (7 + s.toNat) (by omega) (by omega) (by omega)]
  refine ⟨CI_upd hC hk e2 e3 e4 e5 (v2 3 (by decide)) (v2 4 (by decide)) hs (fun y y1 y2 => ⟨?_, v1 _ (by omega) (by omega) (by omega)⟩), wOK_upd hw (by omega) (fun j j1 j2 => v1 j (by omega) (by omega) (by omega)) e2 e3 e4 (v2 3 (by decide)) hs⟩
  by_cases e : y = t
  · rw [e]; exact v6 1 (by decide) (by decide) (by decide) (by decide)
  · rw [v1 (14 + y.toNat) (by omega) (by omega) (by omega)]
theorem gInc_rng {w : RW} {s : Int} (h : 0 ≤ w (7 + s.toNat) 1 ∧ w (7 + s.toNat) 1 ≤ 50 ∧ 0 ≤ w (7 + s.toNat) 2 ∧ w (7 + s.toNat) 2 ≤ 500) : 0 ≤ gInc w s ∧ gInc w s ≤ 50 ∧ w (7 + s.toNat) 2 + gInc w s ≤ 500 := by
  unfold gInc
  split <;> omega
theorem CI_gr {w u : RW} (hC : CI w) (hw : wOK w) (h : grI w u (w 1 3)) : CI u ∧ wOK u := by
  obtain ⟨k1, k2, k3, k4, k5, k6⟩ := hC.1
  obtain ⟨g1, g2, g3⟩ := h
  have fr : ∀ j, j ≠ 1 → (j < 7 ∨ 13 ≤ j) → u j = w j := fun j j1 j2 => g1 j j1 (fun s s1 s2 => by omega)
  have e2 := fr 2 (by decide) (by decide)
  have e3 := fr 3 (by decide) (by decide)
  have e4 := fr 4 (by decide) (by decide)
  have e5 := fr 5 (by decide) (by decide)
  have n3 := g2.2 3 (by decide)
  have n4 := g2.2 4 (by decide)
  have hk : cOK u := by
    unfold cOK
    rw [e2, e3, e4, e5, n3, n4]
    refine ⟨k1, k2, k3, k4, fun s s1 s2 => ?_, fun y y1 y2 => ?_⟩
    · have h1 := k5 s s1 s2
      have h2 := g3 s s1 s2
      have h3 := gInc_rng (w := w) (s := s) h1.2
      unfold gok at h1 ⊢
      rw [e2, e3, h2.1, h2.2 0 (by decide), h2.2 1 (by decide)]
      exact ⟨h1.1, h1.2.1, h1.2.2.1, by omega, by omega⟩
    · unfold tok
      rw [fr (14 + y.toNat) (by omega) (by omega), fr (20 + y.toNat) (by omega) (by omega), fr (26 + y.toNat) (by omega) (by omega)]
      exact k6 y y1 y2
  exact ⟨CI_upd hC hk e2 e3 e4 e5 n3 n4 (fun s s1 s2 => (g3 s s1 s2).2 0 (by decide)) (fun y y1 y2 => ⟨by rw [fr (14 + y.toNat) (by omega) (by omega)], fr (20 + y.toNat) (by omega) (by omega)⟩), wOK_upd hw (by omega) (fun j j1 j2 => fr j (by omega) (by omega)) e2 e3 e4 n3 (fun s s1 s2 => (g3 s s1 s2).2 0 (by decide))⟩
theorem CI_wish {w u : RW} (hC : CI w) (hw : wOK w) {t r : Int} (ht : 0 ≤ t ∧ t < w 1 4) (ho : 0 < w (14 + t.toNat) 7) (hq : mqP w u t r) : CI u ∧ wOK u := by
  have k4 := hC.1.2.2.2.1
  obtain ⟨t1, t2, t3, t4, t5⟩ := hC.1.2.2.2.2.2 t ht.1 ht.2
  have hg : 0 ≤ gTr w t ∧ gTr w t < w 1 3 := t5 _ (by omega) (by omega)
  exact ⟨CI_c (fun j hj => (mq_wish hC ht ho hq).1 j (Or.inl hj)) hC, wOK_mq hg (by omega) hw hq⟩
/-- a granted request keeps what always holds -/
theorem CI_grant {w u1 u2 v : RW} (hC : CI w) (hw : wOK w) {t : Int} (ht : 0 ≤ t ∧ t < w 1 4) (ho : 0 < w (14 + t.toNat) 7) (hq : mqP w u1 t 0) (h2 : hoI u1 u2 t (u1 73 2)) (h3 : rvI u2 v (14 + t.toNat) (20 + t.toNat) (u1 73 2)) : CI v ∧ wOK v := by
  obtain ⟨m1, m2, m3, m4⟩ := mq_wish hC ht ho hq
  obtain ⟨n1, n2⟩ := no_cross hC ht ho hq
  have hcap := cap_x hC ht ho hq
  have hw1 := (CI_wish hC hw ht ho hq).2
  obtain ⟨k1, k2, k3, k4, k5, k6⟩ := hC.1
  obtain ⟨t1, t2, t3, t4, t5⟩ := k6 t ht.1 ht.2
  have fr : ∀ j, j < 63 ∨ 76 ≤ j → j ≠ 5 → j ≠ 14 + t.toNat → j ≠ 20 + t.toNat → v j = w j := fun j j0 j1 j2 j3 => by rw [h3.1 j j2 j3, h2.1 j j1, m1 j j0]
  have ek : u2 (14 + t.toNat) = w (14 + t.toNat) := by rw [h2.1 _ (by omega), m1 _ (by omega)]
  have er : u2 (20 + t.toNat) = w (20 + t.toNat) := by rw [h2.1 _ (by omega), m1 _ (by omega)]
  have e74 : u2 74 = u1 74 := h2.1 74 (by decide)
  have ek1 : v (14 + t.toNat) 1 = w (14 + t.toNat) 1 + u1 73 2 := by rw [h3.2.1.1, ek]
  have ekf : ∀ f, f ≠ 1 → v (14 + t.toNat) f = w (14 + t.toNat) f := fun f hf => by rw [h3.2.1.2 f hf, ek]
  have r1 : ∀ i, i < w (14 + t.toNat) 1 → v (20 + t.toNat) i = w (20 + t.toNat) i := fun i hi => by rw [h3.2.2.2 i (by rw [ek]; exact hi), er]
  have r2 : ∀ i, 0 ≤ i → i < u1 73 2 → v (20 + t.toNat) (w (14 + t.toNat) 1 + i) = u1 74 i := fun i i1 i2 => by
    have := h3.2.2.1 i i1 i2
    rw [ek, e74] at this
    exact this
  have hk : cOK v := by
    refine cOK_t ht hC.1 (fun j j0 j1 j2 j3 => fr j (Or.inl j0) j1 j2 j3) (fun p p1 p2 => ?_) ?_
    · rw [h3.1 5 (by omega) (by omega)]
      by_cases e : ∃ i, 0 ≤ i ∧ i < u1 73 2 ∧ u1 74 i % 512 = p
      · obtain ⟨i, i1, i2, i3⟩ := e
        rw [← i3, h2.2.1 i i1 i2]; omega
      · rw [h2.2.2 p (fun i i1 i2 i3 => e ⟨i, i1, i2, i3⟩), m1 5 (by decide)]; exact (k3 p p1 p2).2.2
    · unfold tok
      rw [fr (26 + t.toNat) (by omega) (by omega) (by omega) (by omega), ek1, ekf 2 (by decide), ekf 3 (by decide), ekf 4 (by decide), ekf 5 (by decide), ekf 7 (by decide), ekf 8 (by decide), ekf 9 (by decide)]
      refine ⟨by omega, t2, t3, fun i i1 i2 => ?_, t5⟩
      by_cases e : i < w (14 + t.toNat) 1
      · rw [r1 i e]; exact t4 i i1 e
      · have := r2 (i - w (14 + t.toNat) 1) (by omega) (by omega)
        rw [show w (14 + t.toNat) 1 + (i - w (14 + t.toNat) 1) = i by omega] at this
        rw [this]
        exact (m3 _ (by omega) (by omega)).1
  have c1 : v 1 = w 1 := fr 1 (by decide) (by decide) (by omega) (by omega)
  have c2 : v 2 = w 2 := fr 2 (by decide) (by decide) (by omega) (by omega)
  have c3 : v 3 = w 3 := fr 3 (by decide) (by decide) (by omega) (by omega)
  have c4 : v 4 = w 4 := fr 4 (by decide) (by decide) (by omega) (by omega)
  -- what is held behind it
  have hh : ∀ y k, heX v y k → (heX w y k ∧ rX v y k = rX w y k) ∨ (y = t ∧ ∃ i, 0 ≤ i ∧ i < u1 73 2 ∧ k = w (14 + t.toNat) 1 + i ∧ rX v y k = u1 74 i) := by
    rintro y k ⟨h1, hz2⟩
    rw [c1] at h1
    by_cases e : y = t
    · subst e
      rw [ek1] at hz2
      by_cases e2 : k < w (14 + y.toNat) 1
      · exact Or.inl ⟨⟨h1, hz2.1, e2⟩, r1 k e2⟩
      · refine Or.inr ⟨rfl, k - w (14 + y.toNat) 1, by omega, by omega, by omega, ?_⟩
        have := r2 (k - w (14 + y.toNat) 1) (by omega) (by omega)
        rw [show w (14 + y.toNat) 1 + (k - w (14 + y.toNat) 1) = k by omega] at this
        exact this
    · left
      rw [fr (14 + y.toNat) (by omega) (by omega) (by omega) (by omega)] at hz2
      exact ⟨⟨h1, hz2⟩, by unfold rX; rw [fr (20 + y.toNat) (by omega) (by omega) (by omega) (by omega)]⟩
  have hold : ∀ y k, heX w y k → heX v y k ∧ rX v y k = rX w y k := by
    rintro y k ⟨h1, hz2⟩
    by_cases e : y = t
    · subst e
      exact ⟨⟨by rw [c1]; exact h1, hz2.1, by rw [ek1]; omega⟩, r1 k hz2.2⟩
    · exact ⟨⟨by rw [c1]; exact h1, by rw [fr (14 + y.toNat) (by omega) (by omega) (by omega) (by omega)]; exact hz2⟩, by unfold rX; rw [fr (20 + y.toNat) (by omega) (by omega) (by omega) (by omega)]⟩
  have hnew : ∀ i, 0 ≤ i → i < u1 73 2 → heX v t (w (14 + t.toNat) 1 + i) ∧ rX v t (w (14 + t.toNat) 1 + i) = u1 74 i := fun i i1 i2 => ⟨⟨by rw [c1]; exact ht, by omega, by rw [ek1]; omega⟩, r2 i i1 i2⟩
  refine ⟨⟨hk, ?_, ?_, ?_, ?_, ?_⟩, wOK_upd hw1 (by rw [m1 1 (by decide)]; omega) (fun j j1 j2 => ?_) (by rw [c2, m1 2 (by decide)]) (by rw [c3, m1 3 (by decide)]) (by rw [c4, m1 4 (by decide)]) (by rw [c1, m1 1 (by decide)]) (fun s s1 s2 => by rw [m1 1 (by decide)] at s2; rw [fr (7 + s.toNat) (by omega) (by omega) (by omega) (by omega), m1 (7 + s.toNat) (by omega)])⟩
  · rw [c2, c3]; exact hC.2.1
  · rw [c1, c4]
    intro s s1 s2
    rw [fr (7 + s.toNat) (by omega) (by omega) (by omega) (by omega)]
    exact hC.2.2.1 s s1 s2
  · intro y k h
    rw [c3]
    rcases hh y k h with ⟨a, b⟩ | ⟨_, i, i1, i2, _, b⟩
    · rw [b]; exact hC.2.2.2.1 y k a
    · rw [b]; exact (m3 i i1 i2).2
  · intro y k y' k' h h' hc
    rcases hh y k h with ⟨a, b⟩ | ⟨e1, i, i1, i2, i3, b⟩
    · rcases hh y' k' h' with ⟨a', b'⟩ | ⟨e1', i', i1', i2', i3', b'⟩
      · rw [b, b'] at hc
        exact hC.2.2.2.2.1 y k y' k' a a' hc
      · rw [b, b'] at hc
        exact absurd (cxX_sym (heX_ok hC a) (m3 i' i1' i2').1 hc) (n1 i' y k i1' i2' a)
    · rcases hh y' k' h' with ⟨a', b'⟩ | ⟨e1', i', i1', i2', i3', b'⟩
      · rw [b, b'] at hc
        exact absurd hc (n1 i y' k' i1 i2 a')
      · rw [b, b'] at hc
        by_cases l1 : i' < i
        · exact absurd hc (n2 i i' i1' l1 i2)
        · by_cases l2 : i < i'
          · exact absurd (cxX_sym (m3 i i1 i2).1 (m3 i' i1' i2').1 hc) (n2 i' i i1 l2 i2')
          · exact ⟨by rw [e1, e1'], by omega⟩
  · intro p p1 p2 p3 z z1
    rw [h3.1 5 (by omega) (by omega)]
    by_cases e : ∃ i, 0 ≤ i ∧ i < u1 73 2 ∧ u1 74 i % 512 = p
    · obtain ⟨i, i1, i2, i3⟩ := e
      rw [← i3, h2.2.1 i i1 i2]
      constructor
      · rintro rfl
        exact ⟨_, (hnew i i1 i2).1, by rw [(hnew i i1 i2).2]⟩
      · rintro ⟨k, a, b⟩
        rcases hh z k a with ⟨c, d⟩ | ⟨c, _⟩
        · rw [d] at b
          exact absurd (cxX_place (m3 i i1 i2).1 (heX_ok hC c) b.symm) (n1 i z k i1 i2 c)
        · exact c.symm
    · rw [h2.2.2 p (fun i i1 i2 i3 => e ⟨i, i1, i2, i3⟩), m1 5 (by decide), hC.2.2.2.2.2 p p1 p2 p3 z z1]
      constructor
      · rintro ⟨k, a, b⟩
        exact ⟨k, (hold z k a).1, by rw [(hold z k a).2]; exact b⟩
      · rintro ⟨k, a, b⟩
        rcases hh z k a with ⟨c, d⟩ | ⟨_, i, i1, i2, _, d⟩
        · exact ⟨k, c, by rw [← d]; exact b⟩
        · exact absurd ⟨i, i1, i2, by rw [← d]; exact b⟩ e
  · rw [h3.1 j (by omega) (by omega), h2.1 j (by omega)]
/-- a move keeps it too -/
theorem CI_mv {w : RW} (hC : CI w) (hw : wOK w) {t : Int} (ht : 0 ≤ t ∧ t < w 1 4) (h : w (14 + t.toNat) 2 < w (14 + t.toNat) 1) : CI (xmM w t) ∧ wOK (xmM w t) := by
  have hk := cOK_mv ht hC.1 h
  obtain ⟨k1, k2, k3, k4, k5, k6⟩ := hC.1
  obtain ⟨t1, t2, t3, t4, t5⟩ := k6 t ht.1 ht.2
  have fr : ∀ j, j ≠ 5 → j ≠ 14 + t.toNat → j ≠ 20 + t.toNat → xmM w t j = w j := fun j a b c => xmM_f a b c
  have c1 : xmM w t 1 = w 1 := fr 1 (by decide) (by omega) (by omega)
  have c2 : xmM w t 2 = w 2 := fr 2 (by decide) (by omega) (by omega)
  have c3 : xmM w t 3 = w 3 := fr 3 (by decide) (by omega) (by omega)
  have c4 : xmM w t 4 = w 4 := fr 4 (by decide) (by omega) (by omega)
  have ek1 : xmM w t (14 + t.toNat) 1 = w (14 + t.toNat) 1 - 1 := by rw [xmM_k, if_neg (by decide), if_pos rfl]
  have h0 : heX w t 0 := ⟨ht, by omega, by omega⟩
  have hh : ∀ y k, heX (xmM w t) y k → (¬ y = t ∧ heX w y k ∧ rX (xmM w t) y k = rX w y k) ∨ (y = t ∧ heX w t (k + 1) ∧ 0 ≤ k ∧ rX (xmM w t) y k = rX w t (k + 1)) := by
    rintro y k ⟨h1, h2⟩
    rw [c1] at h1
    by_cases e : y = t
    · subst e
      rw [ek1] at h2
      refine Or.inr ⟨rfl, ⟨h1, by omega, by omega⟩, h2.1, ?_⟩
      unfold rX
      rw [xmM_r h2.1, if_pos (by omega)]
    · rw [fr (14 + y.toNat) (by omega) (by omega) (by omega)] at h2
      exact Or.inl ⟨e, ⟨h1, h2⟩, by unfold rX; rw [fr (20 + y.toNat) (by omega) (by omega) (by omega)]⟩
  have hold : ∀ y k, heX w y k → ¬ y = t → heX (xmM w t) y k ∧ rX (xmM w t) y k = rX w y k := by
    rintro y k ⟨h1, h2⟩ e
    exact ⟨⟨by rw [c1]; exact h1, by rw [fr (14 + y.toNat) (by omega) (by omega) (by omega)]; exact h2⟩, by unfold rX; rw [fr (20 + y.toNat) (by omega) (by omega) (by omega)]⟩
  have hnew : ∀ k, heX w t (k + 1) → 0 ≤ k → heX (xmM w t) t k ∧ rX (xmM w t) t k = rX w t (k + 1) := by
    rintro k ⟨h1, h2⟩ k0
    refine ⟨⟨by rw [c1]; exact h1, k0, by rw [ek1]; omega⟩, ?_⟩
    unfold rX
    rw [xmM_r k0, if_pos (by omega)]
  refine ⟨⟨hk, ?_, ?_, ?_, ?_, ?_⟩, wOK_upd hw (by omega) (fun j j1 j2 => fr j (by omega) (by omega) (by omega)) c2 c3 c4 (by rw [c1]) (fun s s1 s2 => by rw [fr (7 + s.toNat) (by omega) (by omega) (by omega)])⟩
  · rw [c2, c3]; exact hC.2.1
  · rw [c1, c4]
    intro s s1 s2
    rw [fr (7 + s.toNat) (by omega) (by omega) (by omega)]
    exact hC.2.2.1 s s1 s2
  · intro y k hq
    rw [c3]
    rcases hh y k hq with ⟨_, a, b⟩ | ⟨_, a, _, b⟩
    · rw [b]; exact hC.2.2.2.1 y k a
    · rw [b]; exact hC.2.2.2.1 t (k + 1) a
  · intro y k y' k' hq hq' hc
    rcases hh y k hq with ⟨e, a, b⟩ | ⟨e, a, a0, b⟩
    · rcases hh y' k' hq' with ⟨e', a', b'⟩ | ⟨e', a', a0', b'⟩
      · rw [b, b'] at hc
        exact hC.2.2.2.2.1 y k y' k' a a' hc
      · rw [b, b'] at hc
        exact absurd (hC.2.2.2.2.1 y k t (k' + 1) a a' hc).1 e
    · rcases hh y' k' hq' with ⟨e', a', b'⟩ | ⟨e', a', a0', b'⟩
      · rw [b, b'] at hc
        exact absurd (hC.2.2.2.2.1 t (k + 1) y' k' a a' hc).1.symm e'
      · rw [b, b'] at hc
        have := hC.2.2.2.2.1 t (k + 1) t (k' + 1) a a' hc
        exact ⟨by rw [e, e'], by omega⟩
  · intro p p1 p2 p3 z z1
    rw [xmM_5]
    have hr0 : w (20 + t.toNat) 0 = rX w t 0 := rfl
    by_cases e : p = w (20 + t.toNat) 0 % 512
    · rw [if_pos e]
      constructor
      · intro q; omega
      · rintro ⟨k, a, b⟩
        exfalso
        rcases hh z k a with ⟨e1, c, d⟩ | ⟨e1, c, c0, d⟩
        · rw [d, e, hr0] at b
          exact e1 (hC.2.2.2.2.1 z k t 0 c h0 (cxX_place (heX_ok hC c) (heX_ok hC h0) b)).1
        · rw [d, e, hr0] at b
          have := (hC.2.2.2.2.1 t (k + 1) t 0 c h0 (cxX_place (heX_ok hC c) (heX_ok hC h0) b)).2
          omega
    · rw [if_neg e, hC.2.2.2.2.2 p p1 p2 p3 z z1]
      constructor
      · rintro ⟨k, a, b⟩
        by_cases e1 : z = t
        · subst e1
          have hk0 : k ≠ 0 := fun q => e (by rw [q] at b; exact b.symm)
          have a' : heX w z (k - 1 + 1) := by rw [show k - 1 + 1 = k by omega]; exact a
          have := hnew (k - 1) a' (by have := a.2.1; omega)
          exact ⟨k - 1, this.1, by rw [this.2, show k - 1 + 1 = k by omega]; exact b⟩
        · exact ⟨k, (hold z k a e1).1, by rw [(hold z k a e1).2]; exact b⟩
      · rintro ⟨k, a, b⟩
        rcases hh z k a with ⟨_, c, d⟩ | ⟨e1, c, _, d⟩
        · exact ⟨k, c, by rw [← d]; exact b⟩
        · rw [e1]; exact ⟨k + 1, c, by rw [← d]; exact b⟩
theorem CI_mvK {w : RW} (hC : CI w) (hw : wOK w) {t : Int} (ht : 0 ≤ t ∧ t < w 1 4) : ∀ n : Nat, (n : Int) ≤ w (14 + t.toNat) 1 - w (14 + t.toNat) 2 → CI (xmK w t n) ∧ wOK (xmK w t n)
  | 0, _ => ⟨hC, hw⟩
  | n + 1, h => by
    have ih := CI_mvK hC hw ht n (by omega)
    refine CI_mv ih.1 ih.2 (by rw [xmK_f (by omega) (by omega) (by omega)]; exact ht) ?_
    rw [xmK_1, xmK_k (by decide) (by decide)]
    omega
/-- numbers of a train other than how many it holds -/
theorem CI_fld {w : RW} (hC : CI w) (hw : wOK w) {t f z : Int} (ht : 0 ≤ t ∧ t < w 1 4) (hf : f ≠ 1) (hc : cOK (upw w (14 + t.toNat) f z)) : CI (upw w (14 + t.toNat) f z) ∧ wOK (upw w (14 + t.toNat) f z) := by
  have k4 := hC.1.2.2.2.1
  refine ⟨CI_upd hC hc (upw_f (by omega)) (upw_f (by omega)) (upw_f (by omega)) (upw_f (by omega)) (by rw [upw_f (by omega)]) (by rw [upw_f (by omega)]) (fun s s1 s2 => by rw [upw_f (by omega)]) (fun y y1 y2 => ⟨?_, upw_f (by omega)⟩), wOK_upd hw (by omega) (fun j j1 j2 => upw_f (by omega)) (upw_f (by omega)) (upw_f (by omega)) (upw_f (by omega)) (by rw [upw_f (by omega)]) (fun s s1 s2 => by rw [upw_f (by omega)])⟩
  rw [upw_i (Ne.symm hf)]
theorem cOK_4 {w : RW} {t z : Int} (ht : 0 ≤ t ∧ t < w 1 4) (hc : cOK w) (hz : 0 ≤ z ∧ z ≤ 2) : cOK (upw w (14 + t.toNat) 4 z) := by
  obtain ⟨k1, k2, k3, k4, k5, k6⟩ := hc
  obtain ⟨t1, t2, t3, t4, t5⟩ := k6 t ht.1 ht.2
  refine cOK_t ht ⟨k1, k2, k3, k4, k5, k6⟩ (fun j _ j1 j2 j3 => upw_f j2) (fun p p1 p2 => ?_) ?_
  · rw [upw_f (by omega)]; exact (k3 p p1 p2).2.2
  · unfold tok
    rw [upw_f (k' := 26 + t.toNat) (by omega), upw_f (k' := 20 + t.toNat) (by omega), upw_s, upw_i (i' := 1) (by decide), upw_i (i' := 2) (by decide), upw_i (i' := 3) (by decide), upw_i (i' := 5) (by decide), upw_i (i' := 7) (by decide), upw_i (i' := 8) (by decide), upw_i (i' := 9) (by decide)]
    exact ⟨t1, ⟨t2.1, t2.2.1, hz.1, hz.2, t2.2.2.2.2⟩, t3, t4, t5⟩
theorem CI_Z {v : RW} (hC : CI v) (hw : wOK v) {t : Int} (ht : 0 ≤ t ∧ t < v 1 4) : CI (xZ v t) ∧ wOK (xZ v t) := by
  obtain ⟨t1, t2, t3, t4, t5⟩ := hC.1.2.2.2.2.2 t ht.1 ht.2
  have hs : 0 ≤ xS v t ∧ xS v t ≤ 3 ∧ xS v t ≤ v (14 + t.toNat) 1 - v (14 + t.toNat) 2 := nsp_rng (by omega)
  have h1 := CI_fld hC hw (t := t) (f := 3) (z := xS v t) ht (by decide) (cOK_3 ht hC.1 (by omega))
  have ht1 : 0 ≤ t ∧ t < upw v (14 + t.toNat) 3 (xS v t) 1 4 := by rw [upw_f (by omega)]; exact ht
  have h2 := CI_mvK h1.1 h1.2 ht1 (xS v t).toNat (by rw [upw_i (i' := 1) (by decide), upw_i (i' := 2) (by decide)]; omega)
  have ht2 : 0 ≤ t ∧ t < xV v t 1 4 := by
    unfold xV
    rw [xmK_f (by omega) (by omega) (by omega)]; exact ht1
  have h2' : CI (xV v t) ∧ wOK (xV v t) := h2
  unfold xZ
  by_cases e : duC (xV v t) t ∧ xV v t (14 + t.toNat) 1 - xV v t (14 + t.toNat) 2 = 0
  · rw [wif_t e]
    have h3 := CI_fld h2'.1 h2'.2 (t := t) (f := 3) (z := 0) ht2 (by decide) (cOK_3 ht2 h2'.1.1 (by omega))
    have ht3 : 0 ≤ t ∧ t < upw (xV v t) (14 + t.toNat) 3 0 1 4 := by rw [upw_f (by omega)]; exact ht2
    exact CI_fld h3.1 h3.2 (t := t) (f := 4) (z := 2) ht3 (by decide) (cOK_4 ht3 h3.1.1 (by omega))
  · rw [wif_f e]; exact h2'
/-- what a tick does to a train keeps what always holds -/
theorem CI_rg {w v : RW} (hC : CI w) (hw : wOK w) {t : Int} (ht : 0 ≤ t ∧ t < w 1 4) (ho : 0 < w (14 + t.toNat) 7) (h : rgX w v t) : CI v ∧ wOK v ∧ v 1 = w 1 := by
  have k4 := hC.1.2.2.2.1
  rcases h with ⟨_, rfl⟩ | ⟨_, u, f, hq, ⟨_, rfl⟩ | ⟨rfl, u2, h2, h3⟩⟩
  · exact ⟨hC, hw, rfl⟩
  · have := CI_wish hC hw ht ho hq
    exact ⟨this.1, this.2, (mq_wish hC ht ho hq).1 1 (by decide)⟩
  · have := CI_grant hC hw ht ho hq h2 h3
    exact ⟨this.1, this.2, by rw [h3.1 1 (by omega) (by omega), h2.1 1 (by decide), (mq_wish hC ht ho hq).1 1 (by decide)]⟩
theorem xZ_1 {v : RW} {t : Int} (ht : 0 ≤ t) : xZ v t 1 = v 1 := by
  have h1 : xV v t 1 = v 1 := by unfold xV; rw [xmK_f (by omega) (by omega) (by omega), upw_f (by omega)]
  unfold xZ
  by_cases e : duC (xV v t) t ∧ xV v t (14 + t.toNat) 1 - xV v t (14 + t.toNat) 2 = 0
  · rw [wif_t e, upw_f (by omega), upw_f (by omega), h1]
  · rw [wif_f e, h1]
theorem CI_adv {w u : RW} (hC : CI w) (hw : wOK w) {t r : Int} (ht : 0 ≤ t ∧ t < w 1 4) (h : advC w u t r) : CI u ∧ wOK u ∧ (∀ f, f ≠ 6 → u 1 f = w 1 f) ∧ (w 1 6 ≤ u 1 6 ∧ u 1 6 ≤ w 1 6 + 100) ∧ 0 ≤ r ∧ r ≤ 3 := by
  have k4 := hC.1.2.2.2.1
  obtain ⟨t1, t2, t3, t4, t5⟩ := hC.1.2.2.2.2.2 t ht.1 ht.2
  rcases h with ⟨_, rfl, rfl⟩ | ⟨h1, h2, rfl, rfl⟩ | ⟨h1, h2, v, hv, rfl, rfl⟩
  · exact ⟨hC, hw, fun _ _ => rfl, by omega, by omega, by omega⟩
  · have hc := CI_ld hC hw ht h1 h2
    have hg : 0 ≤ gTr w t ∧ gTr w t < w 1 3 := t5 _ (by omega) (by omega)
    obtain ⟨v1, v2, v3, _⟩ := ldX_v (w := w) (t := t) ⟨ht.1, by omega⟩ ⟨hg.1, by omega⟩
    refine ⟨hc.1, hc.2, v2, ?_, by omega, by omega⟩
    rw [v3]
    split <;> omega
  · obtain ⟨a, b, c⟩ := CI_rg hC hw ht h1 hv
    have hz := CI_Z a b (t := t) (by rw [c]; exact ht)
    have hk := a.1.2.2.2.2.2 t ht.1 (by rw [c]; exact ht.2)
    have hs : 0 ≤ xS v t ∧ xS v t ≤ 3 ∧ xS v t ≤ v (14 + t.toNat) 1 - v (14 + t.toNat) 2 := nsp_rng (by have := hk.1; omega)
    refine ⟨hz.1, hz.2, fun f _ => by rw [xZ_1 ht.1, c], by rw [xZ_1 ht.1, c]; omega, hs.1, hs.2.1⟩
