theorem inj_le {N M : Nat} {f : Nat → Int} (hr : ∀ i, i < N → 0 ≤ f i ∧ f i < M) (hi : ∀ i j, i < j → j < N → f i ≠ f j) : N ≤ M := by
  have h1 : ((List.range N).map f).Nodup := by
    refine List.pairwise_map.mpr (List.Pairwise.imp_of_mem ?_ (List.pairwise_lt_range (n := N)))
    intro a b _ hb hab
    exact hi a b hab (List.mem_range.mp hb)
  have h2 : (List.range N).map f ⊆ (List.range M).map (fun (i : Nat) => (i : Int)) := by
    intro x hx
    obtain ⟨i, i1, i2⟩ := List.mem_map.mp hx
    have := hr i (List.mem_range.mp i1)
    rw [i2] at this
    exact List.mem_map.mpr ⟨x.toNat, List.mem_range.mpr (by omega), Int.toNat_of_nonneg this.1⟩
  have h3 := List.Nodup.length_le_of_subset h1 h2
  simp at h3
  exact h3
def kyX (x : Int) : Int := 2 * (x % 64) + x % 512 / 64 % 2
theorem ky_ne {x y : Int} (hx : okR x) (hy : okR y) (h : ¬ cxX x y) : kyX x ≠ kyX y := by
  intro hk
  have hx1 := hx.2.2.1
  have hy1 := hy.2.2.1
  have hc := crs_n (x % 512 / 64).toNat (by omega) (y % 512 / 64).toNat (by omega)
  rw [show (((x % 512 / 64).toNat : Nat) : Int) = x % 512 / 64 by omega] at hc
  have hp : x % 64 = y % 64 ∧ x % 512 / 64 % 2 = y % 512 / 64 % 2 := by unfold kyX at hk; omega
  refine h ⟨hp.1, ?_⟩
  unfold tb
  rw [hc, decide_eq_true_iff]
  omega
theorem cxX_place {x y : Int} (hx : okR x) (hy : okR y) (h : x % 512 = y % 512) : cxX x y := by
  have h1 := cxX_self hx
  unfold cxX at *
  rw [← h, show y % 64 = x % 64 by omega]
  exact h1
theorem nx_laid {v : RW} {s g x b : Int} (hb : v 2 0 ≤ 8 ∧ v 2 1 ≤ 6) (hx : 0 ≤ x) (h : nxQ v s g x b) (hn : b ≠ -1) : tb (v 3 (b % 64)) (b % 512 / 64) := by
  rcases h with ⟨_, h⟩ | ⟨hT, z, ⟨h, _⟩ | ⟨p, p1, p2, p3, p4, p5, p6, p7, p8⟩⟩
  · exact absurd h hn
  · exact absurd h hn
  · have hxr := nxR_ok (w := v) (x := x) (p := p) hx (by have := nxT_rng (w := v) (x := x) hb; omega) ⟨p1, p2⟩ p3.2
    rw [p4, hxr.2.1, hxr.2.2.1]
    exact p3.1
theorem heX_ok {w : RW} (hC : CI w) {t k : Int} (h : heX w t k) : okR (rX w t k) := (hC.1.2.2.2.2.2 t h.1.1 h.1.2).2.2.2.1 k h.2.1 h.2.2
theorem heX_ho {w : RW} (hC : CI w) {t k : Int} (h : heX w t k) : w 5 (rX w t k % 512) = t := by
  have ho := heX_ok hC h
  unfold okR at ho
  exact (hC.2.2.2.2.2 (rX w t k % 512) (by omega) (by omega) (by omega) t h.1.1).mpr ⟨k, h, rfl⟩
/-- the wish of a train with orders: its runs are laid; nothing stands against it when the answer is 0 -/
theorem mq_wish {w u : RW} (hC : CI w) {t r : Int} (ht : 0 ≤ t ∧ t < w 1 4) (ho : 0 < w (14 + t.toNat) 7) (hq : mqP w u t r) : (∀ j, j < 63 ∨ 76 ≤ j → u j = w j) ∧ (0 ≤ u 73 2 ∧ u 73 2 ≤ 257) ∧ (∀ j, 0 ≤ j → j < u 73 2 → okR (u 74 j) ∧ tb (w 3 (u 74 j % 64)) (u 74 j % 512 / 64)) ∧ agF r t (agS u (u 73 2) t) := by
  have k4 := hC.1.2.2.2.1
  obtain ⟨t1, t2, t3, t4, t5⟩ := hC.1.2.2.2.2.2 t ht.1 ht.2
  have hg : 0 ≤ gTr w t ∧ gTr w t < w 1 3 := t5 _ (by omega) (by omega)
  have hf := mqP_frame (by omega) hq
  obtain ⟨v, u1, q1, q2, q3, q4⟩ := hq
  have hfl := lnP_frame q1
  refine ⟨hf.1, hf.2.1, fun j j1 j2 => ⟨hf.2.2 j j1 j2, ?_⟩, ?_⟩
  · rw [q4 73 (by decide)] at j2
    rw [q4 74 (by decide)]
    have h := q2.2.2.1 j j1 j2
    have h0 := h.1.1
    have hw3 : v 3 = w 3 := hfl 3 (by decide) (by decide) (by decide) (by omega)
    have hw2 : v 2 = w 2 := hfl 2 (by decide) (by decide) (by decide) (by omega)
    rw [← hw3]
    refine nx_laid (by rw [hw2]; have := hC.1.1; omega) ?_ h.2 (by omega)
    unfold prv
    split
    · exact (t4 _ (by omega) (by omega)).1
    · exact (q2.2.2.1 (j - 1) (by omega) (by omega)).1.1
  · have : agS u (u 73 2) t = agS u1 (u1 73 2) t := by
      funext z
      unfold agS
      rw [q4 5 (by decide), q4 73 (by decide), q4 74 (by decide)]
    rw [this]
    exact q3
theorem no_cross {w u : RW} (hC : CI w) {t : Int} (ht : 0 ≤ t ∧ t < w 1 4) (ho : 0 < w (14 + t.toNat) 7) (hq : mqP w u t 0) : (∀ i t' k, 0 ≤ i → i < u 73 2 → heX w t' k → ¬ cxX (u 74 i) (rX w t' k)) ∧ ∀ i j, 0 ≤ j → j < i → i < u 73 2 → ¬ cxX (u 74 i) (u 74 j) := by
  obtain ⟨h1, h2, h3, h4⟩ := mq_wish hC ht ho hq
  have k4 := hC.1.2.2.2.1
  have hz : ∀ z, 0 ≤ z → z < 7 → ¬ agS u (u 73 2) t z := fun z z1 z2 y => tb_0 z ((h4.2 z z1 z2).mpr y)
  refine ⟨fun i t' k i1 i2 hk hc => ?_, fun i j j1 j2 i2 hc => ?_⟩
  · have hh := hk.1
    have ho := heX_ok hC hk
    have hho := heX_ho hC hk
    unfold okR at ho
    refine hz t' hh.1 (by omega) (Or.inr ⟨i, rX w t' k % 512 / 64, i1, i2, by omega, by omega, ?_, hc.2⟩)
    rw [hc.1, h1 5 (by decide), show rX w t' k % 64 + 64 * (rX w t' k % 512 / 64) = rX w t' k % 512 by omega]
    exact hho
  · exact hz t ht.1 (by omega) (Or.inl ⟨rfl, i, j, j1, j2, i2, hc.1, hc.2⟩)
/-- what a train holds and wishes for has room -/
theorem cap_x {w u : RW} (hC : CI w) {t : Int} (ht : 0 ≤ t ∧ t < w 1 4) (ho : 0 < w (14 + t.toNat) 7) (hq : mqP w u t 0) : w (14 + t.toNat) 1 + u 73 2 ≤ 96 := by
  obtain ⟨h1, h2, h3, h4⟩ := mq_wish hC ht ho hq
  obtain ⟨n1, n2⟩ := no_cross hC ht ho hq
  obtain ⟨t1, t2, t3, t4, t5⟩ := hC.1.2.2.2.2.2 t ht.1 ht.2
  have key := inj_le (N := (w (14 + t.toNat) 1 + u 73 2).toNat) (M := 96) (f := fun i => kyX (if (i : Int) < w (14 + t.toNat) 1 then rX w t i else u 74 (i - w (14 + t.toNat) 1))) ?_ ?_
  · omega
  · intro i hi
    show 0 ≤ kyX (if (i : Int) < w (14 + t.toNat) 1 then rX w t i else u 74 (i - w (14 + t.toNat) 1)) ∧ _
    split
    · have := heX_ok hC (w := w) (t := t) (k := i) ⟨ht, by omega, by omega⟩
      unfold okR at this
      unfold kyX
      omega
    · have := (h3 (i - w (14 + t.toNat) 1) (by omega) (by omega)).1
      unfold okR at this
      unfold kyX
      omega
  · intro i j hij hj
    show kyX (if (i : Int) < w (14 + t.toNat) 1 then rX w t i else u 74 (i - w (14 + t.toNat) 1)) ≠ kyX (if (j : Int) < w (14 + t.toNat) 1 then rX w t j else u 74 (j - w (14 + t.toNat) 1))
    by_cases e1 : (j : Int) < w (14 + t.toNat) 1
    · rw [if_pos (by omega), if_pos e1]
      have hi : heX w t i := ⟨ht, by omega, by omega⟩
      have hj : heX w t j := ⟨ht, by omega, by omega⟩
      exact ky_ne (heX_ok hC hi) (heX_ok hC hj) (fun z => by have := hC.2.2.2.2.1 t i t j hi hj z; omega)
    · rw [if_neg e1]
      have hjo := (h3 (j - w (14 + t.toNat) 1) (by omega) (by omega)).1
      by_cases e2 : (i : Int) < w (14 + t.toNat) 1
      · rw [if_pos e2]
        have hi : heX w t i := ⟨ht, by omega, by omega⟩
        exact fun z => ky_ne hjo (heX_ok hC hi) (n1 _ t i (by omega) (by omega) hi) z.symm
      · rw [if_neg e2]
        have hio := (h3 (i - w (14 + t.toNat) 1) (by omega) (by omega)).1
        exact fun z => ky_ne hjo hio (n2 _ _ (by omega) (by omega) (by omega)) z.symm
theorem no_bits : ∀ a, a < 128 → (Nat.testBit a 0 || Nat.testBit a 1 || Nat.testBit a 2 || Nat.testBit a 3 || Nat.testBit a 4 || Nat.testBit a 5 || Nat.testBit a 6) = decide (¬ a = 0) := by decide +kernel
theorem bits_0 {r : Int} (hr : 0 ≤ r ∧ r < 128) : r = 0 ↔ ∀ z, 0 ≤ z → z < 7 → ¬ tb r z := by
  constructor
  · rintro rfl z _ _
    exact tb_0 z
  · intro h
    have h1 := no_bits r.toNat (by omega)
    have hb : ∀ n : Nat, n < 7 → Nat.testBit r.toNat n = false := fun n hn => by
      have := h n (by omega) (by omega)
      unfold tb at this
      rw [show ((n : Nat) : Int).toNat = n from rfl] at this
      simpa using this
    rw [hb 0 (by decide), hb 1 (by decide), hb 2 (by decide), hb 3 (by decide), hb 4 (by decide), hb 5 (by decide), hb 6 (by decide)] at h1
    have h2 : ¬ ¬ r.toNat = 0 := of_decide_eq_false h1.symm
    omega
/-- who stands against a request is the same on either side -/
theorem ag_sim {w g u h : RW} {t r : Int} (hR : Rel w g) (hC : CI w) (hm : mOK g) (ht : 0 ≤ t ∧ t < g 77 10) (ho : 0 < g 93 t) (hq : mqP w u t r) (hh : frC g h) (hn : h 77 21 = u 73 2) (hx : ∀ j, 0 ≤ j → j < u 73 2 → u 74 j = rn (h 95 j) ∧ 0 ≤ h 95 j ∧ h 95 j < 576) :
    (0 ≤ r ∧ r < 64) ∧ (∀ z, 0 ≤ z → z < 6 → (tb r z ↔ wfS h t z)) ∧ (r = 0 ↔ canG h) := by
  have hT := hR.2.2.2.2 t ht.1 ht.2
  have k3 := hm.2.2.1
  obtain ⟨h1, h2, h3, h4⟩ := mq_wish hC (t := t) (by rw [rl_nt hR]; exact ht) (by rw [hT.1.2.2.2.2.2.1]; exact ho) hq
  have e10 := hh.2 10 (by decide)
  have e85 := hh.1 85 (by decide) (by decide) (by decide) (by decide)
  have e86 := hh.1 86 (by decide) (by decide) (by decide) (by decide)
  have key : ∀ z, 0 ≤ z → (agS u (u 73 2) t z ↔ wfS h t z) := fun z z0 => by
    unfold agS wfS
    rw [h1 5 (by decide), e10]
    constructor
    · rintro (⟨y1, i, j, j1, j2, i2, a, b⟩ | ⟨i, o, i1, i2, o1, o2, a, b⟩)
      · have xi := hx i (by omega) i2
        have xj := hx j j1 (by omega)
        refine Or.inl ⟨y1, i, j, j1, j2, by omega, ?_⟩
        rw [xi.1, xj.1] at a b
        exact (cxX_rn xi.2 xj.2).mp ⟨a, b⟩
      · have xi := hx i i1 i2
        obtain ⟨f1, f2, f3, f4, f5, f6⟩ := rn_f xi.2
        rw [xi.1, f1] at a
        rw [xi.1, f2] at b
        have hp : plc (6 * (h 95 i / 12) + o) = h 95 i / 12 + 64 * o := by unfold plc; omega
        rw [← hp] at a
        obtain ⟨b1, k, c1, c2, c3⟩ := (rl_ho hR hC hm (by omega) z0).mp a
        refine Or.inr ⟨b1, i, i1, by omega, k, c1, by rw [e86]; exact c2, ?_⟩
        rw [e85, c3]
        refine crs_sym ((crs_f (by omega) (by omega)).mpr ⟨by omega, ?_⟩)
        rw [show (6 * (h 95 i / 12) + o) % 6 = o by omega]
        exact b
    · rintro (⟨y1, i, j, j1, j2, i2, a⟩ | ⟨y1, i, i1, i2, k, c1, c2, c3⟩)
      · rw [hn] at i2
        have xi := hx i (by omega) i2
        have xj := hx j j1 (by omega)
        have := (cxX_rn xi.2 xj.2).mpr a
        rw [← xi.1, ← xj.1] at this
        exact Or.inl ⟨y1, i, j, j1, j2, i2, this.1, this.2⟩
      · rw [hn] at i2
        rw [e86] at c2
        rw [e85] at c3
        have xi := hx i i1 i2
        obtain ⟨f1, f2, f3, f4, f5, f6⟩ := rn_f xi.2
        have hr := rl_row hm (t := z) (k := k) ⟨⟨z0, y1⟩, c1, c2⟩
        have hcr := (crs_f (by omega) (by omega)).mp (crs_sym c3)
        have hw5 := (rl_ho hR hC hm (i := g 85 (300 * z + k) / 2) (t := z) (by omega) z0).mpr ⟨y1, k, c1, c2, rfl⟩
        refine Or.inr ⟨i, g 85 (300 * z + k) / 2 % 6, i1, i2, by omega, by omega, ?_, ?_⟩
        · rw [xi.1, f1, show h 95 i / 12 + 64 * (g 85 (300 * z + k) / 2 % 6) = plc (g 85 (300 * z + k) / 2) by unfold plc; omega]
          exact hw5
        · rw [xi.1, f2]; exact hcr.2
  have hno6 : ¬ wfS h t 6 := by
    rintro (⟨y, _⟩ | ⟨y, _⟩)
    · omega
    · rw [e10] at y; omega
  have hbit : ∀ z, 0 ≤ z → z < 7 → (tb r z ↔ wfS h t z) := fun z z1 z2 => by rw [h4.2 z z1 z2, key z z1]
  have hr64 : r < 64 := by
    by_cases e : r < 64
    · exact e
    · have h6 : tb r 6 := by
        unfold tb
        show r.toNat.testBit 6 = true
        have : ∀ a, a < 128 → 64 ≤ a → Nat.testBit a 6 = true := by decide +kernel
        have h5 := h4.1
        exact this _ (by omega) (by omega)
      exact absurd ((hbit 6 (by omega) (by omega)).mp h6) hno6
  refine ⟨⟨h4.1.1, hr64⟩, fun z z1 z2 => hbit z z1 (by omega), ?_⟩
  rw [bits_0 h4.1]
  constructor
  · intro hz
    refine ⟨fun hc => (hz t ht.1 (by omega)) ((hbit t ht.1 (by omega)).mpr (Or.inl ⟨rfl, hc⟩)), fun k k1 k2 hb => ?_⟩
    obtain ⟨y, y1, y2, y3⟩ := hb
    rw [e10] at y2
    exact hz y y1 (by omega) ((hbit y y1 (by omega)).mpr (Or.inr ⟨by rw [e10]; exact y2, k, k1, k2, y3⟩))
  · rintro ⟨g1, g2⟩ z z1 z2 hb
    rcases (hbit z z1 z2).mp hb with ⟨_, y⟩ | ⟨y, k, k1, k2, k3⟩
    · exact g1 y
    · exact g2 k k1 k2 ⟨z, z1, y, k3⟩
theorem ag_none {w u : RW} {t r : Int} (hq : mqP w u t r) (h0 : u 73 2 = 0) : r = 0 := by
  obtain ⟨v, u1, q1, q2, q3, q4⟩ := hq
  rw [q4 73 (by decide)] at h0
  refine (bits_0 q3.1).mpr (fun z z1 z2 hb => ?_)
  rcases (q3.2 z z1 z2).mp hb with ⟨_, i, j, j1, j2, i2, _⟩ | ⟨i, o, i1, i2, _⟩
  · omega
  · omega
