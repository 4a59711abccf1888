def heX (w : RW) (t k : Int) : Prop := (0 ≤ t ∧ t < w 1 4) ∧ 0 ≤ k ∧ k < w (14 + t.toNat) 1
def rX (w : RW) (t k : Int) : Int := w (20 + t.toNat) k
def cxX (x y : Int) : Prop := x % 64 = y % 64 ∧ tb (stt 2 (x % 512 / 64)) (y % 512 / 64)
/-- what always holds of the class's yard -/
def CI (w : RW) : Prop := cOK w ∧
  (∀ c p, 0 ≤ c → c < 48 → 0 ≤ p → p < 6 → tb (w 3 c) p → isT (w 2 0) (w 2 1) (c % 8) (c / 8)) ∧
  (∀ s, 0 ≤ s → s < w 1 3 → w 4 (w (7 + s.toNat) 0) = 0 ∧ w (7 + s.toNat) 0 < 128) ∧
  (∀ t k, heX w t k → tb (w 3 (rX w t k % 64)) (rX w t k % 512 / 64)) ∧
  (∀ t k t' k', heX w t k → heX w t' k' → cxX (rX w t k) (rX w t' k') → t = t' ∧ k = k') ∧
  ∀ i, 0 ≤ i → i < 384 → i % 64 < 48 → ∀ t, 0 ≤ t → (w 5 i = t ↔ ∃ k, heX w t k ∧ rX w t k % 512 = i)
def RelT (w g : RW) (t : Int) : Prop := (w (14 + t.toNat) 1 = g 86 t ∧ w (14 + t.toNat) 2 = g 87 t ∧ w (14 + t.toNat) 3 = g 88 t ∧ w (14 + t.toNat) 4 = g 89 t ∧ w (14 + t.toNat) 5 = g 90 t ∧ w (14 + t.toNat) 7 = g 93 t ∧ w (14 + t.toNat) 8 = g 94 t ∧ w (14 + t.toNat) 9 = g 91 t) ∧ (∀ k, 0 ≤ k → k < g 86 t → w (20 + t.toNat) k = rn (g 85 (300 * t + k))) ∧ ∀ k, 0 ≤ k → k < g 93 t → w (26 + t.toNat) k = g 92 (6 * t + k)
def RelS (w g : RW) (s : Int) : Prop := w (7 + s.toNat) 0 = plc (g 80 s) ∧ w (7 + s.toNat) 1 = g 81 s ∧ w (7 + s.toNat) 2 = g 82 s
/-- the class's yard and the model are one railway -/
def Rel (w g : RW) : Prop := (w 2 0 = g 77 0 ∧ w 2 1 = g 77 1) ∧ (w 1 3 = g 77 4 ∧ w 1 4 = g 77 10 ∧ w 1 5 = g 77 23 ∧ w 1 6 = g 77 24) ∧
  (∀ i, 0 ≤ i → i < 288 → (tb (w 3 (i / 6)) (i % 6) ↔ ¬ g 78 i = 0) ∧ w 4 (plc i) = lgt (i % 6) (g 79 i)) ∧
  (∀ s, 0 ≤ s → s < g 77 4 → RelS w g s) ∧ ∀ t, 0 ≤ t → t < g 77 10 → RelT w g t
theorem cxX_rn {q r : Int} (hq : 0 ≤ q ∧ q < 576) (hr : 0 ≤ r ∧ r < 576) : cxX (rn q) (rn r) ↔ crs (q / 2) (r / 2) := by
  obtain ⟨a, b, c, d, e, f⟩ := rn_f hq
  obtain ⟨a2, b2, c2, d2, e2, f2⟩ := rn_f hr
  rw [crs_f (by omega) (by omega)]
  unfold cxX
  rw [a, a2, b, b2, show q / 2 / 6 = q / 12 by omega, show r / 2 / 6 = r / 12 by omega]
theorem cxX_self {x : Int} (hx : okR x) : cxX x x := by
  refine ⟨rfl, ?_⟩
  rcases c6 (p := x % 512 / 64) ⟨by omega, hx.2.2.1⟩ with h | h | h | h | h | h <;> rw [h] <;> unfold tb <;> decide
theorem cxX_sym {x y : Int} (hx : okR x) (hy : okR y) (h : cxX x y) : cxX y x := by
  obtain ⟨hx1, hx2⟩ := unr_f hx
  obtain ⟨hy1, hy2⟩ := unr_f hy
  rw [← hx2, ← hy2] at h ⊢
  exact (cxX_rn hy1 hx1).mpr (crs_sym ((cxX_rn hx1 hy1).mp h))
section RL
variable {w g : RW}
theorem rl_tr (hR : Rel w g) (hm : mOK g) {x y p : Int} : hTr w x y p ↔ lpc g x y p := by
  have h1 := hm.1
  obtain ⟨⟨a1, a2⟩, _, b, _⟩ := hR
  unfold hTr lpc
  rw [a1, a2]
  constructor
  · rintro ⟨q1, q2, q3⟩
    have q0 := q1
    unfold isT at q0
    have := (b (6 * (8 * y + x) + p) (by omega) (by omega)).1
    rw [show (6 * (8 * y + x) + p) / 6 = x + 8 * y by omega, show (6 * (8 * y + x) + p) % 6 = p by omega] at this
    exact ⟨q1, by omega, this.mp q3⟩
  · rintro ⟨q1, q2, q3⟩
    have q0 := q1
    unfold isT at q0
    have := (b (6 * (8 * y + x) + p) (by omega) (by omega)).1
    rw [show (6 * (8 * y + x) + p) / 6 = x + 8 * y by omega, show (6 * (8 * y + x) + p) % 6 = p by omega] at this
    exact ⟨q1, by omega, this.mpr q3⟩
theorem rl_nt (hR : Rel w g) : w 1 4 = g 77 10 := hR.2.1.2.1
theorem rl_ns (hR : Rel w g) : w 1 3 = g 77 4 := hR.2.1.1
theorem rl_he (hR : Rel w g) {t k : Int} : heX w t k ↔ (0 ≤ t ∧ t < g 77 10) ∧ 0 ≤ k ∧ k < g 86 t := by
  unfold heX
  rw [rl_nt hR]
  constructor
  · rintro ⟨h1, h2⟩
    have := (hR.2.2.2.2 t h1.1 h1.2).1.1
    exact ⟨h1, by omega⟩
  · rintro ⟨h1, h2⟩
    have := (hR.2.2.2.2 t h1.1 h1.2).1.1
    exact ⟨h1, by omega⟩
theorem rl_rX (hR : Rel w g) {t k : Int} (h : (0 ≤ t ∧ t < g 77 10) ∧ 0 ≤ k ∧ k < g 86 t) : rX w t k = rn (g 85 (300 * t + k)) := (hR.2.2.2.2 t h.1.1 h.1.2).2.1 k h.2.1 h.2.2
theorem rl_row (hm : mOK g) {t k : Int} (h : (0 ≤ t ∧ t < g 77 10) ∧ 0 ≤ k ∧ k < g 86 t) : 0 ≤ g 85 (300 * t + k) ∧ g 85 (300 * t + k) < 576 := by
  have k3 := hm.2.2.1
  have k5 := hm.2.2.2.2.1 t h.1.1 (by omega)
  exact hm.2.2.2.2.2.1 _ (by omega) (by omega)
/-- who holds a piece -/
theorem rl_ho (hR : Rel w g) (hC : CI w) (hm : mOK g) {i t : Int} (hi : 0 ≤ i ∧ i < 288) (ht : 0 ≤ t) : w 5 (plc i) = t ↔ (t < g 77 10 ∧ ∃ k, 0 ≤ k ∧ k < g 86 t ∧ g 85 (300 * t + k) / 2 = i) := by
  have hp := plc_f hi
  rw [hC.2.2.2.2.2 (plc i) hp.2.2.1 hp.2.2.2.1 (by omega) t ht]
  constructor
  · rintro ⟨k, h1, h2⟩
    have h3 := (rl_he hR).mp h1
    have h4 := rl_row hm h3
    rw [rl_rX hR h3, (rn_f h4).2.2.1] at h2
    exact ⟨h3.1.2, k, h3.2.1, h3.2.2, plc_inj (by omega) hi h2⟩
  · rintro ⟨h0, k, k1, k2, k3⟩
    have h3 : (0 ≤ t ∧ t < g 77 10) ∧ 0 ≤ k ∧ k < g 86 t := ⟨⟨ht, h0⟩, k1, k2⟩
    have h4 := rl_row hm h3
    exact ⟨k, (rl_he hR).mpr h3, by rw [rl_rX hR h3, (rn_f h4).2.2.1, k3]⟩
theorem rl_hd (hR : Rel w g) (hC : CI w) (hm : mOK g) {c : Int} (hc : 0 ≤ c ∧ c < 48) : hdT w c ↔ hdM g c (g 77 10) := by
  have k3 := hC.1.2.2.1
  constructor
  · rintro ⟨j, j1, j2, j3⟩
    have hp : plc (6 * c + j) = c + 64 * j := by unfold plc; omega
    have h0 := k3 (c + 64 * j) (by omega) (by omega)
    have h1 := (rl_ho hR hC hm (i := 6 * c + j) (t := w 5 (c + 64 * j)) (by omega) (by omega)).mp (by rw [hp])
    obtain ⟨h2, k, k1, k2, k3⟩ := h1
    exact ⟨w 5 (c + 64 * j), by omega, h2, k, k1, k2, by omega⟩
  · rintro ⟨t, t1, t2, k, k1, k2, k3⟩
    have h3 : (0 ≤ t ∧ t < g 77 10) ∧ 0 ≤ k ∧ k < g 86 t := ⟨⟨t1, t2⟩, k1, k2⟩
    have h4 := rl_row hm h3
    have h5 := (rl_ho hR hC hm (i := g 85 (300 * t + k) / 2) (t := t) (by omega) t1).mpr ⟨t2, k, k1, k2, rfl⟩
    have hp : plc (g 85 (300 * t + k) / 2) = c + 64 * (g 85 (300 * t + k) / 2 % 6) := by unfold plc; omega
    rw [hp] at h5
    exact ⟨g 85 (300 * t + k) / 2 % 6, by omega, by omega, by omega⟩
theorem rl_on (hR : Rel w g) (hm : mOK g) {i : Int} (hi : 0 ≤ i ∧ i < 288) : onS w (plc i) ↔ ∃ s, 0 ≤ s ∧ s < g 77 4 ∧ g 80 s = i := by
  unfold onS
  rw [rl_ns hR]
  constructor
  · rintro ⟨s, s1, s2, s3⟩
    have h := hR.2.2.2.1 s s1 s2
    have k3 := hm.2.2.1
    have k4 := hm.2.2.2.1 s s1 (by omega)
    rw [h.1] at s3
    exact ⟨s, s1, s2, plc_inj (by omega) hi s3⟩
  · rintro ⟨s, s1, s2, s3⟩
    have h := hR.2.2.2.1 s s1 s2
    exact ⟨s, s1, s2, by rw [h.1, s3]⟩
theorem rl_on2 (hR : Rel w g) (hC : CI w) (hm : mOK g) {c : Int} (hc : 0 ≤ c ∧ c < 48) : (onS w c ∨ onS w (c + 64)) ↔ ∃ s, 0 ≤ s ∧ s < g 77 4 ∧ g 80 s / 6 = c := by
  rw [show c = plc (6 * c) by unfold plc; omega, show plc (6 * c) + 64 = plc (6 * c + 1) by unfold plc; omega, rl_on hR hm (by omega), rl_on hR hm (by omega), show plc (6 * c) = c by unfold plc; omega]
  constructor
  · rintro (⟨s, s1, s2, s3⟩ | ⟨s, s1, s2, s3⟩)
    · exact ⟨s, s1, s2, by omega⟩
    · exact ⟨s, s1, s2, by omega⟩
  · rintro ⟨s, s1, s2, s3⟩
    have h := hR.2.2.2.1 s s1 s2
    have h2 := (hC.2.2.1 s s1 (by rw [rl_ns hR]; exact s2)).2
    have k3 := hm.2.2.1
    have k4 := hm.2.2.2.1 s s1 (by omega)
    rw [h.1] at h2
    unfold plc at h2
    rcases (show g 80 s = 6 * c ∨ g 80 s = 6 * c + 1 by omega) with e | e
    · exact Or.inl ⟨s, s1, s2, e⟩
    · exact Or.inr ⟨s, s1, s2, e⟩
theorem rl_cOK (hC : CI w) : cOK w := hC.1
/-- the train's goal -/
theorem rl_gt (hR : Rel w g) {t : Int} (ht : 0 ≤ t ∧ t < g 77 10) (ho : 0 ≤ g 94 t ∧ g 94 t < g 93 t) : gTr w t = gMt g t := by
  have h := hR.2.2.2.2 t ht.1 ht.2
  unfold gTr gMt
  rw [h.1.2.2.2.2.2.2.1]
  exact h.2.2 _ ho.1 ho.2
theorem rl_gk (hR : Rel w g) (hC : CI w) {t : Int} (ht : 0 ≤ t ∧ t < g 77 10) (ho : 0 < g 93 t) : (0 ≤ g 94 t ∧ g 94 t < g 93 t) ∧ (1 ≤ g 87 t ∧ g 87 t ≤ g 86 t) ∧ gTr w t = gMt g t ∧ 0 ≤ gMt g t ∧ gMt g t < g 77 4 := by
  have h := hR.2.2.2.2 t ht.1 ht.2
  have hk := hC.1.2.2.2.2.2 t ht.1 (by rw [rl_nt hR]; exact ht.2)
  obtain ⟨t1, t2, t3, t4, t5⟩ := hk
  obtain ⟨a1, a2, a3, a4, a5, a6, a7, a8⟩ := h.1
  have h1 : 0 ≤ g 94 t ∧ g 94 t < g 93 t := by omega
  have h2 := rl_gt hR ht h1
  have h3 := t5 (w (14 + t.toNat) 8) (by omega) (by omega)
  rw [show w (26 + t.toNat) (w (14 + t.toNat) 8) = gTr w t from rfl, h2, rl_ns hR] at h3
  exact ⟨h1, by omega, h2, h3⟩
theorem rl_due (hR : Rel w g) (hC : CI w) (hm : mOK g) {t : Int} (ht : 0 ≤ t ∧ t < g 77 10) (ho : 0 < g 93 t) : duC w t ↔ dueM g t := by
  have h := hR.2.2.2.2 t ht.1 ht.2
  obtain ⟨h1, h2, h3, h4⟩ := rl_gk hR hC ht ho
  obtain ⟨a1, a2, a3, a4, a5, a6, a7, a8⟩ := h.1
  have hs := hR.2.2.2.1 (gMt g t) h4.1 h4.2
  have k3 := hm.2.2.1
  have k4 := hm.2.2.2.1 (gMt g t) h4.1 (by omega)
  have k5 := hm.2.2.2.2.1 t ht.1 (by omega)
  have hr := rl_row hm (t := t) (k := g 86 t - 1) ⟨ht, by omega, by omega⟩
  have e : w (20 + t.toNat) (w (14 + t.toNat) 1 - 1) = rn (g 85 (300 * t + (g 86 t - 1))) := by rw [a1]; exact h.2.1 _ (by omega) (by omega)
  unfold duC dueM
  rw [h3, hs.1, e, (rn_f hr).2.2.1, a1, a2, a8]
  rw [show g 92 (6 * t + g 94 t) = gMt g t from rfl, show 300 * t + g 86 t - 1 = 300 * t + (g 86 t - 1) by omega]
  constructor
  · rintro ⟨q1, q2⟩
    exact ⟨plc_inj (by omega) (by omega) q1, by omega⟩
  · rintro ⟨q1, q2⟩
    exact ⟨by rw [q1], by omega⟩
end RL
theorem sum6 : ∀ a, a < 64 → ((((((if Nat.testBit a 0 = true then p2 0 else 0) + (if Nat.testBit a 1 = true then p2 1 else 0)) + (if Nat.testBit a 2 = true then p2 2 else 0)) + (if Nat.testBit a 3 = true then p2 3 else 0)) + (if Nat.testBit a 4 = true then p2 4 else 0)) + (if Nat.testBit a 5 = true then p2 5 else 0)) = ((a : Nat) : Int) := by decide +kernel
theorem rl_pc {w g : RW} (hR : Rel w g) (hC : CI w) {c : Int} (hc : 0 ≤ c ∧ c < 48) : pcN g c 6 = w 3 c := by
  have h := hC.1.2.1 c (by omega) (by omega)
  have hs := sum6 (w 3 c).toNat (by omega)
  rw [show (((w 3 c).toNat : Nat) : Int) = w 3 c by omega] at hs
  have hb : ∀ k : Nat, k < 6 → (if g 78 (6 * c + (k : Int)) = 0 then 0 else p2 (k : Int)) = (if Nat.testBit (w 3 c).toNat k = true then p2 (k : Int) else 0) := fun k hk => by
    have := (hR.2.2.1 (6 * c + k) (by omega) (by omega)).1
    rw [show (6 * c + (k : Int)) / 6 = c by omega, show (6 * c + (k : Int)) % 6 = (k : Int) by omega] at this
    unfold tb at this
    rw [show ((k : Nat) : Int).toNat = k from rfl] at this
    by_cases e : Nat.testBit (w 3 c).toNat k = true
    · rw [if_pos e, if_neg (this.mp e)]
    · rw [if_neg e, if_pos (Classical.byContradiction (fun q => e (this.mpr q)))]
  show (((((0 + (if g 78 (6 * c + ((0 : Nat) : Int)) = 0 then 0 else p2 ((0 : Nat) : Int))) + (if g 78 (6 * c + ((1 : Nat) : Int)) = 0 then 0 else p2 ((1 : Nat) : Int))) + (if g 78 (6 * c + ((2 : Nat) : Int)) = 0 then 0 else p2 ((2 : Nat) : Int))) + (if g 78 (6 * c + ((3 : Nat) : Int)) = 0 then 0 else p2 ((3 : Nat) : Int))) + (if g 78 (6 * c + ((4 : Nat) : Int)) = 0 then 0 else p2 ((4 : Nat) : Int))) + (if g 78 (6 * c + ((5 : Nat) : Int)) = 0 then 0 else p2 ((5 : Nat) : Int)) = _
  rw [hb 0 (by decide), hb 1 (by decide), hb 2 (by decide), hb 3 (by decide), hb 4 (by decide), hb 5 (by decide), Int.zero_add]
  exact hs
