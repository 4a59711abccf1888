/-! THE PURE LAYER: how the class's numbers and the model's lie to one another -/
def rn (q : Int) : Int := q / 12 + 64 * (q / 2 % 6) + 512 * eoQ q
def plc (i : Int) : Int := i / 6 + 64 * (i % 6)
def lgt (p m : Int) : Int := (if m % 2 = 1 then p2 (stt 0 p) else 0) + (if 2 ≤ m then p2 (stt 1 p) else 0)
theorem c6 {p : Int} (h : 0 ≤ p ∧ p < 6) : p = 0 ∨ p = 1 ∨ p = 2 ∨ p = 3 ∨ p = 4 ∨ p = 5 := by omega
theorem stt_ne {p : Int} (h : 0 ≤ p ∧ p < 6) : stt 0 p ≠ stt 1 p := by
  rcases c6 h with rfl | rfl | rfl | rfl | rfl | rfl <;> decide
theorem eoQ_hs {q : Int} (h : 0 ≤ q) : hsE (q / 2 % 6) (eoQ q) := by
  unfold hsE eoQ
  split
  · exact Or.inl rfl
  · exact Or.inr rfl
theorem rn_f {q : Int} (h : 0 ≤ q ∧ q < 576) : rn q % 64 = q / 12 ∧ rn q % 512 / 64 = q / 2 % 6 ∧ rn q % 512 = plc (q / 2) ∧ rn q / 512 = eoQ q ∧ 0 ≤ rn q ∧ rn q < 2048 := by
  have h1 := eoQ_rng h.1
  have h2 : q / 2 / 6 = q / 12 := by omega
  have h3 : 0 ≤ q / 12 ∧ q / 12 < 48 := by omega
  have h4 : 0 ≤ q / 2 % 6 ∧ q / 2 % 6 < 6 := by omega
  unfold rn plc
  rw [h2]
  generalize q / 12 = a at *
  generalize q / 2 % 6 = p at *
  generalize eoQ q = e at *
  refine ⟨by omega, by omega, by omega, by omega, by omega, by omega⟩
theorem rn_ok {q : Int} (h : 0 ≤ q ∧ q < 576) : okR (rn q) := by
  obtain ⟨a, b, c, d, e, f⟩ := rn_f h
  have := eoQ_rng h.1
  unfold okR
  rw [a, b, d]
  exact ⟨e, by omega, by omega, by omega, eoQ_hs h.1⟩
theorem plc_inj {i j : Int} (hi : 0 ≤ i ∧ i < 288) (hj : 0 ≤ j ∧ j < 288) (h : plc i = plc j) : i = j := by
  unfold plc at h
  omega
theorem plc_f {i : Int} (hi : 0 ≤ i ∧ i < 288) : plc i % 64 = i / 6 ∧ plc i / 64 = i % 6 ∧ 0 ≤ plc i ∧ plc i < 384 ∧ i / 6 < 48 := by
  unfold plc
  omega
theorem rn_inj {q r : Int} (hq : 0 ≤ q ∧ q < 576) (hr : 0 ≤ r ∧ r < 576) (h : rn q = rn r) : q = r := by
  obtain ⟨a, b, c, d, e, f⟩ := rn_f hq
  obtain ⟨a2, b2, c2, d2, e2, f2⟩ := rn_f hr
  rw [h] at a b c d
  have h1 : q / 2 = r / 2 := plc_inj (by omega) (by omega) (by omega)
  have h2 : eoQ q = eoQ r := by omega
  have h3 := stt_ne (p := q / 2 % 6) (by omega)
  unfold eoQ at h2
  rw [← h1] at h2
  by_cases e1 : q % 2 = 0
  · by_cases e3 : r % 2 = 0
    · omega
    · rw [if_pos e1, if_neg e3] at h2; exact absurd h2 h3
  · by_cases e3 : r % 2 = 0
    · rw [if_neg e1, if_pos e3] at h2; exact absurd h2.symm h3
    · omega
def unr (x : Int) : Int := 2 * (6 * (x % 64) + x % 512 / 64) + (if x / 512 = stt 0 (x % 512 / 64) then 0 else 1)
theorem unr_f {x : Int} (h : okR x) : (0 ≤ unr x ∧ unr x < 576) ∧ rn (unr x) = x := by
  obtain ⟨h1, h2, h3, h4, h5⟩ := h
  have e1 : unr x / 2 = 6 * (x % 64) + x % 512 / 64 := by unfold unr; split <;> omega
  have e2 : unr x / 12 = x % 64 := by omega
  have e3 : unr x / 2 % 6 = x % 512 / 64 := by omega
  have e4 : eoQ (unr x) = x / 512 := by
    unfold eoQ
    rw [e3]
    unfold hsE at h5
    by_cases e : x / 512 = stt 0 (x % 512 / 64)
    · rw [if_pos (by unfold unr; rw [if_pos e]; omega), e]
    · rw [if_neg (by unfold unr; rw [if_neg e]; omega)]
      rcases h5 with h5 | h5
      · exact absurd h5.symm e
      · exact h5
  refine ⟨by omega, ?_⟩
  unfold rn
  rw [e2, e3, e4]
  omega
theorem rn_bit {i b : Int} (hb : b = 0 ∨ b = 1) : (2 * i + b) / 2 = i ∧ (2 * i + b) % 2 = b := by omega
theorem eoQ_bit {i : Int} {e : Int} (hp : 0 ≤ i) (h : hsE (i % 6) e) : eoQ (2 * i + (if e = stt 0 (i % 6) then 0 else 1)) = e ∧ (2 * i + (if e = stt 0 (i % 6) then 0 else 1)) / 2 = i := by
  unfold eoQ
  by_cases h1 : e = stt 0 (i % 6)
  · rw [if_pos h1, show (2 * i + 0) / 2 = i by omega, if_pos (by omega)]; exact ⟨h1.symm, rfl⟩
  · rw [if_neg h1, show (2 * i + 1) / 2 = i by omega, if_neg (by omega)]
    unfold hsE at h
    exact ⟨by omega, rfl⟩
theorem eoQ_bit2 {i : Int} {e : Int} (hp : 0 ≤ i) (h : hsE (i % 6) e) : eoQ (2 * i + (if e = stt 0 (i % 6) then 1 else 0)) = otE (i % 6) e ∧ (2 * i + (if e = stt 0 (i % 6) then 1 else 0)) / 2 = i := by
  unfold eoQ otE
  by_cases h1 : e = stt 0 (i % 6)
  · rw [if_pos h1, show (2 * i + 1) / 2 = i by omega, if_neg (by omega)]; exact ⟨by omega, rfl⟩
  · rw [if_neg h1, show (2 * i + 0) / 2 = i by omega, if_pos (by omega)]
    unfold hsE at h
    exact ⟨by omega, rfl⟩
theorem lgt_n : ∀ p, p < 6 → ∀ m, m < 4 → ((Nat.testBit (lgt ((p : Nat) : Int) ((m : Nat) : Int)).toNat (stt 0 (p : Int)).toNat = decide (m % 2 = 1)) ∧ (Nat.testBit (lgt ((p : Nat) : Int) ((m : Nat) : Int)).toNat (stt 1 (p : Int)).toNat = decide (2 ≤ m)) ∧ (decide (lgt ((p : Nat) : Int) ((m : Nat) : Int) = 0) = decide (m = 0)) ∧ 0 ≤ lgt ((p : Nat) : Int) ((m : Nat) : Int) ∧ lgt ((p : Nat) : Int) ((m : Nat) : Int) < 16) := by decide +kernel
theorem lgt_f {p m : Int} (hp : 0 ≤ p ∧ p < 6) (hm : 0 ≤ m ∧ m ≤ 3) : (tb (lgt p m) (stt 0 p) ↔ m % 2 = 1) ∧ (tb (lgt p m) (stt 1 p) ↔ 2 ≤ m) ∧ (lgt p m = 0 ↔ m = 0) ∧ 0 ≤ lgt p m ∧ lgt p m < 16 := by
  have h := lgt_n p.toNat (by omega) m.toNat (by omega)
  rw [show ((p.toNat : Nat) : Int) = p by omega, show ((m.toNat : Nat) : Int) = m by omega] at h
  obtain ⟨h1, h2, h3, h4, h5⟩ := h
  refine ⟨?_, ?_, ?_, h4, h5⟩
  · unfold tb; rw [h1, decide_eq_true_iff]; omega
  · unfold tb; rw [h2, decide_eq_true_iff]; omega
  · rw [decide_eq_decide] at h3; rw [h3]; omega
theorem mrk_n : ∀ m, m < 4 → (Nat.testBit m 0 = decide (m % 2 = 1)) ∧ (Nat.testBit m 1 = decide (2 ≤ m)) := by decide +kernel
theorem mrk_f {m b : Int} (hm : 0 ≤ m ∧ m ≤ 3) (hb : b = 0 ∨ b = 1) : tb m b ↔ (b = 0 ∧ m % 2 = 1) ∨ (b = 1 ∧ 2 ≤ m) := by
  have h := mrk_n m.toNat (by omega)
  unfold tb
  rcases hb with rfl | rfl
  · show m.toNat.testBit 0 = true ↔ _
    rw [h.1, decide_eq_true_iff]; omega
  · show m.toNat.testBit 1 = true ↔ _
    rw [h.2, decide_eq_true_iff]; omega
/-- a signal for the edge that a run leads to -/
theorem lit_f {q m : Int} (hq : 0 ≤ q ∧ q < 576) (hm : 0 ≤ m ∧ m ≤ 3) : tb (lgt (q / 2 % 6) m) (eoQ q) ↔ tb m (q % 2) := by
  have h := lgt_f (p := q / 2 % 6) (m := m) (by omega) hm
  rw [mrk_f hm (by omega)]
  unfold eoQ
  by_cases e : q % 2 = 0
  · rw [if_pos e, h.1]; omega
  · rw [if_neg e, h.2.1]; omega
theorem opQ_f {q m : Int} (hm : 0 ≤ m ∧ m ≤ 3) : opQ m q ↔ m = 0 ∨ tb m (q % 2) := by
  rw [mrk_f hm (by omega)]
  unfold opQ
  omega
/-- what a run costs, on either side -/
theorem gco_f {q m : Int} (hq : 0 ≤ q ∧ q < 576) (hm : 0 ≤ m ∧ m ≤ 3) : (opQ m q → gco (lgt (q / 2 % 6) m) (rn q) = mco m q) ∧ (¬ opQ m q → gco (lgt (q / 2 % 6) m) (rn q) = 1048576) := by
  obtain ⟨a, b, c, d, e, f⟩ := rn_f hq
  have h := lgt_f (p := q / 2 % 6) (m := m) (by omega) hm
  have h2 := lit_f hq hm
  rw [opQ_f hm]
  unfold gco mco
  rw [b, d]
  by_cases e0 : m = 0
  · have hn : ¬ tb m (q % 2) := by rw [mrk_f hm (by omega)]; omega
    rw [if_pos (h.2.2.1.mpr e0), cif_f hn]
    exact ⟨fun _ => by split <;> omega, fun z => absurd (Or.inl e0) z⟩
  · rw [if_neg (fun z => e0 (h.2.2.1.mp z))]
    by_cases e1 : tb m (q % 2)
    · rw [cif_t (h2.mpr e1), cif_t e1]
      exact ⟨fun _ => rfl, fun z => absurd (Or.inr e1) z⟩
    · rw [cif_f (fun z => e1 (h2.mp z))]
      exact ⟨fun z => z.elim (fun y => absurd y e0) (fun y => absurd y e1), fun _ => rfl⟩
theorem crs_n : ∀ a, a < 6 → ∀ b, b < 6 → Nat.testBit (stt 2 ((a : Nat) : Int)).toNat b = decide (¬ (a / 2 = b / 2 ∧ ¬ a = b ∧ 1 < a)) := by decide +kernel
/-- which pieces cross -/
theorem crs_f {i j : Int} (hi : 0 ≤ i) (hj : 0 ≤ j) : crs i j ↔ (i / 6 = j / 6 ∧ tb (stt 2 (i % 6)) (j % 6)) := by
  have h := crs_n (i % 6).toNat (by omega) (j % 6).toNat (by omega)
  rw [show (((i % 6).toNat : Nat) : Int) = i % 6 by omega] at h
  unfold tb
  rw [h, decide_eq_true_iff]
  unfold crs
  omega
theorem crs_sym {i j : Int} (h : crs i j) : crs j i := by
  unfold crs at *
  omega
