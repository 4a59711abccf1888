def exQ (q : Int) : Int := q / 12 + 64 * eoQ q
theorem exQ_f {q : Int} (h : 0 ≤ q ∧ q < 576) : (0 ≤ exQ q ∧ exQ q < 256) ∧ exQ q % 64 = q / 12 ∧ exQ q / 64 = eoQ q ∧ rn q % 64 + 64 * (rn q / 512) = exQ q := by
  obtain ⟨a, b, c, d, e, f⟩ := rn_f h
  have h1 := eoQ_rng h.1
  have h3 : 0 ≤ q / 12 ∧ q / 12 < 48 := by omega
  unfold exQ
  rw [a, d]
  generalize q / 12 = a at *
  generalize eoQ q = e at *
  refine ⟨by omega, by omega, by omega, rfl⟩
theorem nx_ex {w : RW} {x y k : Int} (h1 : x % 64 = y % 64) (h2 : x / 512 = y / 512) : nxT w x = nxT w y ∧ (nxP w x k ↔ nxP w y k) ∧ nxR w x k = nxR w y k := by
  unfold nxR nxP nxT nxE
  rw [h1, h2]
  exact ⟨rfl, Iff.rfl, rfl⟩
theorem nx_exQ {w : RW} {q k : Int} (h : 0 ≤ q ∧ q < 576) : nxT w (exX (exQ q)) = nxT w (rn q) ∧ (nxP w (exX (exQ q)) k ↔ nxP w (rn q) k) ∧ nxR w (exX (exQ q)) k = nxR w (rn q) k := by
  obtain ⟨a, b, c, d, e, f⟩ := rn_f h
  obtain ⟨a2, b2, c2, d2⟩ := exQ_f h
  exact nx_ex (by rw [exX_m.1, b2, a]) (by rw [exX_m.2, c2, d])
section GEO
variable {w g : RW}
theorem rl_lt (hR : Rel w g) {i : Int} (hi : 0 ≤ i ∧ i < 288) : w 4 (plc i) = lgt (i % 6) (g 79 i) := (hR.2.2.1 i hi.1 hi.2).2
theorem rl_val (hR : Rel w g) (hC : CI w) {i : Int} (hi : 0 ≤ i ∧ i < 288) (hl : ¬ g 78 i = 0) : isT (w 2 0) (w 2 1) (i / 6 % 8) (i / 6 / 8) := hC.2.1 (i / 6) (i % 6) (by omega) (by omega) (by omega) (by omega) ((hR.2.2.1 i hi.1 hi.2).1.mpr hl)
theorem geo (hR : Rel w g) (hm : mOK g) {q k : Int} (hq : 0 ≤ q ∧ q < 576) (hk : 0 ≤ k ∧ k < 6) :
    nxT w (rn q) = bhT g q ∧
    (bhd g q k ≠ -1 → nxT w (rn q) ≠ -1 ∧ nxP w (rn q) k ∧ nxR w (rn q) k = rn (bhd g q k) ∧ gco (w 4 (nxR w (rn q) k % 512)) (nxR w (rn q) k) = mco (g 79 (bhd g q k / 2)) (bhd g q k) ∧ (0 ≤ bhd g q k ∧ bhd g q k < 576) ∧ ¬ g 78 (bhd g q k / 2) = 0) ∧
    (bhd g q k = -1 → nxT w (rn q) ≠ -1 → nxP w (rn q) k → gco (w 4 (nxR w (rn q) k % 512)) (nxR w (rn q) k) = 1048576) := by
  obtain ⟨a, b, c, d, e, f⟩ := rn_f hq
  have h1 := hm.1
  have hT : nxT w (rn q) = bhT g q := by
    unfold nxT bhT
    rw [a, d, hR.1.1, hR.1.2]
  have hTr : bhT g q = -1 ∨ (0 ≤ bhT g q ∧ bhT g q < 48) := acr_rng (by omega) (by omega)
  have hE : nxE (rn q) = (eoQ q + 2) % 4 := by unfold nxE; rw [d]
  -- when the tile is there and the piece meets
  have key : 0 ≤ bhT g q → hsE k ((eoQ q + 2) % 4) → nxR w (rn q) k = rn (bhB g q k) ∧ (0 ≤ bhB g q k ∧ bhB g q k < 576) ∧ bhB g q k / 2 = 6 * bhT g q + k := by
    intro t0 hs
    have e6 : (6 * bhT g q + k) % 6 = k := by omega
    have hb := eoQ_bit2 (i := 6 * bhT g q + k) (e := (eoQ q + 2) % 4) (by omega) (by rw [e6]; exact hs)
    rw [e6] at hb
    have hB : bhB g q k = 2 * (6 * bhT g q + k) + (if (eoQ q + 2) % 4 = stt 0 k then 1 else 0) := rfl
    rw [← hB] at hb
    have hr : 0 ≤ bhB g q k ∧ bhB g q k < 576 := by omega
    refine ⟨?_, hr, hb.2⟩
    show nxT w (rn q) + 64 * k + 512 * otE k (nxE (rn q)) = bhB g q k / 12 + 64 * (bhB g q k / 2 % 6) + 512 * eoQ (bhB g q k)
    rw [hT, hE, hb.1, hb.2, e6, show bhB g q k / 12 = bhT g q by omega]
  have hgco : 0 ≤ bhT g q → hsE k ((eoQ q + 2) % 4) → (opQ (g 79 (bhB g q k / 2)) (bhB g q k) → gco (w 4 (nxR w (rn q) k % 512)) (nxR w (rn q) k) = mco (g 79 (bhB g q k / 2)) (bhB g q k)) ∧ (¬ opQ (g 79 (bhB g q k / 2)) (bhB g q k) → gco (w 4 (nxR w (rn q) k % 512)) (nxR w (rn q) k) = 1048576) := by
    intro t0 hs
    obtain ⟨k1, k2, k3⟩ := key t0 hs
    have hmk := (hm.2.1 (bhB g q k / 2) (by omega) (by omega)).2
    rw [k1, (rn_f k2).2.2.1, rl_lt hR (by omega)]
    exact gco_f k2 hmk
  have hP : 0 ≤ bhT g q → (nxP w (rn q) k ↔ ¬ g 78 (6 * bhT g q + k) = 0 ∧ hsE k ((eoQ q + 2) % 4)) := by
    intro t0
    have := (hR.2.2.1 (6 * bhT g q + k) (by omega) (by omega)).1
    rw [show (6 * bhT g q + k) / 6 = bhT g q by omega, show (6 * bhT g q + k) % 6 = k by omega] at this
    unfold nxP
    rw [hT, hE, this]
  refine ⟨hT, fun hb => ?_, fun hb hn hp => ?_⟩
  · unfold bhd at hb ⊢
    by_cases hc : 0 ≤ bhT g q ∧ ¬ g 78 (6 * bhT g q + k) = 0 ∧ hsE k ((eoQ q + 2) % 4) ∧ opQ (g 79 (bhB g q k / 2)) (bhB g q k)
    · rw [cif_t hc]
      obtain ⟨k1, k2, k3⟩ := key hc.1 hc.2.2.1
      exact ⟨by rw [hT]; omega, (hP hc.1).mpr ⟨hc.2.1, hc.2.2.1⟩, k1, (hgco hc.1 hc.2.2.1).1 hc.2.2.2, k2, by rw [k3]; exact hc.2.1⟩
    · rw [cif_f hc] at hb
      exact absurd rfl hb
  · have t0 : 0 ≤ bhT g q := by rw [hT] at hn; omega
    have hp2 := (hP t0).mp hp
    refine (hgco t0 hp2.2).2 (fun ho => ?_)
    unfold bhd at hb
    rw [cif_t ⟨t0, hp2.1, hp2.2, ho⟩] at hb
    have := (key t0 hp2.2).2.1
    omega
theorem edv (hR : Rel w g) (hC : CI w) (hm : mOK g) {q k : Int} (hq : 0 ≤ q ∧ q < 576) (hl : ¬ g 78 (q / 2) = 0) (hk : 0 ≤ k ∧ k < 6) : edV w (exQ q) k ↔ bhd g q k ≠ -1 := by
  obtain ⟨g1, g2, g3⟩ := geo hR hm hq hk
  obtain ⟨a2, b2, c2, d2⟩ := exQ_f hq
  obtain ⟨n1, n2, n3⟩ := nx_exQ (w := w) (k := k) hq
  unfold edV
  rw [n1, n2, n3]
  constructor
  · rintro ⟨_, _, _, h4, h5, h6⟩ hb
    have := g3 hb h4 h5
    omega
  · intro hb
    obtain ⟨p1, p2, p3, p4, p5, p6⟩ := g2 hb
    refine ⟨hk, a2, ?_, p1, p2, ?_⟩
    · rw [b2]
      have := rl_val hR hC (i := q / 2) (by omega) hl
      rw [show q / 2 / 6 = q / 12 by omega] at this
      exact this
    · rw [p4]
      have := mco_rng (m := g 79 (bhd g q k / 2)) (q := bhd g q k)
      omega
/-- an edge of either graph is one of the other -/
theorem edg (hR : Rel w g) (hC : CI w) (hm : mOK g) {s : Int} (hs : 0 ≤ s ∧ s < g 77 4) {q k : Int} (hq : 0 ≤ q ∧ q < 576) (hl : ¬ g 78 (q / 2) = 0) (hn : ¬ q / 2 = g 80 s) (hk : 0 ≤ k ∧ k < 6) (hb : bhd g q k ≠ -1) :
    edM g s q k = some (if bhd g q k / 2 = g 80 s then none else some (bhd g q k), mco (g 79 (bhd g q k / 2)) (bhd g q k)) ∧
    edC w (plc (g 80 s)) (exQ q) k = some (if bhd g q k / 2 = g 80 s then none else some (exQ (bhd g q k)), mco (g 79 (bhd g q k / 2)) (bhd g q k)) := by
  obtain ⟨g1, g2, g3⟩ := geo hR hm hq hk
  obtain ⟨p1, p2, p3, p4, p5, p6⟩ := g2 hb
  obtain ⟨n1, n2, n3⟩ := nx_exQ (w := w) (k := k) hq
  have k3 := hm.2.2.1
  have k4 := hm.2.2.2.1 s hs.1 (by omega)
  constructor
  · unfold edM
    rw [if_neg (by omega)]
  · rw [edC_t ((edv hR hC hm hq hl hk).mpr hb), n3, p4, p3, (rn_f p5).2.2.1, (exQ_f p5).2.2.2]
    by_cases e : bhd g q k / 2 = g 80 s
    · rw [if_pos e, if_pos (by rw [e])]
    · rw [if_neg e, if_neg (fun z => e (plc_inj (by omega) (by omega) z))]
noncomputable def fcQ (w g : RW) (s : Int) : Int → Int := fun q => if g 78 (q / 2) = 0 ∨ q / 2 = g 80 s then 1048576 else w (65 + s.toNat) (exQ q)
theorem fcQ_n {q s : Int} (h : ¬ (g 78 (q / 2) = 0 ∨ q / 2 = g 80 s)) : fcQ w g s q = w (65 + s.toNat) (exQ q) := if_neg h
theorem fcQ_fix (hR : Rel w g) (hC : CI w) (hm : mOK g) {s : Int} (hs : 0 ≤ s ∧ s < g 77 4) (hL : lsOK w s (plc (g 80 s))) : gJu 1048576 576 (edM g s) (fcQ w g s) ∧ gRl 1048576 576 (edM g s) (fcQ w g s) ∧ gPos 576 (fcQ w g s) := by
  obtain ⟨l1, l2, l3⟩ := hL
  refine ⟨fun q q1 q2 q3 => ?_, fun q k t c q1 q2 k1 k2 he => ?_, fun q q1 q2 => ?_⟩
  · by_cases e : g 78 (q / 2) = 0 ∨ q / 2 = g 80 s
    · unfold fcQ at q3; rw [if_pos e] at q3; omega
    · rw [fcQ_n e] at q3 ⊢
      have ex := exQ_f ⟨q1, q2⟩
      obtain ⟨k, t, c, hk, he, hh⟩ := l2 (exQ q) ex.1.1 ex.1.2 q3
      have hb := (edv hR hC hm ⟨q1, q2⟩ (fun z => e (Or.inl z)) hk).mp (edC_v he)
      obtain ⟨e1, e2⟩ := edg hR hC hm hs ⟨q1, q2⟩ (fun z => e (Or.inl z)) (fun z => e (Or.inr z)) hk hb
      have hbr := (geo hR hm ⟨q1, q2⟩ hk).2.1 hb
      rw [e2] at he
      simp only [Option.some.injEq, Prod.mk.injEq] at he
      refine ⟨k, _, _, hk, e1, ?_⟩
      rw [← he.2] at hh
      by_cases eb : bhd g q k / 2 = g 80 s
      · rw [if_pos eb]
        rw [if_pos eb] at he
        rcases hh with hh | ⟨b, b1, _⟩
        · exact Or.inl ⟨rfl, hh.2⟩
        · rw [← he.1] at b1; cases b1
      · rw [if_neg eb]
        rw [if_neg eb] at he
        rcases hh with hh | ⟨b, b1, b2, b3⟩
        · rw [← he.1] at hh; cases hh.1
        · rw [← he.1] at b1
          cases b1
          have hf : fcQ w g s (bhd g q k) = w (65 + s.toNat) (exQ (bhd g q k)) := fcQ_n (fun z => z.elim hbr.2.2.2.2.2 eb)
          exact Or.inr ⟨_, rfl, by rw [hf]; exact b2, by rw [hf]; exact b3⟩
  · have hc : ¬ (k < 0 ∨ 6 ≤ k ∨ g 78 (q / 2) = 0 ∨ q / 2 = g 80 s ∨ bhd g q k = -1) := fun z => by unfold edM at he; rw [if_pos z] at he; cases he
    have h1 : ¬ g 78 (q / 2) = 0 := fun z => hc (by omega)
    have h2 : ¬ q / 2 = g 80 s := fun z => hc (by omega)
    have hb : bhd g q k ≠ -1 := fun z => hc (by omega)
    obtain ⟨e1, e2⟩ := edg hR hC hm hs ⟨q1, q2⟩ h1 h2 ⟨k1, k2⟩ hb
    have hbr := (geo hR hm ⟨q1, q2⟩ ⟨k1, k2⟩).2.1 hb
    have ex := exQ_f ⟨q1, q2⟩
    have hl := l3 (exQ q) k _ _ ex.1.1 ex.1.2 k1 k2 e2
    rw [e1] at he
    simp only [Option.some.injEq, Prod.mk.injEq] at he
    rw [fcQ_n (fun z => z.elim h1 h2), ← he.2]
    by_cases eb : bhd g q k / 2 = g 80 s
    · rw [if_pos eb] at hl he
      exact ⟨fun _ => hl.1 rfl, fun b hb2 => by rw [← he.1] at hb2; cases hb2⟩
    · rw [if_neg eb] at hl he
      refine ⟨fun z => (by rw [← he.1] at z; cases z), fun b hb2 => ?_⟩
      rw [← he.1] at hb2
      cases hb2
      have hf : fcQ w g s (bhd g q k) = w (65 + s.toNat) (exQ (bhd g q k)) := fcQ_n (fun z => z.elim hbr.2.2.2.2.2 eb)
      rw [hf]
      exact hl.2 _ rfl
  · unfold fcQ
    split
    · omega
    · exact (l1 _ (exQ_f ⟨q1, q2⟩).1.1 (exQ_f ⟨q1, q2⟩).1.2).1
/-- what is to go from a run is the same on either side -/
theorem rest_sim (hR : Rel w g) (hC : CI w) (hm : mOK g) {s : Int} (hs : 0 ≤ s ∧ s < g 77 4) (hL : lsOK w s (plc (g 80 s))) (hF : frOK g s) {q : Int} (hq : 0 ≤ q ∧ q < 576) (hl : ¬ g 78 (q / 2) = 0) :
    (rsT w s (plc (g 80 s)) (rn q) < 1048576 ↔ g 84 (576 * s + q) < 1000000000) ∧ (rsT w s (plc (g 80 s)) (rn q) < 1048576 → rsT w s (plc (g 80 s)) (rn q) = g 84 (576 * s + q) ∧ rsT w s (plc (g 80 s)) (rn q) ≤ 8655) ∧ 0 ≤ rsT w s (plc (g 80 s)) (rn q) := by
  have k3 := hm.2.2.1
  have k4 := hm.2.2.2.1 s hs.1 (by omega)
  obtain ⟨f1, f2, f3, f4⟩ := hF
  have hrs : rsT w s (plc (g 80 s)) (rn q) = if q / 2 = g 80 s then 0 else w (65 + s.toNat) (exQ q) := by
    unfold rsT
    rw [(rn_f hq).2.2.1, (exQ_f hq).2.2.2]
    by_cases e : q / 2 = g 80 s
    · rw [if_pos e, if_pos (by rw [e])]
    · rw [if_neg e, if_neg (fun z => e (plc_inj (by omega) (by omega) z))]
  rw [hrs]
  by_cases e : q / 2 = g 80 s
  · rw [if_pos e, f2 q hq.1 hq.2 e]
    omega
  · rw [if_neg e]
    obtain ⟨a1, a2, a3⟩ := fcQ_fix hR hC hm hs hL
    have hE := edM_ok hm s
    have hp : gPos ((576 : Nat) : Int) (fh g s) := fun x x1 x2 => by
      have := f1 x x1 x2
      unfold fh
      split <;> omega
    have hsame := g_same (n := 576) hE a1 a2 a3 f3 f4 hp (by omega) (by omega) hq.1 hq.2
    have hsm := g_small (n := 576) hE a1 a2 a3 ((fcQ w g s q).toNat + 1) q hq.1 hq.2 (by omega)
    have hrk := gRk_le 576 (fcQ w g s) (fcQ w g s q)
    have h0 := a3 q hq.1 hq.2
    have hfc : fcQ w g s q = w (65 + s.toNat) (exQ q) := fcQ_n (fun z => z.elim hl e)
    have hfh : fh g s q = g 84 (576 * s + q) := by unfold fh; rw [if_neg e]
    rw [hfc, hfh] at hsame
    rw [hfc] at hsm hrk h0
    refine ⟨hsame.1, fun z => ⟨hsame.2 z, ?_⟩, h0⟩
    have := hsm z
    omega
/-- the next run is the same on either side -/
theorem next_sim (hR : Rel w g) (hC : CI w) (hm : mOK g) {s : Int} (hs : 0 ≤ s ∧ s < g 77 4) (hL : lsOK w s (plc (g 80 s))) (hF : frOK g s) {q b b' : Int} (hq : 0 ≤ q ∧ q < 576) (h1 : nxQ w s (plc (g 80 s)) (rn q) b) (h2 : nxM g s q b') :
    (b = -1 ∧ b' = -1) ∨ ((0 ≤ b' ∧ b' < 576) ∧ b = rn b' ∧ ¬ g 78 (b' / 2) = 0 ∧ rsT w s (plc (g 80 s)) (rn b') < 1048576) := by
  -- what a way on is worth
  have S : ∀ k : Int, 0 ≤ k → k < 6 → nxT w (rn q) ≠ -1 → nxP w (rn q) k → (nxS w s (plc (g 80 s)) (rn q) k < 1048576 ↔ onV g s q k) := fun k k1 k2 kT kP => by
    obtain ⟨_, g2, g3⟩ := geo hR hm hq (k := k) ⟨k1, k2⟩
    unfold nxS onV
    by_cases hb : bhd g q k = -1
    · have hc := g3 hb kT kP
      rw [hc]
      have hx := nxR_ok (w := w) (x := rn q) (p := k) (rn_f hq).2.2.2.2.1 (by have := nxT_rng (w := w) (x := rn q) (by have := hC.1.1; omega); omega) ⟨k1, k2⟩ kP.2
      have h0 : 0 ≤ rsT w s (plc (g 80 s)) (nxR w (rn q) k) := by
        unfold rsT
        split
        · omega
        · exact (hL.1 _ (by have := hx.1; unfold okR at this; omega) (by have := hx.1; unfold okR at this; omega)).1
      omega
    · obtain ⟨p1, p2, p3, p4, p5, p6⟩ := g2 hb
      have hr := rest_sim hR hC hm hs hL hF p5 p6
      have hmc := mco_rng (m := g 79 (bhd g q k / 2)) (q := bhd g q k)
      rw [p4, p3]
      constructor
      · intro z
        exact ⟨p5.1, hr.1.mp (by omega)⟩
      · rintro ⟨z1, z2⟩
        have := hr.2.1 (hr.1.mpr z2)
        omega
  have E : ∀ k : Int, 0 ≤ k → k < 6 → onV g s q k → nxT w (rn q) ≠ -1 ∧ nxP w (rn q) k ∧ nxS w s (plc (g 80 s)) (rn q) k = onS6 g s q k ∧ onS6 g s q k < 1048576 := fun k k1 k2 hv => by
    obtain ⟨_, g2, g3⟩ := geo hR hm hq (k := k) ⟨k1, k2⟩
    have hb : bhd g q k ≠ -1 := by have := hv.1; omega
    obtain ⟨p1, p2, p3, p4, p5, p6⟩ := g2 hb
    have hr := rest_sim hR hC hm hs hL hF p5 p6
    have hmc := mco_rng (m := g 79 (bhd g q k / 2)) (q := bhd g q k)
    have h3 := hr.2.1 (hr.1.mpr hv.2)
    unfold nxS onS6
    rw [p4, p3, ← h3.1]
    exact ⟨p1, p2, by omega, by omega⟩
  obtain ⟨r, ⟨r1, r2, r3⟩, hm2⟩ := h2
  have none_of : (∀ k : Int, 0 ≤ k → k < 6 → ¬ onV g s q k) → b' = -1 := fun hn => by
    rcases hm2 with ⟨_, h⟩ | ⟨hr, k, k1, k2, k3, _⟩
    · exact h
    · exact absurd k3 (hn k k1 k2)
  rcases h1 with ⟨hT, hb⟩ | ⟨hT, z, ⟨hb, hz, hall⟩ | ⟨p, p1, p2, p3, p4, p5, p6, p7, p8⟩⟩
  · exact Or.inl ⟨hb, none_of (fun k k1 k2 hv => (E k k1 k2 hv).1 hT)⟩
  · refine Or.inl ⟨hb, none_of (fun k k1 k2 hv => ?_)⟩
    obtain ⟨e1, e2, e3, e4⟩ := E k k1 k2 hv
    have := hall k k1 k2 e2
    omega
  · right
    have hv := (S p p1 p2 hT p3).mp (by omega)
    obtain ⟨e1, e2, e3, e4⟩ := E p p1 p2 hv
    have hrz := r2 p p1 p2 hv
    obtain ⟨k, k1, k2, k3, k4⟩ := r3 (by omega)
    obtain ⟨c1, c2, c3, c4⟩ := E k k1 k2 k3
    have hzk := p7 k k1 k2 c2
    have hr : r = z := by omega
    rcases hm2 with ⟨h, _⟩ | ⟨_, j, j1, j2, j3, j4, j5, j6⟩
    · omega
    · obtain ⟨d1, d2, d3, d4⟩ := E j j1 j2 j3
      have hjp : j = p := by
        by_cases c1 : j < p
        · have := p8 j j1 c1 d2; omega
        · by_cases c2 : p < j
          · exact absurd (by omega) (j6 p p1 c2 hv)
          · omega
      subst hjp
      obtain ⟨_, g2, _⟩ := geo hR hm hq (k := j) ⟨j1, j2⟩
      obtain ⟨q1, q2, q3, q4, q5, q6⟩ := g2 (by have := hv.1; omega)
      rw [j5]
      refine ⟨q5, by rw [p4, q3], q6, ?_⟩
      have hr2 := rest_sim hR hC hm hs hL hF q5 q6
      exact hr2.1.mpr hv.2
end GEO
