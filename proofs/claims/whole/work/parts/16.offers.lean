/-! learn: the offers against the graph -/
theorem QI_c {w u : RW} (h1 : u 63 = w 63) (h2 : u 71 = w 71) (h3 : u 72 = w 72) (h : QI w) : QI u ∧ qL u = qL w := by
  have e : qL u = qL w := qL_c (by rw [h1]) (by rw [h1]) h2
  refine ⟨?_, e⟩
  unfold QI
  rw [e, h1, h3]
  exact h
/-- one offer -/
theorem of_step {w u : RW} {s x z : Int} (hs : 0 ≤ s ∧ s < 6) (hb : w 2 0 ≤ 8 ∧ w 2 1 ≤ 6) (hQ : QI w) (hx : okR x) (hv : isT (w 2 0) (w 2 1) (x % 64 % 8) (x % 64 / 8)) (hl : tb (w 3 (x % 64)) (x % 512 / 64)) (hz : 0 ≤ z) (hF : ∀ e, 0 ≤ e → e < 256 → w (65 + s.toNat) e ≤ 1048576) (h : ofR w s x z u) :
    (w = u ∧ (fbT w x = -1 ∨ w (65 + s.toNat) (ofX w x) ≤ gco (w 4 (x % 512)) x + z)) ∨
    (¬ fbT w x = -1 ∧ (0 ≤ ofX w x ∧ ofX w x < 256) ∧ gco (w 4 (x % 512)) x + z < w (65 + s.toNat) (ofX w x) ∧ edV w (ofX w x) (x % 512 / 64) ∧ (∀ j, j ≠ 63 → j ≠ 71 → j ≠ 72 → j ≠ 65 + s.toNat → u j = w j) ∧ (∀ f, f ≠ 5 → u 63 f = w 63 f) ∧ QI u ∧ (u (65 + s.toNat) = fun y => if y = ofX w x then gco (w 4 (x % 512)) x + z else w (65 + s.toNat) y) ∧ ((ofX w x ∈ qL w ∧ qL u = qL w) ∨ (ofX w x ∉ qL w ∧ qL u = qL w ++ [ofX w x]))) := by
  rcases h with ⟨h1, h2⟩ | ⟨h1, h2, h3⟩
  · refine Or.inl ⟨h2, ?_⟩
    rcases h1 with h1 | h1
    · exact Or.inl h1
    · refine Or.inr ?_
      unfold ofS at h1
      omega
  · obtain ⟨e1, e2, e3⟩ := of_edge hb hx hv hl h1
    have hS : ofS w x z = gco (w 4 (x % 512)) x + z := rfl
    rw [hS] at h2 h3
    have hF1 := hF _ e1.1 e1.2
    have hne : (65 + s.toNat) ≠ 63 ∧ (65 + s.toNat) ≠ 71 ∧ (65 + s.toNat) ≠ 72 := by omega
    obtain ⟨q1, q2⟩ := QI_c (u := upw w (65 + s.toNat) (ofX w x) (gco (w 4 (x % 512)) x + z)) (upw_f (Ne.symm hne.1)) (upw_f (Ne.symm hne.2.1)) (upw_f (Ne.symm hne.2.2)) hQ
    obtain ⟨p1, p2, p3, p4⟩ := put_ok q1 e1 h3
    rw [q2] at p4
    refine Or.inr ⟨h1, e1, h2, e3 (by omega), fun j j1 j2 j3 j4 => ?_, fun f hf => ?_, p1, ?_, p4⟩
    · rw [p2 j j1 j2 j3, upw_f j4]
    · rw [p3 f hf, upw_k (Ne.symm hne.1)]
    · rw [p2 _ hne.1 hne.2.1 hne.2.2]
      funext y
      by_cases hy : y = ofX w x
      · rw [if_pos hy, hy, upw_s]
      · rw [if_neg hy, upw_i hy]
def lnF (w u : RW) (s : Int) : Prop := (∀ j, j ≠ 63 → j ≠ 71 → j ≠ 72 → j ≠ 65 + s.toNat → u j = w j) ∧ u 63 1 = ior (w 63 1) (p2 s)
theorem lnF_ed {w u : RW} {s : Int} (hs : 0 ≤ s ∧ s < 6) (h : lnF w u s) : u 2 = w 2 ∧ u 3 = w 3 ∧ u 4 = w 4 := ⟨h.1 2 (by decide) (by decide) (by decide) (by omega), h.1 3 (by decide) (by decide) (by decide) (by omega), h.1 4 (by decide) (by decide) (by decide) (by omega)⟩
theorem ofX_c {w u : RW} (h2 : u 2 = w 2) (x : Int) : ofX u x = ofX w x ∧ fbT u x = fbT w x := by
  unfold ofX fbT
  rw [h2]
  exact ⟨rfl, rfl⟩
theorem edV_c {w u : RW} (h2 : u 2 = w 2) (h3 : u 3 = w 3) (h4 : u 4 = w 4) (e k : Int) : edV u e k ↔ edV w e k := by
  unfold edV nxP nxR nxT
  rw [h2, h3, h4]
def lnI (w u0 u : RW) (s g e0 i : Int) : Prop := lnF w u s ∧ QI u ∧ (∀ q, 0 ≤ q → q < 256 → u (65 + s.toNat) q ≤ u0 (65 + s.toNat) q) ∧ gJu 1048576 256 (edC w g) (u (65 + s.toNat)) ∧ gPos 256 (u (65 + s.toNat)) ∧ u (65 + s.toNat) e0 = u0 (65 + s.toNat) e0 ∧
  (∃ new, qL u = qL u0 ++ new ∧ ∀ x ∈ new, (0 ≤ x ∧ x < 256) ∧ u (65 + s.toNat) x < u0 (65 + s.toNat) x) ∧ (∀ q, 0 ≤ q → q < 256 → u (65 + s.toNat) q < u0 (65 + s.toNat) q → q ∈ qL u) ∧
  ∀ q k c, 0 ≤ q → q < 256 → 0 ≤ k → k < i → edC w g q k = some (some e0, c) → u (65 + s.toNat) q ≤ c + u0 (65 + s.toNat) e0
/-- the run into e0 over piece k -/
theorem edC_in {w : RW} {g q k c e0 : Int} (hb : w 2 0 ≤ 8 ∧ w 2 1 ≤ 6) (h : edC w g q k = some (some e0, c)) : edV w q k ∧ nxR w (exX q) k = e0 % 64 + 64 * k + 512 * (e0 / 64) ∧ ¬ nxR w (exX q) k % 512 = g ∧ c = gco (w 4 (nxR w (exX q) k % 512)) (nxR w (exX q) k) := by
  have hv := edC_v h
  rw [edC_t hv] at h
  simp only [Option.some.injEq, Prod.mk.injEq] at h
  obtain ⟨⟨y1, y2, y3, y4, y5⟩, -, -, y6, -, -⟩ := edge_of hb hv
  by_cases hg : nxR w (exX q) k % 512 = g
  · rw [if_pos hg] at h; cases h.1
  · rw [if_neg hg] at h
    have h1 := Option.some.inj h.1
    exact ⟨hv, by omega, hg, h.2.symm⟩
theorem lnI_skip {w u0 u : RW} {s g e0 i : Int} (hb : w 2 0 ≤ 8 ∧ w 2 1 ≤ 6) (he : 0 ≤ e0 ∧ e0 < 256) (hi : 0 ≤ i ∧ i < 6) (h : lnI w u0 u s g e0 i) (hno : ¬ (tb (w 3 (e0 % 64)) i ∧ hsE i (e0 / 64))) : lnI w u0 u s g e0 (i + 1) := by
  obtain ⟨h1, h2, h3, h4, h5, h6, h7, h8, h9⟩ := h
  refine ⟨h1, h2, h3, h4, h5, h6, h7, h8, fun q k c q1 q2 k1 k2 hed => ?_⟩
  by_cases hk : k = i
  · subst hk
    exfalso
    obtain ⟨hv, hr, -, -⟩ := edC_in hb hed
    obtain ⟨⟨y1, y2, y3, y4, y5⟩, -, y6, y7, -, -⟩ := edge_of hb hv
    rw [hr] at y5 y6
    rw [show (e0 % 64 + 64 * k + 512 * (e0 / 64)) % 64 = e0 % 64 by omega] at y6
    rw [show (e0 % 64 + 64 * k + 512 * (e0 / 64)) % 512 / 64 = k by omega, show (e0 % 64 + 64 * k + 512 * (e0 / 64)) / 512 = e0 / 64 by omega] at y5
    exact hno ⟨y6, y5⟩
  · exact h9 q k c q1 q2 k1 (by omega) hed
theorem lnI_step {w u0 u u' : RW} {s g e0 i : Int} (hs : 0 ≤ s ∧ s < 6) (hb : w 2 0 ≤ 8 ∧ w 2 1 ≤ 6) (he : 0 ≤ e0 ∧ e0 < 256) (hi : 0 ≤ i ∧ i < 6) (hval : isT (w 2 0) (w 2 1) (e0 % 64 % 8) (e0 % 64 / 8)) (hF0 : ∀ e, 0 ≤ e → e < 256 → u0 (65 + s.toNat) e ≤ 1048576) (he0 : u0 (65 + s.toNat) e0 < 1048576) (hg0 : ∀ q k c, 0 ≤ q → q < 256 → 0 ≤ k → k < 6 → edC w g q k = some (none, c) → u0 (65 + s.toNat) q ≤ c)
    (h : lnI w u0 u s g e0 i) (hy : tb (w 3 (e0 % 64)) i ∧ hsE i (e0 / 64)) (ho : ofR u s (e0 % 64 + 64 * i + 512 * (e0 / 64)) (u (65 + s.toNat) e0) u') : lnI w u0 u' s g e0 (i + 1) := by
  obtain ⟨h1, h2, h3, h4, h5, h6, h7, h8, h9⟩ := h
  obtain ⟨c2, c3, c4⟩ := lnF_ed hs h1
  have ht48 := isT_val hb.1 hb.2 hval (by omega)
  have m1 : (e0 % 64 + 64 * i + 512 * (e0 / 64)) % 64 = e0 % 64 := by omega
  have m2 : (e0 % 64 + 64 * i + 512 * (e0 / 64)) % 512 / 64 = i := by omega
  have m3 : (e0 % 64 + 64 * i + 512 * (e0 / 64)) / 512 = e0 / 64 := by omega
  have hok : okR (e0 % 64 + 64 * i + 512 * (e0 / 64)) := ⟨by omega, by omega, by omega, by omega, by rw [m2, m3]; exact hy.2⟩
  have hz0 : 0 ≤ u (65 + s.toNat) e0 := h5 e0 he.1 he.2
  obtain ⟨oX, oT⟩ := ofX_c c2 (e0 % 64 + 64 * i + 512 * (e0 / 64))
  have hstep := of_step hs (by rw [c2]; exact hb) h2 hok (by rw [c2, m1]; exact hval) (by rw [c3, m1, m2]; exact hy.1) hz0 (fun e a b => by have := h3 e a b; have := hF0 e a b; omega) ho
  rw [oX, oT, c4, m2] at hstep
  have hrelN : ∀ q c, 0 ≤ q → q < 256 → edC w g q i = some (some e0, c) → ¬ fbT w (e0 % 64 + 64 * i + 512 * (e0 / 64)) = -1 ∧ ofX w (e0 % 64 + 64 * i + 512 * (e0 / 64)) = q ∧ c = gco (w 4 ((e0 % 64 + 64 * i + 512 * (e0 / 64)) % 512)) (e0 % 64 + 64 * i + 512 * (e0 / 64)) := by
    intro q c q1 q2 hed
    obtain ⟨hv, hr, -, hc⟩ := edC_in hb hed
    obtain ⟨-, -, -, -, y8, y9⟩ := edge_of hb hv
    rw [hr] at y8 y9 hc
    exact ⟨y9, y8, hc⟩
  rcases hstep with ⟨hu, hc⟩ | ⟨g1, g2, g3, g4, g5, g6, g7, g8, g9⟩
  · subst hu
    refine ⟨h1, h2, h3, h4, h5, h6, h7, h8, fun q k c q1 q2 k1 k2 hed => ?_⟩
    by_cases hk : k = i
    · subst hk
      obtain ⟨r1, r2, r3⟩ := hrelN q c q1 q2 hed
      rcases hc with hc | hc
      · exact absurd hc r1
      · rw [r2] at hc
        rw [r3, ← h6]
        omega
    · exact h9 q k c q1 q2 k1 (by omega) hed
  · have hv : edV w (ofX w (e0 % 64 + 64 * i + 512 * (e0 / 64))) i := (edV_c c2 c3 c4 _ _).mp g4
    have hed := edC_t (g := g) hv
    obtain ⟨-, hRr, -⟩ := of_edge (w := w) hb hok (by rw [m1]; exact hval) (by rw [m1, m2]; exact hy.1) g1
    rw [m2] at hRr
    rw [hRr] at hed
    have hgpos := (gco_rng (lit := w 4 ((e0 % 64 + 64 * i + 512 * (e0 / 64)) % 512)) (x := e0 % 64 + 64 * i + 512 * (e0 / 64))).1
    have hng : ¬ (e0 % 64 + 64 * i + 512 * (e0 / 64)) % 512 = g := by
      intro hg
      rw [if_pos hg] at hed
      have a1 := hg0 _ i _ g2.1 g2.2 hi.1 hi.2 hed
      have a2 := h3 _ g2.1 g2.2
      omega
    rw [if_neg hng, m1, m3, show e0 % 64 + 64 * (e0 / 64) = e0 by omega] at hed
    have hne : ¬ e0 = ofX w (e0 % 64 + 64 * i + 512 * (e0 / 64)) := by
      intro e
      rw [← e] at g3
      omega
    have hle' : ∀ q, u' (65 + s.toNat) q ≤ u (65 + s.toNat) q := by
      intro q
      rw [g8]
      by_cases hq : q = ofX w (e0 % 64 + 64 * i + 512 * (e0 / 64))
      · simp only [hq, if_true]; omega
      · simp only [hq, if_false]; omega
    refine ⟨⟨fun j j1 j2 j3 j4 => by rw [g5 j j1 j2 j3 j4]; exact h1.1 j j1 j2 j3 j4, by rw [g6 1 (by decide)]; exact h1.2⟩, g7, fun q q1 q2 => by have := hle' q; have := h3 q q1 q2; omega, ?_, ?_, ?_, ?_, ?_, ?_⟩
    · rw [g8]
      refine gJu_upd h4 (by omega) (fun _ _ => ⟨i, some e0, _, hi, hed, Or.inr ⟨e0, rfl, hne, by omega, by omega⟩⟩)
    · intro q q1 q2
      rw [g8]
      by_cases hq : q = ofX w (e0 % 64 + 64 * i + 512 * (e0 / 64))
      · simp only [hq, if_true]; omega
      · simp only [hq, if_false]; exact h5 q q1 q2
    · rw [g8]; simp only [hne, if_false]; exact h6
    · obtain ⟨new, n1, n2⟩ := h7
      have n2' : ∀ x ∈ new, (0 ≤ x ∧ x < 256) ∧ u' (65 + s.toNat) x < u0 (65 + s.toNat) x := fun x hx => by
        have := n2 x hx; have := hle' x; omega
      rcases g9 with ⟨_, g9⟩ | ⟨_, g9⟩
      · exact ⟨new, by rw [g9, n1], n2'⟩
      · refine ⟨new ++ [ofX w (e0 % 64 + 64 * i + 512 * (e0 / 64))], by rw [g9, n1, List.append_assoc], fun x hx => ?_⟩
        rcases List.mem_append.mp hx with hx | hx
        · exact n2' x hx
        · simp only [List.mem_singleton] at hx
          rw [hx]
          refine ⟨g2, ?_⟩
          rw [g8]
          simp only [if_true]
          have := h3 _ g2.1 g2.2
          omega
    · intro q q1 q2 q3
      have hmono : ∀ y, y ∈ qL u → y ∈ qL u' := fun y hy2 => by
        rcases g9 with ⟨_, g9⟩ | ⟨_, g9⟩
        · rw [g9]; exact hy2
        · rw [g9]; exact List.mem_append_left _ hy2
      by_cases hq : q = ofX w (e0 % 64 + 64 * i + 512 * (e0 / 64))
      · rcases g9 with ⟨g10, g9⟩ | ⟨_, g9⟩
        · rw [g9, hq]; exact g10
        · rw [g9, hq]; exact List.mem_append_right _ (by simp)
      · apply hmono
        apply h8 q q1 q2
        rw [g8] at q3
        simpa only [hq, if_false] using q3
    · intro q k c q1 q2 k1 k2 hed2
      by_cases hk : k = i
      · subst hk
        obtain ⟨r1, r2, r3⟩ := hrelN q c q1 q2 hed2
        rw [g8, ← r2]
        simp only [if_true]
        rw [r3, ← h6]
        omega
      · have := h9 q k c q1 q2 k1 (by omega) hed2
        have := hle' q
        omega
/-- behind the start: the goal's two runs -/
def lnG (w u : RW) (s g : Int) (D : Int → Prop) : Prop := lnF w u s ∧ QI u ∧ gJu 1048576 256 (edC w g) (u (65 + s.toNat)) ∧ (∀ q, 0 ≤ q → q < 256 → 0 ≤ u (65 + s.toNat) q ∧ u (65 + s.toNat) q ≤ 1048576) ∧ (∀ q, 0 ≤ q → q < 256 → u (65 + s.toNat) q < 1048576 → q ∈ qL u) ∧ (∀ x ∈ qL u, u (65 + s.toNat) x < 1048576) ∧ ∀ q k c, 0 ≤ q → q < 256 → 0 ≤ k → k < 6 → edC w g q k = some (none, c) → D (nxR w (exX q) k) → u (65 + s.toNat) q ≤ c
theorem lnG_step {w u u' : RW} {s g x : Int} {D : Int → Prop} (hs : 0 ≤ s ∧ s < 6) (hb : w 2 0 ≤ 8 ∧ w 2 1 ≤ 6) (hx : okR x) (hv : isT (w 2 0) (w 2 1) (x % 64 % 8) (x % 64 / 8)) (hl : tb (w 3 (x % 64)) (x % 512 / 64)) (hg : x % 512 = g) (h : lnG w u s g D) (ho : ofR u s x 0 u') : lnG w u' s g (fun y => D y ∨ y = x) := by
  obtain ⟨h1, h2, h3, h4, h5, h6, h7⟩ := h
  obtain ⟨c2, c3, c4⟩ := lnF_ed hs h1
  obtain ⟨oX, oT⟩ := ofX_c c2 x
  have hstep := of_step hs (by rw [c2]; exact hb) h2 hx (by rw [c2]; exact hv) (by rw [c3]; exact hl) (Int.le_refl 0) (fun e a b => (h4 e a b).2) ho
  rw [oX, oT, c4] at hstep
  have hx2 := hx
  obtain ⟨x1, x2, x3, x4, x5⟩ := hx2
  have hrel : ∀ q k c, edC w g q k = some (none, c) → nxR w (exX q) k = x → ¬ fbT w x = -1 ∧ ofX w x = q ∧ c = gco (w 4 (x % 512)) x := by
    intro q k c hed hr
    have hvv := edC_v hed
    obtain ⟨-, -, -, -, y8, y9⟩ := edge_of hb hvv
    rw [edC_t hvv] at hed
    simp only [Option.some.injEq, Prod.mk.injEq] at hed
    rw [hr] at y8 y9 hed
    exact ⟨y9, y8, hed.2.symm⟩
  rcases hstep with ⟨hu, hc⟩ | ⟨g1, g2, g3, g4, g5, g6, g7, g8, g9⟩
  · subst hu
    refine ⟨h1, h2, h3, h4, h5, h6, fun q k c q1 q2 k1 k2 hed hD => ?_⟩
    rcases hD with hD | hD
    · exact h7 q k c q1 q2 k1 k2 hed hD
    · obtain ⟨r1, r2, r3⟩ := hrel q k c hed hD
      rcases hc with hc | hc
      · exact absurd hc r1
      · rw [r2] at hc; rw [r3]; omega
  · have hvv : edV w (ofX w x) (x % 512 / 64) := (edV_c c2 c3 c4 _ _).mp g4
    have hed := edC_t (g := g) hvv
    obtain ⟨-, hRr, -⟩ := of_edge (w := w) hb hx hv hl g1
    rw [hRr, if_pos hg] at hed
    have hgpos := (gco_rng (lit := w 4 (x % 512)) (x := x)).1
    have hle' : ∀ q, u' (65 + s.toNat) q ≤ u (65 + s.toNat) q := by
      intro q
      rw [g8]
      by_cases hq : q = ofX w x
      · simp only [hq, if_true]; omega
      · simp only [hq, if_false]; omega
    have hmono : ∀ y, y ∈ qL u → y ∈ qL u' := fun y hy2 => by
      rcases g9 with ⟨_, g9⟩ | ⟨_, g9⟩
      · rw [g9]; exact hy2
      · rw [g9]; exact List.mem_append_left _ hy2
    have hqq := h4 _ g2.1 g2.2
    refine ⟨⟨fun j j1 j2 j3 j4 => by rw [g5 j j1 j2 j3 j4]; exact h1.1 j j1 j2 j3 j4, by rw [g6 1 (by decide)]; exact h1.2⟩, g7, ?_, fun q q1 q2 => ?_, fun q q1 q2 q3 => ?_, fun y hy2 => ?_, fun q k c q1 q2 k1 k2 hed2 hD => ?_⟩
    · rw [g8]
      exact gJu_upd h3 (by omega) (fun _ _ => ⟨x % 512 / 64, none, _, by omega, hed, Or.inl ⟨rfl, by omega⟩⟩)
    · rw [g8]
      by_cases hq : q = ofX w x
      · simp only [hq, if_true]; omega
      · simp only [hq, if_false]; exact h4 q q1 q2
    · by_cases hq : q = ofX w x
      · rcases g9 with ⟨g10, g9⟩ | ⟨_, g9⟩
        · rw [g9, hq]; exact g10
        · rw [g9, hq]; exact List.mem_append_right _ (by simp)
      · apply hmono
        apply h5 q q1 q2
        rw [g8] at q3
        simpa only [hq, if_false] using q3
    · have hlx := hle' y
      rcases g9 with ⟨g10, g9⟩ | ⟨_, g9⟩
      · rw [g9] at hy2; have := h6 y hy2; omega
      · rw [g9] at hy2
        rcases List.mem_append.mp hy2 with hy3 | hy3
        · have := h6 y hy3; omega
        · simp only [List.mem_singleton] at hy3
          rw [hy3, g8]
          simp only [if_true]
          omega
    · have hlq := hle' q
      rcases hD with hD | hD
      · have := h7 q k c q1 q2 k1 k2 hed2 hD; omega
      · obtain ⟨r1, r2, r3⟩ := hrel q k c hed2 hD
        rw [g8, ← r2]
        simp only [if_true]
        rw [r3]
        omega
theorem lnG_Q {w u : RW} {s g : Int} (h : lnG w u s g (fun y => y % 512 = g)) (hb : w 2 0 ≤ 8 ∧ w 2 1 ≤ 6) : gQ 1048576 256 (edC w g) (u (65 + s.toNat)) (qL u) := by
  obtain ⟨h1, h2, h3, h4, h5, h6, h7⟩ := h
  refine ⟨h3, fun q q1 q2 => (h4 q q1 q2).1, fun q q1 q2 => (h4 q q1 q2).2, fun x hx => ⟨h2.2.2.2.1 x hx, h6 x hx⟩, by rw [qL_len]; have := h2.2.1; omega, fun q k t c q1 q2 k1 k2 hed => ⟨fun ht => ?_, fun b ht hbn hbF => ?_⟩⟩
  · subst ht
    refine h7 q k c q1 q2 k1 k2 hed ?_
    have hvv := edC_v hed
    rw [edC_t hvv] at hed
    simp only [Option.some.injEq, Prod.mk.injEq] at hed
    by_cases hg : nxR w (exX q) k % 512 = g
    · exact hg
    · rw [if_neg hg] at hed; cases hed.1
  · obtain ⟨-, -, hbr⟩ := edC_ok hb g q k t c hed
    obtain ⟨b1, b2⟩ := hbr b ht
    exact absurd (h5 b b1 b2 hbF) hbn
theorem QI_c2 {w u : RW} (h1 : u 63 4 = w 63 4) (h2 : u 63 5 = w 63 5) (h3 : u 71 = w 71) (h4 : u 72 = w 72) (h : QI w) : QI u ∧ qL u = qL w := by
  have e : qL u = qL w := qL_c h1 h2 h3
  refine ⟨?_, e⟩
  unfold QI
  rw [e, h1, h2, h4]
  exact h
theorem lnG_weak {w u : RW} {s g : Int} {D D' : Int → Prop} (hb : w 2 0 ≤ 8 ∧ w 2 1 ≤ 6) (hD : ∀ y, okR y → D' y → D y) (h : lnG w u s g D) : lnG w u s g D' := by
  obtain ⟨h1, h2, h3, h4, h5, h6, h7⟩ := h
  refine ⟨h1, h2, h3, h4, h5, h6, fun q k c q1 q2 k1 k2 hed hd => h7 q k c q1 q2 k1 k2 hed (hD _ (edge_of hb (edC_v hed)).1 hd)⟩
def lsOK (w : RW) (s g : Int) : Prop := (∀ e, 0 ≤ e → e < 256 → 0 ≤ w (65 + s.toNat) e ∧ w (65 + s.toNat) e ≤ 1048576) ∧ gJu 1048576 256 (edC w g) (w (65 + s.toNat)) ∧ gRl 1048576 256 (edC w g) (w (65 + s.toNat))
def lnP (w u : RW) (s g : Int) : Prop := (tb (w 63 1) s ∧ w = u) ∨ (¬ tb (w 63 1) s ∧ lnF w u s ∧ QI u ∧ u 63 5 = 0 ∧ lsOK u s g)
/-- at the queue's head -/
def lnO (w u : RW) (s g tk : Int) : Prop := lnF w u s ∧ QI u ∧ gQ 1048576 256 (edC w g) (u (65 + s.toNat)) (qL u) ∧ gPot 256 (edC w g) (u (65 + s.toNat)) (qL u) (65536 - tk)
theorem lnO_end {w u : RW} {s g tk : Int} (hs : 0 ≤ s ∧ s < 6) (h : lnO w u s g tk) (hc : u 63 5 ≤ 0 ∨ 65536 ≤ tk) : u 63 5 = 0 ∧ lsOK u s g := by
  obtain ⟨h1, h2, h3, h4⟩ := h
  obtain ⟨c2, c3, c4⟩ := lnF_ed hs h1
  have hq : qL u = [] := by
    rcases h4 with h4 | ⟨a, p, q0, d, b1, b2, b3, _⟩
    · exact h4
    · rcases hc with hc | hc
      · have := qL_len u
        have h0 : (qL u).length = 0 := by omega
        exact List.length_eq_zero_iff.mp h0
      · exfalso
        have : (0 : Int) ≤ ((256 : Nat) : Int) * (a : Int) := Int.mul_nonneg (by omega) (by omega)
        omega
  have h5 : u 63 5 = 0 := by
    have := qL_len u
    rw [hq] at this
    have := h2.2.1
    simp at *
    omega
  refine ⟨h5, fun e e1 e2 => ⟨h3.2.1 e e1 e2, h3.2.2.1 e e1 e2⟩, ?_, ?_⟩
  · rw [edC_c c2 c3 c4]; exact h3.1
  · rw [edC_c c2 c3 c4]
    rw [hq] at h3
    exact gQ_end h3
/-- a node is taken and its runs are offered -/
theorem lnO_take {w v u0 u : RW} {s g tk e0 : Int} (hs : 0 ≤ s ∧ s < 6) (hb : w 2 0 ≤ 8 ∧ w 2 1 ≤ 6) (h : lnO w v s g tk) (hl : qL v = e0 :: qL u0) (hL : u0 (65 + s.toNat) = v (65 + s.toNat)) (hI : lnI w u0 u s g e0 6) : lnO w u s g (tk + 1) := by
  obtain ⟨h1, h2, h3, h4⟩ := h
  obtain ⟨i1, i2, i3, i4, i5, i6, ⟨new, n1, n2⟩, i8, i9⟩ := hI
  rw [hl] at h3 h4
  rw [hL] at i3 i6 i9 n2 i8
  have hnd : (e0 :: qL u0).Nodup := by rw [← hl]; exact h2.2.2.1
  have := gQ_take (f' := u (65 + s.toNat)) (new := new) (edC_ok hb g) h3 h4 hnd i3 i4 i5 (fun x hx => ⟨(n2 x hx).1, (n2 x hx).2⟩) (fun q q1 q2 q3 => by rw [← n1]; exact i8 q q1 q2 q3) (by rw [← n1, qL_len]; have := i2.2.1; omega) (fun q k c q1 q2 k1 k2 hed => i9 q k c q1 q2 k1 k2 hed)
  rw [← n1, show 65536 - tk - 1 = 65536 - (tk + 1) by omega] at this
  exact ⟨i1, i2, this.1, this.2⟩

