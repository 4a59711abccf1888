/-! the class's ways: geometry, the queue, the offers -/
theorem isT_val {W H t : Int} (hW : W ≤ 8) (hH : H ≤ 6) (h : isT W H (t % 8) (t / 8)) (h0 : 0 ≤ t) : t < 48 := by
  unfold isT at h; omega
theorem acr_val {W H t e : Int} (hW : W ≤ 8) (h : ¬ acr W H t e = -1) : isT W H (acr W H t e % 8) (acr W H t e / 8) := by
  by_cases hc : isT W H (acX t e) (acY t e)
  · have e1 : acr W H t e = acX t e + 8 * acY t e := cif_t hc
    rw [e1]
    have hc2 := hc
    unfold isT at hc2
    rw [show (acX t e + 8 * acY t e) % 8 = acX t e by omega, show (acX t e + 8 * acY t e) / 8 = acY t e by omega]
    exact hc
  · exact absurd (cif_f hc) h
theorem acr_back {W H t e : Int} (hW : W ≤ 8) (hH : H ≤ 6) (he : 0 ≤ e ∧ e < 4) (ht : 0 ≤ t) (hv : isT W H (t % 8) (t / 8)) (h : ¬ acr W H t e = -1) : acr W H (acr W H t e) ((e + 2) % 4) = t := by
  by_cases hc : isT W H (acX t e) (acY t e)
  · have e1 : acr W H t e = acX t e + 8 * acY t e := cif_t hc
    have hc2 := hc
    unfold isT at hc2
    have hm : (acX t e + 8 * acY t e) % 8 = acX t e := by omega
    have hd : (acX t e + 8 * acY t e) / 8 = acY t e := by omega
    rw [e1]
    have hx : acX (acX t e + 8 * acY t e) ((e + 2) % 4) = t % 8 := by
      rcases (show e = 0 ∨ e = 1 ∨ e = 2 ∨ e = 3 by omega) with rfl | rfl | rfl | rfl
      · show (acX t 0 + 8 * acY t 0) % 8 = _
        rw [hm]; rfl
      · show (acX t 1 + 8 * acY t 1) % 8 + -1 = _
        rw [hm]; show t % 8 + 1 + -1 = _; omega
      · show (acX t 2 + 8 * acY t 2) % 8 = _
        rw [hm]; rfl
      · show (acX t 3 + 8 * acY t 3) % 8 + 1 = _
        rw [hm]; show t % 8 + -1 + 1 = _; omega
    have hy : acY (acX t e + 8 * acY t e) ((e + 2) % 4) = t / 8 := by
      rcases (show e = 0 ∨ e = 1 ∨ e = 2 ∨ e = 3 by omega) with rfl | rfl | rfl | rfl
      · show (acX t 0 + 8 * acY t 0) / 8 + 1 = _
        rw [hd]; show t / 8 + -1 + 1 = _; omega
      · show (acX t 1 + 8 * acY t 1) / 8 = _
        rw [hd]; rfl
      · show (acX t 2 + 8 * acY t 2) / 8 + -1 = _
        rw [hd]; show t / 8 + 1 + -1 = _; omega
      · show (acX t 3 + 8 * acY t 3) / 8 = _
        rw [hd]; rfl
    unfold acr
    rw [hx, hy, cif_t hv]
    omega
  · exact absurd (cif_f hc) h
/-- a run with the exit e -/
def exX (e : Int) : Int := e % 64 + 512 * (e / 64)
theorem exX_m {e : Int} : exX e % 64 = e % 64 ∧ exX e / 512 = e / 64 := by unfold exX; omega
theorem nxT_ex (w : RW) (e : Int) : nxT w (exX e) = acr (w 2 0) (w 2 1) (e % 64) (e / 64) := by
  unfold nxT; rw [exX_m.1, exX_m.2]
theorem nxE_ex (e : Int) : nxE (exX e) = (e / 64 + 2) % 4 := by unfold nxE; rw [exX_m.2]
def edV (w : RW) (e k : Int) : Prop := (0 ≤ k ∧ k < 6) ∧ (0 ≤ e ∧ e < 256) ∧ isT (w 2 0) (w 2 1) (e % 64 % 8) (e % 64 / 8) ∧ ¬ nxT w (exX e) = -1 ∧ nxP w (exX e) k ∧ gco (w 4 (nxR w (exX e) k % 512)) (nxR w (exX e) k) < 1048576
noncomputable def edC (w : RW) (g : Int) : ED := fun e k => @ite _ (edV w e k) (Classical.propDecidable _) (some (if nxR w (exX e) k % 512 = g then none else some (nxR w (exX e) k % 64 + 64 * (nxR w (exX e) k / 512)), gco (w 4 (nxR w (exX e) k % 512)) (nxR w (exX e) k))) none
theorem edC_t {w : RW} {g e k : Int} (h : edV w e k) : edC w g e k = some (if nxR w (exX e) k % 512 = g then none else some (nxR w (exX e) k % 64 + 64 * (nxR w (exX e) k / 512)), gco (w 4 (nxR w (exX e) k % 512)) (nxR w (exX e) k)) := by
  unfold edC; exact @if_pos _ (Classical.propDecidable _) h _ _ _
theorem edC_v {w : RW} {g e k c : Int} {t : Option Int} (h : edC w g e k = some (t, c)) : edV w e k := by
  apply Classical.byContradiction
  intro hc
  have : edC w g e k = none := by unfold edC; exact @if_neg _ (Classical.propDecidable _) hc _ _ _
  rw [this] at h
  cases h
theorem edC_c {w u : RW} (h2 : u 2 = w 2) (h3 : u 3 = w 3) (h4 : u 4 = w 4) (g : Int) : edC u g = edC w g := by
  unfold edC edV nxP nxR nxT
  rw [h2, h3, h4]
theorem gco_small {lit x : Int} (h : gco lit x < 1048576) : gco lit x ≤ 15 := by
  unfold gco at h ⊢
  by_cases h0 : lit = 0
  · rw [if_pos h0]; split <;> omega
  · rw [if_neg h0] at h ⊢
    by_cases h2 : tb lit (x / 512)
    · rw [cif_t h2]; split <;> omega
    · rw [cif_f h2] at h; omega
theorem nxT_rng {w : RW} {x : Int} (hb : w 2 0 ≤ 8 ∧ w 2 1 ≤ 6) : nxT w x = -1 ∨ (0 ≤ nxT w x ∧ nxT w x < 48) := acr_rng (by omega) (by omega)
theorem edC_ok {w : RW} (hb : w 2 0 ≤ 8 ∧ w 2 1 ≤ 6) (g : Int) : okE (256 : Nat) (edC w g) := by
  intro e k t c h
  have hv := edC_v h
  rw [edC_t hv] at h
  obtain ⟨v1, v2, v3, v4, v5, v6⟩ := hv
  have hT := nxT_rng (x := exX e) hb
  have hx0 : 0 ≤ exX e := by unfold exX; omega
  obtain ⟨⟨y1, y2, y3, y4, y5⟩, z1, z2, z3, z4⟩ := nxR_ok (w := w) (x := exX e) (p := k) hx0 (by omega) v1 v5.2
  simp only [Option.some.injEq, Prod.mk.injEq] at h
  have h1 := gco_small v6
  have h2 := (gco_rng (lit := w 4 (nxR w (exX e) k % 512)) (x := nxR w (exX e) k)).1
  refine ⟨by omega, by omega, fun b hb2 => ?_⟩
  rw [← h.1] at hb2
  by_cases hg : nxR w (exX e) k % 512 = g
  · rw [if_pos hg] at hb2; cases hb2
  · rw [if_neg hg] at hb2
    have := Option.some.inj hb2
    omega
/-- the node that a laid run betters, and the way on from it -/
theorem of_edge {w : RW} {x : Int} (hb : w 2 0 ≤ 8 ∧ w 2 1 ≤ 6) (hx : okR x) (hv : isT (w 2 0) (w 2 1) (x % 64 % 8) (x % 64 / 8)) (hl : tb (w 3 (x % 64)) (x % 512 / 64)) (hT : ¬ fbT w x = -1) :
    (0 ≤ ofX w x ∧ ofX w x < 256) ∧ nxR w (exX (ofX w x)) (x % 512 / 64) = x ∧ (gco (w 4 (x % 512)) x < 1048576 → edV w (ofX w x) (x % 512 / 64)) := by
  obtain ⟨x1, x2, x3, x4, x5⟩ := hx
  have hO := otE_rng (by omega) x5
  have hF : fbT w x = -1 ∨ (0 ≤ fbT w x ∧ fbT w x < 48) := acr_rng (by omega) (by omega)
  have hE : 0 ≤ fbE x ∧ fbE x < 4 := by unfold fbE; omega
  have hX : ofX w x = fbT w x + 64 * fbE x := rfl
  have m1 : ofX w x % 64 = fbT w x := by omega
  have m2 : ofX w x / 64 = fbE x := by omega
  have hval : isT (w 2 0) (w 2 1) (fbT w x % 8) (fbT w x / 8) := acr_val hb.1 hT
  have hback : acr (w 2 0) (w 2 1) (fbT w x) (fbE x) = x % 64 := acr_back hb.1 hb.2 hO (by omega) hv hT
  have nT : nxT w (exX (ofX w x)) = x % 64 := by rw [nxT_ex, m1, m2, hback]
  have nE : nxE (exX (ofX w x)) = otE (x % 512 / 64) (x / 512) := by rw [nxE_ex, m2]; unfold fbE; omega
  have hR : nxR w (exX (ofX w x)) (x % 512 / 64) = x := by
    unfold nxR
    rw [nT, nE]
    have : otE (x % 512 / 64) (otE (x % 512 / 64) (x / 512)) = x / 512 := by unfold otE; omega
    rw [this]
    omega
  refine ⟨by omega, hR, fun hg => ⟨by omega, by omega, by rw [m1]; exact hval, by rw [nT]; omega, ⟨by rw [nT]; exact hl, ?_⟩, by rw [hR]; exact hg⟩⟩
  rw [nE]
  unfold hsE otE
  unfold hsE at x5
  omega
/-- a way on comes from the run that is offered -/
theorem edge_of {w : RW} {q k : Int} (hb : w 2 0 ≤ 8 ∧ w 2 1 ≤ 6) (h : edV w q k) : okR (nxR w (exX q) k) ∧ isT (w 2 0) (w 2 1) (nxR w (exX q) k % 64 % 8) (nxR w (exX q) k % 64 / 8) ∧ tb (w 3 (nxR w (exX q) k % 64)) k ∧ nxR w (exX q) k % 512 / 64 = k ∧ ofX w (nxR w (exX q) k) = q ∧ ¬ fbT w (nxR w (exX q) k) = -1 := by
  obtain ⟨v1, v2, v3, v4, v5, v6⟩ := h
  have hT := nxT_rng (x := exX q) hb
  have hx0 : 0 ≤ exX q := by unfold exX; omega
  obtain ⟨hok, z1, z2, z3, z4⟩ := nxR_ok (w := w) (x := exX q) (p := k) hx0 (by omega) v1 v5.2
  have hv : isT (w 2 0) (w 2 1) (nxT w (exX q) % 8) (nxT w (exX q) / 8) := acr_val hb.1 v4
  have hent : otE (nxR w (exX q) k % 512 / 64) (nxR w (exX q) k / 512) = (q / 64 + 2) % 4 := by
    rw [z2, z3, ← nxE_ex q]
    unfold otE
    omega
  have hback : acr (w 2 0) (w 2 1) (nxT w (exX q)) ((q / 64 + 2) % 4) = q % 64 := by
    rw [nxT_ex] at v4 ⊢
    exact acr_back hb.1 hb.2 (by omega) (by omega) v3 v4
  have hF : fbT w (nxR w (exX q) k) = q % 64 := by
    unfold fbT
    rw [hent, z1, hback]
  refine ⟨hok, by rw [z1]; exact hv, by rw [z1]; exact v5.1, z2, ?_, by rw [hF]; omega⟩
  show fbT w (nxR w (exX q) k) + 64 * fbE (nxR w (exX q) k) = q
  rw [hF]
  unfold fbE
  rw [hent]
  omega
/-! the ring -/
def qL (u : RW) : List Int := (List.range (u 63 5).toNat).map (fun (i : Nat) => u 71 ((u 63 4 + (i : Int)) % 256))
def QI (u : RW) : Prop := (0 ≤ u 63 4 ∧ u 63 4 < 256) ∧ (0 ≤ u 63 5 ∧ u 63 5 ≤ 256) ∧ (qL u).Nodup ∧ (∀ x ∈ qL u, 0 ≤ x ∧ x < 256) ∧ ∀ e, 0 ≤ e → e < 256 → (u 72 e = 0 ∧ e ∉ qL u) ∨ (u 72 e = 1 ∧ e ∈ qL u)
theorem qL_len (u : RW) : (qL u).length = (u 63 5).toNat := by unfold qL; simp
theorem pig {l : List Int} {e : Int} (hn : l.Nodup) (hr : ∀ x ∈ l, 0 ≤ x ∧ x < 256) (he : 0 ≤ e ∧ e < 256) (h : e ∉ l) : l.length < 256 := by
  have h1 : (e :: l).Nodup := List.nodup_cons.mpr ⟨h, hn⟩
  have h2 : (e :: l) ⊆ (List.range 256).map (fun (i : Nat) => (i : Int)) := by
    intro x hx
    have hxr : 0 ≤ x ∧ x < 256 := by
      rcases List.mem_cons.mp hx with rfl | hx
      · exact he
      · exact hr x hx
    exact List.mem_map.mpr ⟨x.toNat, List.mem_range.mpr (by omega), Int.toNat_of_nonneg hxr.1⟩
  have h3 := List.Nodup.length_le_of_subset h1 h2
  simp at h3
  omega
theorem qL_c {w u : RW} (h1 : u 63 4 = w 63 4) (h2 : u 63 5 = w 63 5) (h3 : u 71 = w 71) : qL u = qL w := by
  unfold qL; rw [h1, h2, h3]
theorem put_ok {w u : RW} {e : Int} (hQ : QI w) (he : 0 ≤ e ∧ e < 256) (h : putQ w e u) : QI u ∧ (∀ j, j ≠ 63 → j ≠ 71 → j ≠ 72 → u j = w j) ∧ (∀ f, f ≠ 5 → u 63 f = w 63 f) ∧ ((e ∈ qL w ∧ qL u = qL w) ∨ (e ∉ qL w ∧ qL u = qL w ++ [e])) := by
  obtain ⟨q1, q2, q3, q4, q5⟩ := hQ
  rcases h with ⟨a1, a2, rfl⟩ | ⟨a1, rfl⟩
  · have hne : e ∉ qL w := by rcases q5 e he.1 he.2 with h | h
                              · exact h.2
                              · omega
    have hlen := pig q3 q4 he hne
    rw [qL_len] at hlen
    have hl : qL (upw (upw (upw w 72 e 1) 71 ((w 63 4 + w 63 5) % 256) e) 63 5 (w 63 5 + 1)) = qL w ++ [e] := by
      unfold qL
      rw [upw_s, upw_i (by decide), upw_k (by decide), upw_k (by decide), upw_f (by decide), show (w 63 5 + 1).toNat = (w 63 5).toNat + 1 by omega, List.range_succ, List.map_append]
      congr 1
      · apply List.map_congr_left
        intro i hi
        have hi' := List.mem_range.mp hi
        rw [upw_i (by omega), upw_k (by decide)]
      · simp only [List.map_cons, List.map_nil]
        rw [show ((w 63 5).toNat : Int) = w 63 5 by omega, upw_s]
    refine ⟨⟨?_, ?_, ?_, ?_, ?_⟩, ?_, ?_, Or.inr ⟨hne, hl⟩⟩
    · rw [upw_i (by decide), upw_k (by decide), upw_k (by decide)]; exact q1
    · rw [upw_s]; omega
    · rw [hl]
      exact List.nodup_append.mpr ⟨q3, by simp, fun a ha b hb => by
        simp only [List.mem_singleton] at hb
        subst hb
        exact fun z => hne (z ▸ ha)⟩
    · rw [hl]
      intro x hx
      rcases List.mem_append.mp hx with hx | hx
      · exact q4 x hx
      · simp only [List.mem_singleton] at hx; rw [hx]; exact he
    · intro x x1 x2
      rw [hl, upw_f (by decide), upw_f (by decide)]
      by_cases hx : x = e
      · rw [hx, upw_s]; exact Or.inr ⟨rfl, by simp⟩
      · rw [upw_i hx]
        rcases q5 x x1 x2 with h | h
        · exact Or.inl ⟨h.1, by simp [h.2, hx]⟩
        · exact Or.inr ⟨h.1, by simp [h.2]⟩
    · intro j j1 j2 j3
      rw [upw_f j1, upw_f j2, upw_f j3]
    · intro f hf
      rw [upw_i hf, upw_k (by decide), upw_k (by decide)]
  · refine ⟨⟨q1, q2, q3, q4, q5⟩, fun j _ _ _ => rfl, fun f _ => rfl, Or.inl ⟨?_, rfl⟩⟩
    apply Classical.byContradiction
    intro hne
    have hlen := pig q3 q4 he hne
    rw [qL_len] at hlen
    rcases q5 e he.1 he.2 with h | h
    · exact a1 ⟨h.1, by omega⟩
    · exact hne h.2
theorem take_ok {w u : RW} (hQ : QI w) (hc : 0 < w 63 5) (h : upw (upw (upw w 63 4 ((w 63 4 + 1) % 256)) 63 5 (w 63 5 - 1)) 72 (w 71 (w 63 4)) 0 = u) : QI u ∧ (∀ j, j ≠ 63 → j ≠ 72 → u j = w j) ∧ (∀ f, f ≠ 4 → f ≠ 5 → u 63 f = w 63 f) ∧ qL w = w 71 (w 63 4) :: qL u := by
  subst h
  obtain ⟨q1, q2, q3, q4, q5⟩ := hQ
  have hl : qL w = w 71 (w 63 4) :: qL (upw (upw (upw w 63 4 ((w 63 4 + 1) % 256)) 63 5 (w 63 5 - 1)) 72 (w 71 (w 63 4)) 0) := by
    have e4 : upw (upw (upw w 63 4 ((w 63 4 + 1) % 256)) 63 5 (w 63 5 - 1)) 72 (w 71 (w 63 4)) 0 63 4 = (w 63 4 + 1) % 256 := by rw [upw_k (by decide), upw_i (by decide), upw_s]
    have e5 : upw (upw (upw w 63 4 ((w 63 4 + 1) % 256)) 63 5 (w 63 5 - 1)) 72 (w 71 (w 63 4)) 0 63 5 = w 63 5 - 1 := by rw [upw_k (by decide), upw_s]
    have e7 : upw (upw (upw w 63 4 ((w 63 4 + 1) % 256)) 63 5 (w 63 5 - 1)) 72 (w 71 (w 63 4)) 0 71 = w 71 := by rw [upw_f (by decide), upw_f (by decide), upw_f (by decide)]
    unfold qL
    rw [e4, e5, e7]
    obtain ⟨n, hn⟩ : ∃ n, (w 63 5).toNat = n + 1 := ⟨(w 63 5).toNat - 1, by omega⟩
    rw [hn, show (w 63 5 - 1).toNat = n by omega, List.range_succ_eq_map, List.map_cons, List.map_map]
    congr 1
    · congr 1
      omega
    · apply List.map_congr_left
      intro i _
      show w 71 ((w 63 4 + ((i + 1 : Nat) : Int)) % 256) = w 71 (((w 63 4 + 1) % 256 + (i : Int)) % 256)
      congr 1
      omega
  have hnd := q3
  rw [hl] at hnd
  have hnd2 := List.nodup_cons.mp hnd
  refine ⟨⟨?_, ?_, hnd2.2, ?_, ?_⟩, ?_, ?_, hl⟩
  · rw [upw_k (by decide), upw_i (by decide), upw_s]; omega
  · rw [upw_k (by decide), upw_s]; omega
  · intro x hx
    exact q4 x (by rw [hl]; exact List.mem_cons_of_mem _ hx)
  · intro x x1 x2
    by_cases hx : x = w 71 (w 63 4)
    · rw [hx, upw_s]
      exact Or.inl ⟨rfl, hnd2.1⟩
    · rw [upw_i hx, upw_k (by decide), upw_k (by decide)]
      rcases q5 x x1 x2 with h | h
      · refine Or.inl ⟨h.1, fun z => h.2 (by rw [hl]; exact List.mem_cons_of_mem _ z)⟩
      · refine Or.inr ⟨h.1, ?_⟩
        have := h.2
        rw [hl] at this
        rcases List.mem_cons.mp this with z | z
        · exact absurd z hx
        · exact z
  · intro j j1 j2
    rw [upw_f j2, upw_f j1, upw_f j1]
  · intro f f1 f2
    rw [upw_k (by decide), upw_i f2, upw_i f1]

