def shw (w : RW) : RW := fun k => if 1 ≤ k ∧ k < 32 then w (k + 31) else fun _ => 0
def kp (g : RW) : RW := fun k i => match k with
  | 77 => if i = 4 then g 101 0 else if i = 10 then g 101 1 else if i = 23 then g 101 2 else if i = 24 then g 101 3 else if i = 25 then g 101 4 else if i = 0 then g 77 0 else if i = 1 then g 77 1 else 0
  | 78 => g 96 i
  | 79 => g 97 i
  | 80 => g 100 i
  | 81 => g 100 (6 + i)
  | 82 => g 100 (12 + i)
  | 85 => g 98 i
  | 86 => g 99 i
  | 87 => g 99 (6 + i)
  | 88 => g 99 (12 + i)
  | 89 => g 99 (18 + i)
  | 90 => g 99 (24 + i)
  | 91 => if g 99 (30 + i) < 64 then 0 else 1
  | 92 => g 99 (36 + i)
  | 93 => g 99 (30 + i) % 8
  | 94 => g 99 (30 + i) / 8 % 8
  | _ => 0
def cB (n : Int) (w : RW) : Prop := (0 ≤ w 1 5 ∧ w 1 5 ≤ 6000 * n) ∧ (0 ≤ w 1 6 ∧ w 1 6 ≤ 12000 * n) ∧ 0 ≤ w 1 7 ∧ w 1 7 ≤ 20 * n
/-- what is kept is one railway too -/
def KR (n : Int) (z : RW) : Prop := Rel (shw z) (kp z) ∧ CI (shw z) ∧ mOK (kp z) ∧ shw z 1 7 = kp z 77 25 ∧ cB n (shw z) ∧ ∀ t, 0 ≤ t → t < 6 → 0 ≤ z 99 (30 + t)
/-- between two calls -/
def ST (n : Int) (z : RW) : Prop := PR z z ∧ z 1 7 = z 77 25 ∧ cB n z ∧ KR n z
theorem shw_c {z v : RW} (h : ∀ j, 31 < j → j < 63 → v j = z j) : shw v = shw z := by
  funext k
  unfold shw
  by_cases e : 1 ≤ k ∧ k < 32
  · rw [if_pos e, if_pos e]
    exact h _ (by omega) (by omega)
  · rw [if_neg e, if_neg e]
theorem kp_c {z v : RW} (h : ∀ j, 96 ≤ j → v j = z j) (h0 : v 77 0 = z 77 0) (h1 : v 77 1 = z 77 1) : kp v = kp z := by
  funext k i
  unfold kp
  rw [h 96 (by decide), h 97 (by decide), h 98 (by decide), h 99 (by decide), h 100 (by decide), h 101 (by decide), h0, h1]
theorem cB_mono {n : Int} {w : RW} (h : cB n w) : cB (n + 1) w := by unfold cB at *; omega
theorem KR_c {n : Int} {z v : RW} (h1 : ∀ j, 31 < j → j < 63 → v j = z j) (h2 : ∀ j, 96 ≤ j → v j = z j) (h3 : v 77 0 = z 77 0) (h4 : v 77 1 = z 77 1) (h : KR n z) : KR (n + 1) v := by
  unfold KR at *
  rw [shw_c h1, kp_c h2 h3 h4, h2 99 (by decide)]
  exact ⟨h.1, h.2.1, h.2.2.1, h.2.2.2.1, cB_mono h.2.2.2.2.1, h.2.2.2.2.2⟩
theorem ST_mono {n : Int} {z : RW} (h : ST n z) : ST (n + 1) z := ⟨h.1, h.2.1, cB_mono h.2.2.1, KR_c (fun _ _ _ => rfl) (fun _ _ => rfl) rfl rfl h.2.2.2⟩
theorem wOK_w {w v : RW} (h : ∀ j, j < 77 → v j = w j) (hw : wOK w) : wOK v := wOK_c (fun j _ _ _ _ j5 => h j j5) hw
theorem st_fin {n : Int} {z u v : RW} (hz : ST n z) (hu : frK z u) (hv : frA u v) (h0 : v 77 0 = z 77 0) (h1 : v 77 1 = z 77 1) (hP : PR u v) (h7 : u 1 7 = v 77 25) (hb : cB (n + 1) u) : ST (n + 1) v := by
  obtain ⟨p1, p2, p3, p4, p5⟩ := hP
  have hw : ∀ j, j < 77 → v j = u j := fun j hj => hv j (Or.inl hj)
  refine ⟨⟨Rel_w p4 (fun j hj => hw j (by omega)) p1, CI_c (fun j hj => hw j (by omega)) p2, wOK_w hw p3, p4, p5⟩, by rw [hw 1 (by decide)]; exact h7, by unfold cB; rw [hw 1 (by decide)]; exact hb, KR_c (fun j a b => by rw [hw j (by omega)]; exact hu j (Or.inl ⟨a, b⟩)) (fun j a => by rw [hv j (Or.inr a)]; exact hu j (Or.inr (by omega))) h0 h1 hz.2.2.2⟩
theorem q_pieces {z g : RW} (hR : Rel z g) (hC : CI z) (hm : mOK g) {x y : Int} : cif (isT (z 2 0) (z 2 1) x y) (z 3 (x + 8 * y)) (-1) = cif (isT (g 77 0) (g 77 1) x y) (pcN g (8 * y + x) 6) (-1) := by
  rw [hR.1.1, hR.1.2]
  refine cif_c Iff.rfl (fun h => ?_) (fun _ => rfl)
  have := hm.1
  unfold isT at h
  rw [rl_pc hR hC (by omega)]
  congr 1
  omega
theorem q_signals {z g : RW} (hR : Rel z g) (hC : CI z) (hm : mOK g) {x y p : Int} : cif (hTr z x y p) (bz (tb (z 4 (x + 8 * y + 64 * p)) (stt 0 p)) + 2 * bz (tb (z 4 (x + 8 * y + 64 * p)) (stt 1 p))) (-1) = cif (lpc g x y p) (g 79 (6 * (8 * y + x) + p)) (-1) := by
  refine cif_c (rl_tr hR hm) (fun h => ?_) (fun _ => rfl)
  have hx := lpc_xy hm ((rl_tr hR hm).mp h)
  have hl := rl_lt hR (i := 6 * (8 * y + x) + p) (by omega)
  have hmk := (hm.2.1 (6 * (8 * y + x) + p) (by omega) (by omega)).2
  rw [show plc (6 * (8 * y + x) + p) = x + 8 * y + 64 * p by unfold plc; omega, show (6 * (8 * y + x) + p) % 6 = p by omega] at hl
  have hf := lgt_f (p := p) (m := g 79 (6 * (8 * y + x) + p)) (by omega) hmk
  rw [hl]
  generalize g 79 (6 * (8 * y + x) + p) = m at *
  rcases (show m = 0 ∨ m = 1 ∨ m = 2 ∨ m = 3 by omega) with rfl | rfl | rfl | rfl
  · rw [bz_f (fun q => absurd (hf.1.mp q) (by decide)), bz_f (fun q => absurd (hf.2.1.mp q) (by decide))]; rfl
  · rw [bz_t (hf.1.mpr (by decide)), bz_f (fun q => absurd (hf.2.1.mp q) (by decide))]; rfl
  · rw [bz_f (fun q => absurd (hf.1.mp q) (by decide)), bz_t (hf.2.1.mpr (by decide))]; rfl
  · rw [bz_t (hf.1.mpr (by decide)), bz_t (hf.2.1.mpr (by decide))]; rfl
theorem q_holder {z g : RW} (hR : Rel z g) (hC : CI z) (hm : mOK g) {x y p r : Int} (h : hoM g x y p r) : cif (hTr z x y p) (z 5 (x + 8 * y + 64 * p)) (-1) = r := by
  rcases h with ⟨h1, h2, h3⟩ | ⟨h1, h2⟩
  · rw [cif_t ((rl_tr hR hm).mpr h1)]
    have hx := lpc_xy hm h1
    have := (rl_ho hR hC hm (i := 6 * (8 * y + x) + p) (t := r) (by omega) h2.1).mpr ⟨h2.2, h3⟩
    rw [show plc (6 * (8 * y + x) + p) = x + 8 * y + 64 * p by unfold plc; omega] at this
    exact this
  · by_cases e : hTr z x y p
    · rw [cif_t e, h1]
      have hl := (rl_tr hR hm).mp e
      have hx := lpc_xy hm hl
      have hr := hC.1.2.2.1 (x + 8 * y + 64 * p) (by omega) (by omega)
      by_cases e2 : z 5 (x + 8 * y + 64 * p) = -1
      · exact e2
      · exfalso
        have := (rl_ho hR hC hm (i := 6 * (8 * y + x) + p) (t := z 5 (x + 8 * y + 64 * p)) (by omega) (by omega)).mp (by rw [show plc (6 * (8 * y + x) + p) = x + 8 * y + 64 * p by unfold plc; omega])
        exact h2 ⟨hl, _, this.2.choose, ⟨by omega, this.1⟩, this.2.choose_spec⟩
    · rw [cif_f e, h1]
theorem q_held {z g : RW} (hR : Rel z g) (hC : CI z) (hm : mOK g) {t k : Int} : cif ((0 ≤ t ∧ t < z 1 4) ∧ 0 ≤ k ∧ k < z (14 + t.toNat) 1) (z (20 + t.toNat) k) (-1) = cif ((0 ≤ t ∧ t < g 77 10) ∧ 0 ≤ k ∧ k < g 86 t) (g 85 (300 * t + k) / 12 + 64 * (g 85 (300 * t + k) / 2 % 6) + 512 * eoQ (g 85 (300 * t + k))) (-1) := by
  refine cif_c (rl_he hR) (fun h => ?_) (fun _ => rfl)
  exact rl_rX hR ((rl_he hR).mp h)
theorem q_motion {z g : RW} (hR : Rel z g) (hC : CI z) (hm : mOK g) {t : Int} : cif (0 ≤ t ∧ t < z 1 4) (z (14 + t.toNat) 1 - z (14 + t.toNat) 2 + 1000 * z (14 + t.toNat) 3 + 10000 * z (14 + t.toNat) 4) (-1) = cif (0 ≤ t ∧ t < g 77 10) (g 86 t - g 87 t + 1000 * g 88 t + 10000 * g 89 t) (-1) := by
  refine cif_c (by rw [rl_nt hR]) (fun h => ?_) (fun _ => rfl)
  rw [rl_nt hR] at h
  have := (hR.2.2.2.2 t h.1 h.2).1
  rw [this.1, this.2.1, this.2.2.1, this.2.2.2.1]
theorem q_load {z g : RW} (hR : Rel z g) (hC : CI z) (hm : mOK g) {t : Int} : cif (0 ≤ t ∧ t < z 1 4) (z (14 + t.toNat) 5) (-1) = cif (0 ≤ t ∧ t < g 77 10) (g 90 t) (-1) := by
  refine cif_c (by rw [rl_nt hR]) (fun h => ?_) (fun _ => rfl)
  rw [rl_nt hR] at h
  exact (hR.2.2.2.2 t h.1 h.2).1.2.2.2.2.1
theorem q_target {z g : RW} (hR : Rel z g) (hC : CI z) (hm : mOK g) {t : Int} : cif (0 ≤ t ∧ t < z 1 4) (if 0 < z (14 + t.toNat) 7 then z (26 + t.toNat) (z (14 + t.toNat) 8) else -1) (-1) = cif (0 ≤ t ∧ t < g 77 10) (if 0 < g 93 t then g 92 (6 * t + g 94 t) else -1) (-1) := by
  refine cif_c (by rw [rl_nt hR]) (fun h => ?_) (fun _ => rfl)
  rw [rl_nt hR] at h
  have := (hR.2.2.2.2 t h.1 h.2).1
  rw [this.2.2.2.2.2.1]
  by_cases e : 0 < g 93 t
  · rw [if_pos e, if_pos e]
    exact (rl_gk hR hC h e).2.2.1
  · rw [if_neg e, if_neg e]
theorem q_waiting {z g : RW} (hR : Rel z g) (hC : CI z) (hm : mOK g) {s : Int} : cif (0 ≤ s ∧ s < z 1 3) (z (7 + s.toNat) 2) (-1) = cif (0 ≤ s ∧ s < g 77 4) (g 82 s) (-1) := by
  refine cif_c (by rw [rl_ns hR]) (fun h => ?_) (fun _ => rfl)
  rw [rl_ns hR] at h
  exact (hR.2.2.2.1 s h.1 h.2).2.2
theorem mOK_g {w u : RW} (h : ∀ j, 77 ≤ j → u j = w j) (hm : mOK w) : mOK u := by
  unfold mOK
  rw [h 77 (by decide), h 78 (by decide), h 79 (by decide), h 80 (by decide), h 81 (by decide), h 82 (by decide), h 85 (by decide), h 86 (by decide), h 87 (by decide), h 88 (by decide), h 89 (by decide), h 90 (by decide), h 91 (by decide), h 92 (by decide), h 93 (by decide), h 94 (by decide)]
  exact hm
/-- behind the class's half of a call that leaves its yard -/
theorem PR_mid {z u : RW} (hP : PR z z) (h : ∀ j, j < 63 ∨ 77 ≤ j → u j = z j) (hw : wOK u) : PR u u := by
  obtain ⟨p1, p2, p3, p4, p5⟩ := hP
  refine ⟨Rel_c (fun j hj => h j (Or.inl hj)) (fun j _ _ _ _ hj => h j (Or.inr hj)) (fun f _ => by rw [h 77 (by decide)]) p4.2.2.1 p1, CI_c (fun j hj => h j (Or.inl hj)) p2, hw, mOK_g (fun j hj => h j (Or.inr hj)) p4, kOK_c p4 (by rw [h 77 (by decide)]) (by rw [h 77 (by decide)]) (h 78 (by decide)) (h 79 (by decide)) (h 80 (by decide)) (h 83 (by decide)) (h 84 (by decide)) p5⟩
/-- behind the model's half of a call that leaves its numbers -/
theorem PR_end {u v : RW} (hP : PR u u) (h : frC u v) (hk : kOK v) : PR u v := ⟨Rel_g hP.2.2.2.1 h hP.1, hP.2.1, hP.2.2.1, mOK_c h.1 h.2 hP.2.2.2.1, hk⟩
theorem twd_rn {g : RW} {x y p e : Int} (hm : mOK g) (h : lpc g x y p ∧ hsE p e) : (0 ≤ twd g x y p e ∧ twd g x y p e < 576) ∧ twd g x y p e / 2 = 6 * (8 * y + x) + p ∧ eoQ (twd g x y p e) = e ∧ rn (twd g x y p e) = x + 8 * y + 64 * p + 512 * e := by
  have hx := lpc_xy hm h.1
  have hr := (twd_rng (x := x) (y := y) (p := p) (e := e) hm).resolve_left (fun q => q.2 h)
  have ht : twd g x y p e = 2 * (6 * (8 * y + x) + p) + (if e = stt 0 p then 0 else 1) := by unfold twd; rw [cif_t h]
  have hb := eoQ_bit (i := 6 * (8 * y + x) + p) (e := e) (by omega) (by rw [show (6 * (8 * y + x) + p) % 6 = p by omega]; exact h.2)
  rw [show (6 * (8 * y + x) + p) % 6 = p by omega, ← ht] at hb
  refine ⟨hr.1, hr.2.2.2, hb.1, ?_⟩
  unfold rn
  rw [hb.1, hb.2, show twd g x y p e / 12 = 8 * y + x by omega, show (6 * (8 * y + x) + p) % 6 = p by omega]
  omega
theorem lpc_c {z u : RW} (h : ∀ j, 77 ≤ j → u j = z j) {x y p : Int} : lpc u x y p ↔ lpc z x y p := by
  unfold lpc
  rw [h 77 (by decide), h 78 (by decide)]
/-- toGo -/
theorem s_toGo {z u v : RW} {x y p e s r r' : Int} (hP : PR z z) (hc : (¬ tgOK z x y p e s ∧ r = -1 ∧ z = u) ∨ (tgOK z x y p e s ∧ lnP z u s (z (7 + s.toNat) 0) ∧ r = if rsT u s (z (7 + s.toNat) 0) (x + 8 * y + 64 * p + 512 * e) < 1048576 then rsT u s (z (7 + s.toNat) 0) (x + 8 * y + 64 * p + 512 * e) else -1))
    (hM : (¬ ((lpc u x y p ∧ hsE p e) ∧ 0 ≤ s ∧ s < u 77 4) ∧ r' = -1 ∧ u = v) ∨ (((lpc u x y p ∧ hsE p e) ∧ 0 ≤ s ∧ s < u 77 4) ∧ msP u v s ∧ frOK v s ∧ r' = if v 84 (576 * s + twd u x y p e) < 1000000000 then v 84 (576 * s + twd u x y p e) else -1)) :
    r = r' ∧ PR u v ∧ frK z u ∧ frA u v ∧ (∀ f, v 77 f = z 77 f) ∧ u 1 = z 1 := by
  have hP0 := hP
  obtain ⟨p1, p2, p3, p4, p5⟩ := hP
  have k3 := p4.2.2.1
  have hiff : tgOK z x y p e s ↔ (lpc z x y p ∧ hsE p e) ∧ 0 ≤ s ∧ s < z 77 4 := by
    unfold tgOK
    rw [rl_tr p1 p4, rl_ns p1]
    exact ⟨fun q => ⟨⟨q.1, q.2.1⟩, q.2.2⟩, fun q => ⟨q.1.1, q.1.2, q.2⟩⟩
  rcases hc with ⟨h1, h2, rfl⟩ | ⟨h1, h2, h3⟩
  · rcases hM with ⟨_, h2', rfl⟩ | ⟨h1', _⟩
    · exact ⟨by rw [h2, h2'], hP0, frK_refl _, fun _ _ => rfl, fun _ => rfl, rfl⟩
    · exact absurd (hiff.mpr h1') h1
  · have hg := hiff.mp h1
    have hs : 0 ≤ s ∧ s < z 1 3 := by rw [rl_ns p1]; exact hg.2
    have hf := lnP_frame h2
    have hln := wOK_ln hs (by rw [rl_ns p1]; omega) p3 h2
    have hzu : ∀ j, j < 63 ∨ 77 ≤ j → u j = z j := fun j hj => hf j (by omega) (by omega) (by omega) (by omega)
    have hPu := PR_mid hP0 hzu hln.1
    have hlc := lpc_c (z := z) (u := u) (x := x) (y := y) (p := p) (fun j hj => hzu j (Or.inr hj))
    have e77 := hzu 77 (by decide)
    rcases hM with ⟨h1', _⟩ | ⟨h1', h2', h3', h4'⟩
    · exact absurd ⟨⟨hlc.mpr hg.1.1, hg.1.2⟩, by rw [e77]; exact hg.2⟩ h1'
    · obtain ⟨q1, q2, q3, q4, q5⟩ := hPu
      have hmo := msP_ok q4 ⟨hg.2.1, by omega⟩ q5 h2'
      have hfc : frC u v := ⟨fun j _ a b _ => hmo.1 j a b, fun f _ => by rw [hmo.1 77 (by decide) (by decide)]⟩
      have hPv := PR_end ⟨q1, q2, q3, q4, q5⟩ hfc hmo.2.1
      have htw := twd_rn q4 h1'.1
      have hz0 : z (7 + s.toNat) 0 = plc (v 80 s) := by
        have := (hPv.1.2.2.2.1 s hg.2.1 (by rw [hfc.2 4 (by decide)]; exact h1'.2.2)).1
        rw [hzu (7 + s.toNat) (by omega)] at this
        exact this
      have hl78 : ¬ v 78 (twd u x y p e / 2) = 0 := by
        rw [hmo.1 78 (by decide) (by decide), htw.2.1]
        exact h1'.1.1.2.2
      have hrs := rest_sim hPv.1 hPv.2.1 hPv.2.2.2.1 (s := s) ⟨hg.2.1, by rw [hfc.2 4 (by decide)]; exact h1'.2.2⟩ (by rw [← hz0]; exact hln.2) h3' htw.1 hl78
      rw [← hz0, htw.2.2.2] at hrs
      refine ⟨?_, hPv, fun j hj => hzu j (by omega), fun j hj => hmo.1 j (by omega) (by omega), fun f => by rw [hmo.1 77 (by decide) (by decide), e77], hzu 1 (by decide)⟩
      rw [h3, h4']
      by_cases q : rsT u s (z (7 + s.toNat) 0) (x + 8 * y + 64 * p + 512 * e) < 1048576
      · rw [if_pos q, if_pos (hrs.1.mp q)]
        exact (hrs.2.1 q).1
      · rw [if_neg q, if_neg (fun y => q (hrs.1.mpr y))]
