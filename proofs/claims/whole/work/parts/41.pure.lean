theorem PR_g {z u : RW} (hP : PR z z) (h : ∀ j, 77 ≤ j → u j = z j) : PR z u := by
  obtain ⟨p1, p2, p3, p4, p5⟩ := hP
  exact ⟨Rel_c (fun _ _ => rfl) (fun j _ _ _ _ hj => h j hj) (fun f _ => by rw [h 77 (by decide)]) p4.2.2.1 p1, p2, p3, mOK_g h p4, kOK_c p4 (by rw [h 77 (by decide)]) (by rw [h 77 (by decide)]) (h 78 (by decide)) (h 79 (by decide)) (h 80 (by decide)) (h 83 (by decide)) (h 84 (by decide)) p5⟩
theorem CI_mp {z u : RW} (hC : CI z) (hk : cOK u) (h : ∀ j, j < 63 → j ≠ 3 → j ≠ 4 → u j = z j)
    (h2 : ∀ c p, 0 ≤ c → c < 48 → 0 ≤ p → p < 6 → tb (u 3 c) p → isT (z 2 0) (z 2 1) (c % 8) (c / 8)) (h3 : ∀ s, 0 ≤ s → s < z 1 3 → u 4 (z (7 + s.toNat) 0) = 0) (h4 : ∀ t k, heX z t k → tb (u 3 (rX z t k % 64)) (rX z t k % 512 / 64)) : CI u := by
  obtain ⟨a, b, c, d, e, f⟩ := hC
  have k4 := a.2.2.2.1
  have e1 := h 1 (by decide) (by decide) (by decide)
  have hh : ∀ t k, heX u t k ↔ heX z t k := fun t k => by
    unfold heX
    rw [e1]
    constructor
    · rintro ⟨h1, h2⟩; rw [h (14 + t.toNat) (by omega) (by omega) (by omega)] at h2; exact ⟨h1, h2⟩
    · rintro ⟨h1, h2⟩; rw [h (14 + t.toNat) (by omega) (by omega) (by omega)]; exact ⟨h1, h2⟩
  have hx : ∀ t k, heX z t k → rX u t k = rX z t k := fun t k hq => by
    unfold rX
    have := hq.1
    rw [h (20 + t.toNat) (by omega) (by omega) (by omega)]
  refine ⟨hk, ?_, ?_, ?_, ?_, ?_⟩
  · rw [h 2 (by decide) (by decide) (by decide)]; exact h2
  · rw [e1]
    intro s s1 s2
    rw [h (7 + s.toNat) (by omega) (by omega) (by omega)]
    exact ⟨h3 s s1 s2, (c s s1 s2).2⟩
  · intro t k hq
    have h5 := (hh t k).mp hq
    rw [hx t k h5]
    exact h4 t k h5
  · intro t k t' k' hq hq' hc
    have h5 := (hh t k).mp hq
    have h6 := (hh t' k').mp hq'
    rw [hx t k h5, hx t' k' h6] at hc
    exact e t k t' k' h5 h6 hc
  · intro i i1 i2 i3 t t1
    rw [h 5 (by decide) (by decide) (by decide), f i i1 i2 i3 t t1]
    constructor
    · rintro ⟨k, hq, hc⟩
      exact ⟨k, (hh t k).mpr hq, by rw [hx t k hq]; exact hc⟩
    · rintro ⟨k, hq, hc⟩
      have h5 := (hh t k).mp hq
      exact ⟨k, h5, by rw [← hx t k h5]; exact hc⟩
theorem wOK_0 {z u : RW} (hw : wOK z) (h1 : u 63 1 = 0) (h : ∀ f, f ≠ 1 → u 63 f = z 63 f) (h71 : u 71 = z 71) (h72 : u 72 = z 72) : wOK u := by
  have e : qL u = qL z := qL_c (h 4 (by decide)) (h 5 (by decide)) h71
  refine ⟨?_, by rw [h 5 (by decide)]; exact hw.2.1, by rw [h1]; omega, fun s s1 s2 hb => by rw [h1] at hb; exact absurd hb (tb_0 s)⟩
  have := hw.1
  unfold QI at *
  rw [e, h 4 (by decide), h 5 (by decide), h72]
  exact this
theorem Rel_mp {z u g v : RW} (hR : Rel z g) (hm : mOK g) (hw : ∀ j, j < 63 → j ≠ 3 → j ≠ 4 → u j = z j) (hg : ∀ j, 77 ≤ j → j ≠ 78 → j ≠ 79 → j ≠ 83 → v j = g j) (h : ∀ i, 0 ≤ i → i < 288 → (tb (u 3 (i / 6)) (i % 6) ↔ ¬ v 78 i = 0) ∧ u 4 (plc i) = lgt (i % 6) (v 79 i)) : Rel u v := by
  obtain ⟨a, b, c, d, e⟩ := hR
  have k3 := hm.2.2.1
  have g77 := hg 77 (by decide) (by decide) (by decide) (by decide)
  unfold Rel
  rw [hw 1 (by decide) (by decide) (by decide), hw 2 (by decide) (by decide) (by decide), g77]
  refine ⟨a, b, h, fun s s1 s2 => ?_, fun t t1 t2 => ?_⟩
  · unfold RelS
    rw [hw (7 + s.toNat) (by omega) (by omega) (by omega), hg 80 (by decide) (by decide) (by decide) (by decide), hg 81 (by decide) (by decide) (by decide) (by decide), hg 82 (by decide) (by decide) (by decide) (by decide)]
    exact d s s1 s2
  · unfold RelT
    rw [hw (14 + t.toNat) (by omega) (by omega) (by omega), hw (20 + t.toNat) (by omega) (by omega) (by omega), hw (26 + t.toNat) (by omega) (by omega) (by omega), hg 85 (by decide) (by decide) (by decide) (by decide), hg 86 (by decide) (by decide) (by decide) (by decide), hg 87 (by decide) (by decide) (by decide) (by decide), hg 88 (by decide) (by decide) (by decide) (by decide), hg 89 (by decide) (by decide) (by decide) (by decide), hg 90 (by decide) (by decide) (by decide) (by decide), hg 91 (by decide) (by decide) (by decide) (by decide), hg 92 (by decide) (by decide) (by decide) (by decide), hg 93 (by decide) (by decide) (by decide) (by decide), hg 94 (by decide) (by decide) (by decide) (by decide)]
    exact e t t1 t2
theorem mOK_mp {g v : RW} (hm : mOK g) (hg : ∀ j, 77 ≤ j → j ≠ 78 → j ≠ 79 → j ≠ 83 → v j = g j) (h : ∀ p, 0 ≤ p → p < 288 → (v 78 p = 0 ∨ v 78 p = 1) ∧ 0 ≤ v 79 p ∧ v 79 p ≤ 3) : mOK v := by
  obtain ⟨k1, k2, k3, k4, k5, k6, k7⟩ := hm
  unfold mOK
  rw [hg 77 (by decide) (by decide) (by decide) (by decide), hg 80 (by decide) (by decide) (by decide) (by decide), hg 81 (by decide) (by decide) (by decide) (by decide), hg 82 (by decide) (by decide) (by decide) (by decide), hg 85 (by decide) (by decide) (by decide) (by decide), hg 86 (by decide) (by decide) (by decide) (by decide), hg 87 (by decide) (by decide) (by decide) (by decide), hg 88 (by decide) (by decide) (by decide) (by decide), hg 89 (by decide) (by decide) (by decide) (by decide), hg 90 (by decide) (by decide) (by decide) (by decide), hg 91 (by decide) (by decide) (by decide) (by decide), hg 92 (by decide) (by decide) (by decide) (by decide), hg 93 (by decide) (by decide) (by decide) (by decide), hg 94 (by decide) (by decide) (by decide) (by decide)]
  exact ⟨k1, h, k3, k4, k5, k6, k7⟩
theorem kOK_0 {v : RW} (h : ∀ s, 0 ≤ s → s < 6 → v 83 s = 0) : kOK v := fun s s1 s2 => ⟨Or.inl (h s s1 s2), fun q => by rw [h s s1 s2] at q; omega⟩
/-- nothing held on a tile: no run lies there -/
theorem no_run {z : RW} (hC : CI z) {c : Int} (h : ¬ hdT z c) {t k : Int} (hk : heX z t k) : ¬ rX z t k % 64 = c := by
  intro e
  have ho := heX_ok hC hk
  have h5 := heX_ho hC hk
  unfold okR at ho
  refine h ⟨rX z t k % 512 / 64, by omega, by omega, ?_⟩
  rw [← e, show rX z t k % 64 + 64 * (rX z t k % 512 / 64) = rX z t k % 512 by omega, h5]
  have := hk.1
  omega
def opR (z u g v : RW) : Prop := PR u v ∧ frK z u ∧ frA g v ∧ (∀ f, f ≠ 4 → f ≠ 10 → f ≠ 21 → v 77 f = g 77 f) ∧ ∀ f, f ≠ 3 → f ≠ 4 → u 1 f = z 1 f
theorem s_track {z u g v : RW} {x y p b r r' : Int} (hb : b = 0 ∨ b = 1) (hP : PR z g) (hc : (trOK z x y p b ∧ r = 1 ∧ trW z x y p = u) ∨ (¬ trOK z x y p b ∧ r = 0 ∧ z = u)) (hM : (trM g x y p b ∧ r' = 1 ∧ chI (upw (upw g 78 (6 * (8 * y + x) + p) b) 79 (6 * (8 * y + x) + p) 0) v 6) ∨ (¬ trM g x y p b ∧ r' = 0 ∧ g = v)) : r = r' ∧ opR z u g v := by
  have hP0 := hP
  obtain ⟨p1, P2, p3, p4, p5⟩ := hP
  have k1 := p4.1
  have hW := p1.1
  have hiff : trOK z x y p b ↔ trM g x y p b := by
    unfold trOK trM
    rw [hW.1, hW.2]
    by_cases hi : isT (g 77 0) (g 77 1) x y ∧ (0 ≤ p ∧ p < 6)
    · have hi1 := hi.1
      unfold isT at hi1
      have hd := rl_hd p1 P2 p4 (c := x + 8 * y) (by omega)
      rw [show hdM g (x + 8 * y) (g 77 10) = hdM g (8 * y + x) (g 77 10) by rw [show x + 8 * y = 8 * y + x by omega]] at hd
      have hl := (p1.2.2.1 (6 * (8 * y + x) + p) (by omega) (by omega)).1
      rw [show (6 * (8 * y + x) + p) / 6 = x + 8 * y by omega, show (6 * (8 * y + x) + p) % 6 = p by omega] at hl
      have h01 := (p4.2.1 (6 * (8 * y + x) + p) (by omega) (by omega)).1
      have hbz : bz (tb (z 3 (x + 8 * y)) p) = g 78 (6 * (8 * y + x) + p) := by
        by_cases q : tb (z 3 (x + 8 * y)) p
        · rw [bz_t q]; have := hl.mp q; omega
        · rw [bz_f q]; exact (Classical.byContradiction (fun w => q (hl.mpr (fun w2 => w w2.symm))))
      have hon := rl_on p1 p4 (i := 6 * (8 * y + x) + p) (by omega)
      rw [show plc (6 * (8 * y + x) + p) = x + 8 * y + 64 * p by unfold plc; omega] at hon
      have hst : stM g (g 77 4) x y p ↔ onS z (x + 8 * y + 64 * p) := by
        rw [hon]
        unfold stM stP
        exact ⟨fun ⟨s, a, b, c⟩ => ⟨s, a, b, c.2 (by omega)⟩, fun ⟨s, a, b, c⟩ => ⟨s, a, b, fun q => by omega, fun _ => c⟩⟩
      rw [hd, hbz, hst]
      exact ⟨fun q => ⟨q.1, by omega, q.2.2⟩, fun q => ⟨q.1, by omega, q.2.2⟩⟩
    · exact ⟨fun q => absurd ⟨q.1, q.2.1⟩ hi, fun q => absurd ⟨q.1, by omega⟩ hi⟩
  rcases hc with ⟨h1, h2, rfl⟩ | ⟨h1, h2, rfl⟩
  · rcases hM with ⟨m1, m2, m3⟩ | ⟨m1, _⟩
    · refine ⟨by rw [h2, m2], ?_⟩
      have hi1 := m1.1
      unfold isT at hi1
      have hp := m1.2.1
      obtain ⟨o1, o2, o3, o4, o5⟩ := h1
      obtain ⟨k1z, k2z, k3z, k4z, k5z, k6z⟩ := P2.1
      have hw3 := k2z (x + 8 * y) (by omega) (by omega)
      have hp2 := p2_lt6 (t := p) (by omega)
      -- the worlds behind it
      have f : ∀ j, j ≠ 3 → j ≠ 4 → j ≠ 63 → trW z x y p j = z j := fun j a b c => by unfold trW; rw [upw_f c, upw_f b, upw_f a]
      have f3 : ∀ c, trW z x y p 3 c = if c = x + 8 * y then ixor (z 3 (x + 8 * y)) (p2 p) else z 3 c := fun c => by
        unfold trW
        rw [upw_f (by decide), upw_f (by decide)]
        by_cases e : c = x + 8 * y
        · rw [e, upw_s, if_pos rfl]
        · rw [upw_i e, if_neg e]
      have f4 : ∀ c, trW z x y p 4 c = if c = x + 8 * y + 64 * p then 0 else z 4 c := fun c => by
        unfold trW
        rw [upw_f (by decide)]
        by_cases e : c = x + 8 * y + 64 * p
        · rw [e, upw_s, if_pos rfl]
        · rw [upw_i e, if_neg e, upw_f (by decide)]
      have f63 : trW z x y p 63 1 = 0 ∧ ∀ q, q ≠ 1 → trW z x y p 63 q = z 63 q := by
        unfold trW
        exact ⟨upw_s _ _ _ _, fun q hq => by rw [upw_i hq, upw_f (by decide), upw_f (by decide)]⟩
      have tbx : ∀ c q, 0 ≤ q → (tb (trW z x y p 3 c) q ↔ if c = x + 8 * y ∧ q = p then ¬ tb (z 3 (x + 8 * y)) p else tb (z 3 c) q) := fun c q hq => by
        rw [f3 c]
        by_cases e : c = x + 8 * y
        · rw [if_pos e, tb_xor ⟨hw3.1, by omega⟩ ⟨by omega, by omega⟩, tb_p2 (by omega) hq, e]
          by_cases e2 : q = p
          · rw [if_pos ⟨rfl, e2⟩, e2]
            exact ⟨fun w y => w ⟨fun _ => rfl, fun _ => y⟩, fun w y => w (y.mpr rfl)⟩
          · rw [if_neg (fun w => e2 w.2)]
            exact ⟨fun w => Classical.byContradiction (fun n => w ⟨fun y => absurd y n, fun y => absurd y e2⟩), fun w y => e2 (y.mp w)⟩
        · rw [if_neg e, if_neg (fun w => e w.1)]
      have hbit : ¬ tb (z 3 (x + 8 * y)) p ↔ b = 1 := by
        rcases hb with rfl | rfl
        · exact ⟨fun q => absurd (bz_f q) o4, fun q => absurd q (by decide)⟩
        · exact ⟨fun _ => rfl, fun _ q => o4 (bz_t q)⟩
      have g77 : ∀ j, 77 ≤ j → j ≠ 78 → j ≠ 79 → j ≠ 83 → v j = g j := fun j _ a b c => by rw [m3.1 j c, upw_f b, upw_f a]
      have g78 : ∀ i, v 78 i = if i = 6 * (8 * y + x) + p then b else g 78 i := fun i => by
        rw [m3.1 78 (by decide), upw_f (by decide)]
        by_cases e : i = 6 * (8 * y + x) + p
        · rw [e, upw_s, if_pos rfl]
        · rw [upw_i e, if_neg e]
      have g79 : ∀ i, v 79 i = if i = 6 * (8 * y + x) + p then 0 else g 79 i := fun i => by
        rw [m3.1 79 (by decide)]
        by_cases e : i = 6 * (8 * y + x) + p
        · rw [e, upw_s, if_pos rfl]
        · rw [upw_i e, if_neg e, upw_f (by decide)]
      have hst : ∀ s, 0 ≤ s → s < z 1 3 → z (7 + s.toNat) 0 ≠ x + 8 * y + 64 * p := fun s s1 s2 e => by
        rcases hb with rfl | rfl
        · exact o5 ⟨rfl, s, s1, s2, e⟩
        · have hg := (k5z s s1 s2).1.2.2
          rw [e, show (x + 8 * y + 64 * p) % 64 = x + 8 * y by omega, show (x + 8 * y + 64 * p) / 64 = p by omega] at hg
          exact (hbit.mpr rfl) hg
      have hck : cOK (trW z x y p) := by
        unfold cOK
        rw [f 1 (by decide) (by decide) (by decide), f 2 (by decide) (by decide) (by decide), f 5 (by decide) (by decide) (by decide)]
        refine ⟨k1z, fun c c1 c2 => ?_, fun q q1 q2 => ?_, k4z, fun s s1 s2 => ?_, fun t t1 t2 => ?_⟩
        · rw [f3 c]
          split
          · have := xor_lt (a := z 3 (x + 8 * y)) (b := p2 p) 6 (by omega) (by simpa using hw3) (by simpa using (⟨by omega, hp2.2⟩ : 0 ≤ p2 p ∧ p2 p < 64))
            simpa using this
          · exact k2z c c1 c2
        · rw [f4 q]
          have := k3z q q1 q2
          split
          · exact ⟨by omega, by omega, this.2.2⟩
          · exact this
        · rw [f (7 + s.toNat) (by omega) (by omega) (by omega)]
          have hg := k5z s s1 s2
          unfold gok at hg ⊢
          rw [f 2 (by decide) (by decide) (by decide)]
          refine ⟨⟨hg.1.1, hg.1.2.1, ?_⟩, hg.2⟩
          rw [tbx _ _ (by omega), if_neg (fun w => hst s s1 s2 (by omega))]
          exact hg.1.2.2
        · unfold tok
          rw [f (14 + t.toNat) (by omega) (by omega) (by omega), f (20 + t.toNat) (by omega) (by omega) (by omega), f (26 + t.toNat) (by omega) (by omega) (by omega)]
          exact k6z t t1 t2
      have hCu : CI (trW z x y p) := by
        refine CI_mp P2 hck (fun j _ a b => f j a b (by omega)) (fun c q c1 c2 q1 q2 ht => ?_) (fun s s1 s2 => ?_) (fun t k hk => ?_)
        · rw [tbx c q q1] at ht
          by_cases e : c = x + 8 * y ∧ q = p
          · rw [e.1, hW.1, hW.2]
            have : (x + 8 * y) % 8 = x ∧ (x + 8 * y) / 8 = y := by omega
            rw [this.1, this.2]
            exact m1.1
          · rw [if_neg e] at ht
            exact P2.2.1 c q c1 c2 q1 q2 ht
        · rw [f4, if_neg (hst s s1 s2)]
          exact (P2.2.2.1 s s1 s2).1
        · rw [tbx _ _ (by have := (heX_ok P2 hk).1; omega), if_neg (fun w => no_run P2 o3 hk w.1)]
          exact P2.2.2.2.1 t k hk
      have hRu : Rel (trW z x y p) v := by
        refine Rel_mp p1 p4 (fun j _ a b => f j a b (by omega)) g77 (fun i i1 i2 => ?_)
        rw [tbx _ _ (by omega), g78 i, f4, g79 i]
        by_cases e : i = 6 * (8 * y + x) + p
        · rw [if_pos (by omega), if_pos e, if_pos (by unfold plc; omega), if_pos e]
          refine ⟨by rw [hbit]; omega, ?_⟩
          have := (lgt_f (p := i % 6) (m := 0) (by omega) (by omega)).2.2.1
          exact (this.mpr rfl).symm
        · rw [if_neg (by omega), if_neg e, if_neg (by unfold plc; omega), if_neg e]
          exact p1.2.2.1 i i1 i2
      refine ⟨⟨hRu, hCu, wOK_0 p3 f63.1 f63.2 (f 71 (by decide) (by decide) (by decide)) (f 72 (by decide) (by decide) (by decide)), mOK_mp p4 g77 (fun i i1 i2 => ?_), kOK_0 m3.2⟩, fun j hj => f j (by omega) (by omega) (by omega), fun j hj => ?_, fun q _ _ _ => by rw [g77 77 (by decide) (by decide) (by decide) (by decide)], fun q _ _ => by rw [f 1 (by decide) (by decide) (by decide)]⟩
      · rw [g78 i, g79 i]
        have := p4.2.1 i i1 i2
        split
        · exact ⟨hb, by omega, by omega⟩
        · exact this
      · rw [m3.1 j (by omega), upw_f (by omega), upw_f (by omega)]
    · exact absurd (hiff.mp h1) m1
  · rcases hM with ⟨m1, _⟩ | ⟨m1, m2, rfl⟩
    · exact absurd (hiff.mpr m1) h1
    · exact ⟨by rw [h2, m2], hP0, frK_refl _, fun _ _ => rfl, fun _ _ _ _ => rfl, fun _ _ _ => rfl⟩
theorem lgx_n : ∀ p, p < 6 → ∀ m, m < 4 → ∀ b, b < 2 → (ixor (lgt ((p : Nat) : Int) ((m : Nat) : Int)) (p2 (if b = 0 then stt 0 (p : Int) else stt 1 (p : Int))) = lgt (p : Int) (ixor (m : Int) (p2 ((b : Nat) : Int)))) ∧ 0 ≤ ixor ((m : Nat) : Int) (p2 ((b : Nat) : Int)) ∧ ixor ((m : Nat) : Int) (p2 ((b : Nat) : Int)) ≤ 3 := by decide +kernel
theorem lgx {q m : Int} (hq : 0 ≤ q ∧ q < 576) (hm : 0 ≤ m ∧ m ≤ 3) : ixor (lgt (q / 2 % 6) m) (p2 (eoQ q)) = lgt (q / 2 % 6) (ixor m (p2 (q % 2))) ∧ 0 ≤ ixor m (p2 (q % 2)) ∧ ixor m (p2 (q % 2)) ≤ 3 := by
  have h := lgx_n (q / 2 % 6).toNat (by omega) m.toNat (by omega) (q % 2).toNat (by omega)
  rw [show (((q / 2 % 6).toNat : Nat) : Int) = q / 2 % 6 by omega, show ((m.toNat : Nat) : Int) = m by omega, show (((q % 2).toNat : Nat) : Int) = q % 2 by omega] at h
  refine ⟨?_, h.2⟩
  rw [← h.1]
  unfold eoQ
  by_cases e : q % 2 = 0
  · rw [if_pos e, if_pos (by omega)]
  · rw [if_neg e, if_neg (by omega)]
theorem s_signal {z u g v : RW} {x y p e b r r' : Int} (hb : b = 0 ∨ b = 1) (hP : PR z g) (hc : (sgOK z x y p e b ∧ r = 1 ∧ sgW z x y p e = u) ∨ (¬ sgOK z x y p e b ∧ r = 0 ∧ z = u)) (hM : (sgM g x y p e b ∧ r' = 1 ∧ chI (sgMW g (twd g x y p e)) v 6) ∨ (¬ sgM g x y p e b ∧ r' = 0 ∧ g = v)) : r = r' ∧ opR z u g v := by
  have hP0 := hP
  obtain ⟨p1, P2, p3, p4, p5⟩ := hP
  have key : lpc g x y p ∧ hsE p e → (0 ≤ x ∧ x < 8 ∧ 0 ≤ y ∧ y < 6 ∧ 0 ≤ p ∧ p ≤ 5) ∧ (hdT z (x + 8 * y) ↔ hdM g (8 * y + x) (g 77 10)) ∧ (onS z (x + 8 * y + 64 * p) ↔ stM g (g 77 4) x y p) ∧ (tb (z 4 (x + 8 * y + 64 * p)) e ↔ tb (g 79 (twd g x y p e / 2)) (twd g x y p e % 2)) := by
    intro h
    have hx := lpc_xy p4 h.1
    have ht := twd_rn p4 h
    have hd := rl_hd p1 P2 p4 (c := x + 8 * y) (by omega)
    rw [show hdM g (x + 8 * y) (g 77 10) = hdM g (8 * y + x) (g 77 10) by rw [show x + 8 * y = 8 * y + x by omega]] at hd
    have hon := rl_on p1 p4 (i := 6 * (8 * y + x) + p) (by omega)
    have hpl : plc (6 * (8 * y + x) + p) = x + 8 * y + 64 * p := by unfold plc; omega
    have hlt := rl_lt p1 (i := 6 * (8 * y + x) + p) (by omega)
    have hmk := (p4.2.1 (6 * (8 * y + x) + p) (by omega) (by omega)).2
    rw [hpl] at hon hlt
    refine ⟨hx, hd, ?_, ?_⟩
    · rw [hon]
      unfold stM stP
      exact ⟨fun ⟨s, a, b, c⟩ => ⟨s, a, b, fun q => by omega, fun _ => c⟩, fun ⟨s, a, b, c⟩ => ⟨s, a, b, c.2 (by omega)⟩⟩
    · have := lit_f ht.1 (m := g 79 (twd g x y p e / 2)) (by rw [ht.2.1]; exact hmk)
      rw [ht.2.2.1, ht.2.1] at this
      rw [hlt, ht.2.1]
      exact this
  have hiff : sgOK z x y p e b ↔ sgM g x y p e b := by
    unfold sgOK sgM
    rw [rl_tr p1 p4]
    by_cases h : lpc g x y p ∧ hsE p e
    · obtain ⟨_, a, c, d⟩ := key h
      rw [a, c, bz_c d]
      exact ⟨fun q => ⟨⟨q.1, q.2.1⟩, q.2.2⟩, fun q => ⟨q.1.1, q.1.2, q.2⟩⟩
    · exact ⟨fun q => absurd ⟨q.1, q.2.1⟩ h, fun q => absurd q.1 h⟩
  rcases hc with ⟨h1, h2, rfl⟩ | ⟨h1, h2, rfl⟩
  · rcases hM with ⟨m1, m2, m3⟩ | ⟨m1, _⟩
    · refine ⟨by rw [h2, m2], ?_⟩
      obtain ⟨hx, kd, ko, kb⟩ := key m1.1
      have ht := twd_rn p4 m1.1
      obtain ⟨o1, o2, o3, o4, o5⟩ := h1
      obtain ⟨k1z, k2z, k3z, k4z, k5z, k6z⟩ := P2.1
      have hpl : plc (6 * (8 * y + x) + p) = x + 8 * y + 64 * p := by unfold plc; omega
      have hlt := rl_lt p1 (i := 6 * (8 * y + x) + p) (by omega)
      rw [hpl, show (6 * (8 * y + x) + p) % 6 = p by omega] at hlt
      have hmk := (p4.2.1 (6 * (8 * y + x) + p) (by omega) (by omega)).2
      have hlx := lgx ht.1 (m := g 79 (6 * (8 * y + x) + p)) hmk
      rw [ht.2.1, ht.2.2.1, show (6 * (8 * y + x) + p) % 6 = p by omega] at hlx
      have f : ∀ j, j ≠ 4 → j ≠ 63 → sgW z x y p e j = z j := fun j a b => by unfold sgW; rw [upw_f b, upw_f a]
      have f4 : ∀ c, sgW z x y p e 4 c = if c = x + 8 * y + 64 * p then lgt p (ixor (g 79 (6 * (8 * y + x) + p)) (p2 (twd g x y p e % 2))) else z 4 c := fun c => by
        unfold sgW
        rw [upw_f (by decide)]
        by_cases q : c = x + 8 * y + 64 * p
        · rw [q, upw_s, if_pos rfl, hlt, hlx.1]
        · rw [upw_i q, if_neg q]
      have f63 : sgW z x y p e 63 1 = 0 ∧ ∀ q, q ≠ 1 → sgW z x y p e 63 q = z 63 q := by
        unfold sgW
        exact ⟨upw_s _ _ _ _, fun q hq => by rw [upw_i hq, upw_f (by decide)]⟩
      have g77 : ∀ j, 77 ≤ j → j ≠ 78 → j ≠ 79 → j ≠ 83 → v j = g j := fun j _ a b c => by rw [m3.1 j c]; unfold sgMW; rw [upw_f b]
      have g78 : v 78 = g 78 := by rw [m3.1 78 (by decide)]; unfold sgMW; rw [upw_f (by decide)]
      have g79 : ∀ i, v 79 i = if i = 6 * (8 * y + x) + p then ixor (g 79 (6 * (8 * y + x) + p)) (p2 (twd g x y p e % 2)) else g 79 i := fun i => by
        rw [m3.1 79 (by decide)]
        unfold sgMW
        rw [ht.2.1]
        by_cases q : i = 6 * (8 * y + x) + p
        · rw [q, upw_s, if_pos rfl]
        · rw [upw_i q, if_neg q]
      have hlr := lgt_f (p := p) (m := ixor (g 79 (6 * (8 * y + x) + p)) (p2 (twd g x y p e % 2))) (by omega) hlx.2
      have hst : ∀ s, 0 ≤ s → s < z 1 3 → z (7 + s.toNat) 0 ≠ x + 8 * y + 64 * p := fun s s1 s2 q => o4 ⟨s, s1, s2, q⟩
      have hck : cOK (sgW z x y p e) := by
        unfold cOK
        rw [f 1 (by decide) (by decide), f 2 (by decide) (by decide), f 3 (by decide) (by decide), f 5 (by decide) (by decide)]
        refine ⟨k1z, k2z, fun q q1 q2 => ?_, k4z, fun s s1 s2 => ?_, fun t t1 t2 => ?_⟩
        · rw [f4 q]
          have := k3z q q1 q2
          split
          · exact ⟨hlr.2.2.2.1, hlr.2.2.2.2, this.2.2⟩
          · exact this
        · rw [f (7 + s.toNat) (by omega) (by omega)]
          have hg := k5z s s1 s2
          unfold gok at hg ⊢
          rw [f 2 (by decide) (by decide), f 3 (by decide) (by decide)]
          exact hg
        · unfold tok
          rw [f (14 + t.toNat) (by omega) (by omega), f (20 + t.toNat) (by omega) (by omega), f (26 + t.toNat) (by omega) (by omega)]
          exact k6z t t1 t2
      have hCu : CI (sgW z x y p e) := by
        refine CI_mp P2 hck (fun j _ a b => f j b (by omega)) (fun c q c1 c2 q1 q2 ht => ?_) (fun s s1 s2 => ?_) (fun t k hk => ?_)
        · rw [f 3 (by decide) (by decide)] at ht
          exact P2.2.1 c q c1 c2 q1 q2 ht
        · rw [f4, if_neg (hst s s1 s2)]
          exact (P2.2.2.1 s s1 s2).1
        · rw [f 3 (by decide) (by decide)]
          exact P2.2.2.2.1 t k hk
      have hRu : Rel (sgW z x y p e) v := by
        refine Rel_mp p1 p4 (fun j _ a b => f j b (by omega)) g77 (fun i i1 i2 => ?_)
        rw [f 3 (by decide) (by decide), g78, f4, g79 i]
        refine ⟨(p1.2.2.1 i i1 i2).1, ?_⟩
        by_cases q : i = 6 * (8 * y + x) + p
        · rw [if_pos (by unfold plc; omega), if_pos q, show i % 6 = p by omega]
        · rw [if_neg (by unfold plc; omega), if_neg q]
          exact (p1.2.2.1 i i1 i2).2
      refine ⟨⟨hRu, hCu, wOK_0 p3 f63.1 f63.2 (f 71 (by decide) (by decide)) (f 72 (by decide) (by decide)), mOK_mp p4 g77 (fun i i1 i2 => ?_), kOK_0 m3.2⟩, fun j hj => f j (by omega) (by omega), fun j hj => ?_, fun q _ _ _ => by rw [g77 77 (by decide) (by decide) (by decide) (by decide)], fun q _ _ => by rw [f 1 (by decide) (by decide)]⟩
      · rw [g78, g79 i]
        have := p4.2.1 i i1 i2
        split
        · exact ⟨this.1, hlx.2⟩
        · exact this
      · rw [m3.1 j (by omega)]
        unfold sgMW
        rw [upw_f (by omega)]
    · exact absurd (hiff.mp h1) m1
  · rcases hM with ⟨m1, _⟩ | ⟨m1, m2, rfl⟩
    · exact absurd (hiff.mpr m1) h1
    · exact ⟨by rw [h2, m2], hP0, frK_refl _, fun _ _ => rfl, fun _ _ _ _ => rfl, fun _ _ _ => rfl⟩
