theorem RelT_c {w v g h : RW} {t : Int} (hw : ∀ j, j < 63 → v j = w j) (hg : ∀ j, j ≠ 77 → j ≠ 83 → j ≠ 84 → j ≠ 95 → 77 ≤ j → h j = g j) (ht : 0 ≤ t ∧ t < 6) (hR : RelT w g t) : RelT v h t := by
  unfold RelT at *
  rw [hw (14 + t.toNat) (by omega), hw (20 + t.toNat) (by omega), hw (26 + t.toNat) (by omega), hg 85 (by decide) (by decide) (by decide) (by decide) (by decide), hg 86 (by decide) (by decide) (by decide) (by decide) (by decide), hg 87 (by decide) (by decide) (by decide) (by decide) (by decide), hg 88 (by decide) (by decide) (by decide) (by decide) (by decide), hg 89 (by decide) (by decide) (by decide) (by decide) (by decide), hg 90 (by decide) (by decide) (by decide) (by decide) (by decide), hg 91 (by decide) (by decide) (by decide) (by decide) (by decide), hg 92 (by decide) (by decide) (by decide) (by decide) (by decide), hg 93 (by decide) (by decide) (by decide) (by decide) (by decide), hg 94 (by decide) (by decide) (by decide) (by decide) (by decide)]
  exact hR
theorem Rel_c {w v g h : RW} (hw : ∀ j, j < 63 → v j = w j) (hg : ∀ j, j ≠ 77 → j ≠ 83 → j ≠ 84 → j ≠ 95 → 77 ≤ j → h j = g j) (hg2 : ∀ f, f ≠ 21 → h 77 f = g 77 f) (hn : 0 ≤ g 77 4 ∧ g 77 4 ≤ 6 ∧ 0 ≤ g 77 10 ∧ g 77 10 ≤ 6) (hR : Rel w g) : Rel v h := by
  obtain ⟨a, b, c, d, e⟩ := hR
  unfold Rel
  rw [hw 1 (by decide), hw 2 (by decide), hw 3 (by decide), hw 4 (by decide), hg2 0 (by decide), hg2 1 (by decide), hg2 4 (by decide), hg2 10 (by decide), hg2 23 (by decide), hg2 24 (by decide), hg 78 (by decide) (by decide) (by decide) (by decide) (by decide), hg 79 (by decide) (by decide) (by decide) (by decide) (by decide)]
  refine ⟨a, b, c, fun s s1 s2 => ?_, fun t t1 t2 => RelT_c hw hg ⟨t1, by omega⟩ (e t t1 t2)⟩
  have := d s s1 s2
  unfold RelS at *
  rw [hw (7 + s.toNat) (by omega), hg 80 (by decide) (by decide) (by decide) (by decide) (by decide), hg 81 (by decide) (by decide) (by decide) (by decide) (by decide), hg 82 (by decide) (by decide) (by decide) (by decide) (by decide)]
  exact this
theorem Rel_w {w v g : RW} (hm : mOK g) (hw : ∀ j, j < 63 → v j = w j) (hR : Rel w g) : Rel v g := Rel_c hw (fun _ _ _ _ _ _ => rfl) (fun _ _ => rfl) hm.2.2.1 hR
theorem Rel_g {w g h : RW} (hm : mOK g) (hg : frC g h) (hR : Rel w g) : Rel w h := Rel_c (fun _ _ => rfl) (fun j a b c d _ => hg.1 j a b c d) hg.2 hm.2.2.1 hR
theorem heX_c {w v : RW} (hw : ∀ j, j < 63 → v j = w j) {t k : Int} (h6 : w 1 4 ≤ 6) : heX v t k ↔ heX w t k := by
  unfold heX
  rw [hw 1 (by decide)]
  constructor
  · rintro ⟨h1, h2⟩
    rw [hw (14 + t.toNat) (by omega)] at h2
    exact ⟨h1, h2⟩
  · rintro ⟨h1, h2⟩
    rw [hw (14 + t.toNat) (by omega)]
    exact ⟨h1, h2⟩
theorem cOK_w {w v : RW} (h : ∀ j, j < 63 → v j = w j) (hc : cOK w) : cOK v := by
  obtain ⟨k1, k2, k3, k4, k5, k6⟩ := hc
  have e1 := h 1 (by decide)
  have e2 := h 2 (by decide)
  have e3 := h 3 (by decide)
  have e4 := h 4 (by decide)
  have e5 := h 5 (by decide)
  unfold cOK
  rw [e1, e2, e3, e4, e5]
  refine ⟨k1, k2, k3, k4, fun s s1 s2 => ?_, fun y y1 y2 => ?_⟩
  · have es := h (7 + s.toNat) (by omega)
    unfold gok
    rw [e2, e3, es]
    exact k5 s s1 s2
  · have a1 := h (14 + y.toNat) (by omega)
    have a2 := h (20 + y.toNat) (by omega)
    have a3 := h (26 + y.toNat) (by omega)
    unfold tok
    rw [a1, a2, a3]
    exact k6 y y1 y2
theorem CI_c {w v : RW} (hw : ∀ j, j < 63 → v j = w j) (hC : CI w) : CI v := by
  obtain ⟨a, b, c, d, e, f⟩ := hC
  have k4 := a.2.2.2.1
  have hx : ∀ t k, heX w t k → rX v t k = rX w t k := fun t k h => by
    unfold rX
    have := h.1
    rw [hw (20 + t.toNat) (by omega)]
  refine ⟨cOK_w hw a, ?_, ?_, ?_, ?_, ?_⟩
  · rw [hw 2 (by decide), hw 3 (by decide)]; exact b
  · rw [hw 1 (by decide), hw 4 (by decide)]
    intro s s1 s2
    rw [hw (7 + s.toNat) (by omega)]
    exact c s s1 s2
  · intro t k h
    have h2 := (heX_c hw (by omega)).mp h
    rw [hx t k h2, hw 3 (by decide)]
    exact d t k h2
  · intro t k t' k' h h' hh
    have h2 := (heX_c hw (by omega)).mp h
    have h3 := (heX_c hw (by omega)).mp h'
    rw [hx t k h2, hx t' k' h3] at hh
    exact e t k t' k' h2 h3 hh
  · intro i i1 i2 i3 t t1
    rw [hw 5 (by decide), f i i1 i2 i3 t t1]
    constructor
    · rintro ⟨k, h, hh⟩
      exact ⟨k, (heX_c hw (by omega)).mpr h, by rw [hx t k h]; exact hh⟩
    · rintro ⟨k, h, hh⟩
      have h2 := (heX_c hw (by omega)).mp h
      exact ⟨k, h2, by rw [← hx t k h2]; exact hh⟩
theorem gco_pos (lit x : Int) : 1 ≤ gco lit x := by
  unfold gco
  by_cases h : tb lit (x / 512)
  · rw [cif_t h]; (repeat' split) <;> omega
  · rw [cif_f h]; (repeat' split) <;> omega
theorem rsT_0 {v : RW} {s g x : Int} (hL : lsOK v s g) (hx : okR x) : 0 ≤ rsT v s g x := by
  unfold rsT
  unfold okR at hx
  split
  · omega
  · exact (hL.1 _ (by omega) (by omega)).1
/-- a way goes on while it isn't there, and what is to go falls -/
theorem nx_step {v : RW} {s g x b : Int} (hb : v 2 0 ≤ 8 ∧ v 2 1 ≤ 6) (hL : lsOK v s g) (hx : okR x) (hv : isT (v 2 0) (v 2 1) (x % 64 % 8) (x % 64 / 8)) (hn : ¬ x % 512 = g) (hf : rsT v s g x < 1048576) (h : nxQ v s g x b) : b ≠ -1 ∧ rsT v s g b < rsT v s g x := by
  have ho := hx
  unfold okR at ho
  have hr : rsT v s g x = v (65 + s.toNat) (x % 64 + 64 * (x / 512)) := by unfold rsT; rw [if_neg hn]
  have hee : 0 ≤ x % 64 + 64 * (x / 512) ∧ x % 64 + 64 * (x / 512) < 256 := by omega
  obtain ⟨k, t, c, hk, he, hh⟩ := hL.2.1 _ hee.1 hee.2 (by rw [← hr]; exact hf)
  have hed := edC_v he
  have hxx := nx_ex (w := v) (x := exX (x % 64 + 64 * (x / 512))) (y := x) (k := k) (by rw [exX_m.1]; omega) (by rw [exX_m.2]; omega)
  obtain ⟨_, _, _, d4, d5, d6⟩ := hed
  have hed := edC_v he
  rw [hxx.1] at d4
  rw [hxx.2.1] at d5
  rw [edC_t hed, hxx.2.2] at he
  simp only [Option.some.injEq, Prod.mk.injEq] at he
  -- the sum by piece k is at most what is to go
  have hS : nxS v s g x k ≤ rsT v s g x := by
    rw [hr]
    unfold nxS rsT
    by_cases e : nxR v x k % 512 = g
    · rw [if_pos e]
      rw [if_pos e] at he
      rcases hh with hh | ⟨b, b1, _⟩
      · omega
      · rw [← he.1] at b1; cases b1
    · rw [if_neg e]
      rw [if_neg e] at he
      rcases hh with hh | ⟨b, b1, b2, b3⟩
      · rw [← he.1] at hh; cases hh.1
      · rw [← he.1] at b1; cases b1
        omega
  rcases h with ⟨hT, _⟩ | ⟨hT, z, ⟨hb1, hz, hall⟩ | ⟨p, p1, p2, p3, p4, p5, p6, p7, p8⟩⟩
  · exact absurd hT d4
  · have := hall k hk.1 hk.2 d5
    omega
  · have h7 := p7 k hk.1 hk.2 d5
    have hxr := nxR_ok (w := v) (x := x) (p := p) hx.1 (by have := nxT_rng (w := v) (x := x) hb; omega) ⟨p1, p2⟩ p3.2
    have hg := gco_pos (v 4 (nxR v x p % 512)) (nxR v x p)
    have h0 := hxr.1.1
    rw [p4]
    refine ⟨by omega, ?_⟩
    unfold nxS at p5
    omega
theorem nx_fin {v : RW} {s g x b : Int} (hb : v 2 0 ≤ 8 ∧ v 2 1 ≤ 6) (hx : 0 ≤ x) (h : nxQ v s g x b) (hn : b ≠ -1) : rsT v s g b < 1048576 ∧ isT (v 2 0) (v 2 1) (b % 64 % 8) (b % 64 / 8) := by
  rcases h with ⟨_, h⟩ | ⟨hT, z, ⟨h, _⟩ | ⟨p, p1, p2, p3, p4, p5, p6, p7, p8⟩⟩
  · exact absurd h hn
  · exact absurd h hn
  · have hxr := nxR_ok (w := v) (x := x) (p := p) hx (by have := nxT_rng (w := v) (x := x) hb; omega) ⟨p1, p2⟩ p3.2
    have hg := gco_pos (v 4 (nxR v x p % 512)) (nxR v x p)
    unfold nxS at p5
    rw [p4]
    refine ⟨by omega, ?_⟩
    rw [hxr.2.1]
    exact acr_val (by omega) hT
/-- a way that isn't there yet is short -/
theorem ch_len {v u : RW} {s g x0 c : Int} (hb : v 2 0 ≤ 8 ∧ v 2 1 ≤ 6) (hL : lsOK v s g) (hx0 : okR x0) (hc : ∀ j, 0 ≤ j → j < c → okR (u 74 j) ∧ nxQ v s g (prv u x0 j) (u 74 j)) (hn : ∀ j, 0 ≤ j → j < c → ¬ u 74 j % 512 = g) : c ≤ 256 := by
  have ok : ∀ j, 0 ≤ j → j < c → rsT v s g (u 74 j) < 1048576 ∧ isT (v 2 0) (v 2 1) (u 74 j % 64 % 8) (u 74 j % 64 / 8) := fun j j1 j2 => by
    have h := hc j j1 j2
    have h0 := h.1.1
    refine nx_fin hb ?_ h.2 (by omega)
    unfold prv
    split
    · exact hx0.1
    · exact (hc (j - 1) (by omega) (by omega)).1.1
  have key : ∀ n : Nat, (n : Int) < c → gRk 256 (v (65 + s.toNat)) (rsT v s g (u 74 n)) + n < 256 := by
    intro n
    induction n with
    | zero =>
      intro h
      have h1 := ok 0 (by omega) h
      have h2 := hc 0 (by omega) h
      have ho := h2.1
      unfold okR at ho
      have hr : rsT v s g (u 74 0) = v (65 + s.toNat) (u 74 0 % 64 + 64 * (u 74 0 / 512)) := by unfold rsT; rw [if_neg (hn 0 (by omega) h)]
      have h3 := gRk_lt (n := 256) (f := v (65 + s.toNat)) (b := u 74 0 % 64 + 64 * (u 74 0 / 512)) (v := 1048576) (by omega) (by omega) (by rw [← hr]; exact h1.1)
      have h4 := gRk_le 256 (v (65 + s.toNat)) 1048576
      rw [← hr] at h3
      show gRk 256 (v (65 + s.toNat)) (rsT v s g (u 74 0)) + 0 < 256
      omega
    | succ n ih =>
      intro h
      have ih := ih (by omega)
      have h1 := ok n (by omega) (by omega)
      have h2 := hc n (by omega) (by omega)
      have h3 := hc ((n + 1 : Nat) : Int) (by omega) h
      have hp : prv u x0 ((n + 1 : Nat) : Int) = u 74 n := by unfold prv; rw [if_neg (by omega)]; congr 1; omega
      rw [hp] at h3
      have h4 := nx_step hb hL h2.1 h1.2 (hn n (by omega) (by omega)) h1.1 h3.2
      have ho := h3.1
      unfold okR at ho
      have hr : rsT v s g (u 74 ((n + 1 : Nat) : Int)) = v (65 + s.toNat) (u 74 ((n + 1 : Nat) : Int) % 64 + 64 * (u 74 ((n + 1 : Nat) : Int) / 512)) := by unfold rsT; rw [if_neg (hn _ (by omega) h)]
      have h5 := gRk_lt (n := 256) (f := v (65 + s.toNat)) (b := u 74 ((n + 1 : Nat) : Int) % 64 + 64 * (u 74 ((n + 1 : Nat) : Int) / 512)) (v := rsT v s g (u 74 n)) (by omega) (by omega) (by rw [← hr]; exact h4.2)
      rw [← hr] at h5
      omega
  by_cases e : c ≤ 256
  · exact e
  · have := key 256 (by omega)
    omega
/-- the request is the same on either side -/
theorem req_sim {w g u h : RW} {t r r' : Int} (hR : Rel w g) (hC : CI w) (hm : mOK g) (hw : wOK w) (hk : kOK g) (ht : 0 ≤ t ∧ t < g 77 10) (ho : 0 < g 93 t) (hq : mqP w u t r) (hM : mqM g h t r') :
    (r' = 0 ∧ u 73 2 = 0) ∨ (r' = 1 ∧ 1 ≤ u 73 2 ∧ h 77 21 = u 73 2 ∧ ∀ j, 0 ≤ j → j < u 73 2 → u 74 j = rn (h 95 j) ∧ (0 ≤ h 95 j ∧ h 95 j < 576) ∧ ¬ g 78 (h 95 j / 2) = 0) := by
  obtain ⟨hg1, hg2, hg3, hg4⟩ := rl_gk hR hC ht ho
  have hT := hR.2.2.2.2 t ht.1 ht.2
  have k3 := hm.2.2.1
  have k5 := hm.2.2.2.2.1 t ht.1 (by omega)
  obtain ⟨v, u1, q1, q2, q3, q4⟩ := hq
  obtain ⟨v', m1, m2, m3⟩ := hM
  rw [hg3] at q1 q2
  have hsp := hR.2.2.2.1 (gMt g t) hg4.1 hg4.2
  have hln := wOK_ln (w := w) (v := v) (s := gMt g t) (by rw [rl_ns hR]; exact hg4) (by rw [rl_ns hR]; omega) hw q1
  have hfl := lnP_frame q1
  rw [hsp.1] at q1 q2 hln
  have hwv : ∀ j, j < 63 → v j = w j := fun j hj => hfl j (by omega) (by omega) (by omega) (by omega)
  have hmz : mOK (upw g 77 21 0) := mOK_c (fun j j1 _ _ _ => upw_f j1) (fun f hf => upw_i hf) hm
  have hkz : kOK (upw g 77 21 0) := kOK_c hm (upw_i (by decide)) (upw_i (by decide)) (upw_f (by decide)) (upw_f (by decide)) (upw_f (by decide)) (upw_f (by decide)) (upw_f (by decide)) hk
  obtain ⟨c1, c2, c3⟩ := msP_ok hmz ⟨hg4.1, by omega⟩ hkz m1
  have hgv : frC g v' := ⟨fun j j1 j2 j3 j4 => by rw [c1 j j2 j3, upw_f j1], fun f hf => by rw [c1 77 (by decide) (by decide), upw_i hf]⟩
  have hmv : mOK v' := mOK_c hgv.1 hgv.2 hm
  have hRv : Rel v v' := Rel_g hm hgv (Rel_w hm hwv hR)
  have hCv : CI v := CI_c hwv hC
  have e80 : v' 80 = g 80 := hgv.1 80 (by decide) (by decide) (by decide) (by decide)
  have e78 : v' 78 = g 78 := hgv.1 78 (by decide) (by decide) (by decide) (by decide)
  have e79 : v' 79 = g 79 := hgv.1 79 (by decide) (by decide) (by decide) (by decide)
  have hs' : 0 ≤ gMt g t ∧ gMt g t < v' 77 4 := by rw [hgv.2 4 (by decide)]; exact hg4
  have hLv : lsOK v (gMt g t) (plc (v' 80 (gMt g t))) := by rw [e80]; exact hln.2
  have hq0 := rl_row hm (t := t) (k := g 86 t - 1) ⟨ht, by omega, by omega⟩
  rw [show 300 * t + (g 86 t - 1) = 300 * t + g 86 t - 1 by omega] at hq0
  have hx0 : w (20 + t.toNat) (w (14 + t.toNat) 1 - 1) = rn (g 85 (300 * t + g 86 t - 1)) := by rw [hT.1.1, hT.2.1 _ (by omega) (by omega)]; congr 2; omega
  rw [hx0] at q2
  obtain ⟨a1, a2, a3, a4, a5⟩ := q2
  obtain ⟨⟨⟨f1, f2⟩, _, b3, b4⟩, b5, b6⟩ := m3
  have hb : v 2 0 ≤ 8 ∧ v 2 1 ≤ 6 := by have := hCv.1.1; omega
  -- step by step
  have ch : ∀ n : Nat, (n : Int) < u1 73 2 → (n : Int) < h 77 21 → u1 74 n = rn (h 95 n) ∧ ¬ g 78 (h 95 n / 2) = 0 := by
    intro n
    induction n with
    | zero =>
      intro h1 h2
      have x1 := (a3 0 (by omega) h1).2
      have x2 := (b3 0 (by omega) h2).2
      unfold prv at x1
      unfold prM at x2
      rw [if_pos rfl] at x1 x2
      rw [← e80] at x1
      have x0 := (a3 0 (by omega) h1).1.1
      rcases next_sim hRv hCv hmv hs' hLv c3 hq0 x1 x2 with y | y
      · omega
      · rw [e78] at y; exact ⟨y.2.1, y.2.2.1⟩
    | succ n ih =>
      intro h1 h2
      have ih := ih (by omega) (by omega)
      have x1 := (a3 ((n + 1 : Nat) : Int) (by omega) h1).2
      have x2 := (b3 ((n + 1 : Nat) : Int) (by omega) h2).2
      unfold prv at x1
      unfold prM at x2
      rw [if_neg (by omega), show ((n + 1 : Nat) : Int) - 1 = n by omega] at x1 x2
      rw [ih.1, ← e80] at x1
      have x0 := (a3 ((n + 1 : Nat) : Int) (by omega) h1).1.1
      rcases next_sim hRv hCv hmv hs' hLv c3 (b3 n (by omega) (by omega)).1 x1 x2 with y | y
      · omega
      · rw [e78] at y; exact ⟨y.2.1, y.2.2.1⟩
  -- where each stands before its step
  have pr : ∀ n : Int, 0 ≤ n → n ≤ u1 73 2 → n ≤ h 77 21 → prv u1 (rn (g 85 (300 * t + g 86 t - 1))) n = rn (prM h (g 85 (300 * t + g 86 t - 1)) n) ∧ 0 ≤ prM h (g 85 (300 * t + g 86 t - 1)) n ∧ prM h (g 85 (300 * t + g 86 t - 1)) n < 576 := by
    intro n n0 n1 n2
    unfold prv prM
    by_cases e : n = 0
    · rw [if_pos e, if_pos e]; exact ⟨rfl, hq0⟩
    · rw [if_neg e, if_neg e]
      have := ch (n - 1).toNat (by omega) (by omega)
      rw [show (((n - 1).toNat : Nat) : Int) = n - 1 by omega] at this
      exact ⟨this.1, (b3 (n - 1) (by omega) (by omega)).1⟩
  have en : ∀ j, 0 ≤ j → j < u1 73 2 → j < h 77 21 → (enC v (plc (g 80 (gMt g t))) (u1 74 j) ↔ enM v' (gMt g t) (h 95 j)) := by
    intro j j0 j1 j2
    have c := ch j.toNat (by omega) (by omega)
    rw [show ((j.toNat : Nat) : Int) = j by omega] at c
    have hr := (b3 j j0 j2).1
    have k4 := hm.2.2.2.1 (gMt g t) hg4.1 (by omega)
    have hmk := (hm.2.1 (h 95 j / 2) (by omega) (by omega)).2
    unfold enC enM
    rw [c.1, (rn_f hr).2.2.1, (rn_f hr).2.2.2.1, hwv 4 (by decide), rl_lt hR (by omega), lit_f hr hmk, e80, e79]
    constructor
    · rintro (y | y)
      · exact Or.inl (plc_inj (by omega) (by omega) y)
      · exact Or.inr y
    · rintro (y | y)
      · exact Or.inl (by rw [y])
      · exact Or.inr y
  have short : (∀ j, 0 ≤ j → j < u1 73 2 → ¬ enC v (plc (g 80 (gMt g t))) (u1 74 j)) → u1 73 2 ≤ 256 := fun hn => ch_len hb hln.2 (rn_ok hq0) a3 (fun j j1 j2 z => hn j j1 j2 (Or.inl z))
  have hcm : u1 73 2 = h 77 21 := by
    by_cases l1 : u1 73 2 < h 77 21
    · exfalso
      rcases a5 with ⟨y1, y2⟩ | ⟨y1, y2 | y2⟩
      · exact b4 (u1 73 2 - 1) (by omega) (by omega) ((en _ (by omega) (by omega) (by omega)).mp y2)
      · have p := pr (u1 73 2) (by omega) (by omega) (by omega)
        rw [p.1, ← e80] at y2
        have x2 := b3 (u1 73 2) (by omega) l1
        rcases next_sim hRv hCv hmv hs' hLv c3 p.2 y2 x2.2 with z | z
        · omega
        · have := (rn_f z.1).2.2.2.2.1; omega
      · have := short y1; omega
    · by_cases l2 : h 77 21 < u1 73 2
      · exfalso
        rcases b6 with ⟨_, y1, y2 | y2⟩ | ⟨_, y1, y2⟩
        · exact a4 (h 77 21 - 1) (by omega) (by omega) ((en _ (by omega) (by omega) (by omega)).mpr y2)
        · omega
        · have p := pr (h 77 21) (by omega) (by omega) (by omega)
          have x1 := a3 (h 77 21) (by omega) l2
          have x0 := x1.1.1
          rw [p.1, ← e80] at x1
          rcases next_sim hRv hCv hmv hs' hLv c3 p.2 x1.2 y2 with z | z
          · omega
          · omega
      · omega
  rw [q4 73 (by decide), q4 74 (by decide)]
  rcases b6 with ⟨y0, y1, y2⟩ | ⟨y0, y1, y2⟩
  · refine Or.inr ⟨y0, by omega, hcm.symm, fun j j1 j2 => ?_⟩
    have c := ch j.toNat (by omega) (by omega)
    rw [show ((j.toNat : Nat) : Int) = j by omega] at c
    exact ⟨c.1, (b3 j j1 (by omega)).1, c.2⟩
  · refine Or.inl ⟨y0, ?_⟩
    by_cases e : u1 73 2 = 0
    · exact e
    · exfalso
      have hne : ¬ enC v (plc (g 80 (gMt g t))) (u1 74 (u1 73 2 - 1)) := fun z => y1 (by omega) (by rw [← hcm]; exact (en _ (by omega) (by omega) (by omega)).mp z)
      have x1 := a3 (u1 73 2 - 1) (by omega) (by omega)
      have x0 := x1.1.1
      have xf := nx_fin hb (by unfold prv; split; · exact (rn_ok hq0).1
                               · exact (a3 _ (by omega) (by omega)).1.1) x1.2 (by omega)
      have p := pr (u1 73 2) (by omega) (by omega) (by omega)
      have hpv : prv u1 (rn (g 85 (300 * t + g 86 t - 1))) (u1 73 2) = u1 74 (u1 73 2 - 1) := by unfold prv; rw [if_neg e]
      -- the class goes on where it isn't there
      rcases a5 with ⟨z1, z2⟩ | ⟨z1, z2 | z2⟩
      · exact hne z2
      · rw [hpv] at z2
        exact (nx_step hb hln.2 x1.1 xf.2 (fun z => hne (Or.inl z)) xf.1 z2).1 rfl
      · have := short z1; omega
