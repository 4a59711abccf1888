theorem bits_eq {a b : Int} (ha : 0 ≤ a ∧ a < 64) (hb : 0 ≤ b ∧ b < 64) (h : ∀ z, 0 ≤ z → z < 6 → (tb a z ↔ tb b z)) : a = b := by
  have : a.toNat = b.toNat := by
    apply Nat.eq_of_testBit_eq
    intro i
    by_cases hi : i < 6
    · have := h (i : Int) (by omega) (by omega)
      unfold tb at this
      rw [Int.toNat_natCast] at this
      exact Bool.eq_iff_iff.mpr this
    · have h64 : 2 ^ 6 ≤ 2 ^ i := Nat.pow_le_pow_right (by decide) (by omega)
      rw [Nat.testBit_lt_two_pow (by omega), Nat.testBit_lt_two_pow (by omega)]
  omega
def eqS (S T : Int → Prop) : Prop := ∀ z, 0 ≤ z → z < 6 → (S z ↔ T z)
noncomputable def cS (S : Int → Prop) : Int := bz (S 0) + bz (S 1) + bz (S 2) + bz (S 3) + bz (S 4) + bz (S 5)
theorem bz_le {P Q : Prop} (h : Q → P) : 0 ≤ bz Q ∧ bz Q ≤ bz P ∧ bz P ≤ 1 ∧ (bz Q = bz P → (Q ↔ P)) := by
  by_cases p : P
  · rw [bz_t p]
    by_cases q : Q
    · rw [bz_t q]; exact ⟨by decide, by decide, by decide, fun _ => ⟨fun _ => p, fun _ => q⟩⟩
    · rw [bz_f q]; exact ⟨by decide, by decide, by decide, fun e => absurd e (by decide)⟩
  · have q : ¬ Q := fun w => p (h w)
    rw [bz_f p, bz_f q]
    exact ⟨by decide, by decide, by decide, fun _ => ⟨fun w => absurd w q, fun w => absurd w p⟩⟩
theorem cS_le {S T : Int → Prop} (h : ∀ z, T z → S z) : 0 ≤ cS T ∧ (eqS T S ∨ cS T + 1 ≤ cS S) := by
  have h0 := bz_le (h 0)
  have h1 := bz_le (h 1)
  have h2 := bz_le (h 2)
  have h3 := bz_le (h 3)
  have h4 := bz_le (h 4)
  have h5 := bz_le (h 5)
  unfold cS
  refine ⟨by omega, ?_⟩
  by_cases e : bz (T 0) = bz (S 0) ∧ bz (T 1) = bz (S 1) ∧ bz (T 2) = bz (S 2) ∧ bz (T 3) = bz (S 3) ∧ bz (T 4) = bz (S 4) ∧ bz (T 5) = bz (S 5)
  · left
    intro z z1 z2
    rcases c6 ⟨z1, z2⟩ with rfl | rfl | rfl | rfl | rfl | rfl
    · exact h0.2.2.2 e.1
    · exact h1.2.2.2 e.2.1
    · exact h2.2.2.2 e.2.2.1
    · exact h3.2.2.2 e.2.2.2.1
    · exact h4.2.2.2 e.2.2.2.2.1
    · exact h5.2.2.2 e.2.2.2.2.2
  · right
    omega
theorem pss_sub {W : Int → Int → Prop} {S : Int → Prop} : ∀ (n : Nat) (z : Int), pss W S n z → S z
  | 0, _, h => h
  | n + 1, z, h => pss_sub n z h.1
theorem pss_eq {W : Int → Int → Prop} {S T : Int → Prop} (h : eqS S T) : ∀ n : Nat, eqS (pss W S n) (pss W T n)
  | 0 => h
  | n + 1 => by
    have ih := pss_eq (W := W) h n
    intro z z1 z2
    show (pss W S n z ∧ ¬ (z = (n : Int) ∧ ∀ y, 0 ≤ y → y < 6 → ¬ (W n y ∧ pss W S n y))) ↔ (pss W T n z ∧ ¬ (z = (n : Int) ∧ ∀ y, 0 ≤ y → y < 6 → ¬ (W n y ∧ pss W T n y)))
    rw [ih z z1 z2]
    have : (∀ y, 0 ≤ y → y < 6 → ¬ (W n y ∧ pss W S n y)) ↔ (∀ y, 0 ≤ y → y < 6 → ¬ (W n y ∧ pss W T n y)) := ⟨fun q y y1 y2 w => q y y1 y2 ⟨w.1, (ih y y1 y2).mpr w.2⟩, fun q y y1 y2 w => q y y1 y2 ⟨w.1, (ih y y1 y2).mp w.2⟩⟩
    rw [this]
theorem prn_up {W : Int → Int → Prop} {S : Int → Prop} {n j : Nat} (h : eqS (prn W n S (j + 1)) (prn W n S j)) : ∀ d : Nat, eqS (prn W n S (j + d)) (prn W n S j)
  | 0 => fun _ _ _ => Iff.rfl
  | d + 1 => by
    have ih := prn_up h d
    intro z z1 z2
    have a := pss_eq (W := W) ih n z z1 z2
    exact a.trans (h z z1 z2)
theorem prn_cnt {W : Int → Int → Prop} {S : Int → Prop} {n : Nat} {N : Int} (h0 : cS S ≤ N) : ∀ k : Nat, (∃ j, j < k ∧ eqS (prn W n S (j + 1)) (prn W n S j)) ∨ cS (prn W n S k) + k ≤ N
  | 0 => Or.inr (by show cS S + ((0 : Nat) : Int) ≤ N; omega)
  | k + 1 => by
    rcases prn_cnt (W := W) (n := n) h0 k with ⟨j, j1, j2⟩ | h
    · exact Or.inl ⟨j, by omega, j2⟩
    · rcases (cS_le (S := prn W n S k) (T := prn W n S (k + 1)) (fun z q => pss_sub n z q)).2 with e | e
      · exact Or.inl ⟨k, by omega, e⟩
      · exact Or.inr (by omega)
theorem prn_fix {W : Int → Int → Prop} {S : Int → Prop} {n : Nat} (hn : n ≤ 6) (h0 : ∀ z, S z → z < (n : Int)) : eqS (prn W n S n) (prn W n S 6) := by
  have hc : cS S ≤ (n : Int) := by
    have f : ∀ z : Int, (0 ≤ bz (S z) ∧ bz (S z) ≤ 1) ∧ ((n : Int) ≤ z → bz (S z) = 0) := fun z => by
      by_cases p : S z
      · rw [bz_t p]; have := h0 z p; exact ⟨by decide, fun q => by omega⟩
      · rw [bz_f p]; exact ⟨by decide, fun _ => rfl⟩
    have f0 := f 0
    have f1 := f 1
    have f2 := f 2
    have f3 := f 3
    have f4 := f 4
    have f5 := f 5
    unfold cS
    omega
  have hj : ∃ j, j ≤ n ∧ eqS (prn W n S (j + 1)) (prn W n S j) := by
    rcases prn_cnt (W := W) (n := n) hc n with ⟨j, j1, j2⟩ | h
    · exact ⟨j, by omega, j2⟩
    · have := cS_le (S := prn W n S n) (T := prn W n S (n + 1)) (fun z q => pss_sub n z q)
      rcases this.2 with e | e
      · exact ⟨n, by omega, e⟩
      · omega
  obtain ⟨j, j1, j2⟩ := hj
  have a := prn_up j2 (n - j)
  have b := prn_up j2 (6 - j)
  rw [show j + (n - j) = n by omega] at a
  rw [show j + (6 - j) = 6 by omega] at b
  exact fun z z1 z2 => (a z z1 z2).trans (b z z1 z2).symm
theorem sw_sim {z g : RW} (hR : Rel z g) (hC : CI z) (hm : mOK g) {t : Int} (ht : 0 ≤ t ∧ t < g 77 10) : swC z t ↔ swM g t := by
  obtain ⟨⟨a1, a2, a3, a4, a5, a6, a7, a8⟩, b, c⟩ := hR.2.2.2.2 t ht.1 ht.2
  have k3 := hm.2.2.1
  have k5 := hm.2.2.2.2.1 t ht.1 (by omega)
  unfold swC swM
  rw [a1, a2, a3, a4, a6]
  by_cases ho : 0 < g 93 t
  · rw [rl_due hR hC hm ht ho]
    exact ⟨fun q => ⟨by omega, by omega, q.2.2.2.2, by omega, by omega⟩, fun q => ⟨ho, by omega, by omega, by omega, q.2.2.1⟩⟩
  · exact ⟨fun q => absurd q.1 ho, fun q => by omega⟩
theorem bl_H {z g : RW} {f : Int → Int} (hP : PR z g) (hf : ∀ t, 0 ≤ t → t < z 1 4 → ok1 z t (f t)) : blH g f := by
  obtain ⟨p1, P2, p3, p4, p5⟩ := hP
  have hnt := rl_nt p1
  have k3 := p4.2.2.1
  rw [hnt] at hf
  refine ⟨fun t t1 t2 => (hf t t1 t2).1, fun v u t r hv hmv hkv t1 t2 hw => ?_⟩
  obtain ⟨f1, f2, f3⟩ := hf t t1 t2
  have hRv : Rel z v := Rel_g p4 hv p1
  have e10 : v 77 10 = g 77 10 := hv.2 10 (by decide)
  have hsw := sw_sim hRv P2 hmv (t := t) (by rw [e10]; exact ⟨t1, t2⟩)
  rcases hw with ⟨a, b, _⟩ | ⟨a, r1, b, c⟩
  · rw [b, f2 (fun q => a (hsw.mp q))]
  · obtain ⟨v', u', h1, h2, h3⟩ := f3 (hsw.mpr a)
    have hR' : Rel v' v := Rel_w hmv (fun j hj => h1 j (Or.inl hj)) hRv
    have hC' : CI v' := CI_c (fun j hj => h1 j (Or.inl hj)) P2
    have ho : 0 < v 93 t := by have := a.1; have := (hmv.2.2.2.2.1 t t1 (by omega)); omega
    have ht' : 0 ≤ t ∧ t < v 77 10 := by rw [e10]; exact ⟨t1, t2⟩
    have hs := req_sim hR' hC' hmv h2 hkv ht' ho h3 b
    have hfr := mqM_frame hmv ⟨t1, by omega⟩ hkv b
    have hfc : frC v u := ⟨hfr.1, hfr.2.1⟩
    rcases hs with ⟨s1, s2⟩ | ⟨s1, s2, s3, s4⟩
    · rw [ag_none h3 s2]
      rcases c with ⟨_, c⟩ | ⟨c, _⟩
      · exact c
      · omega
    · have hag := ag_sim hR' hC' hmv ht' ho h3 hfc s3 (fun j j1 j2 => ⟨(s4 j j1 j2).1, (s4 j j1 j2).2.1⟩)
      rcases c with ⟨c1, c2⟩ | ⟨c1, c2⟩
      · rw [c2]
        have : canG u := Classical.byContradiction (fun q => c1 ⟨s1, q⟩)
        exact (hag.2.2.mpr this).symm
      · exact bits_eq c2.1 hag.1 (fun y y1 y2 => (c2.2 y y1 y2).trans (hag.2.1 y y1 y2).symm)
theorem s_blocked {z u v : RW} {f : Int → Int} {r r' : Int} (hP : PR z z) (h1 : bS r (prn (fun t y => tb (f t) y) (z 1 4).toNat (bl0 f (z 1 4)) (z 1 4).toNat)) (h2 : frX z u) (h3 : wOK u) (hM : bS r' (prn (fun t y => tb (f t) y) (u 77 10).toNat (bl0 f (u 77 10)) 6)) (h4 : frC u v) (h5 : kOK v) : r = r' ∧ opR z u u v := by
  have hnt := rl_nt hP.1
  have k3 := hP.2.2.2.1.2.2.1
  have e : u 77 10 = z 1 4 := by rw [h2 77 (by decide), hnt]
  rw [e] at hM
  refine ⟨bits_eq h1.1 hM.1 (fun y y1 y2 => ?_), PR_end (PR_mid hP h2 h3) h4 h5, fun j hj => h2 j (by omega), fun j hj => h4.1 j (by omega) (by omega) (by omega) (by omega), fun q _ _ hq => h4.2 q hq, fun q _ _ => by rw [h2 1 (by decide)]⟩
  rw [h1.2 y y1 y2, hM.2 y y1 y2]
  exact prn_fix (by omega) (fun x q => by have := q.1; omega) y y1 y2
