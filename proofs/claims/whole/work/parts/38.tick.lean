theorem dX_tick_0 : decode cX_tick 0 = .ok (.iload_n 1, 1) := by decide +kernel
theorem dX_tick_1 : decode cX_tick 1 = .ok (.ifCond .lt 9, 3) := by decide +kernel
theorem dX_tick_4 : decode cX_tick 4 = .ok (.iload_n 1, 1) := by decide +kernel
theorem dX_tick_5 : decode cX_tick 5 = .ok (.bipush 20, 2) := by decide +kernel
theorem dX_tick_7 : decode cX_tick 7 = .ok (.if_icmp .le 5, 3) := by decide +kernel
theorem dX_tick_10 : decode cX_tick 10 = .ok (.iconst (-1), 1) := by decide +kernel
theorem dX_tick_11 : decode cX_tick 11 = .ok (.ireturn, 1) := by decide +kernel
theorem dX_tick_12 : decode cX_tick 12 = .ok (.iconst 0, 1) := by decide +kernel
theorem dX_tick_13 : decode cX_tick 13 = .ok (.istore_n 2, 1) := by decide +kernel
theorem dX_tick_14 : decode cX_tick 14 = .ok (.iconst 0, 1) := by decide +kernel
theorem dX_tick_15 : decode cX_tick 15 = .ok (.istore_n 3, 1) := by decide +kernel
theorem dX_tick_16 : decode cX_tick 16 = .ok (.iload_n 3, 1) := by decide +kernel
theorem dX_tick_17 : decode cX_tick 17 = .ok (.iload_n 1, 1) := by decide +kernel
theorem dX_tick_18 : decode cX_tick 18 = .ok (.if_icmp .ge 56, 3) := by decide +kernel
theorem dX_tick_21 : decode cX_tick 21 = .ok (.aload_n 0, 1) := by decide +kernel
theorem dX_tick_22 : decode cX_tick 22 = .ok (.invokevirtual 175, 3) := by decide +kernel
theorem dX_tick_25 : decode cX_tick 25 = .ok (.iconst 0, 1) := by decide +kernel
theorem dX_tick_26 : decode cX_tick 26 = .ok (.istore 4, 2) := by decide +kernel
theorem dX_tick_28 : decode cX_tick 28 = .ok (.iload 4, 2) := by decide +kernel
theorem dX_tick_30 : decode cX_tick 30 = .ok (.aload_n 0, 1) := by decide +kernel
theorem dX_tick_31 : decode cX_tick 31 = .ok (.getfield 41, 3) := by decide +kernel
theorem dX_tick_34 : decode cX_tick 34 = .ok (.getfield 115, 3) := by decide +kernel
theorem dX_tick_37 : decode cX_tick 37 = .ok (.if_icmp .ge 18, 3) := by decide +kernel
theorem dX_tick_40 : decode cX_tick 40 = .ok (.iload_n 2, 1) := by decide +kernel
theorem dX_tick_41 : decode cX_tick 41 = .ok (.aload_n 0, 1) := by decide +kernel
theorem dX_tick_42 : decode cX_tick 42 = .ok (.iload 4, 2) := by decide +kernel
theorem dX_tick_44 : decode cX_tick 44 = .ok (.invokevirtual 178, 3) := by decide +kernel
theorem dX_tick_47 : decode cX_tick 47 = .ok (.iadd, 1) := by decide +kernel
theorem dX_tick_48 : decode cX_tick 48 = .ok (.istore_n 2, 1) := by decide +kernel
theorem dX_tick_49 : decode cX_tick 49 = .ok (.iinc 4 1, 3) := by decide +kernel
theorem dX_tick_52 : decode cX_tick 52 = .ok (.goto (-24), 3) := by decide +kernel
theorem dX_tick_55 : decode cX_tick 55 = .ok (.aload_n 0, 1) := by decide +kernel
theorem dX_tick_56 : decode cX_tick 56 = .ok (.getfield 41, 3) := by decide +kernel
theorem dX_tick_59 : decode cX_tick 59 = .ok (.dup, 1) := by decide +kernel
theorem dX_tick_60 : decode cX_tick 60 = .ok (.getfield 181, 3) := by decide +kernel
theorem dX_tick_63 : decode cX_tick 63 = .ok (.iconst 1, 1) := by decide +kernel
theorem dX_tick_64 : decode cX_tick 64 = .ok (.iadd, 1) := by decide +kernel
theorem dX_tick_65 : decode cX_tick 65 = .ok (.putfield 181, 3) := by decide +kernel
theorem dX_tick_68 : decode cX_tick 68 = .ok (.iinc 3 1, 3) := by decide +kernel
theorem dX_tick_71 : decode cX_tick 71 = .ok (.goto (-55), 3) := by decide +kernel
theorem dX_tick_74 : decode cX_tick 74 = .ok (.iload_n 2, 1) := by decide +kernel
theorem dX_tick_75 : decode cX_tick 75 = .ok (.ireturn, 1) := by decide +kernel
theorem lmX_178 : Cond.methodLink R_X 178 yX_advance ∈ bigW := bw 439 (by decide +kernel) rfl
theorem lmX_175 : Cond.methodLink R_X 175 yX_growCargo ∈ bigW := bw 430 (by decide +kernel) rfl
theorem miX_advance : MI yX_advance cX_advance 4 (some .int) 1 := ⟨bw 442 (by decide +kernel) rfl, bw 39 (by decide +kernel) rfl, ⟨by decide +kernel, by decide +kernel⟩, by decide +kernel, by decide⟩
theorem mvX_advance : MV yX_advance := ⟨bw 441 (by decide +kernel) rfl, bw 1 (by decide +kernel) rfl⟩
theorem miX_growCargo : MI yX_growCargo cX_growCargo 2 none 0 := ⟨bw 433 (by decide +kernel) rfl, bw 39 (by decide +kernel) rfl, ⟨by decide +kernel, by decide +kernel⟩, by decide +kernel, by decide⟩
theorem mvX_growCargo : MV yX_growCargo := ⟨bw 432 (by decide +kernel) rfl, bw 0 (by decide +kernel) rfl⟩
def sq (P : Nat → RW → RW → Int → Prop) (w u : RW) (n : Nat) (r : Int) : Prop := ∃ (W : Nat → RW) (R : Nat → Int), W 0 = w ∧ R 0 = 0 ∧ W n = u ∧ R n = r ∧ ∀ i, i < n → P i (W i) (W (i + 1)) (R (i + 1) - R i)
theorem sq_0 {P : Nat → RW → RW → Int → Prop} {w : RW} : sq P w w 0 0 := ⟨fun _ => w, fun _ => 0, rfl, rfl, rfl, rfl, fun i h => by omega⟩
theorem sq_s {P : Nat → RW → RW → Int → Prop} {w v u : RW} {n : Nat} {r1 r2 : Int} (h : sq P w v n r1) (hp : P n v u r2) : sq P w u (n + 1) (r1 + r2) := by
  obtain ⟨W, R, h1, h2, h3, h4, h5⟩ := h
  refine ⟨fun i => if i ≤ n then W i else u, fun i => if i ≤ n then R i else r1 + r2, ?_, ?_, ?_, ?_, fun i hi => ?_⟩
  · show (if 0 ≤ n then W 0 else u) = w
    rw [if_pos (by omega), h1]
  · show (if 0 ≤ n then R 0 else r1 + r2) = 0
    rw [if_pos (by omega), h2]
  · show (if n + 1 ≤ n then W (n + 1) else u) = u
    rw [if_neg (by omega)]
  · show (if n + 1 ≤ n then R (n + 1) else r1 + r2) = _
    rw [if_neg (by omega)]
  · show P i (if i ≤ n then W i else u) (if i + 1 ≤ n then W (i + 1) else u) ((if i + 1 ≤ n then R (i + 1) else r1 + r2) - (if i ≤ n then R i else r1 + r2))
    by_cases e : i < n
    · rw [if_pos (by omega), if_pos (by omega), if_pos (by omega), if_pos (by omega)]
      exact h5 i e
    · have e2 : i = n := by omega
      subst e2
      rw [if_pos (by omega), if_neg (by omega), if_neg (by omega), if_pos (by omega), h3, h4, show r1 + r2 - r1 = r2 by omega]
      exact hp
def aP : Nat → RW → RW → Int → Prop := fun i a b r => advC a b (i : Int) r
/-- one tick of the class -/
def tsC (w u : RW) (r : Int) : Prop := ∃ v x, grI w v (w 1 3) ∧ sq aP v x (v 1 4).toNat r ∧ upw x 1 7 (x 1 7 + 1) = u
def tP : Nat → RW → RW → Int → Prop := fun _ a b r => tsC a b r
def frK (w u : RW) : Prop := ∀ j, (31 < j ∧ j < 63) ∨ 77 ≤ j → u j = w j
theorem frK_refl (w : RW) : frK w w := fun _ _ => rfl
theorem frK_trans {w v u : RW} (h : frK w v) (h2 : frK v u) : frK w u := fun j hj => by rw [h2 j hj, h j hj]
theorem xZ_fr {v : RW} {t : Int} (ht : 0 ≤ t ∧ t < 6) : frK v (xZ v t) := by
  intro j hj
  have h1 : xV v t j = v j := by unfold xV; rw [xmK_f (by omega) (by omega) (by omega), upw_f (by omega)]
  unfold xZ
  by_cases e : duC (xV v t) t ∧ xV v t (14 + t.toNat) 1 - xV v t (14 + t.toNat) 2 = 0
  · rw [wif_t e, upw_f (by omega), upw_f (by omega), h1]
  · rw [wif_f e, h1]
theorem adv_fr {w u : RW} (hC : CI w) {t r : Int} (ht : 0 ≤ t ∧ t < w 1 4) (h : advC w u t r) : frK w u := by
  have k4 := hC.1.2.2.2.1
  obtain ⟨t1, t2, t3, t4, t5⟩ := hC.1.2.2.2.2.2 t ht.1 ht.2
  rcases h with ⟨_, _, rfl⟩ | ⟨h1, h2, _, rfl⟩ | ⟨h1, h2, v, hv, _, rfl⟩
  · exact frK_refl _
  · have hg : 0 ≤ gTr w t ∧ gTr w t < w 1 3 := t5 _ (by omega) (by omega)
    obtain ⟨v1, _⟩ := ldX_v (w := w) (t := t) ⟨ht.1, by omega⟩ ⟨hg.1, by omega⟩
    exact fun j hj => v1 j (by omega) (by omega) (by omega)
  · refine frK_trans (v := v) ?_ (xZ_fr ⟨ht.1, by omega⟩)
    rcases hv with ⟨_, rfl⟩ | ⟨_, u, f, hq, ⟨_, rfl⟩ | ⟨rfl, u2, h2, h3⟩⟩
    · exact frK_refl _
    · exact fun j hj => (mq_wish hC ht h1 hq).1 j (by omega)
    · exact fun j hj => by rw [h3.1 j (by omega) (by omega), h2.1 j (by omega), (mq_wish hC ht h1 hq).1 j (by omega)]
/-- the trains' steps within one tick -/
def taI (v x : RW) (t r : Int) : Prop := sq aP v x t.toNat r ∧ CI x ∧ wOK x ∧ frK v x ∧ (∀ f, f ≠ 6 → x 1 f = v 1 f) ∧ (v 1 6 ≤ x 1 6 ∧ x 1 6 ≤ v 1 6 + 100 * t) ∧ 0 ≤ r ∧ r ≤ 3 * t
theorem taI_s {v x y : RW} {t r r2 : Int} (h0 : 0 ≤ t) (ht : t < v 1 4) (h : taI v x t r) (ha : advC x y t r2) : taI v y (t + 1) (r + r2) := by
  obtain ⟨a, b, c, d, e, f, g⟩ := h
  have htx : 0 ≤ t ∧ t < x 1 4 := by rw [e 4 (by decide)]; exact ⟨h0, ht⟩
  obtain ⟨p1, p2, p3, p4, p5⟩ := CI_adv b c htx ha
  refine ⟨?_, p1, p2, frK_trans d (adv_fr b htx ha), fun q hq => by rw [p3 q hq, e q hq], by omega, by omega⟩
  rw [show (t + 1).toNat = t.toNat + 1 by omega]
  refine sq_s a ?_
  show advC x y ((t.toNat : Nat) : Int) r2
  rw [show ((t.toNat : Nat) : Int) = t by omega]
  exact ha
theorem gr_sum {w v : RW} (hC : CI w) (h : grI w v (w 1 3)) : w 1 5 ≤ v 1 5 ∧ v 1 5 ≤ w 1 5 + 300 := by
  have k4 := hC.1.2.2.2.1
  have hs := gSum_rng (w := w) (n := (w 1 3).toNat) (fun s s1 s2 => by have := (hC.1.2.2.2.2.1 s s1 (by omega)).2; omega)
  rw [h.2.1.1]
  omega
theorem gr_fr {w v : RW} (hC : CI w) (h : grI w v (w 1 3)) : frK w v := fun j hj => h.1 j (by omega) (fun s s1 s2 => by have := hC.1.2.2.2.1; omega)
theorem CI_17 {w : RW} {z : Int} (hC : CI w) (hw : wOK w) : CI (upw w 1 7 z) ∧ wOK (upw w 1 7 z) := by
  have f : ∀ j, j ≠ 1 → upw w 1 7 z j = w j := fun j hj => upw_f hj
  have n3 : upw w 1 7 z 1 3 = w 1 3 := upw_i (by decide)
  have n4 : upw w 1 7 z 1 4 = w 1 4 := upw_i (by decide)
  have k4 := hC.1.2.2.2.1
  have hk : cOK (upw w 1 7 z) := by
    obtain ⟨k1, k2, k3, k4, k5, k6⟩ := hC.1
    unfold cOK
    rw [f 2 (by decide), f 3 (by decide), f 4 (by decide), f 5 (by decide), n3, n4]
    refine ⟨k1, k2, k3, k4, fun s s1 s2 => ?_, fun y y1 y2 => ?_⟩
    · unfold gok
      rw [f 2 (by decide), f 3 (by decide), f (7 + s.toNat) (by omega)]
      exact k5 s s1 s2
    · unfold tok
      rw [f (14 + y.toNat) (by omega), f (20 + y.toNat) (by omega), f (26 + y.toNat) (by omega)]
      exact k6 y y1 y2
  exact ⟨CI_upd hC hk (f 2 (by decide)) (f 3 (by decide)) (f 4 (by decide)) (f 5 (by decide)) n3 n4 (fun s s1 s2 => by rw [f (7 + s.toNat) (by omega)]) (fun y y1 y2 => ⟨by rw [f (14 + y.toNat) (by omega)], f (20 + y.toNat) (by omega)⟩), wOK_upd hw (by omega) (fun j j1 j2 => f j (by omega)) (f 2 (by decide)) (f 3 (by decide)) (f 4 (by decide)) n3 (fun s s1 s2 => by rw [f (7 + s.toNat) (by omega)])⟩
def tkI (w u : RW) (i m : Int) : Prop := sq tP w u i.toNat m ∧ CI u ∧ wOK u ∧ frK w u ∧ (w 1 5 ≤ u 1 5 ∧ u 1 5 ≤ w 1 5 + 300 * i) ∧ (w 1 6 ≤ u 1 6 ∧ u 1 6 ≤ w 1 6 + 600 * i) ∧ u 1 7 = w 1 7 + i ∧ 0 ≤ m ∧ m ≤ 18 * i
theorem tkI_s {w u v x : RW} {i m r : Int} (h0 : 0 ≤ i) (h : tkI w u i m) (hg : grI u v (u 1 3)) (ht : taI v x (v 1 4) r) : tkI w (upw x 1 7 (x 1 7 + 1)) (i + 1) (m + r) := by
  obtain ⟨a, b, c, d, e, f, g, g2⟩ := h
  obtain ⟨a', b', c', d', e', f', g'⟩ := ht
  have hs := gr_sum b hg
  have hv := CI_gr b c hg
  have k4 := hv.1.1.2.2.2.1
  have hz := CI_17 (z := x 1 7 + 1) b' c'
  have n5 : upw x 1 7 (x 1 7 + 1) 1 5 = v 1 5 := by rw [upw_i (by decide)]; exact e' 5 (by decide)
  have n6 : upw x 1 7 (x 1 7 + 1) 1 6 = x 1 6 := upw_i (by decide)
  have n7 : upw x 1 7 (x 1 7 + 1) 1 7 = x 1 7 + 1 := upw_s _ _ _ _
  have m6 : v 1 6 = u 1 6 := hg.2.1.2 6 (by decide)
  have m7 : v 1 7 = u 1 7 := hg.2.1.2 7 (by decide)
  have m7x : x 1 7 = v 1 7 := e' 7 (by decide)
  refine ⟨?_, hz.1, hz.2, frK_trans (frK_trans (frK_trans d (gr_fr b hg)) d') (fun j hj => upw_f (by omega)), by rw [n5]; omega, by rw [n6]; omega, by rw [n7]; omega, by omega⟩
  rw [show (i + 1).toNat = i.toNat + 1 by omega]
  exact sq_s a ⟨v, x, hg, a', rfl⟩
theorem lpX_tickT {G : vG} {X : vX} {Q : State → Prop} {w : RW} {n : Int} (hn : 0 ≤ n ∧ n ≤ 20) (hb : (0 ≤ w 1 5 ∧ w 1 5 ≤ 500000000) ∧ (0 ≤ w 1 6 ∧ w 1 6 ≤ 500000000) ∧ 0 ≤ w 1 7 ∧ w 1 7 ≤ 500000000) {u0 v : RW} {i m0 : Int} (hi : 0 ≤ i ∧ i < n) (hu : tkI w u0 i m0) (hg : grI u0 v (u0 1 3)) (F : FX G X cX_tick yX_tick.cls 5 6) (K : ∀ (r t : Int) (x : RW), taI v x (v 1 4) r → V G X 5 Q 55 [some (.inr 0), some (.inl n), some (.inl (m0 + r)), some (.inl i), some (.inl t)] [] x) : ∀ (m : Nat) (t r : Int) (x : RW), v 1 4 - t < m → (0 ≤ t) → (t ≤ v 1 4) → (taI v x t r) → V G X 5 Q 28 [some (.inr 0), some (.inl n), some (.inl (m0 + r)), some (.inl i), some (.inl t)] [] x := by
  have hcv := CI_gr hu.2.1 hu.2.2.1 hg
  have k4 := hcv.1.1.2.2.2.1
  have hu6 := hu.2.2.2.2.2.1
  have m6 : v 1 6 = u0 1 6 := hg.2.1.2 6 (by decide)
  have hm0 := hu.2.2.2.2.2.2.2
  intro m
  induction m with
  | zero => intro t r x hm0 h1 h2 hI; omega
  | succ m ih =>
    intro t r x hm0 h1 h2 hI
    have e4 : x 1 4 = v 1 4 := hI.2.2.2.2.1 4 (by decide)
    have x6 := hI.2.2.2.2.2.1
    have xr := hI.2.2.2.2.2.2
    refine V_iload F dX_tick_28 rfl ?_
    refine V_aload_n (i := 0) F dX_tick_30 rfl rfl ?_
    refine V_getr (ci := 6) (C := R_X) (T := T_X) (N := 5) F dX_tick_31 (by first | rfl | assumption) rfl (j := 0) (by decide) rfl lfX_41 ?_
    refine V_getiN (ci := 5) (C := R_Y) (T := T_Y) (N := 8) F dX_tick_34 (by first | rfl | assumption) rfl (j := 4) 4 rfl (by decide) rfl lfX_115 ?_
    rw [e4]
    refine V_icmp_ge F 55 dX_tick_37 (by decide) (fun h37 => ?_) (fun h37 => ?_)
    · exact K r t x (by rw [show v 1 4 = t by omega]; exact hI)
    · refine V_iload_n (i := 2) F dX_tick_40 rfl rfl ?_
      refine V_aload_n (i := 0) F dX_tick_41 rfl rfl ?_
      refine V_iload F dX_tick_42 rfl ?_
      refine V_callVi F dX_tick_44 lmX_178 miX_advance mvX_advance (ctX_advance (w := x) (by rw [e4]; omega) hI.2.1.1 hI.2.2.1 (by omega) (fun ho u hq => cap_x hI.2.1 (by rw [e4]; omega) ho hq)) (by decide) (by first | rfl | assumption) rfl rfl (Nat.le_of_ble_eq_true rfl) (fun z y hz => ?_)
      have hs := taI_s h1 (by omega) hI hz
      have hzr := hs.2.2.2.2.2.2
      refine V_iadd F dX_tick_47 (by omega) ?_
      refine V_istore_n (i := 2) F dX_tick_48 rfl (by decide) (by simp only [List.set_cons_zero, List.set_cons_succ]; exact rfl) ?_
      refine V_iinc F dX_tick_49 (by decide) rfl (by omega) (by simp only [List.set_cons_zero, List.set_cons_succ]; exact rfl) ?_
      refine V_goto F 28 dX_tick_52 (by decide) ?_
      have := ih (t + 1) (r + z) y (by omega) (by omega) (by omega) hs
      rw [show m0 + (r + z) = m0 + r + z by omega] at this
      exact this
theorem lpX_tick {G : vG} {X : vX} {Q : State → Prop} {w : RW} {n : Int} (hn : 0 ≤ n ∧ n ≤ 20) (hb : (0 ≤ w 1 5 ∧ w 1 5 ≤ 500000000) ∧ (0 ≤ w 1 6 ∧ w 1 6 ≤ 500000000) ∧ 0 ≤ w 1 7 ∧ w 1 7 ≤ 500000000) (F : FX G X cX_tick yX_tick.cls 5 6) (hR : RetI G X cX_tick 5 Q (fun r u => (¬ (0 ≤ n ∧ n ≤ 20) ∧ r = -1 ∧ w = u) ∨ ((0 ≤ n ∧ n ≤ 20) ∧ tkI w u n r))) : ∀ (m : Nat) (i m0 : Int) (o : Option RV) (u : RW), n - i < m → (0 ≤ i) → (i ≤ n) → (tkI w u i m0) → V G X 5 Q 16 [some (.inr 0), some (.inl n), some (.inl m0), some (.inl i), o] [] u := by
  intro m
  induction m with
  | zero => intro i m0 o u hm0 h1 h2 hI; omega
  | succ m ih =>
    intro i m0 o u hm0 h1 h2 hI
    have u5 := hI.2.2.2.2.1
    have u6 := hI.2.2.2.2.2.1
    have u7 := hI.2.2.2.2.2.2.1
    have um := hI.2.2.2.2.2.2.2
    refine V_iload_n (i := 3) F dX_tick_16 rfl rfl ?_
    refine V_iload_n (i := 1) F dX_tick_17 rfl rfl ?_
    refine V_icmp_ge F 74 dX_tick_18 (by decide) (fun h18 => ?_) (fun h18 => ?_)
    · refine V_iload_n (i := 2) F dX_tick_74 rfl rfl ?_
      exact hR _ _ _ _ dX_tick_75 (Or.inr ⟨hn, by rw [show n = i by omega]; exact hI⟩)
    · refine V_aload_n (i := 0) F dX_tick_21 rfl rfl ?_
      refine V_callVv F dX_tick_22 lmX_175 miX_growCargo mvX_growCargo (ctX_growCargo (w := u) (by have := hI.2.1.1.2.2.2.1; omega) (by omega) (fun s s1 s2 => by have := (hI.2.1.1.2.2.2.2.1 s s1 s2).2; omega)) (by decide) (by first | rfl | assumption) rfl rfl (Nat.le_of_ble_eq_true rfl) (fun v hg => ?_)
      have hcv := CI_gr hI.2.1 hI.2.2.1 hg
      have k4 := hcv.1.1.2.2.2.1
      have m7 : v 1 7 = u 1 7 := hg.2.1.2 7 (by decide)
      refine V_iconst F dX_tick_25 (by decide) ?_
      refine V_istore F dX_tick_26 (by decide) (by simp only [List.set_cons_zero, List.set_cons_succ]; exact rfl) ?_
      have hK : ∀ (r t : Int) (x : RW), taI v x (v 1 4) r → V G X 5 Q 55 [some (.inr 0), some (.inl n), some (.inl (m0 + r)), some (.inl i), some (.inl t)] [] x := by
        intro r t x hx
        have x7 : x 1 7 = v 1 7 := hx.2.2.2.2.1 7 (by decide)
        refine V_aload_n (i := 0) F dX_tick_55 rfl rfl ?_
        refine V_getr (ci := 6) (C := R_X) (T := T_X) (N := 5) F dX_tick_56 (by first | rfl | assumption) rfl (j := 0) (by decide) rfl lfX_41 ?_
        refine V_dup F dX_tick_59 ?_
        refine V_getiN (ci := 5) (C := R_Y) (T := T_Y) (N := 8) F dX_tick_60 (by first | rfl | assumption) rfl (j := 7) 7 rfl (by decide) rfl lfX_181 ?_
        refine V_iconst F dX_tick_63 (by decide) ?_
        refine V_iadd F dX_tick_64 (by omega) ?_
        refine V_putiN (ci := 5) (C := R_Y) (T := T_Y) (N := 8) F dX_tick_65 (by first | rfl | assumption) rfl (j := 7) 7 rfl (by decide) rfl rfl rfl lfX_181 ?_
        refine V_iinc F dX_tick_68 (by decide) rfl (by omega) (by simp only [List.set_cons_zero, List.set_cons_succ]; exact rfl) ?_
        refine V_goto F 16 dX_tick_71 (by decide) ?_
        exact ih (i + 1) (m0 + r) _ _ (by omega) (by omega) (by omega) (tkI_s h1 hI hg hx)
      have hst := lpX_tickT (Q := Q) hn hb ⟨h1, by omega⟩ hI hg F hK 7 0 0 v (by omega) (by omega) (by omega) ⟨sq_0, hcv.1, hcv.2, frK_refl v, fun _ _ => rfl, by omega, by omega, by omega⟩
      rw [show m0 + 0 = m0 by omega] at hst
      exact hst
theorem ctX_tick {G : vG} {l : Launch} {w : RW} {n : Int} (hC : CI w) (hw : wOK w) (hb : (0 ≤ w 1 5 ∧ w 1 5 ≤ 500000000) ∧ (0 ≤ w 1 6 ∧ w 1 6 ≤ 500000000) ∧ 0 ≤ w 1 7 ∧ w 1 7 ≤ 500000000) : CTi G l yX_tick cX_tick 5 .int 6 [.inr 0, .inl n] w (fun r u => (¬ (0 ≤ n ∧ n ≤ 20) ∧ r = -1 ∧ w = u) ∨ ((0 ≤ n ∧ n ≤ 20) ∧ tkI w u n r)) := by
  refine CTi.int (by decide) (Nat.le_of_ble_eq_true rfl) ?_
  intro X Q F hX hR
  subst hX
  show V G X 5 Q 0 [some (.inr 0), some (.inl n), none, none, none] [] w
  refine V_iload_n (i := 1) F dX_tick_0 rfl rfl ?_
  refine V_if_lt F 10 dX_tick_1 (by decide) (fun h1 => ?_) (fun h1 => ?_)
  · refine V_iconst F dX_tick_10 (by decide) ?_
    exact hR _ _ _ _ dX_tick_11 (Or.inl ⟨fun z => by omega, rfl, rfl⟩)
  · refine V_iload_n (i := 1) F dX_tick_4 rfl rfl ?_
    refine V_bipush F dX_tick_5 (by decide) ?_
    refine V_icmp_le F 12 dX_tick_7 (by decide) (fun h7 => ?_) (fun h7 => ?_)
    · refine V_iconst F dX_tick_12 (by decide) ?_
      refine V_istore_n (i := 2) F dX_tick_13 rfl (by decide) (by simp only [List.set_cons_zero, List.set_cons_succ]; exact rfl) ?_
      refine V_iconst F dX_tick_14 (by decide) ?_
      refine V_istore_n (i := 3) F dX_tick_15 rfl (by decide) (by simp only [List.set_cons_zero, List.set_cons_succ]; exact rfl) ?_
      exact lpX_tick (by omega) hb F hR 21 0 0 none w (by omega) (by omega) (by omega) ⟨sq_0, hC, hw, frK_refl w, by omega, by omega, by omega, by omega, by omega⟩
    · refine V_iconst F dX_tick_10 (by decide) ?_
      exact hR _ _ _ _ dX_tick_11 (Or.inl ⟨fun z => by omega, rfl, rfl⟩)
