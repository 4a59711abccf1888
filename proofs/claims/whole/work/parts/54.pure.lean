abbrev cL_law : ByteArray := code
/-! the script -/
def sv (sc : Nat → Int32) (i : Int) : Int := (sc i.toNat).toInt
theorem sv_in (sc : Nat → Int32) (i : Int) : inR (sv sc i) := ⟨Int32.le_toInt _, Int32.toInt_lt _⟩
def SCR (G : vG) (X : vX) (n : Nat) (sc : Nat → Int32) : Prop := va_X (gad G 903) n sc (xs X) (xs X).heap ∧ gad G 903 < (xs X).heap.size ∧ ¬ xA X (gad G 903) ∧ n ≤ 3074
section VS
variable {G : vG} {X : vX} {cc : ByteArray} {own : String} {nL d pc : Nat} {Q : State → Prop} {L : List (Option RV)} {st : List RV} {w : RW}
theorem V_scr (F : FX G X cc own nL d) {n : Nat} {sc : Nat → Int32} (hX : SCR G X n sc) {i : Int} (hi : 0 ≤ i ∧ i < (n : Int)) (hd : decode cc pc = .ok (.iaload, 1)) (kk : V G X nL Q (pc + 1) L (.inl (sv sc i) :: st) w) : V G X nL Q pc L (.inl i :: .inr 903 :: st) w := by
  intro H locs ls hP hS hl hw h1 h2
  have hi' := (rgs_int.mp h2).1
  have h3 := (rgs_int.mp h2).2
  have k := kk H locs ls hP hS hl hw h1 (rgs_int.mpr ⟨sv_in sc i, rgs_ref.mp h3⟩)
  have e : Int32.ofInt (sv sc i) = sc (Int32.ofInt i).toNatClampNeg := by
    rw [iR_cl hi']
    exact Int32.ofInt_toInt _
  have k2 : W (xp X) (xl X) (xe X) (xR X) (xs X) (xm X) (xa X) (xb X) (xh X) (xc X) H locs (xk X) (xn X) Q (F0 (xm X) (pc + 1) ls (Value.int (Int32.ofInt (sv sc i)) :: st.map (rv G))) := k
  rw [e] at k2
  exact va_sld F.1.1 F.1.2.1 hX.1 hX.2.1 hX.2.2.1 hS (iR_in hi' hi.1 hi.2) hd k2
theorem V_slen (F : FX G X cc own nL d) {n : Nat} {sc : Nat → Int32} (hX : SCR G X n sc) (hd : decode cc pc = .ok (.arraylength, 1)) (kk : V G X nL Q (pc + 1) L (.inl (n : Int) :: st) w) : V G X nL Q pc L (.inr 903 :: st) w := by
  intro H locs ls hP hS hl hw h1 h2
  have h4 := hX.2.2.2
  have k := kk H locs ls hP hS hl hw h1 (rgs_int.mpr ⟨⟨by omega, by omega⟩, rgs_ref.mp h2⟩)
  have k2 : W (xp X) (xl X) (xe X) (xR X) (xs X) (xm X) (xa X) (xb X) (xh X) (xc X) H locs (xk X) (xn X) Q (F0 (xm X) (pc + 1) ls (Value.int (Int32.ofInt (n : Int)) :: st.map (rv G))) := k
  rw [Int32.ofInt_eq_ofNat] at k2
  exact va_slen F.1.1 F.1.2.1 hX.1 hX.2.1 hX.2.2.1 hS hd k2
theorem V_tabI (F : FX G X cc own nL d) {dflt lo hi : Int} {offs : Array Int} {len : Nat} {z off : Int} (tgt : Nat) (hd : decode cc pc = .ok (.tableswitch dflt lo hi offs, len)) (h1 : lo ≤ z ∧ z ≤ hi) (ho : offs[(z - lo).toNat]? = some off) (ht : (pc : Int) + off = (tgt : Int)) (kk : V G X nL Q tgt L st w) : V G X nL Q pc L (.inl z :: st) w := by
  intro H locs ls hP hS hl hw g1 g2
  have hz := (rgs_int.mp g2).1
  have e := iR_t hz
  exact lv_tableIn F.1.1 F.1.2.1 (x := Int32.ofInt z) hd (by rw [e]; omega) (by rw [e]; omega) (by rw [e]; exact ho) ht (kk H locs ls hP hS hl hw g1 (rgs_int.mp g2).2)
theorem V_tabO (F : FX G X cc own nL d) {dflt lo hi : Int} {offs : Array Int} {len : Nat} {z : Int} (tgt : Nat) (hd : decode cc pc = .ok (.tableswitch dflt lo hi offs, len)) (h1 : z < lo ∨ hi < z) (ht : (pc : Int) + dflt = (tgt : Int)) (kk : V G X nL Q tgt L st w) : V G X nL Q pc L (.inl z :: st) w := by
  intro H locs ls hP hS hl hw g1 g2
  have hz := (rgs_int.mp g2).1
  have e := iR_t hz
  exact lv_tableOut F.1.1 F.1.2.1 (x := Int32.ofInt z) hd (by rw [e]; exact h1) ht (kk H locs ls hP hS hl hw g1 (rgs_int.mp g2).2)
end VS
theorem and31 (a : Int) : 0 ≤ iand a 31 ∧ iand a 31 < 32 := by
  obtain ⟨j, hj, e⟩ := pk_andE (Int32.ofInt a) (m := Int32.ofInt 31) 5 (by decide)
  unfold iand
  rw [e]
  have : (nI j) = Int32.ofInt (j : Int) := by rw [iR_n (by omega)]; simp
  rw [this, iR_t ⟨by omega, by omega⟩]
  have : j < 32 := hj
  omega
/-! what a call of the class leaves -/
theorem cl_track {z u : RW} {x y p b r : Int} (h : (trOK z x y p b ∧ r = 1 ∧ trW z x y p = u) ∨ (¬ trOK z x y p b ∧ r = 0 ∧ z = u)) : ∀ j, 77 ≤ j → u j = z j := fun j hj => by
  rcases h with ⟨_, _, rfl⟩ | ⟨_, _, rfl⟩
  · unfold trW; rw [upw_f (by omega), upw_f (by omega), upw_f (by omega)]
  · rfl
theorem cl_signal {z u : RW} {x y p e b r : Int} (h : (sgOK z x y p e b ∧ r = 1 ∧ sgW z x y p e = u) ∨ (¬ sgOK z x y p e b ∧ r = 0 ∧ z = u)) : ∀ j, 77 ≤ j → u j = z j := fun j hj => by
  rcases h with ⟨_, _, rfl⟩ | ⟨_, _, rfl⟩
  · unfold sgW; rw [upw_f (by omega), upw_f (by omega)]
  · rfl
theorem cl_station {z u : RW} {x y p c r : Int} (h : (¬ stOK z x y p c ∧ r = -1 ∧ z = u) ∨ (stOK z x y p c ∧ 6 ≤ z 1 3 ∧ r = -2 ∧ z = u) ∨ (stOK z x y p c ∧ z 1 3 < 6 ∧ r = z 1 3 ∧ stW z x y p c = u)) : ∀ j, 77 ≤ j → u j = z j := fun j hj => by
  rcases h with ⟨_, _, rfl⟩ | ⟨_, _, _, rfl⟩ | ⟨_, _, _, rfl⟩
  · rfl
  · rfl
  · unfold stW; rw [upw_f (by omega), upw_f (by omega), upw_f (by omega), upw_f (by omega)]
theorem cl_order {z u : RW} {t s r : Int} (hc : cOK z) (h : (orOK z t s ∧ r = 1 ∧ orW z t s = u) ∨ (¬ orOK z t s ∧ r = 0 ∧ z = u)) : ∀ j, 77 ≤ j → u j = z j := fun j hj => by
  have k4 := hc.2.2.2.1
  rcases h with ⟨o, _, rfl⟩ | ⟨_, _, rfl⟩
  · have := o.1
    unfold orW; rw [upw_f (by omega), upw_f (by omega)]
  · rfl
theorem cl_reverse {z u : RW} {t r : Int} (hc : cOK z) (h : (rvX z t ∧ r = 1 ∧ taP z u (14 + t.toNat) (20 + t.toNat)) ∨ (¬ rvX z t ∧ r = 0 ∧ z = u)) : ∀ j, 77 ≤ j → u j = z j := fun j hj => by
  have k4 := hc.2.2.2.1
  rcases h with ⟨o, _, h⟩ | ⟨_, _, rfl⟩
  · have := o.1
    exact h.1 j (by omega) (by omega)
  · rfl
theorem cl_train {z u : RW} {x y p e n r q : Int} (hc : cOK z) (h : (¬ xtO z x y p e n ∧ r = -1 ∧ z = u) ∨ (xtO z x y p e n ∧ xtQ z u q n r)) : ∀ j, 77 ≤ j → u j = z j := fun j hj => by
  have k4 := hc.2.2.2.1
  rcases h with ⟨_, _, rfl⟩ | ⟨_, c, v, _, ⟨w0, _⟩, _, h⟩
  · rfl
  · rcases h with ⟨_, _, rfl⟩ | ⟨_, f, u2, _, r3, h⟩
    · exact w0 j (by omega) (by omega)
    · rcases h with ⟨_, _, rfl⟩ | ⟨_, _, _, rfl⟩ | ⟨_, _, _, u3, u4, b3, b4, rfl⟩
      · rw [r3 j (by omega), w0 j (by omega) (by omega)]
      · rw [r3 j (by omega), w0 j (by omega) (by omega)]
      · rw [upw_f (by omega), b4.1 j (by omega), b3.1 j (by omega) (by omega), r3 j (by omega), w0 j (by omega) (by omega)]
theorem cl_toGo {z u : RW} {x y p e s r : Int} {E : Prop} (hc : cOK z) (h : (¬ tgOK z x y p e s ∧ r = -1 ∧ z = u) ∨ (tgOK z x y p e s ∧ lnP z u s (z (7 + s.toNat) 0) ∧ E)) : ∀ j, 77 ≤ j → u j = z j := fun j hj => by
  have k4 := hc.2.2.2.1
  rcases h with ⟨_, _, rfl⟩ | ⟨o, h, _⟩
  · rfl
  · have := o.2.2
    rcases h with ⟨_, rfl⟩ | ⟨_, h, _⟩
    · rfl
    · exact h.1 j (by omega) (by omega) (by omega) (by omega)
theorem cl_tick {z u : RW} {n r : Int} (h : (¬ (0 ≤ n ∧ n ≤ 20) ∧ r = -1 ∧ z = u) ∨ ((0 ≤ n ∧ n ≤ 20) ∧ tkI z u n r)) : frK z u := by
  rcases h with ⟨_, _, rfl⟩ | ⟨_, h⟩
  · exact frK_refl _
  · exact h.2.2.2.1
theorem st_op {n : Int} {z u v : RW} (hz : ST n z) (h : opR z u u v) : ST (n + 1) v := by
  obtain ⟨h1, h2, h3, h4, h5⟩ := h
  have e77 : u 77 = z 77 := h2 77 (Or.inr (by decide))
  refine st_fin hz h2 h3 ?_ ?_ h1 ?_ ?_
  · rw [h4 0 (by decide) (by decide) (by decide), e77]
  · rw [h4 1 (by decide) (by decide) (by decide), e77]
  · rw [h4 25 (by decide) (by decide) (by decide), e77, h5 7 (by decide) (by decide)]; exact hz.2.1
  · have := cB_mono hz.2.2.1
    unfold cB at *
    rw [h5 5 (by decide) (by decide), h5 6 (by decide) (by decide), h5 7 (by decide) (by decide)]
    exact this
theorem cB_big {n : Int} {w : RW} (hn : n ≤ 600) (h : cB n w) : (0 ≤ w 1 5 ∧ w 1 5 ≤ 500000000) ∧ (0 ≤ w 1 6 ∧ w 1 6 ≤ 500000000) ∧ 0 ≤ w 1 7 ∧ w 1 7 ≤ 500000000 := by
  unfold cB at h
  omega
theorem xZ_2 {v : RW} {t : Int} (ht : 0 ≤ t) : xZ v t 2 = v 2 := by
  have h1 : xV v t 2 = v 2 := by unfold xV; rw [xmK_f (by omega) (by omega) (by omega), upw_f (by omega)]
  unfold xZ
  by_cases e : duC (xV v t) t ∧ xV v t (14 + t.toNat) 1 - xV v t (14 + t.toNat) 2 = 0
  · rw [wif_t e, upw_f (by omega), upw_f (by omega), h1]
  · rw [wif_f e, h1]
theorem adv_2 {w u : RW} (hC : CI w) {t r : Int} (ht : 0 ≤ t ∧ t < w 1 4) (h : advC w u t r) : u 2 = w 2 := by
  rcases h with ⟨_, _, rfl⟩ | ⟨_, _, _, rfl⟩ | ⟨h1, _, v, hv, _, rfl⟩
  · rfl
  · unfold ldX
    split
    · rw [upw_f (by omega)]
    · rw [upw_f (by omega), upw_f (by omega), upw_f (by omega), upw_f (by omega), upw_f (by omega), upw_f (by omega)]
  · rw [xZ_2 ht.1]
    rcases hv with ⟨_, rfl⟩ | ⟨_, u, f, hq, ⟨_, rfl⟩ | ⟨rfl, u2, h2, h3⟩⟩
    · rfl
    · exact (mq_wish hC ht h1 hq).1 2 (by decide)
    · rw [h3.1 2 (by omega) (by omega), h2.1 2 (by decide), (mq_wish hC ht h1 hq).1 2 (by decide)]
theorem ts_2 {w u : RW} {r : Int} (hC : CI w) (hw : wOK w) (h : tsC w u r) : u 2 = w 2 ∧ CI u ∧ wOK u := by
  obtain ⟨v, x, hg, ⟨W, R, a0, _, an, _, hs⟩, rfl⟩ := h
  have hgr := CI_gr hC hw hg
  have key : ∀ i : Nat, i ≤ (v 1 4).toNat → W i 2 = v 2 ∧ CI (W i) ∧ wOK (W i) ∧ W i 1 4 = v 1 4 := by
    intro i
    induction i with
    | zero => intro _; rw [a0]; exact ⟨rfl, hgr.1, hgr.2, rfl⟩
    | succ i ih =>
      intro hi
      obtain ⟨b1, b2, b3, b4⟩ := ih (by omega)
      have hp : advC (W i) (W (i + 1)) (i : Int) (R (i + 1) - R i) := hs i (by omega)
      have hc := CI_adv b2 b3 (t := (i : Int)) (by rw [b4]; omega) hp
      exact ⟨by rw [adv_2 b2 (by rw [b4]; omega) hp, b1], hc.1, hc.2.1, by rw [hc.2.2.1 4 (by decide), b4]⟩
  have h2 := key _ (Nat.le_refl _)
  rw [an] at h2
  have hv2 : v 2 = w 2 := hg.1 2 (by decide) (fun s s1 s2 => by omega)
  exact ⟨by rw [upw_f (by decide), h2.1, hv2], CI_17 h2.2.1 h2.2.2.1⟩
theorem tk_wid {z u : RW} {k r : Int} (hC : CI z) (hw : wOK z) (h : tkI z u k r) : u 2 0 = z 2 0 ∧ u 2 1 = z 2 1 := by
  obtain ⟨⟨W, R, a0, _, an, _, hs⟩, _⟩ := h
  have key : ∀ i : Nat, i ≤ k.toNat → W i 2 = z 2 ∧ CI (W i) ∧ wOK (W i) := by
    intro i
    induction i with
    | zero => intro _; rw [a0]; exact ⟨rfl, hC, hw⟩
    | succ i ih =>
      intro hi
      obtain ⟨b1, b2, b3⟩ := ih (by omega)
      have hp := ts_2 b2 b3 (show tsC (W i) (W (i + 1)) _ from hs i (by omega))
      exact ⟨by rw [hp.1, b1], hp.2⟩
  have := (key _ (Nat.le_refl _)).1
  rw [an] at this
  rw [this]
  exact ⟨rfl, rfl⟩
theorem s_tick {n : Int} {z u v : RW} {k r r' : Int} (hz : ST n z) (hc : (¬ (0 ≤ k ∧ k ≤ 20) ∧ r = -1 ∧ z = u) ∨ ((0 ≤ k ∧ k ≤ 20) ∧ tkI z u k r)) (hM : r' = r ∧ PR u v ∧ u 1 7 = v 77 25 ∧ frA u v) : r = r' ∧ ST (n + 1) v := by
  have hk := cl_tick hc
  have e77 : u 77 = z 77 := hk 77 (Or.inr (by decide))
  obtain ⟨h1, h2, h3, h4⟩ := hM
  refine ⟨h1.symm, ?_⟩
  have hb : cB (n + 1) u := by
    have hz3 := hz.2.2.1
    rcases hc with ⟨_, _, rfl⟩ | ⟨hk2, h⟩
    · exact cB_mono hz3
    · have a := h.2.2.2.2
      unfold cB at *
      omega
  have hw2 : v 77 0 = z 77 0 ∧ v 77 1 = z 77 1 := by
    have a := h2.1.1
    have b := hz.1.1.1
    have c : u 2 0 = z 2 0 ∧ u 2 1 = z 2 1 := by
      rcases hc with ⟨_, _, rfl⟩ | ⟨_, h⟩
      · exact ⟨rfl, rfl⟩
      · exact tk_wid hz.1.2.1 hz.1.2.2.1 h
    omega
  exact st_fin hz hk h4 hw2.1 hw2.2 h2 h3 hb
