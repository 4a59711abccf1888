theorem dL_cell_0 : decode cL_cell 0 = .ok (.iload_n 1, 1) := by decide +kernel
theorem dL_cell_1 : decode cL_cell 1 = .ok (.aload_n 0, 1) := by decide +kernel
theorem dL_cell_2 : decode cL_cell 2 = .ok (.arraylength, 1) := by decide +kernel
theorem dL_cell_3 : decode cL_cell 3 = .ok (.if_icmp .ge 9, 3) := by decide +kernel
theorem dL_cell_6 : decode cL_cell 6 = .ok (.aload_n 0, 1) := by decide +kernel
theorem dL_cell_7 : decode cL_cell 7 = .ok (.iload_n 1, 1) := by decide +kernel
theorem dL_cell_8 : decode cL_cell 8 = .ok (.iaload, 1) := by decide +kernel
theorem dL_cell_9 : decode cL_cell 9 = .ok (.goto 4, 3) := by decide +kernel
theorem dL_cell_12 : decode cL_cell 12 = .ok (.iconst 0, 1) := by decide +kernel
theorem dL_cell_13 : decode cL_cell 13 = .ok (.ireturn, 1) := by decide +kernel
theorem miL_cell : MI yL_cell cL_cell 2 (some .int) 2 := ⟨bw 625 (by decide +kernel) rfl, bw 38 (by decide +kernel) rfl, ⟨by decide +kernel, by decide +kernel⟩, by decide +kernel, by decide⟩
theorem msL_cell : Cond.static yL_cell ∈ bigW := bw 624 (by decide +kernel) rfl
theorem lmL_9 : Cond.methodLink R_L 9 yL_cell ∈ bigW := bw 623 (by decide +kernel) rfl
theorem law_to {G : vG} {X : vX} {Q : State → Prop} {sc : Nat → Int32} {N sb x m : Nat} {a b : Int} {u : SX} {um : Nat → Nat} {t : Nat → Nat} (hCF : CallFix (xp X) (xm X) (xc X) cL_law 4 (xs X) (xa X) bigW R_L) (hK : va_K (gD G) classes (gT G) (xs X)) (hN : ∀ w ∈ nestW, va_Nw w (xs X)) (hrm : 9 ≤ (xR X).frames ∧ 360 ≤ (xR X).locals ∧ xk X ≤ (xR X).cells ∧ xn X ≤ (xR X).slots) (hZ : ∀ i, i < 3 → va_Z R_spot (snm i) "[I" (.ref (t i)) (xA X) (xs X) (xs X).heap ∧ va_T .int (t i) 6 (fun j => .int (Int32.ofInt (stt i (j : Int)))) (xA X) (xs X) (xs X).heap) (hsc : va_X sb N sc (xs X) (xs X).heap) (hbl : sb < (xs X).heap.size) (hbA : ¬ xA X sb) (hN3 : N ≤ 3074) (hE : ∀ (G' : vG) (L : List (Option RV)) (w : RW), V G' X 4 Q 887 L [.inl 1] w) : NJ G X 4 Q (xk X) (xn X) 38 [some (.inr sb), some (.inr x), some (.inr m), some (.inl 2)] [] (wld G a b x u m um) := by
  intro H locs ls hP hD hS hl
  have hall := wc_all (G := G) (a := a) (b := b) (x := x) (u := u) (m := m) (um := um) (t := t) (sb := sb)
  have hat : ∀ k, k < 102 → ∃ e, (wld G a b x u m um)[pil.getD k 0]? = some (gdX x u m um t sb k, e) := fun k hk => by
    obtain ⟨K, hK⟩ : ∃ K, shp[k]? = some K := ⟨_, List.getElem?_eq_getElem (by rw [shp_len]; exact hk)⟩
    exact ⟨_, (hall k hk).trans (gW_at (gX G x u m um t sb) _ hK)⟩
  have F : FX (gX G x u m um t sb) X cL_law R_L 4 9 := by
    refine ⟨hCF, ⟨hK, hN, fun i j hi hj e => ?_, fun i hi => ?_⟩, fun k hk => ?_, hrm.1, hrm.2.1, hrm.2.2.1, hrm.2.2.2⟩
    · rw [shp_len] at hi hj
      obtain ⟨e1, h1⟩ := hat i hi
      obtain ⟨e2, h2⟩ := hat j hj
      exact pil_1 i hi j hj (hD.1 _ _ _ _ h1 h2 e)
    · have h := hZ i hi
      rcases (show i = 0 ∨ i = 1 ∨ i = 2 by omega) with rfl | rfl | rfl
      · exact h
      · exact h
      · exact h
    · rw [shp_len] at hk
      obtain ⟨e1, h1⟩ := hat k hk
      exact hD.2 _ _ h1
  have hP' : va_P (gD (gX G x u m um t sb)) classes (gW (gX G x u m um t sb) (w0 (clp a 8) (clp b 6))) H := by
    intro k q hq
    have hk := (gW_of hq).1
    rw [shp_len] at hk
    exact hP _ q ((hall k hk).trans hq)
  have ha := clp_r (a := a) (m := 8) (by decide)
  have hb := clp_r (a := b) (m := 6) (by decide)
  have hX : SCR (gX G x u m um t sb) X N sc := ⟨hsc, hbl, hbA, hN3⟩
  have k1 := lw_loop F hX (hE _) 521 0 (w0 (clp a 8) (clp b 6)) (by omega) (by omega) (by omega) (w0_ST ha hb)
  rw [show (2 : Int) + 6 * 0 = 2 from rfl] at k1
  refine k1 H locs ls hP' hS hl (w0_in ha hb) (fun y hy => ?_) rgs_nil
  simp only [List.mem_cons, Option.some.injEq, List.not_mem_nil, or_false] at hy
  rcases hy with rfl | rfl | rfl | rfl
  · exact trivial
  · exact trivial
  · exact trivial
  · exact ⟨by decide, by decide⟩
/-! the script's first two -/
def cl0 (N : Nat) (sc : Nat → Int32) (k : Int) : Int := if k < (N : Int) then sv sc k else 0
theorem cl0_in (N : Nat) (sc : Nat → Int32) (k : Int) : inR (cl0 N sc k) := by
  unfold cl0
  split
  · exact sv_in sc k
  · exact ⟨by decide, by decide⟩
theorem ct_cell (G : vG) (l : Launch) {b N : Nat} {sc : Nat → Int32} {k : Int} (hk : 0 ≤ k ∧ k ≤ 100) (hN : N ≤ 3074) : Met l yL_cell (.code yL_cell cL_cell 2 (some .int) :: bigW) (rmC 0 0 0) (va_Pc (([.inr b, .inl k] : List RV).map (rv (gi G))) (fun U => va_X b N sc U U.heap)) (va_Qi (fun r (_ : Unit) => r = Int32.ofInt (cl0 N sc k)) (fun _ _ => True) (fun _ => False)) 0 0 (fun _ => False) := by
  refine Met.ofW (cc := cL_cell) (maxL := 2) (ret := some .int) (by decide) rfl ?_
  intro p e s m args below meth c s₁ B hml hv
  obtain ⟨rfl, hXX⟩ := hv
  have hr := B.returns
  have hlocks := B.notSynchronized
  have hbl : b < s.heap.size := by
    obtain ⟨scr, h1, _⟩ := hXX
    exact (Array.getElem?_eq_some_iff.mp h1).1
  obtain ⟨ls, e1, hl⟩ := gL_entry (G := gi G) [.inr b, .inl k] (n := 2) (Nat.le_of_ble_eq_true rfl) m
  rw [e1]
  have hS : va_S (fun _ => False) s.heap s.heap [] := va_S.rf
  have hkr : inR k := ⟨by omega, by omega⟩
  have hNr : inR (N : Int) := ⟨by omega, by omega⟩
  refine lv_iload_n (i := 1) (x := Int32.ofInt k) B.exec B.bytes dL_cell_0 rfl (gL_at hl (x := .inl k) rfl) ?_
  refine lv_aload_n (i := 0) (x := b) B.exec B.bytes dL_cell_1 rfl (gL_at hl (x := .inr b) rfl) ?_
  refine va_slen B.exec B.bytes hXX hbl (fun h => h) hS dL_cell_2 ?_
  rw [← Int32.ofInt_eq_ofNat]
  have E := iR_le hNr hkr
  refine lv_icmp_ge (tgt := 12) B.exec B.bytes dL_cell_3 (by decide) (fun h => ?_) (fun h => ?_)
  · have h2 := E.mp h
    refine lv_iconst B.exec B.bytes dL_cell_12 rfl ?_
    refine W.iret (v := Int32.ofInt 0) B.exec B.bytes hr (fun t ht hW => ⟨⟨Int32.ofInt 0, (), rfl, ?_, trivial⟩, hS.F ht⟩) hS.2.2 dL_cell_13
    unfold cl0
    rw [if_neg (by omega)]
  · have h2 : ¬ (N : Int) ≤ k := fun q => h (E.mpr q)
    refine lv_aload_n (i := 0) (x := b) B.exec B.bytes dL_cell_6 rfl (gL_at hl (x := .inr b) rfl) ?_
    refine lv_iload_n (i := 1) (x := Int32.ofInt k) B.exec B.bytes dL_cell_7 rfl (gL_at hl (x := .inl k) rfl) ?_
    refine va_sld B.exec B.bytes hXX hbl (fun h => h) hS (iR_in hkr hk.1 (by omega)) dL_cell_8 ?_
    refine lv_goto (tgt := 13) B.exec B.bytes dL_cell_9 (by decide) ?_
    refine W.iret (v := sc (Int32.ofInt k).toNatClampNeg) B.exec B.bytes hr (fun t ht hW => ⟨⟨_, (), rfl, ?_, trivial⟩, hS.F ht⟩) hS.2.2 dL_cell_13
    unfold cl0 sv
    rw [if_pos (by omega), iR_cl hkr]
    exact (Int32.ofInt_toInt _).symm
theorem N_cell {G : vG} {X : vX} {cc : ByteArray} {own : String} {nL d pc kc ks : Nat} {Q : State → Prop} {L : List (Option RV)} {st : List RV} {W0 : va_W} (F : FC G X cc own nL d) {sb N index : Nat} {sc : Nat → Int32} {k : Int} (hsc : va_X sb N sc (xs X) (xs X).heap) (hbl : sb < (xs X).heap.size) (hbA : ¬ xA X sb) (hN : N ≤ 3074) (hk : 0 ≤ k ∧ k ≤ 100) (hd : decode cc pc = .ok (.invokestatic index, 3)) (hl : Cond.methodLink own index yL_cell ∈ bigW) (mi : MI yL_cell cL_cell 2 (some .int) 2) (hms : Cond.static yL_cell ∈ bigW) (hd1 : 1 ≤ d) (h1 : kc ≤ (xR X).cells) (h2 : ks ≤ (xR X).slots) (hst : st.length ≤ 8) (kk : NJ G X nL Q kc ks (pc + 3) L (.inl (cl0 N sc k) :: st) W0) : NJ G X nL Q kc ks pc L (.inl k :: .inr sb :: st) W0 := by
  intro H locs ls hP hD hS hL
  have hXH : va_X sb N sc (xs X) H := hsc.kept (hS.2.1 sb hbl hbA)
  refine va_calli (va_runS (As := ([.inr sb, .inl k] : List RV).map (rv (gi G))) (rest := st.map (rv (gi G))) F.1 (ct_cell G (xl X) (b := sb) (N := N) (sc := sc) (k := k) hk hN) ⟨cn_of F mi hd1 hl, F.1.2.2.2.2 _ hms⟩ ⟨fun a U g mk q => ⟨q.1, va_X.moved (u := U) (U := U.calling g mk a) (Vm.Alike.refl U.vm) q.2⟩, fun U hU hW => ⟨rfl, (show va_X sb N sc U U.heap by rw [hU]; exact va_X.moved hW.alike hXH)⟩⟩ rfl rfl hL.1 rfl (lv_room (by rw [cat_sum]; exact hst)) hd ⟨h1, h2⟩) hS (fun q _ h => h.elim) (fun q h => h.elim) (fun r u t H1 locs1 ht hvm hp hB hz1 hk1 hS1 => ?_)
  subst hp
  exact kk H1 locs1 ls (hP.kept (fun j x hx => hk1 x.1 ((hP j x hx).lt) (fun h => h))) hD hS1 hL

