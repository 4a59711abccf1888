def rmC (d mc ms : Nat) : Room := { frames := d, cells := mc, slots := ms, locals := 40 * d }
def PcG (G : vG) (A : Nat → Prop) (sz : Nat) (W0 : va_W) (U : State) : Prop := U.heap.size = sz ∧ va_P (gD G) classes W0 U.heap ∧ va_D A W0 ∧ (∀ q : Nat, sz ≤ q → A q) ∧ va_K (gD G) classes (gT G) U ∧ (∀ w ∈ nestW, va_Nw w U) ∧ AOk U
/-- a method that makes cells: from the world W0 to W1 u -/
def CTg (G : vG) (l : Launch) (y : MethodName) (bs : ByteArray) (nL d mc ms : Nat) (as : List RV) (S : Type) (W0 : va_W) (W1 : S → va_W) : Prop :=
  ∀ (A : Nat → Prop) (sz : Nat), Met l y (.code y bs nL none :: bigW) (rmC d mc ms) (va_Pc (as.map (rv (gi G))) (PcG G A sz W0)) (va_Qv (fun _ : S => True) (fun u t => va_P (gD G) classes (W1 u) t.heap ∧ va_D A (W1 u)) A) mc ms A
def NRet (G : vG) (X : vX) (bs : ByteArray) (nL : Nat) (Q : State → Prop) (mc ms : Nat) (S : Type) (W1 : S → va_W) : Prop := ∀ (pc : Nat) (L : List (Option RV)) (u : S) (kc ks : Nat), decode bs pc = .ok (.return_, 1) → kc ≤ mc → ks ≤ ms → NJ G X nL Q kc ks pc L [] (W1 u)
theorem CTg.intro {G : vG} {l : Launch} {y : MethodName} {bs : ByteArray} {nL d mc ms : Nat} {as : List RV} {S : Type} {W0 : va_W} {W1 : S → va_W} (hy : plainName y.cls = true) (hn : as.length ≤ nL)
    (body : ∀ (X : vX) (Q : State → Prop), FC G X bs y.cls nL d → xl X = l → (xh X).name = y.name → (xR X).cells = mc → (xR X).slots = ms → NRet G X bs nL Q mc ms S W1 → NJ G X nL Q 0 0 0 (as.map some ++ List.replicate (nL - as.length) none) [] W0) : CTg G l y bs nL d mc ms as S W0 W1 := by
  intro A sz
  refine Met.ofW (cc := bs) (maxL := nL) (ret := none) hy rfl ?_
  intro p e s m args below meth c s₁ B hml hv
  obtain ⟨rfl, hsz, hP, hD, hA, hK, hN, hO⟩ := hv
  subst hsz
  have hr := B.returns
  have hlocks := B.notSynchronized
  have hts := atoms_spec (ws := .code y bs nL none :: bigW) B.pre
  obtain ⟨ls, e1, hl⟩ := gL_entry (G := gi G) as hn m
  rw [e1]
  refine body (p, l, e, (headSpec (.code y bs nL none :: bigW) (rmC d mc ms)).room, s, m, (as.map (rv (gi G))).toArray, below, meth, c, A, 0, 0) _ ⟨⟨B.exec, B.bytes, hml, findClass_of_methodNamed B.named, fun w hw => hts w (List.mem_cons_of_mem _ hw)⟩, hK, hN, hA, Nat.le_refl _, Nat.le_refl _, hO⟩ rfl (name_of_methodNamed B.named B.method).1 rfl rfl ?_ s.heap [] ls hP hD va_S.rf hl
  intro pc L u kc ks hd hk1 hk2 H locs ls' hP' hD' hS' hl'
  refine W.widen hk1 hk2 ?_
  exact W.vret B.exec B.bytes hr (fun t ht hW => ⟨⟨u, rfl, trivial, (show va_P (gD G) classes (W1 u) t.heap ∧ va_D A (W1 u) by rw [ht]; exact ⟨hP', hD'⟩)⟩, hS'.F ht⟩) hS'.2.2 hd
theorem PcG_blind {G : vG} {A : Nat → Prop} {sz : Nat} {W0 : va_W} {as : List Value} : FrameBlind (va_Pc as (PcG G A sz W0)) := by
  intro a U g mk q
  obtain ⟨q1, q2, q3, q4, q5, q6, q7, q8⟩ := q
  exact ⟨q1, q2, q3, q4, q5, va_K.moved (u := U) (U := U.calling g mk a) (Vm.Alike.refl U.vm) q6, fun w hw => va_Nw.same (nest_tab hw) (rfl : U.vm = (U.calling g mk a).vm) (q7 w hw), AOk_m (u := U) (U := U.calling g mk a) (Vm.Alike.refl U.vm) q8⟩
theorem cn_of {G : vG} {X : vX} {cc : ByteArray} {own : String} {nL d d' : Nat} {y : MethodName} {bs : ByteArray} {nM n index mc ms : Nat} {ret : Option FieldType} (F : FC G X cc own nL d) (mi : MI y bs nM ret n) (hd' : d' + 1 ≤ d) (hl : Cond.methodLink own index y ∈ bigW) : CallB (xR X) (xs X) (xa X) own index y bs nM ret (.code y bs nM ret :: bigW) (rmC d' mc ms) mc ms n := by
  obtain ⟨m1, m2, m3, m4, m5⟩ := mi
  refine ⟨rfl, rfl, ?_, ?_, pay_in F.1.2.2.2.2 (big_good m1), List.mem_cons_self, F.1.2.2.2.2 _ m1, F.1.2.2.2.2 _ m2, m3, fun sig h => ?_, F.1.2.2.2.2 _ hl⟩
  · have := F.2.2.2.2.1
    show d' + 1 ≤ _
    omega
  · have := F.2.2.2.2.2.1
    show 8 + (nM + 11) + 40 * d' ≤ _
    omega
  · rw [h] at m4
    exact (Option.some.inj m4).symm
section NC
variable {G : vG} {X : vX} {cc : ByteArray} {own : String} {nL d pc kc ks : Nat} {Q : State → Prop} {L : List (Option RV)} {st : List RV} {W0 : va_W}
theorem N_pre (F : FC G X cc own nL d) {H : Heap} {locs : List Loc} {as : List Value} (hP : va_P (gD G) classes W0 H) (hD : va_D (xA X) W0) (hS : va_S (xA X) (xs X).heap H locs) : PreS (xs X) H (va_Pc as (PcG G (xA X) H.size W0)) as :=
  ⟨PcG_blind, fun U hU hW => ⟨rfl, by rw [hU], by rw [hU]; exact hP, hD, fun q h => F.2.2.2.1 q (Nat.le_trans hS.1 h), va_K.moved hW.alike F.2.1, fun w hw => nest_warm hw hW (F.2.2.1 w hw), AOk_m hW.alike F.2.2.2.2.2.2⟩⟩
theorem N_callI (F : FC G X cc own nL d) {y : MethodName} {bs : ByteArray} {nM d' mc ms index h0 : Nat} {As rest : List RV} {S : Type} {W1 : S → va_W} (hd : decode cc pc = .ok (.invokespecial index, 3)) (hl : Cond.methodLink own index y ∈ bigW) (mi : MI y bs nM none As.length) (hy : y.name = "<init>") (him : Cond.instanceMethod y ∈ bigW) (hM : CTg G (xl X) y bs nM d' mc ms (.inr h0 :: As) S W0 W1) (hd' : d' + 1 ≤ d) (h1 : kc + mc ≤ (xR X).cells) (h2 : ks + ms ≤ (xR X).slots) (hst : st = As.reverse ++ .inr h0 :: rest) (hrest : rest.length ≤ 8)
    (kk : ∀ u : S, NJ G X nL Q (kc + mc) (ks + ms) (pc + 3) L rest (W1 u)) : NJ G X nL Q kc ks pc L st W0 := by
  intro H locs ls hP hD hS hL
  have hre : (st.map (rv (gi G))) = (As.map (rv (gi G))).reverse ++ .ref h0 :: rest.map (rv (gi G)) := by rw [hst, List.map_append, List.map_reverse]; rfl
  refine va_callv (va_runI (b := h0) (As := As.map (rv (gi G))) (rest := rest.map (rv (gi G))) F.1 (hM (xA X) H.size) ⟨cn_of F mi hd' hl, hy, F.1.2.2.2.2 _ him⟩ (N_pre F hP hD hS) rfl (by simp) hL.1 hre (lv_room (by rw [cat_sum]; exact hrest)) hd ⟨h1, h2⟩) hS (fun q _ h => h) (fun q h => h) (fun u t H1 locs1 ht hvm hp hB _ _ hS1 => ?_)
  rw [ht] at hB
  exact kk u H1 locs1 ls hB.1 hB.2 hS1 hL
theorem N_callIN (F : FC G X cc own nL d) {y : MethodName} {bs : ByteArray} {nM d' mc ms index h0 : Nat} {As rest : List RV} {S : Type} {W1 : S → va_W} (hd : decode cc pc = .ok (.invokespecial index, 3)) (hl : Cond.methodLinkNest own index y hostN ∈ nestW) (mi : MI y bs nM none As.length) (hy : y.name = "<init>") (him : Cond.instanceMethod y ∈ bigW) (hM : CTg G (xl X) y bs nM d' mc ms (.inr h0 :: As) S W0 W1) (hd' : d' + 1 ≤ d) (h1 : kc + mc ≤ (xR X).cells) (h2 : ks + ms ≤ (xR X).slots) (hst : st = As.reverse ++ .inr h0 :: rest) (hrest : rest.length ≤ 8)
    (kk : ∀ u : S, NJ G X nL Q (kc + mc) (ks + ms) (pc + 3) L rest (W1 u)) : NJ G X nL Q kc ks pc L st W0 := by
  intro H locs ls hP hD hS hL
  have hre : (st.map (rv (gi G))) = (As.map (rv (gi G))).reverse ++ .ref h0 :: rest.map (rv (gi G)) := by rw [hst, List.map_append, List.map_reverse]; rfl
  have hcn : va_CN (xR X) (xs X) (xa X) own index y hostN bs nM none (.code y bs nM none :: bigW) (rmC d' mc ms) mc ms As.length := va_cnB As.length F.1.2.2.2.2 (big_good mi.1) rfl rfl rfl (F.2.2.1 _ hl) (F.1.2.2.2.2 _ mi.2.1) ⟨mi.2.2.1.1, mi.2.2.1.2, mi.2.2.2.1⟩ ⟨by
      have := F.2.2.2.2.1
      show d' + 1 ≤ _
      omega, by
      have := F.2.2.2.2.2.1
      have := mi.2.2.2.2
      show 8 + (nM + 11) + 40 * d' ≤ _
      omega⟩
  refine va_callv (va_runIN (b := h0) (As := As.map (rv (gi G))) (rest := rest.map (rv (gi G))) F.1 (hM (xA X) H.size) ⟨hcn, hy, F.1.2.2.2.2 _ him⟩ (N_pre F hP hD hS) rfl (by simp) hL.1 hre (lv_room (by rw [cat_sum]; exact hrest)) hd ⟨h1, h2⟩) hS (fun q _ h => h) (fun q h => h) (fun u t H1 locs1 ht hvm hp hB _ _ hS1 => ?_)
  rw [ht] at hB
  exact kk u H1 locs1 ls hB.1 hB.2 hS1 hL
theorem N_callS (F : FC G X cc own nL d) {y : MethodName} {bs : ByteArray} {nM d' mc ms index : Nat} {As rest : List RV} {S : Type} {W1 : S → va_W} (hd : decode cc pc = .ok (.invokestatic index, 3)) (hl : Cond.methodLink own index y ∈ bigW) (mi : MI y bs nM none As.length) (hms : Cond.static y ∈ bigW) (hM : CTg G (xl X) y bs nM d' mc ms As S W0 W1) (hd' : d' + 1 ≤ d) (h1 : kc + mc ≤ (xR X).cells) (h2 : ks + ms ≤ (xR X).slots) (hst : st = As.reverse ++ rest) (hrest : rest.length ≤ 8)
    (kk : ∀ u : S, NJ G X nL Q (kc + mc) (ks + ms) (pc + 3) L rest (W1 u)) : NJ G X nL Q kc ks pc L st W0 := by
  intro H locs ls hP hD hS hL
  have hre : (st.map (rv (gi G))) = (As.map (rv (gi G))).reverse ++ rest.map (rv (gi G)) := by rw [hst, List.map_append, List.map_reverse]
  refine va_callv (va_runS (As := As.map (rv (gi G))) (rest := rest.map (rv (gi G))) F.1 (hM (xA X) H.size) ⟨cn_of F mi hd' hl, F.1.2.2.2.2 _ hms⟩ (N_pre F hP hD hS) rfl (by simp) hL.1 hre (lv_room (by rw [cat_sum]; exact hrest)) hd ⟨h1, h2⟩) hS (fun q _ h => h) (fun q h => h) (fun u t H1 locs1 ht hvm hp hB _ _ hS1 => ?_)
  rw [ht] at hB
  exact kk u H1 locs1 ls hB.1 hB.2 hS1 hL
theorem N_mmin (F : FC G X cc own nL d) {a b : Int} {index : Nat} (hd : decode cc pc = .ok (.invokestatic index, 3)) (hd1 : 1 ≤ d) (hst : st.length ≤ 8) (ha : inR a) (hb : inR b) (hk : kc ≤ (xR X).cells ∧ ks ≤ (xR X).slots) (hl : Cond.methodLink own index Lib.Math.min.name ∈ bigW) (h1 : Cond.static Lib.Math.min.name ∈ bigW) (h2 : Cond.initialized "java/lang/Math" ∈ bigW) (h3 : Cond.code Lib.Math.min.name Lib.Math.min.code 2 (some .int) ∈ bigW) (kk : NJ G X nL Q kc ks (pc + 3) L (.inl (if b < a then b else a) :: st) W0) : NJ G X nL Q kc ks pc L (.inl b :: .inl a :: st) W0 := by
  intro H locs ls hP hD hS hL
  refine va_mmin F.1.1 F.1.2.1 (F.1.2.2.1.trans hL.1.symm) F.1.2.2.2.1 (F.1.2.2.2.2 _ hl) (F.1.2.2.2.2 _ h1) (F.1.2.2.2.2 _ h2) (F.1.2.2.2.2 _ h3) (by have := F.2.2.2.2.1; omega) (by rw [cat_sum]; have := F.2.2.2.2.2.1; omega) hk.1 hk.2 hd ?_
  have e : (if Int32.ofInt b < Int32.ofInt a then Int32.ofInt b else Int32.ofInt a) = Int32.ofInt (if b < a then b else a) := by
    by_cases h : b < a
    · rw [if_pos ((iR_lt hb ha).mpr h), if_pos h]
    · rw [if_neg (fun z => h ((iR_lt hb ha).mp z)), if_neg h]
  rw [e]
  exact kk H locs ls hP hD hS hL
theorem N_mmax (F : FC G X cc own nL d) {a b : Int} {index : Nat} (hd : decode cc pc = .ok (.invokestatic index, 3)) (hd1 : 1 ≤ d) (hst : st.length ≤ 8) (ha : inR a) (hb : inR b) (hk : kc ≤ (xR X).cells ∧ ks ≤ (xR X).slots) (hl : Cond.methodLink own index Lib.Math.max.name ∈ bigW) (h1 : Cond.static Lib.Math.max.name ∈ bigW) (h2 : Cond.initialized "java/lang/Math" ∈ bigW) (h3 : Cond.code Lib.Math.max.name Lib.Math.max.code 2 (some .int) ∈ bigW) (kk : NJ G X nL Q kc ks (pc + 3) L (.inl (if a < b then b else a) :: st) W0) : NJ G X nL Q kc ks pc L (.inl b :: .inl a :: st) W0 := by
  intro H locs ls hP hD hS hL
  refine va_mmax F.1.1 F.1.2.1 (F.1.2.2.1.trans hL.1.symm) F.1.2.2.2.1 (F.1.2.2.2.2 _ hl) (F.1.2.2.2.2 _ h1) (F.1.2.2.2.2 _ h2) (F.1.2.2.2.2 _ h3) (by have := F.2.2.2.2.1; omega) (by rw [cat_sum]; have := F.2.2.2.2.2.1; omega) hk.1 hk.2 hd ?_
  have e : (if Int32.ofInt a < Int32.ofInt b then Int32.ofInt b else Int32.ofInt a) = Int32.ofInt (if a < b then b else a) := by
    by_cases h : a < b
    · rw [if_pos ((iR_lt ha hb).mpr h), if_pos h]
    · rw [if_neg (fun z => h ((iR_lt ha hb).mp z)), if_neg h]
  rw [e]
  exact kk H locs ls hP hD hS hL
theorem N_alen (F : FC G X cc own nL d) {j t a n : Nat} {ty : FieldType} {x : (Nat → Int32) ⊕ (Nat → Int64) ⊕ (Nat → UInt32) ⊕ (Nat → UInt64) ⊕ (Nat → Option Nat)} (hd : decode cc pc = .ok (.arraylength, 1)) (ha : W0[j]? = some (a, .inl (gdA G t, n, x))) (ht : tyl[t]? = some ty) (kk : NJ G X nL Q kc ks (pc + 1) L (.inl (n : Int) :: st) W0) : NJ G X nL Q kc ks pc L (.inr a :: st) W0 :=
  fun H locs ls hP hD hS hL => va_alen F.1.1 F.1.2.1 F.2.1 hP j t ha (gT_at G ht) (v := Int32.ofInt (n : Int)) (by rw [Int32.ofInt_eq_ofNat]) hd (kk H locs ls hP hD hS hL)
theorem N_iast (F : FC G X cc own nL d) {j a n : Nat} {f : Nat → Int32} {i z : Int} (hd : decode cc pc = .ok (.iastore, 1)) (ha : W0[j]? = some (a, .inl (gdA G 0, n, .inl f))) (hr : inR i) (hi : 0 ≤ i ∧ i < (n : Int)) (kk : NJ G X nL Q kc ks (pc + 1) L st (W0.set j (a, .inl (gdA G 0, n, .inl (upd f i.toNat (Int32.ofInt z)))))) : NJ G X nL Q kc ks pc L (.inl z :: .inl i :: .inr a :: st) W0 := by
  intro H locs ls hP hD hS hL
  refine va_iast F.1.1 F.1.2.1 F.2.1 hP hD hS j 0 ha (gT_at G (show tyl[0]? = some .int from rfl)) (iR_in hr hi.1 hi.2) hd (fun H1 locs1 hP1 hD1 hS1 => ?_)
  rw [iR_cl hr] at hP1 hD1
  exact kk H1 locs1 ls hP1 hD1 hS1 hL
end NC
theorem D_app {A : Nat → Prop} {w1 w2 : va_W} {h : Nat} (h1 : va_D A w1) (h2 : va_D A w2) (b1 : ∀ (k : Nat) (x : Nat × va_E), w1[k]? = some x → x.1 < h) (b2 : ∀ (k : Nat) (x : Nat × va_E), w2[k]? = some x → h ≤ x.1) : va_D A (w1 ++ w2) := by
  have key : ∀ (k : Nat) (x : Nat × va_E), (w1 ++ w2)[k]? = some x → (k < w1.length ∧ w1[k]? = some x) ∨ (w1.length ≤ k ∧ w2[k - w1.length]? = some x) := by
    intro k x hx
    by_cases hl : k < w1.length
    · rw [List.getElem?_append_left hl] at hx; exact Or.inl ⟨hl, hx⟩
    · rw [List.getElem?_append_right (by omega)] at hx; exact Or.inr ⟨by omega, hx⟩
  refine ⟨fun i j p q hi hj e => ?_, fun k q hk => ?_⟩
  · rcases key i p hi with ⟨a1, a2⟩ | ⟨a1, a2⟩
    · rcases key j q hj with ⟨c1, c2⟩ | ⟨c1, c2⟩
      · exact h1.1 i j p q a2 c2 e
      · have := b1 i p a2; have := b2 _ q c2; omega
    · rcases key j q hj with ⟨c1, c2⟩ | ⟨c1, c2⟩
      · have := b2 _ p a2; have := b1 j q c2; omega
      · have := h2.1 _ _ p q a2 c2 e; omega
  · rcases key k q hk with ⟨_, a2⟩ | ⟨_, a2⟩
    · exact h1.2 k q a2
    · exact h2.2 _ q a2
