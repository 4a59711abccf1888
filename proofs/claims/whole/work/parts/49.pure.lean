abbrev co (a ci : Nat) (fs : List Value) : Nat × va_E := (a, .inr (ci, fs))
abbrev cz (G : vG) (a t n : Nat) : Nat × va_E := (a, .inl (gdA G t, n, .inl (fun _ => 0)))
abbrev cv (G : vG) (a t n : Nat) (f : Nat → Int32) : Nat × va_E := (a, .inl (gdA G t, n, .inl f))
abbrev cr (G : vG) (a t n : Nat) (f : Nat → Option Nat) : Nat × va_E := (a, .inl (gdA G t, n, .inr (.inr (.inr (.inr f)))))
theorem CTg_as {G : vG} {l : Launch} {y : MethodName} {bs : ByteArray} {nL d mc ms : Nat} {as : List RV} {S : Type} {ws cs x : va_W} {o : S → va_W} (h : CTg G l y bs nL d mc ms as S ((ws ++ cs) ++ x) (fun u => (ws ++ cs) ++ o u)) : CTg G l y bs nL d mc ms as S (ws ++ (cs ++ x)) (fun u => ws ++ (cs ++ o u)) := by
  have e : (fun u => (ws ++ cs) ++ o u) = (fun u => ws ++ (cs ++ o u)) := by funext u; rw [List.append_assoc]
  rw [e, List.append_assoc] at h
  exact h
theorem arrV_c {c : ClassId} {n : Nat} {f g : Nat → Value} (h : ∀ j, j < n → f j = g j) : arrV c n f = arrV c n g := by
  unfold arrV
  have : (fun j : Fin n => f j.val) = (fun j : Fin n => g j.val) := by funext j; exact h j.val j.isLt
  rw [this]
theorem va_D_c {A : Nat → Prop} {ws : va_W} {j : Nat} {x y : Nat × va_E} (he : x.1 = y.1) (h : va_D A (ws.set j x)) : va_D A (ws.set j y) := by
  have key : ∀ (k : Nat) (q : Nat × va_E), (ws.set j y)[k]? = some q → ∃ q', (ws.set j x)[k]? = some q' ∧ q'.1 = q.1 := by
    intro k q hq
    rw [List.getElem?_set] at hq ⊢
    by_cases e : j = k
    · rw [if_pos e] at hq ⊢
      by_cases hl : j < ws.length
      · rw [if_pos hl] at hq ⊢
        exact ⟨x, rfl, by rw [he]; exact congrArg Prod.fst (Option.some.inj hq)⟩
      · rw [if_neg hl] at hq; cases hq
    · rw [if_neg e] at hq ⊢
      exact ⟨q, hq, rfl⟩
  refine ⟨fun i k p q hi hk e => ?_, fun k q hk => ?_⟩
  · obtain ⟨p', a1, a2⟩ := key i p hi
    obtain ⟨q', b1, b2⟩ := key k q hk
    exact h.1 i k p' q' a1 b1 (by rw [a2, b2, e])
  · obtain ⟨q', b1, b2⟩ := key k q hk
    rw [← b2]
    exact h.2 k q' b1
theorem va_P_c {D : va_G} {ws : va_W} {j a : Nat} {c : ClassId} {u v : vp_A} {H : Heap} (he : vp_cell c u = vp_cell c v) (h : va_P D classes (ws.set j (a, .inl (c, u))) H) : va_P D classes (ws.set j (a, .inl (c, v))) H := by
  intro k q hq
  have h2 := h k
  rw [List.getElem?_set] at hq h2
  by_cases e : j = k
  · rw [if_pos e] at hq h2
    by_cases hl : j < ws.length
    · rw [if_pos hl] at hq h2
      have h3 := h2 _ rfl
      cases Option.some.inj hq
      show H[a]? = some (vp_cell c v)
      rw [← he]
      exact h3
    · rw [if_neg hl] at hq; cases hq
  · rw [if_neg e] at hq h2
    exact h2 q hq
theorem lpN_fill {G : vG} {X : vX} {Q : State → Prop} {W0 : va_W} {j a n : Nat} {f : Nat → Int32} {v : Int} {mc ms : Nat} (hn : n < 2147483648) (ha : W0[j]? = some (a, .inl (gdA G 0, n, .inl f))) (F : FC G X cA_fill yA_fill.cls 4 0) (hR : NRet G X cA_fill 4 Q mc ms Unit (fun _ => W0.set j (a, .inl (gdA G 0, n, .inl (fun _ => Int32.ofInt v))))) : ∀ (m : Nat) (i : Int), (n : Int) - i < m → 0 ≤ i → i ≤ n → NJ G X 4 Q 0 0 5 [some (.inr a), some (.inl v), some (.inl i), some (.inl (n : Int))] [] (W0.set j (a, .inl (gdA G 0, n, .inl (fun k => if (k : Int) < i then Int32.ofInt v else f k)))) := by
  have hlen := (List.getElem?_eq_some_iff.mp ha).1
  intro m
  induction m with
  | zero => intro i h0 h1 h2; omega
  | succ m ih =>
    intro i h0 h1 h2
    refine N_iload_n (i := 2) F dA_fill_5 rfl rfl ?_
    refine N_iload_n (i := 3) F dA_fill_6 rfl rfl ?_
    refine N_icmp_ge F 20 dA_fill_7 (by decide) ⟨by omega, by omega⟩ ⟨by omega, by omega⟩ (fun h7 => ?_) (fun h7 => ?_)
    · intro H locs ls hP hD hS hl
      have e : vp_cell (gdA G 0) (n, .inl (fun k : Nat => if (k : Int) < i then Int32.ofInt v else f k)) = vp_cell (gdA G 0) (n, .inl (fun _ => Int32.ofInt v)) := by
        show arrV (gdA G 0) n (fun k : Nat => Value.int (if (k : Int) < i then Int32.ofInt v else f k)) = arrV (gdA G 0) n (fun _ => Value.int (Int32.ofInt v))
        exact arrV_c (fun k hk => by rw [if_pos (by omega)])
      exact hR 20 _ () 0 0 dA_fill_20 (Nat.zero_le _) (Nat.zero_le _) H locs ls (va_P_c e hP) (va_D_c (x := (a, .inl (gdA G 0, n, .inl (fun k : Nat => if (k : Int) < i then Int32.ofInt v else f k)))) rfl hD) hS hl
    · refine N_aload_n (i := 0) F dA_fill_10 rfl rfl ?_
      refine N_iload_n (i := 2) F dA_fill_11 rfl rfl ?_
      refine N_iload_n (i := 1) F dA_fill_12 rfl rfl ?_
      refine N_iast (j := j) F dA_fill_13 (by rw [List.getElem?_set_self hlen]) ⟨by omega, by omega⟩ (by omega) ?_
      rw [List.set_set]
      refine N_iinc F dA_fill_14 (by decide) rfl (by simp only [List.set_cons_zero, List.set_cons_succ]; exact rfl) ?_
      refine N_goto F 5 dA_fill_17 (by decide) ?_
      have e : upd (fun k : Nat => if (k : Int) < i then Int32.ofInt v else f k) i.toNat (Int32.ofInt v) = (fun k : Nat => if (k : Int) < i + 1 then Int32.ofInt v else f k) := by
        funext k
        unfold upd
        by_cases ek : k = i.toNat
        · rw [if_pos ek, if_pos (by omega)]
        · rw [if_neg ek]
          show (if (k : Int) < i then Int32.ofInt v else f k) = _
          by_cases hk : (k : Int) < i
          · rw [if_pos hk, if_pos (by omega)]
          · rw [if_neg hk, if_neg (by omega)]
      rw [e]
      exact ih (i + 1) (by omega) (by omega) (by omega)
theorem ctN_fill {G : vG} {l : Launch} {W0 : va_W} {j a n : Nat} {f : Nat → Int32} {v : Int} (hn : n < 2147483648) (ha : W0[j]? = some (a, .inl (gdA G 0, n, .inl f))) : CTg G l yA_fill cA_fill 4 0 0 0 [.inr a, .inl v] Unit W0 (fun _ => W0.set j (a, .inl (gdA G 0, n, .inl (fun _ => Int32.ofInt v)))) := by
  refine CTg.intro (by decide) (Nat.le_of_ble_eq_true rfl) ?_
  intro X Q F hX hin hRc hRs hR
  show NJ G X 4 Q 0 0 0 [some (.inr a), some (.inl v), none, none] [] W0
  refine N_iconst F dA_fill_0 ?_
  refine N_istore_n (i := 2) F dA_fill_1 rfl (by decide) (by simp only [List.set_cons_zero, List.set_cons_succ]; exact rfl) ?_
  refine N_aload_n (i := 0) F dA_fill_2 rfl rfl ?_
  refine N_alen (j := j) F dA_fill_3 ha (show tyl[0]? = some .int from rfl) ?_
  refine N_istore_n (i := 3) F dA_fill_4 rfl (by decide) (by simp only [List.set_cons_zero, List.set_cons_succ]; exact rfl) ?_
  have e : W0.set j (a, .inl (gdA G 0, n, .inl (fun k : Nat => if (k : Int) < 0 then Int32.ofInt v else f k))) = W0 := by
    have e1 : (fun k : Nat => if (k : Int) < 0 then Int32.ofInt v else f k) = f := by funext k; rw [if_neg (by omega)]
    rw [e1]
    apply List.ext_getElem?
    intro k
    rw [List.getElem?_set]
    by_cases ek : j = k
    · subst ek
      rw [if_pos rfl, if_pos (List.getElem?_eq_some_iff.mp ha).1, ha]
    · rw [if_neg ek]
  have := lpN_fill hn ha F hR (n + 1) 0 (by omega) (by omega) (by omega)
  rw [e] at this
  exact this
theorem outer_eq (c : ClassId) (h0 : Nat) : Jvm.Free.Multi.outerC c 6 h0 6 = arrV c 6 (fun j => va_rf (if j < 6 then some (h0 + 1 + j) else none)) := by
  have hf : ∀ i, Jvm.Free.Multi.outerC c 6 h0 i = { cls := c, slots := (Jvm.Free.Multi.outerC c 6 h0 i).slots, vm := .none } := by
    intro i
    induction i with
    | zero => rfl
    | succ i ih =>
      show (Jvm.Free.Multi.outerC c 6 h0 i).setSlot i _ = _
      rw [ih]
      rfl
  rw [hf 6]
  unfold arrV
  congr 1
def mW (G : vG) (q : Nat) : va_W := [cr G q 4 6 (fun j => if j < 6 then some (q + 1 + j) else none), cz G (q + 1) 0 256, cz G (q + 2) 0 256, cz G (q + 3) 0 256, cz G (q + 4) 0 256, cz G (q + 5) 0 256, cz G (q + 6) 0 256]
theorem mW_at {G : vG} {q k : Nat} {x : Nat × va_E} (h : (mW G q)[k]? = some x) : (k = 0 ∧ x = cr G q 4 6 (fun j => if j < 6 then some (q + 1 + j) else none)) ∨ ∃ j, j < 6 ∧ k = j + 1 ∧ x = cz G (q + 1 + j) 0 256 := by
  unfold mW at h
  rcases k with _ | _ | _ | _ | _ | _ | _ | k
  · exact Or.inl ⟨rfl, (Option.some.inj h).symm⟩
  · exact Or.inr ⟨0, by decide, rfl, (Option.some.inj h).symm⟩
  · exact Or.inr ⟨1, by decide, rfl, (Option.some.inj h).symm⟩
  · exact Or.inr ⟨2, by decide, rfl, (Option.some.inj h).symm⟩
  · exact Or.inr ⟨3, by decide, rfl, (Option.some.inj h).symm⟩
  · exact Or.inr ⟨4, by decide, rfl, (Option.some.inj h).symm⟩
  · exact Or.inr ⟨5, by decide, rfl, (Option.some.inj h).symm⟩
  · simp at h
theorem N_multi {G : vG} {X : vX} {cc : ByteArray} {own : String} {nL d pc kc ks : Nat} {Q : State → Prop} {L : List (Option RV)} {st : List RV} {ws cs : va_W} (F : FC G X cc own nL d) {index : Nat} (hd : decode cc pc = .ok (.multianewarray index 2, 4)) (hw : Cond.classLink own index ("[" ++ (FieldType.array .int).toString) ∈ bigW) (hw3 : Cond.arrayClass .int ∈ bigW) (h1 : kc + 7 ≤ (xR X).cells) (h2 : ks + 1542 ≤ (xR X).slots)
    (kk : ∀ q : Nat, NJ G X nL Q (kc + 7) (ks + 1542) (pc + 4) L (.inr q :: st) (ws ++ (cs ++ mW G q))) : NJ G X nL Q kc ks pc L (.inl 256 :: .inl 6 :: st) (ws ++ cs) := by
  intro H locs ls hP hD hS hl T hT XS
  have n6 : (Int32.ofInt 6).toNatClampNeg = 6 := by decide
  have n256 : (Int32.ofInt 256).toNatClampNeg = 256 := by decide
  obtain ⟨vm₁, cA, comp, hW, hfA, hfC, hO, hI, X1, step⟩ := XS.multianewarray2F F.1.1 (own := own) (index := index) (ty := .int) F.1.2.2.2.1 (F.1.2.2.2.2 _ hw) (show (Cond.arrayOver (.array .int)).before (xa X) (xs X) = true from F.2.2.2.2.2.2.2.2) (F.1.2.2.2.2 _ hw3) (g := F0 (xm X) pc ls (.int (Int32.ofInt 256) :: .int (Int32.ofInt 6) :: st.map (rv (gi G)))) rfl (by rw [F.1.2.1]; exact hd) (n := Int32.ofInt 6) (k := Int32.ofInt 256) (rest := st.map (rv (gi G))) rfl (by decide) (by decide) (by decide) (by decide) (by decide) rfl rfl (by rw [n6]; omega) (by rw [n6, n256]; omega)
  rw [n6, n256] at X1 step
  have eA : cA = gdA G 4 := by
    have := (F.2.1.2 4 _ (gT_at G (show tyl[4]? = some (.array .int) from rfl))).2
    exact Option.some.inj (hfA.symm.trans this)
  have eC : comp = gdA G 0 := by
    have := (F.2.1.2 0 _ (gT_at G (show tyl[0]? = some .int from rfl))).2
    exact Option.some.inj (hfC.symm.trans this)
  subst hT
  obtain ⟨f1, f2, f3, f4⟩ := Jvm.Free.Multi.fill_facts (T.setVm vm₁) cA comp 6 256 (defaultValue .int) 6
  have fo := fun (a : Addr) (ha : a < T.heap.size) => Jvm.Free.Multi.fill_old (T.setVm vm₁) cA comp 6 256 (defaultValue .int) (a := a) ha 6
  have fi := fun (j : Nat) (hj : j < 6) => Jvm.Free.Multi.fill_inner (T.setVm vm₁) cA comp 6 256 (defaultValue .int) 6 j hj
  have hlt : ∀ (k : Nat) (x : Nat × va_E), (ws ++ cs)[k]? = some x → x.1 < T.heap.size := fun k x hx => (hP k x hx).lt
  have hA : ∀ q : Nat, T.heap.size ≤ q → xA X q := fun q h => F.2.2.2.1 q (Nat.le_trans hS.1 h)
  have hP2 : va_P (gD G) classes (mW G T.heap.size) (Jvm.Free.Multi.fill (T.setVm vm₁) cA comp 6 256 (defaultValue .int) 6).heap := by
    intro k x hx
    rcases mW_at hx with ⟨_, rfl⟩ | ⟨j, hj, _, rfl⟩
    · show _ = some (vp_cell _ _)
      rw [vp_cell_q, ← outer_eq, ← eA]
      exact f2
    · show _ = some (vp_cell _ _)
      rw [← eC]
      refine (fi j hj).trans ?_
      show some ({ cls := comp, slots := Array.replicate 256 (Value.int 0), vm := .none } : Cell) = _
      rw [arrV_new]
      rfl
  have hD2 : va_D (xA X) (mW G T.heap.size) := by
    refine ⟨fun i j p q hi hj e => ?_, fun k q hk => ?_⟩
    · rcases mW_at hi with ⟨a1, rfl⟩ | ⟨a, a1, a2, rfl⟩
      · rcases mW_at hj with ⟨b1, rfl⟩ | ⟨b, b1, b2, rfl⟩
        · omega
        · have e : T.heap.size = T.heap.size + 1 + b := e; omega
      · rcases mW_at hj with ⟨b1, rfl⟩ | ⟨b, b1, b2, rfl⟩
        · have e : T.heap.size + 1 + a = T.heap.size := e; omega
        · have e : T.heap.size + 1 + a = T.heap.size + 1 + b := e; omega
    · rcases mW_at hk with ⟨a1, rfl⟩ | ⟨a, a1, a2, rfl⟩
      · exact hA _ (Nat.le_refl _)
      · exact hA _ (by show _ ≤ T.heap.size + 1 + a; omega)
  have hD3 : va_D (xA X) (ws ++ (cs ++ mW G T.heap.size)) := by
    rw [← List.append_assoc]
    refine D_app (h := T.heap.size) hD hD2 hlt (fun k x hx => ?_)
    rcases mW_at hx with ⟨_, rfl⟩ | ⟨j, hj, _, rfl⟩
    · exact Nat.le_refl _
    · show _ ≤ T.heap.size + 1 + j
      omega
  have hP3 : va_P (gD G) classes (ws ++ (cs ++ mW G T.heap.size)) (Jvm.Free.Multi.fill (T.setVm vm₁) cA comp 6 256 (defaultValue .int) 6).heap := by
    rw [← List.append_assoc]
    exact (hP.kept (fun k x hx => fo x.1 (hlt k x hx))).app hP2
  have hS3 : va_S (xA X) (xs X).heap (Jvm.Free.Multi.fill (T.setVm vm₁) cA comp 6 256 (defaultValue .int) 6).heap locs := by
    refine ⟨Nat.le_trans hS.1 (by rw [f1]; show T.heap.size ≤ T.heap.size + 1 + 6; omega), fun q a b => ?_, hS.2.2⟩
    exact (fo q (Nat.lt_of_lt_of_le a hS.1)).trans (hS.2.1 q a b)
  obtain ⟨t, a1, b1⟩ := kk T.heap.size _ locs ls hP3 hD3 hS3 hl _ rfl X1
  exact ⟨t, step t a1, b1⟩
