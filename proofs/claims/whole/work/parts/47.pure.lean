/-! THE GROWING WORLD: constructors. The world is a caller's cells ws with the method's own cells cs behind it; references are addresses. -/
abbrev gi (G : vG) : vG := (G.1, G.2.1, id, G.2.2.2)
def AOk (s : State) : Prop := va_AO R_T s ∧ va_AO R_N s ∧ (Cond.arrayOver (.array .int)).before #[] s = true
theorem AOk_m {u U : State} (h : u.vm.Alike U.vm) (q : AOk u) : AOk U := ⟨va_AO.moved h q.1, va_AO.moved h q.2.1, arrayOver_alikeB h q.2.2⟩
def FC (G : vG) (X : vX) (cc : ByteArray) (own : String) (nL d : Nat) : Prop := CallFix (xp X) (xm X) (xc X) cc nL (xs X) (xa X) bigW own ∧ va_K (gD G) classes (gT G) (xs X) ∧ (∀ w ∈ nestW, va_Nw w (xs X)) ∧ (∀ q : Nat, (xs X).heap.size ≤ q → xA X q) ∧ d ≤ (xR X).frames ∧ 40 * d ≤ (xR X).locals ∧ AOk (xs X)
def NJ (G : vG) (X : vX) (nL : Nat) (Q : State → Prop) (kc ks pc : Nat) (L : List (Option RV)) (st : List RV) (ws : va_W) : Prop :=
  ∀ (H : Heap) (locs : List Loc) (ls : Array Slot), va_P (gD G) classes ws H → va_D (xA X) ws → va_S (xA X) (xs X).heap H locs → lv_has ls nL (gL (gi G) L) → W (xp X) (xl X) (xe X) (xR X) (xs X) (xm X) (xa X) (xb X) (xh X) (xc X) H locs kc ks Q (F0 (xm X) pc ls (st.map (rv (gi G))))
theorem app_at {ws cs : va_W} {j : Nat} {x : Nat × va_E} (h : cs[j]? = some x) : (ws ++ cs)[ws.length + j]? = some x := by
  rw [List.getElem?_append_right (by omega), show ws.length + j - ws.length = j by omega]
  exact h
theorem app_set {ws cs : va_W} {j : Nat} {x : Nat × va_E} : (ws ++ cs).set (ws.length + j) x = ws ++ cs.set j x := by
  rw [List.set_append, if_neg (by omega), show ws.length + j - ws.length = j by omega]
section NK
variable {G : vG} {X : vX} {cc : ByteArray} {own : String} {nL d pc kc ks : Nat} {Q : State → Prop} {L : List (Option RV)} {st : List RV} {ws cs cs' : va_W}
theorem N_aload_n (F : FC G X cc own nL d) {j : Fin 4} {i z : Nat} (hd : decode cc pc = .ok (.aload_n j, 1)) (hi : (j : Nat) = i) (hz : L[i]? = some (some (.inr z))) (k : NJ G X nL Q kc ks (pc + 1) L (.inr z :: st) ws) : NJ G X nL Q kc ks pc L st ws :=
  fun H locs ls hP hD hS hl => lv_aload_n F.1.1 F.1.2.1 hd hi (gL_at hl hz) (k H locs ls hP hD hS hl)
theorem N_iload_n (F : FC G X cc own nL d) {j : Fin 4} {i : Nat} {z : Int} (hd : decode cc pc = .ok (.iload_n j, 1)) (hi : (j : Nat) = i) (hz : L[i]? = some (some (.inl z))) (k : NJ G X nL Q kc ks (pc + 1) L (.inl z :: st) ws) : NJ G X nL Q kc ks pc L st ws :=
  fun H locs ls hP hD hS hl => lv_iload_n F.1.1 F.1.2.1 hd hi (gL_at hl hz) (k H locs ls hP hD hS hl)
theorem N_iload (F : FC G X cc own nL d) {i : Nat} {z : Int} (hd : decode cc pc = .ok (.iload i, 2)) (hz : L[i]? = some (some (.inl z))) (k : NJ G X nL Q kc ks (pc + 2) L (.inl z :: st) ws) : NJ G X nL Q kc ks pc L st ws :=
  fun H locs ls hP hD hS hl => lv_iload F.1.1 F.1.2.1 hd (gL_at hl hz) (k H locs ls hP hD hS hl)
theorem N_iconst (F : FC G X cc own nL d) {n : Int} (hd : decode cc pc = .ok (.iconst n, 1)) (k : NJ G X nL Q kc ks (pc + 1) L (.inl n :: st) ws) : NJ G X nL Q kc ks pc L st ws :=
  fun H locs ls hP hD hS hl => lv_iconst F.1.1 F.1.2.1 hd rfl (k H locs ls hP hD hS hl)
theorem N_bipush (F : FC G X cc own nL d) {n : Int} (hd : decode cc pc = .ok (.bipush n, 2)) (hn : (Int8.ofInt n).toInt32 = Int32.ofInt n) (k : NJ G X nL Q kc ks (pc + 2) L (.inl n :: st) ws) : NJ G X nL Q kc ks pc L st ws :=
  fun H locs ls hP hD hS hl => lv_bipush F.1.1 F.1.2.1 hd hn (k H locs ls hP hD hS hl)
theorem N_sipush (F : FC G X cc own nL d) {n : Int} (hd : decode cc pc = .ok (.sipush n, 3)) (hn : (Int16.ofInt n).toInt32 = Int32.ofInt n) (k : NJ G X nL Q kc ks (pc + 3) L (.inl n :: st) ws) : NJ G X nL Q kc ks pc L st ws :=
  fun H locs ls hP hD hS hl => lv_sipush F.1.1 F.1.2.1 hd hn (k H locs ls hP hD hS hl)
theorem N_istore_n (F : FC G X cc own nL d) {j : Fin 4} {i : Nat} {z : Int} {L' : List (Option RV)} (hd : decode cc pc = .ok (.istore_n j, 1)) (hi : (j : Nat) = i) (hn : i < nL) (hL : L.set i (some (.inl z)) = L') (k : NJ G X nL Q kc ks (pc + 1) L' st ws) : NJ G X nL Q kc ks pc L (.inl z :: st) ws := by
  subst hL
  exact fun H locs ls hP hD hS hl => lv_istore_n F.1.1 F.1.2.1 hd hi hl hn rfl fun ls' hl' => k H locs ls' hP hD hS (gL_set (x := .inl z) hl')
theorem N_istore (F : FC G X cc own nL d) {i : Nat} {z : Int} {L' : List (Option RV)} (hd : decode cc pc = .ok (.istore i, 2)) (hn : i < nL) (hL : L.set i (some (.inl z)) = L') (k : NJ G X nL Q kc ks (pc + 2) L' st ws) : NJ G X nL Q kc ks pc L (.inl z :: st) ws := by
  subst hL
  exact fun H locs ls hP hD hS hl => lv_istore F.1.1 F.1.2.1 hd hl hn rfl fun ls' hl' => k H locs ls' hP hD hS (gL_set (x := .inl z) hl')
theorem N_astore_n (F : FC G X cc own nL d) {j : Fin 4} {i : Nat} {z : Nat} {L' : List (Option RV)} (hd : decode cc pc = .ok (.astore_n j, 1)) (hi : (j : Nat) = i) (hn : i < nL) (hL : L.set i (some (.inr z)) = L') (k : NJ G X nL Q kc ks (pc + 1) L' st ws) : NJ G X nL Q kc ks pc L (.inr z :: st) ws := by
  subst hL
  exact fun H locs ls hP hD hS hl => lv_astore_n F.1.1 F.1.2.1 hd hi hl hn rfl fun ls' hl' => k H locs ls' hP hD hS (gL_set (x := .inr z) hl')
theorem N_iinc (F : FC G X cc own nL d) {i : Nat} {n z : Int} {L' : List (Option RV)} (hd : decode cc pc = .ok (.iinc i n, 3)) (hn : i < nL) (hz : L[i]? = some (some (.inl z))) (hL : L.set i (some (.inl (z + n))) = L') (k : NJ G X nL Q kc ks (pc + 3) L' st ws) : NJ G X nL Q kc ks pc L st ws := by
  subst hL
  intro H locs ls hP hD hS hl
  obtain ⟨j, hj⟩ := List.getElem?_of_mem (gL_mem.mpr ⟨_, hz, rfl⟩ : ((i, rv (gi G) (.inl z)) : Nat × Value) ∈ gL (gi G) L)
  refine lv_iinc F.1.1 F.1.2.1 hd hl hj (v := Int32.ofInt (z + n)) (by rw [Int32.ofInt_add]) hn rfl fun ls' hl' => k H locs ls' hP hD hS (gL_set (x := .inl (z + n)) hl')
theorem N_dup (F : FC G X cc own nL d) {v : RV} (hd : decode cc pc = .ok (.dup, 1)) (k : NJ G X nL Q kc ks (pc + 1) L (v :: v :: st) ws) : NJ G X nL Q kc ks pc L (v :: st) ws :=
  fun H locs ls hP hD hS hl => lv_dup F.1.1 F.1.2.1 hd (rv_cat (gi G) v) (k H locs ls hP hD hS hl)
theorem N_goto (F : FC G X cc own nL d) {off : Int} (tgt : Nat) (hd : decode cc pc = .ok (.goto off, 3)) (ht : (pc : Int) + off = (tgt : Int)) (k : NJ G X nL Q kc ks tgt L st ws) : NJ G X nL Q kc ks pc L st ws :=
  fun H locs ls hP hD hS hl => lv_goto F.1.1 F.1.2.1 hd ht (k H locs ls hP hD hS hl)
theorem N_icmp_ge (F : FC G X cc own nL d) {a b off : Int} (tgt : Nat) (hd : decode cc pc = .ok (.if_icmp .ge off, 3)) (ht : (pc : Int) + off = (tgt : Int)) (ha : inR a) (hb : inR b) (kt : b ≤ a → NJ G X nL Q kc ks tgt L st ws) (kf : ¬ b ≤ a → NJ G X nL Q kc ks (pc + 3) L st ws) : NJ G X nL Q kc ks pc L (.inl b :: .inl a :: st) ws := by
  intro H locs ls hP hD hS hl
  have E := (iR_le hb ha)
  exact lv_icmp_ge F.1.1 F.1.2.1 hd ht (fun h => kt (E.mp h) H locs ls hP hD hS hl) (fun h => kf (fun z => h (E.mpr z)) H locs ls hP hD hS hl)
theorem N_icmp_le (F : FC G X cc own nL d) {a b off : Int} (tgt : Nat) (hd : decode cc pc = .ok (.if_icmp .le off, 3)) (ht : (pc : Int) + off = (tgt : Int)) (ha : inR a) (hb : inR b) (kt : a ≤ b → NJ G X nL Q kc ks tgt L st ws) (kf : ¬ a ≤ b → NJ G X nL Q kc ks (pc + 3) L st ws) : NJ G X nL Q kc ks pc L (.inl b :: .inl a :: st) ws := by
  intro H locs ls hP hD hS hl
  have E := (iR_le ha hb)
  exact lv_icmp_le F.1.1 F.1.2.1 hd ht (fun h => kt (E.mp h) H locs ls hP hD hS hl) (fun h => kf (fun z => h (E.mpr z)) H locs ls hP hD hS hl)
/-- Object's constructor -/
theorem N_obj (F : FC G X cc own nL d) (h1d : 1 ≤ d) {idx a : Nat} (hd : decode cc pc = .ok (.invokespecial idx, 3)) (h1 : Cond.methodLink own idx Lib.objectInit ∈ bigW) (h2 : Cond.instanceMethod Lib.objectInit ∈ bigW) (h3 : Cond.code Lib.objectInit ⟨#[0xb1]⟩ 1 none ∈ bigW) (k : NJ G X nL Q kc ks (pc + 3) L [] ws) : NJ G X nL Q kc ks pc L [.inr a] ws := by
  intro H locs ls hP hD hS hl
  have f1 := F.2.2.2.2.1
  have f2 := F.2.2.2.2.2.1
  exact W.objInit F.1.1 F.1.2.1 F.1.2.2.2.1 (F.1.2.2.2.2 _ h1) (F.1.2.2.2.2 _ h2) (F.1.2.2.2.2 _ h3) rfl (by rw [F.1.2.2.1]; exact hl.1) (rest := []) rfl hd (by omega) (by show 2 * 0 + 0 + 12 ≤ _; omega) (k H locs ls hP hD hS hl)
/-- a new object -/
theorem N_new (F : FC G X cc own nL d) {ci index n : Nat} {C : String} {T : u_T} {fs : List Value} (hd : decode cc pc = .ok (.new index, 3)) (hl1 : Cond.classLink own index C ∈ bigW) (hl2 : Cond.instantiable C n ∈ bigW) (hl3 : Cond.initialized C ∈ bigW) (hc : classes[ci]? = some (C, T, n)) (hfs : ∀ (ty : Nat → FieldType), (∀ k, k < n → parseFieldDescriptor (T k).2.2.1 = some (ty k)) → ∀ j, j < n → defaultValue (ty j) = vp_V fs j) (h1 : kc + 1 ≤ (xR X).cells) (h2 : ks + n ≤ (xR X).slots)
    (kk : ∀ q : Nat, NJ G X nL Q (kc + 1) (ks + n) (pc + 3) L (.inr q :: st) (ws ++ (cs ++ [(q, .inr (ci, fs))]))) : NJ G X nL Q kc ks pc L st (ws ++ cs) := by
  intro H locs ls hP hD hS hl
  obtain ⟨ty0, hty⟩ := cls_ty hc
  refine va_new F.1.1 F.1.2.1 F.1.2.2.2.2 (cls_in hc) ty0 hty F.1.2.2.2.1 (F.1.2.2.2.2 _ hl1) (F.1.2.2.2.2 _ hl2) (F.1.2.2.2.2 _ hl3) F.2.1 hP hD hS F.2.2.2.1 hc (hfs ty0 hty) h1 h2 hd (fun q H1 hP1 hD1 hS1 => ?_)
  rw [List.append_assoc] at hP1 hD1
  exact kk q H1 locs ls hP1 hD1 hS1 hl
/-- a final field -/
theorem N_putF (F : FC G X cc own nL d) (hin : (xh X).name = "<init>") {ci index n a j k : Nat} {C : String} {T : u_T} {fs : List Value} {v : RV} {ty : FieldType} (hd : decode cc pc = .ok (.putfield index, 3)) (he : cs[j]? = some (a, .inr (ci, fs))) (hc : classes[ci]? = some (C, T, n)) (hk : k < n) (hl1 : Cond.fieldLink own index (T k).1 (T k).2.1 (T k).2.2.1 ∈ bigW) (hf : (T k).2.2.2 = true) (hdecl : (T k).1 = own) (hty : parseFieldDescriptor (T k).2.2.1 = some ty) (hn : narrow ty (rv (gi G) v) = rv (gi G) v) (hfit : fits ty (rv (gi G) v) = true) (hlen : k < fs.length) (hcs : cs.set j (a, .inr (ci, fs.set k (rv (gi G) v))) = cs')
    (kk : NJ G X nL Q kc ks (pc + 3) L st (ws ++ cs')) : NJ G X nL Q kc ks pc L (v :: .inr a :: st) (ws ++ cs) := by
  intro H locs ls hP hD hS hl
  subst hcs
  obtain ⟨ty0, hty0⟩ := cls_ty hc
  refine va_putF F.1.1 F.1.2.1 F.1.2.2.2.2 (cls_in hc) ty0 hty0 (cls_nm hc) F.1.2.2.2.1 F.2.1 hP hD hS (ws.length + j) (app_at he) hc k hk (F.1.2.2.2.2 _ hl1) (fun _ h => h) hf hin hdecl hty hn hfit hlen hd (fun H1 locs1 hP1 hD1 hS1 => ?_)
  rw [app_set] at hP1 hD1
  exact kk H1 locs1 ls hP1 hD1 hS1 hl
/-- a field that isn't final -/
theorem N_put (F : FC G X cc own nL d) {ci index n a j k : Nat} {C : String} {T : u_T} {fs : List Value} {v : RV} {ty : FieldType} (hd : decode cc pc = .ok (.putfield index, 3)) (he : cs[j]? = some (a, .inr (ci, fs))) (hc : classes[ci]? = some (C, T, n)) (hk : k < n) (hl1 : Cond.fieldLink own index (T k).1 (T k).2.1 (T k).2.2.1 ∈ bigW) (hf : (T k).2.2.2 = false) (hty : parseFieldDescriptor (T k).2.2.1 = some ty) (hn : narrow ty (rv (gi G) v) = rv (gi G) v) (hfit : fits ty (rv (gi G) v) = true) (hlen : k < fs.length) (hcs : cs.set j (a, .inr (ci, fs.set k (rv (gi G) v))) = cs')
    (kk : NJ G X nL Q kc ks (pc + 3) L st (ws ++ cs')) : NJ G X nL Q kc ks pc L (v :: .inr a :: st) (ws ++ cs) := by
  intro H locs ls hP hD hS hl
  subst hcs
  obtain ⟨ty0, hty0⟩ := cls_ty hc
  refine va_put F.1.1 F.1.2.1 F.1.2.2.2.2 (cls_in hc) ty0 hty0 (cls_nm hc) F.1.2.2.2.1 F.2.1 hP hD hS (ws.length + j) (app_at he) hc k hk (F.1.2.2.2.2 _ hl1) (fun _ h => h) hf hty hn hfit hlen hd (fun H1 locs1 hP1 hD1 hS1 => ?_)
  rw [app_set] at hP1 hD1
  exact kk H1 locs1 ls hP1 hD1 hS1 hl
/-- a field with a reference -/
theorem N_getr (F : FC G X cc own nL d) {ci index n a j k b : Nat} {C : String} {T : u_T} {fs : List Value} (hd : decode cc pc = .ok (.getfield index, 3)) (he : cs[j]? = some (a, .inr (ci, fs))) (hc : classes[ci]? = some (C, T, n)) (hk : k < n) (hl1 : Cond.fieldLink own index (T k).1 (T k).2.1 (T k).2.2.1 ∈ bigW) (hv : fs[k]? = some (.ref b)) (kk : NJ G X nL Q kc ks (pc + 3) L (.inr b :: st) (ws ++ cs)) : NJ G X nL Q kc ks pc L (.inr a :: st) (ws ++ cs) :=
  fun H locs ls hP hD hS hl => va_get F.1.1 F.1.2.1 F.1.2.2.2.2 (cls_in hc) F.1.2.2.2.1 F.2.1 hP (ws.length + j) (app_at he) hc k hk (F.1.2.2.2.2 _ hl1) (fun _ h => h) hv hd (kk H locs ls hP hD hS hl)
/-- the class of an array is the one of its name -/
theorem K_one {s : State} {t : Nat} {ty : FieldType} {cA : ClassId} (hK : va_K (gD G) classes (gT G ++ [(cA, ty)]) s) (ht : tyl[t]? = some ty) : cA = gdA G t := by
  have h1 := (hK.2 t (gdA G t, ty) (by rw [List.getElem?_append_left (List.getElem?_eq_some_iff.mp (gT_at G ht)).1]; exact gT_at G ht)).2
  have h2 := (hK.2 (gT G).length (cA, ty) (by simp)).2
  cases ty with
  | object C =>
    obtain ⟨_, _, _, _, _, a⟩ := h1
    obtain ⟨_, _, _, _, _, b⟩ := h2
    exact Option.some.inj (b.symm.trans a)
  | _ => exact Option.some.inj (h2.symm.trans h1)
/-- a new array of ints or booleans -/
theorem N_newa (F : FC G X cc own nL d) {at0 : ArrayType} {t n : Nat} {ty : FieldType} {z : Int} (hd : decode cc pc = .ok (.newarray at0, 2)) (hw : Cond.arrayClass ty ∈ bigW) (hty : newarray.typeOf at0 = ty) (ht : tyl[t]? = some ty) (h0 : defaultValue ty = .int 0) (hz : ¬ Int32.ofInt z < 0) (hn : (Int32.ofInt z).toNatClampNeg = n) (hb : n * componentBytes ty ≤ 536870912) (h1 : kc + 1 ≤ (xR X).cells) (h2 : ks + n ≤ (xR X).slots)
    (kk : ∀ q : Nat, NJ G X nL Q (kc + 1) (ks + n) (pc + 2) L (.inr q :: st) (ws ++ (cs ++ [(q, .inl (gdA G t, n, .inl (fun _ => 0)))]))) : NJ G X nL Q kc ks pc L (.inl z :: st) (ws ++ cs) := by
  intro H locs ls hP hD hS hl
  refine va_newa F.1.1 F.1.2.1 (by rw [hty]; exact F.1.2.2.2.2 _ hw) hty F.2.1 hP hD hS F.2.2.2.1 (a0 := (n, .inl (fun _ => 0))) (fun cA => by rw [h0]; rfl) hz hn hb h1 h2 hd (fun q cA H1 hK1 hP1 hD1 hS1 => ?_)
  rw [List.append_assoc, K_one hK1 ht] at hP1 hD1
  exact kk q H1 locs ls hP1 hD1 hS1 hl
/-- a new array of references -/
theorem N_newq (F : FC G X cc own nL d) {index t n : Nat} {C : String} {z : Int} (hd : decode cc pc = .ok (.anewarray index, 3)) (hw : Cond.classLink own index C ∈ bigW) (hw2 : AOk (xs X) → va_AO C (xs X)) (ht : tyl[t]? = some (.object C)) (hz : ¬ Int32.ofInt z < 0) (hn : (Int32.ofInt z).toNatClampNeg = n) (hb : n * 4 ≤ 536870912) (h1 : kc + 1 ≤ (xR X).cells) (h2 : ks + n ≤ (xR X).slots)
    (kk : ∀ q : Nat, NJ G X nL Q (kc + 1) (ks + n) (pc + 3) L (.inr q :: st) (ws ++ (cs ++ [(q, .inl (gdA G t, n, .inr (.inr (.inr (.inr (fun _ => none))))))]))) : NJ G X nL Q kc ks pc L (.inl z :: st) (ws ++ cs) := by
  intro H locs ls hP hD hS hl
  refine va_newq F.1.1 F.1.2.1 F.1.2.2.2.1 (F.1.2.2.2.2 _ hw) (hw2 F.2.2.2.2.2.2) F.2.1 hP hD hS F.2.2.2.1 hz hn hb h1 h2 hd (fun q cA H1 hK1 hP1 hD1 hS1 => ?_)
  rw [List.append_assoc, K_one hK1 ht] at hP1 hD1
  exact kk q H1 locs ls hP1 hD1 hS1 hl
/-- an array's reference is set -/
theorem N_astq (F : FC G X cc own nL d) {t j jk ci a v n : Nat} {r : vw_C} {vs : List Value} {f : Nat → Option Nat} {z : Int} {i : Nat} (hd : decode cc pc = .ok (.aastore, 1)) (ha : cs[j]? = some (a, .inl (gdA G t, n, .inr (.inr (.inr (.inr f)))))) (ht : tyl[t]? = some (.object r.1)) (hv : cs[jk]? = some (v, .inr (ci, vs))) (hc : classes[ci]? = some r) (hin : vp_in (Int32.ofInt z) n) (hi : (Int32.ofInt z).toNatClampNeg = i) (hcs : cs.set j (a, .inl (gdA G t, n, .inr (.inr (.inr (.inr (va_up f i (some v))))))) = cs')
    (kk : NJ G X nL Q kc ks (pc + 1) L st (ws ++ cs')) : NJ G X nL Q kc ks pc L (.inr v :: .inl z :: .inr a :: st) (ws ++ cs) := by
  intro H locs ls hP hD hS hl
  subst hcs
  subst hi
  refine va_astq F.1.1 F.1.2.1 F.2.1 hP hD hS (ws.length + j) t (ws.length + jk) ci (app_at ha) (gT_at G ht) (app_at hv) hc hin hd (fun H1 locs1 hP1 hD1 hS1 => ?_)
  rw [app_set] at hP1 hD1
  exact kk H1 locs1 ls hP1 hD1 hS1 hl
end NK
