/-! THE JUDGEMENT OVER ONE FIXED WORLD, first half: what the world is, what a frame is; own work, over the kit's rows -/
abbrev vG : Type := (Nat → ClassId) × (Nat → Nat → Nat) × (Nat → Nat) × (Nat → ClassId)
abbrev gad (G : vG) : Nat → Nat := G.2.2.1
abbrev gdA (G : vG) : Nat → ClassId := G.2.2.2
abbrev gD (G : vG) : va_G := (G.1, G.2.1)
abbrev RV : Type := Int ⊕ Nat
abbrev RW : Type := Nat → Int → Int
abbrev RK : Type := (Nat × Nat) ⊕ ((Nat × List (Option Nat)) ⊕ (Nat × List Nat))
def rv (G : vG) (v : RV) : Value := match v with
  | .inl z => .int (Int32.ofInt z)
  | .inr k => .ref (gad G k)
theorem rv_cat (G : vG) (v : RV) : (rv G v).category = 1 := by cases v <;> rfl
def upw (w : RW) (k : Nat) (i : Int) (z : Int) : RW := fun k' i' => if k' = k ∧ i' = i then z else w k' i'
theorem upw_s (w : RW) (k : Nat) (i z : Int) : upw w k i z k i = z := by simp [upw]
theorem upw_k {w : RW} {k k' : Nat} {i i' z : Int} (h : k' ≠ k) : upw w k i z k' i' = w k' i' := by simp [upw, h]
theorem upw_i {w : RW} {k k' : Nat} {i i' z : Int} (h : i' ≠ i) : upw w k i z k' i' = w k' i' := by simp [upw, h]
def cpw (w : RW) (ks kd : Nat) (sp dp n : Int) : RW := fun k i => if k = kd ∧ dp ≤ i ∧ i < dp + n then w ks (sp + (i - dp)) else w k i
def inR (z : Int) : Prop := -2147483648 ≤ z ∧ z < 2147483648
def rgw (w : RW) : Prop := ∀ k i, inR (w k i)
def rgv (v : RV) : Prop := match v with
  | .inl z => inR z
  | .inr _ => True
def rgs (st : List RV) : Prop := ∀ v ∈ st, rgv v
def rgl (L : List (Option RV)) : Prop := ∀ x, some x ∈ L → rgv x
theorem rgs_nil : rgs [] := fun _ h => absurd h List.not_mem_nil
theorem rgs_cons {v : RV} {st : List RV} : rgs (v :: st) ↔ rgv v ∧ rgs st := List.forall_mem_cons
theorem rgs_int {z : Int} {st : List RV} : rgs (.inl z :: st) ↔ inR z ∧ rgs st := List.forall_mem_cons
theorem rgs_ref {k : Nat} {st : List RV} : rgs (.inr k :: st) ↔ rgs st := ⟨fun h => (rgs_cons.mp h).2, fun h => rgs_cons.mpr ⟨trivial, h⟩⟩
theorem rgl_set {L : List (Option RV)} {i : Nat} {v : RV} (h : rgl L) (hv : rgv v) : rgl (L.set i (some v)) := by
  intro x hx
  rcases List.mem_or_eq_of_mem_set hx with h1 | h1
  · exact h x h1
  · rw [Option.some.inj h1]; exact hv
theorem rgl_at {L : List (Option RV)} {i : Nat} {v : RV} (h : rgl L) (hv : L[i]? = some (some v)) : rgv v := h v (List.mem_of_getElem? hv)
theorem rgw_upw {w : RW} {k : Nat} {i z : Int} (h : rgw w) (hz : inR z) : rgw (upw w k i z) := by
  intro k' i'
  unfold upw
  split
  · exact hz
  · exact h k' i'
theorem rgw_cpw {w : RW} {ks kd : Nat} {sp dp n : Int} (h : rgw w) : rgw (cpw w ks kd sp dp n) := by
  intro k' i'
  unfold cpw
  split
  · exact h _ _
  · exact h k' i'
/-- the cells' values -/
def fvs (G : vG) (w : RW) (k : Nat) (fs : List (Option Nat)) : List Value := fs.zipIdx.map (fun q => match q.1 with
  | none => .int (Int32.ofInt (w k (q.2 : Int)))
  | some t => .ref (gad G t))
def ce (G : vG) (w : RW) (k : Nat) (K : RK) : va_E := match K with
  | .inl (t, n) => .inl (gdA G t, n, .inl (fun j => Int32.ofInt (w k (j : Int))))
  | .inr (.inl (c, fs)) => .inr (c, fvs G w k fs)
  | .inr (.inr (t, l)) => .inl (gdA G t, l.length, .inr (.inr (.inr (.inr (fun j => (l[j]?).map (gad G))))))
def gWof (sh : List RK) (G : vG) (w : RW) : va_W := sh.zipIdx.map (fun q => (gad G q.2, ce G w q.2 q.1))
theorem gW_at {sh : List RK} {k : Nat} {K : RK} (G : vG) (w : RW) (h : sh[k]? = some K) : (gWof sh G w)[k]? = some (gad G k, ce G w k K) := by
  simp [gWof, List.getElem?_map, List.getElem?_zipIdx, h]
theorem gW_of {sh : List RK} {k : Nat} {G : vG} {w : RW} {q : Nat × va_E} (h : (gWof sh G w)[k]? = some q) : k < sh.length ∧ q.1 = gad G k := by
  simp only [gWof, List.getElem?_map, List.getElem?_zipIdx, Option.map_map, Option.map_eq_some_iff] at h
  obtain ⟨K, h1, h2⟩ := h
  refine ⟨(List.getElem?_eq_some_iff.mp h1).1, ?_⟩
  rw [← h2]
  simp
theorem ce_congr {G : vG} {w w' : RW} {k : Nat} {K : RK} (h : ∀ i, w' k i = w k i) : ce G w' k K = ce G w k K := by
  rcases K with ⟨t, n⟩ | ⟨c, fs⟩ | ⟨t, l⟩
  · simp only [ce, h]
  · simp only [ce, fvs, h]
  · rfl
theorem gW_set {sh : List RK} {k : Nat} {K : RK} {G : vG} {w w' : RW} {e : va_E} (h : sh[k]? = some K) (he : e = ce G w' k K) (ho : ∀ k', k' ≠ k → ∀ i, w' k' i = w k' i) : (gWof sh G w).set k (gad G k, e) = gWof sh G w' := by
  apply List.ext_getElem?
  intro i
  by_cases hi : i = k
  · subst hi
    rw [List.getElem?_set_self (by simp [gWof]; exact (List.getElem?_eq_some_iff.mp h).1), gW_at G w' h, he]
  · rw [List.getElem?_set_ne (Ne.symm hi)]
    cases hK : sh[i]? with
    | none =>
      have hl : sh.length ≤ i := by simpa using hK
      rw [List.getElem?_eq_none (by simp [gWof]; exact hl), List.getElem?_eq_none (by simp [gWof]; exact hl)]
    | some K' => rw [gW_at G w hK, gW_at G w' hK, ce_congr (ho i hi)]
theorem gW_D {sh : List RK} {G : vG} {A : Nat → Prop} (hI : ∀ i j, i < sh.length → j < sh.length → gad G i = gad G j → i = j) (hA : ∀ k, k < sh.length → A (gad G k)) (w : RW) : va_D A (gWof sh G w) := by
  refine ⟨fun i j p q hi hj e => ?_, fun k q hk => ?_⟩
  · obtain ⟨h1, h2⟩ := gW_of hi
    obtain ⟨h3, h4⟩ := gW_of hj
    exact hI i j h1 h3 (by rw [← h2, ← h4]; exact e)
  · obtain ⟨h1, h2⟩ := gW_of hk
    rw [h2]
    exact hA k h1
/-- the locals -/
def gL (G : vG) (L : List (Option RV)) : List (Nat × Value) := L.zipIdx.filterMap (fun q => q.1.map (fun v => (q.2, rv G v)))
theorem gL_mem {G : vG} {L : List (Option RV)} {q : Nat × Value} : q ∈ gL G L ↔ ∃ x, L[q.1]? = some (some x) ∧ q.2 = rv G x := by
  obtain ⟨i, v⟩ := q
  simp only [gL, List.mem_filterMap, Option.map_eq_some_iff]
  constructor
  · rintro ⟨⟨o, j⟩, h1, x, h2, h3⟩
    have h4 := List.mem_zipIdx_iff_getElem?.mp h1
    simp only [Prod.mk.injEq] at h3
    obtain ⟨rfl, rfl⟩ := h3
    exact ⟨x, by rw [h4]; exact congrArg some h2, rfl⟩
  · rintro ⟨x, h1, h2⟩
    exact ⟨(some x, i), List.mem_zipIdx_iff_getElem?.mpr h1, x, rfl, by rw [h2]⟩
theorem gL_at {G : vG} {ls : Array Slot} {nL : Nat} {L : List (Option RV)} {i : Nat} {x : RV} (h : lv_has ls nL (gL G L)) (hx : L[i]? = some (some x)) : ls[i]? = some (.val (rv G x)) := h.2.2 (i, rv G x) (gL_mem.mpr ⟨x, hx, rfl⟩)
theorem gL_set {G : vG} {ls : Array Slot} {nL i : Nat} {L : List (Option RV)} {x : RV} (h : lv_has ls nL ((i, rv G x) :: (gL G L).filter (fun q => !(q.1 == i) && !(q.1 + 1 == i && q.2.category == 2)))) : lv_has ls nL (gL G (L.set i (some x))) := by
  refine ⟨h.1, h.2.1, fun q hq => ?_⟩
  obtain ⟨y, h1, h2⟩ := gL_mem.mp hq
  by_cases hi : q.1 = i
  · refine h.2.2 q (List.mem_cons.mpr (Or.inl ?_))
    rw [hi] at h1
    rw [List.getElem?_set] at h1
    simp only [if_true] at h1
    split at h1
    · simp only [Option.some.injEq] at h1
      rw [← h1] at h2
      exact Prod.ext hi h2
    · simp at h1
  · refine h.2.2 q (List.mem_cons.mpr (Or.inr (List.mem_filter.mpr ⟨gL_mem.mpr ⟨y, ?_, h2⟩, ?_⟩)))
    · rw [List.getElem?_set_ne (Ne.symm hi)] at h1
      exact h1
    · rw [h2, rv_cat]
      simp [hi]
theorem gL_entry {G : vG} (as : List RV) {n : Nat} (h : as.length ≤ n) (m : MethodId) : ∃ ls, entryFrame m (as.map (rv G)).toArray n = F0 m 0 ls [] ∧ lv_has ls n (gL G (as.map some ++ List.replicate (n - as.length) none)) := by
  have hsl : ∀ as : List RV, lg_sl (as.map (rv G)) = as.map (fun x => Slot.val (rv G x)) := by
    intro as
    induction as with
    | nil => rfl
    | cons a t ih =>
      show (if (rv G a).category = 2 then _ else _) ++ lg_sl (t.map (rv G)) = _
      rw [rv_cat, ih]
      rfl
  have hlen : (lg_sl (as.map (rv G))).length = as.length := by rw [hsl]; simp
  have hl := lv_entry (as.map (rv G)) (n := n) (by rw [hlen]; exact h)
  rw [lg_entry_eq]
  refine ⟨_, rfl, hl.1, hl.2.1, fun q hq => ?_⟩
  obtain ⟨x, h1, h2⟩ := gL_mem.mp hq
  obtain ⟨i, v⟩ := q
  simp only at h1 h2
  subst h2
  have hi : i < as.length := by
    apply Decidable.byContradiction
    intro hc
    rw [List.getElem?_append_right (by simpa using hc)] at h1
    rw [List.getElem?_replicate] at h1
    split at h1 <;> simp at h1
  rw [List.getElem?_append_left (by simpa using hi)] at h1
  rw [hsl]
  simp only [List.getElem?_map] at h1
  have h3 : as[i]? = some x := by
    cases hz : as[i]? with
    | none => rw [hz] at h1; simp at h1
    | some y => rw [hz] at h1; simpa using h1
  have h5 : (as.map (fun x => Slot.val (rv G x)) ++ List.replicate (n - (as.map (fun x => Slot.val (rv G x))).length) Slot.unset)[i]? = some (Slot.val (rv G x)) := by
    rw [List.getElem?_append_left (by simpa using hi), List.getElem?_map, h3]
    rfl
  rw [List.getElem?_toArray]
  exact h5
/-- the numbers -/
theorem iR_t {z : Int} (h : inR z) : (Int32.ofInt z).toInt = z := Int32.toInt_ofInt_of_le (by have := h.1; omega) (by have := h.2; omega)
theorem iR_lt {a b : Int} (ha : inR a) (hb : inR b) : Int32.ofInt a < Int32.ofInt b ↔ a < b := by rw [Int32.lt_iff_toInt_lt, iR_t ha, iR_t hb]
theorem iR_le {a b : Int} (ha : inR a) (hb : inR b) : Int32.ofInt a ≤ Int32.ofInt b ↔ a ≤ b := by rw [Int32.le_iff_toInt_le, iR_t ha, iR_t hb]
theorem iR_eq {a b : Int} (ha : inR a) (hb : inR b) : Int32.ofInt a = Int32.ofInt b ↔ a = b := by rw [← Int32.toInt_inj, iR_t ha, iR_t hb]
theorem iR_0 : inR 0 := by unfold inR; omega
theorem iR_z : Int32.ofInt 0 = 0 := rfl
theorem iR_n {z : Int} (h0 : 0 ≤ z) : Int32.ofInt z = nI z.toNat := by
  obtain ⟨n, rfl⟩ := Int.eq_ofNat_of_zero_le h0
  rw [Int32.ofInt_eq_ofNat]
  rfl
theorem iR_of (x : Int32) : ∃ z : Int, inR z ∧ x = Int32.ofInt z := ⟨x.toInt, ⟨by have := Int32.le_toInt x; simpa using this, by have := Int32.toInt_lt x; simpa using this⟩, (Int32.ofInt_toInt x).symm⟩
theorem iR_in {z : Int} {n : Nat} (h : inR z) (h0 : 0 ≤ z) (h1 : z < n) : vp_in (Int32.ofInt z) n := vp_in_iff.mpr (by rw [iR_t h]; exact ⟨h0, h1⟩)
theorem iR_cl {z : Int} (h : inR z) : (Int32.ofInt z).toNatClampNeg = z.toNat := by
  show (Int32.ofInt z).toInt.toNat = _
  rw [iR_t h]
theorem iR_div {a b : Int} (ha : inR a) (hb : inR b) (h0 : 0 ≤ a) (h1 : 0 < b) : Int32.ofInt a / Int32.ofInt b = Int32.ofInt (a / b) := by
  rw [iR_n h0, iR_n (show (0 : Int) ≤ b by omega), pk_div (by have := ha.2; omega) (by omega) (by have := hb.2; omega), iR_n (Int.ediv_nonneg h0 (by omega))]
  congr 1
  obtain ⟨m, rfl⟩ := Int.eq_ofNat_of_zero_le h0
  obtain ⟨n, rfl⟩ := Int.eq_ofNat_of_zero_le (show (0 : Int) ≤ b by omega)
  rfl
theorem iR_rem {a b : Int} (ha : inR a) (hb : inR b) (h0 : 0 ≤ a) (h1 : 0 < b) : Int32.ofInt a - Int32.ofInt a / Int32.ofInt b * Int32.ofInt b = Int32.ofInt (a % b) := by
  rw [iR_div ha hb h0 h1, ← Int32.ofInt_mul, ← Int32.ofInt_sub]
  congr 1
  have := Int.emod_add_mul_ediv a b
  rw [Int.mul_comm] at this
  omega
theorem iR_div_in {a b : Int} (ha : inR a) (h0 : 0 ≤ a) (h1 : 0 < b) : inR (a / b) := by
  have h2 := Int.ediv_nonneg h0 (show (0 : Int) ≤ b by omega)
  have h3 := Int.ediv_le_self b h0
  have := ha.2
  exact ⟨by omega, by omega⟩
theorem iR_rem_in {a b : Int} (hb : inR b) (h1 : 0 < b) : inR (a % b) := by
  have h2 := Int.emod_nonneg a (show b ≠ 0 by omega)
  have h3 := Int.emod_lt_of_pos a h1
  have := hb.2
  exact ⟨by omega, by omega⟩
def shp : List RK := [.inr (.inl (6, [some 1, some 32, some 63, some 73, some 76])), .inr (.inl (5, [some 2, some 6, some 13, none, none, none, none, none])), .inr (.inl (0, [none, none, some 3, some 4, some 5])), .inl (0, 64), .inl (0, 384), .inl (0, 384), .inr (.inr (2, [7, 8, 9, 10, 11, 12])), .inr (.inl (1, [none, none, none])), .inr (.inl (1, [none, none, none])), .inr (.inl (1, [none, none, none])), .inr (.inl (1, [none, none, none])), .inr (.inl (1, [none, none, none])), .inr (.inl (1, [none, none, none])), .inr (.inr (3, [14, 15, 16, 17, 18, 19])), .inr (.inl (3, [some 20, none, none, none, none, none, some 26, none, none, none])), .inr (.inl (3, [some 21, none, none, none, none, none, some 27, none, none, none])), .inr (.inl (3, [some 22, none, none, none, none, none, some 28, none, none, none])), .inr (.inl (3, [some 23, none, none, none, none, none, some 29, none, none, none])), .inr (.inl (3, [some 24, none, none, none, none, none, some 30, none, none, none])), .inr (.inl (3, [some 25, none, none, none, none, none, some 31, none, none, none])), .inl (0, 96), .inl (0, 96), .inl (0, 96), .inl (0, 96), .inl (0, 96), .inl (0, 96), .inl (0, 6), .inl (0, 6), .inl (0, 6), .inl (0, 6), .inl (0, 6), .inl (0, 6), .inr (.inl (5, [some 33, some 37, some 44, none, none, none, none, none])), .inr (.inl (0, [none, none, some 34, some 35, some 36])), .inl (0, 64), .inl (0, 384), .inl (0, 384), .inr (.inr (2, [38, 39, 40, 41, 42, 43])), .inr (.inl (1, [none, none, none])), .inr (.inl (1, [none, none, none])), .inr (.inl (1, [none, none, none])), .inr (.inl (1, [none, none, none])), .inr (.inl (1, [none, none, none])), .inr (.inl (1, [none, none, none])), .inr (.inr (3, [45, 46, 47, 48, 49, 50])), .inr (.inl (3, [some 51, none, none, none, none, none, some 57, none, none, none])), .inr (.inl (3, [some 52, none, none, none, none, none, some 58, none, none, none])), .inr (.inl (3, [some 53, none, none, none, none, none, some 59, none, none, none])), .inr (.inl (3, [some 54, none, none, none, none, none, some 60, none, none, none])), .inr (.inl (3, [some 55, none, none, none, none, none, some 61, none, none, none])), .inr (.inl (3, [some 56, none, none, none, none, none, some 62, none, none, none])), .inl (0, 96), .inl (0, 96), .inl (0, 96), .inl (0, 96), .inl (0, 96), .inl (0, 96), .inl (0, 6), .inl (0, 6), .inl (0, 6), .inl (0, 6), .inl (0, 6), .inl (0, 6), .inr (.inl (4, [some 64, none, some 71, some 72, none, none])), .inr (.inr (4, [65, 66, 67, 68, 69, 70])), .inl (0, 256), .inl (0, 256), .inl (0, 256), .inl (0, 256), .inl (0, 256), .inl (0, 256), .inl (0, 256), .inl (0, 256), .inr (.inl (2, [some 74, some 75, none])), .inl (0, 257), .inl (0, 64), .inl (0, 6), .inr (.inl (7, [none, none, some 78, some 79, none, some 80, some 81, some 82, some 83, some 84, none, some 85, some 86, some 87, some 88, some 89, some 90, some 91, some 92, some 93, some 94, none, some 95, none, none, none, some 96, some 97, some 98, some 99, some 100, some 101])), .inl (1, 288), .inl (0, 288), .inl (0, 6), .inl (0, 6), .inl (0, 6), .inl (1, 6), .inl (0, 3456), .inl (0, 1800), .inl (0, 6), .inl (0, 6), .inl (0, 6), .inl (0, 6), .inl (0, 6), .inl (1, 6), .inl (0, 36), .inl (0, 6), .inl (0, 6), .inl (0, 600), .inl (1, 288), .inl (0, 288), .inl (0, 1800), .inl (0, 78), .inl (0, 18), .inl (0, 5)]
theorem shp_len : shp.length = 102 := rfl
/-! THE JUDGEMENT, second half: frames, rows. It stands behind the names (classes, shp, tyl, bigW, nestW, hostN, stt, snm, cls_in, cls_ty, cls_nm) -/
abbrev gW (G : vG) (w : RW) : va_W := gWof shp G w
def gT (G : vG) : List (ClassId × FieldType) := tyl.zipIdx.map (fun q => (gdA G q.2, q.1))
theorem gT_at {t : Nat} {ty : FieldType} (G : vG) (h : tyl[t]? = some ty) : (gT G)[t]? = some (gdA G t, ty) := by
  simp [gT, List.getElem?_map, List.getElem?_zipIdx, h]
def gZ (G : vG) (A : Nat → Prop) (U : State) (H : Heap) : Prop := ∀ i, i < 3 → va_Z R_spot (snm i) "[I" (.ref (gad G (900 + i))) A U H ∧ va_T .int (gad G (900 + i)) 6 (fun j => .int (Int32.ofInt (stt i (j : Int)))) A U H
def gE (G : vG) (A : Nat → Prop) (U : State) : Prop := va_K (gD G) classes (gT G) U ∧ (∀ w ∈ nestW, va_Nw w U) ∧ (∀ i j, i < shp.length → j < shp.length → gad G i = gad G j → i = j) ∧ gZ G A U U.heap
def gA (G : vG) : Nat → Prop := fun q => ∃ k, k < shp.length ∧ q = gad G k
def rmD (d : Nat) : Room := { frames := d, cells := 0, slots := 0, locals := 40 * d }
abbrev vX : Type := Program × Launch × Env × Room × State × MethodId × Array Value × List Frame × Method × Code × (Nat → Prop) × Nat × Nat
abbrev xp (X : vX) : Program := X.1
abbrev xl (X : vX) : Launch := X.2.1
abbrev xe (X : vX) : Env := X.2.2.1
abbrev xR (X : vX) : Room := X.2.2.2.1
abbrev xs (X : vX) : State := X.2.2.2.2.1
abbrev xm (X : vX) : MethodId := X.2.2.2.2.2.1
abbrev xa (X : vX) : Array Value := X.2.2.2.2.2.2.1
abbrev xb (X : vX) : List Frame := X.2.2.2.2.2.2.2.1
abbrev xh (X : vX) : Method := X.2.2.2.2.2.2.2.2.1
abbrev xc (X : vX) : Code := X.2.2.2.2.2.2.2.2.2.1
abbrev xA (X : vX) : Nat → Prop := X.2.2.2.2.2.2.2.2.2.2.1
abbrev xk (X : vX) : Nat := X.2.2.2.2.2.2.2.2.2.2.2.1
abbrev xn (X : vX) : Nat := X.2.2.2.2.2.2.2.2.2.2.2.2
def FX (G : vG) (X : vX) (cc : ByteArray) (own : String) (nL d : Nat) : Prop :=
  CallFix (xp X) (xm X) (xc X) cc nL (xs X) (xa X) bigW own ∧ gE G (xA X) (xs X) ∧ (∀ k, k < shp.length → xA X (gad G k)) ∧ d ≤ (xR X).frames ∧ 40 * d ≤ (xR X).locals ∧ xk X ≤ (xR X).cells ∧ xn X ≤ (xR X).slots
def WV (G : vG) (X : vX) (Q : State → Prop) (H : Heap) (locs : List Loc) (pc : Nat) (ls : Array Slot) (st : List RV) : Prop :=
  W (xp X) (xl X) (xe X) (xR X) (xs X) (xm X) (xa X) (xb X) (xh X) (xc X) H locs (xk X) (xn X) Q (F0 (xm X) pc ls (st.map (rv G)))
def V (G : vG) (X : vX) (nL : Nat) (Q : State → Prop) (pc : Nat) (L : List (Option RV)) (st : List RV) (w : RW) : Prop :=
  ∀ (H : Heap) (locs : List Loc) (ls : Array Slot), va_P (gD G) classes (gW G w) H → va_S (xA X) (xs X).heap H locs → lv_has ls nL (gL G L) → rgw w → rgl L → rgs st → WV G X Q H locs pc ls st
section VK
variable {G : vG} {X : vX} {cc : ByteArray} {own : String} {nL d pc : Nat} {Q : State → Prop} {L : List (Option RV)} {st : List RV} {w : RW}
theorem V_go {pc' : Nat} {st' : List RV} (k : V G X nL Q pc' L st' w) (h : ∀ (H : Heap) (locs : List Loc) (ls : Array Slot), rgs st → lv_has ls nL (gL G L) → WV G X Q H locs pc' ls st' → WV G X Q H locs pc ls st) (hr : rgl L → rgs st → rgs st') : V G X nL Q pc L st w :=
  fun H locs ls hP hS hl hw h1 h2 => h H locs ls h2 hl (k H locs ls hP hS hl hw h1 (hr h1 h2))
/-- what the numbers at hand are -/
theorem V_w (k : rgw w → V G X nL Q pc L st w) : V G X nL Q pc L st w := fun H locs ls hP hS hl hw => k hw H locs ls hP hS hl hw
theorem V_top {z : Int} (k : inR z → V G X nL Q pc L (.inl z :: st) w) : V G X nL Q pc L (.inl z :: st) w := fun H locs ls hP hS hl hw h1 h2 => k (rgs_int.mp h2).1 H locs ls hP hS hl hw h1 h2
theorem V_loc {z : Int} (i : Nat) (hi : L[i]? = some (some (.inl z))) (k : inR z → V G X nL Q pc L st w) : V G X nL Q pc L st w := fun H locs ls hP hS hl hw h1 h2 => k (rgl_at h1 hi) H locs ls hP hS hl hw h1 h2
theorem V_eq {st' : List RV} {L' : List (Option RV)} {w' : RW} (e1 : L = L') (e2 : st = st') (e3 : w = w') (k : V G X nL Q pc L' st' w') : V G X nL Q pc L st w := by subst e1; subst e2; subst e3; exact k
-- constants, locals, the stack
theorem V_iconst (F : FX G X cc own nL d) {n : Int} (hd : decode cc pc = .ok (.iconst n, 1)) (hn : -1 ≤ n ∧ n ≤ 5) (k : V G X nL Q (pc + 1) L (.inl n :: st) w) : V G X nL Q pc L st w :=
  V_go k (fun _ _ _ _ _ k => lv_iconst F.1.1 F.1.2.1 hd rfl k) (fun _ h => rgs_int.mpr ⟨⟨by omega, by omega⟩, h⟩)
theorem V_bipush (F : FX G X cc own nL d) {n : Int} (hd : decode cc pc = .ok (.bipush n, 2)) (hn : (-128 ≤ n ∧ n ≤ 127) ∧ (Int8.ofInt n).toInt32 = Int32.ofInt n) (k : V G X nL Q (pc + 2) L (.inl n :: st) w) : V G X nL Q pc L st w :=
  V_go k (fun _ _ _ _ _ k => lv_bipush F.1.1 F.1.2.1 hd hn.2 k) (fun _ h => rgs_int.mpr ⟨⟨by omega, by omega⟩, h⟩)
theorem V_sipush (F : FX G X cc own nL d) {n : Int} (hd : decode cc pc = .ok (.sipush n, 3)) (hn : (-32768 ≤ n ∧ n ≤ 32767) ∧ (Int16.ofInt n).toInt32 = Int32.ofInt n) (k : V G X nL Q (pc + 3) L (.inl n :: st) w) : V G X nL Q pc L st w :=
  V_go k (fun _ _ _ _ _ k => lv_sipush F.1.1 F.1.2.1 hd hn.2 k) (fun _ h => rgs_int.mpr ⟨⟨by omega, by omega⟩, h⟩)
theorem V_ldc (F : FX G X cc own nL d) {n : Int} {index : Nat} (hd : decode cc pc = .ok (.ldc index, 2)) (hc : Cond.constant own index (Int32.ofInt n) ∈ bigW) (hn : inR n) (k : V G X nL Q (pc + 2) L (.inl n :: st) w) : V G X nL Q pc L st w :=
  V_go k (fun _ _ _ _ _ k => lv_ldc F.1.1 F.1.2.1 F.1.2.2.2.1 (F.1.2.2.2.2 _ hc) hd k) (fun _ h => rgs_int.mpr ⟨hn, h⟩)
theorem V_iload_n (F : FX G X cc own nL d) {j : Fin 4} {i : Nat} {z : Int} (hd : decode cc pc = .ok (.iload_n j, 1)) (hi : (j : Nat) = i) (hz : L[i]? = some (some (.inl z))) (k : V G X nL Q (pc + 1) L (.inl z :: st) w) : V G X nL Q pc L st w :=
  V_go k (fun _ _ _ _ hl k => lv_iload_n F.1.1 F.1.2.1 hd hi (gL_at hl hz) k) (fun h1 h => rgs_int.mpr ⟨rgl_at h1 hz, h⟩)
theorem V_iload (F : FX G X cc own nL d) {i : Nat} {z : Int} (hd : decode cc pc = .ok (.iload i, 2)) (hz : L[i]? = some (some (.inl z))) (k : V G X nL Q (pc + 2) L (.inl z :: st) w) : V G X nL Q pc L st w :=
  V_go k (fun _ _ _ _ hl k => lv_iload F.1.1 F.1.2.1 hd (gL_at hl hz) k) (fun h1 h => rgs_int.mpr ⟨rgl_at h1 hz, h⟩)
theorem V_aload_n (F : FX G X cc own nL d) {j : Fin 4} {i : Nat} {z : Nat} (hd : decode cc pc = .ok (.aload_n j, 1)) (hi : (j : Nat) = i) (hz : L[i]? = some (some (.inr z))) (k : V G X nL Q (pc + 1) L (.inr z :: st) w) : V G X nL Q pc L st w :=
  V_go k (fun _ _ _ _ hl k => lv_aload_n F.1.1 F.1.2.1 hd hi (gL_at hl hz) k) (fun _ h => rgs_ref.mpr h)
theorem V_aload (F : FX G X cc own nL d) {i : Nat} {z : Nat} (hd : decode cc pc = .ok (.aload i, 2)) (hz : L[i]? = some (some (.inr z))) (k : V G X nL Q (pc + 2) L (.inr z :: st) w) : V G X nL Q pc L st w :=
  V_go k (fun _ _ _ _ hl k => lv_aload F.1.1 F.1.2.1 hd (gL_at hl hz) k) (fun _ h => rgs_ref.mpr h)
theorem V_istore_n (F : FX G X cc own nL d) {j : Fin 4} {i : Nat} {z : Int} {L' : List (Option RV)} (hd : decode cc pc = .ok (.istore_n j, 1)) (hi : (j : Nat) = i) (hn : i < nL) (hL : L.set i (some (.inl z)) = L') (k : V G X nL Q (pc + 1) L' st w) : V G X nL Q pc L (.inl z :: st) w := by
  subst hL
  exact fun H locs ls hP hS hl hw h1 h2 => lv_istore_n F.1.1 F.1.2.1 hd hi hl hn rfl fun ls' hl' => k H locs ls' hP hS (gL_set (x := .inl z) hl') hw (rgl_set h1 (rgs_cons.mp h2).1) (rgs_cons.mp h2).2
theorem V_istore (F : FX G X cc own nL d) {i : Nat} {z : Int} {L' : List (Option RV)} (hd : decode cc pc = .ok (.istore i, 2)) (hn : i < nL) (hL : L.set i (some (.inl z)) = L') (k : V G X nL Q (pc + 2) L' st w) : V G X nL Q pc L (.inl z :: st) w := by
  subst hL
  exact fun H locs ls hP hS hl hw h1 h2 => lv_istore F.1.1 F.1.2.1 hd hl hn rfl fun ls' hl' => k H locs ls' hP hS (gL_set (x := .inl z) hl') hw (rgl_set h1 (rgs_cons.mp h2).1) (rgs_cons.mp h2).2
theorem V_astore_n (F : FX G X cc own nL d) {j : Fin 4} {i : Nat} {z : Nat} {L' : List (Option RV)} (hd : decode cc pc = .ok (.astore_n j, 1)) (hi : (j : Nat) = i) (hn : i < nL) (hL : L.set i (some (.inr z)) = L') (k : V G X nL Q (pc + 1) L' st w) : V G X nL Q pc L (.inr z :: st) w := by
  subst hL
  exact fun H locs ls hP hS hl hw h1 h2 => lv_astore_n F.1.1 F.1.2.1 hd hi hl hn rfl fun ls' hl' => k H locs ls' hP hS (gL_set (x := .inr z) hl') hw (rgl_set h1 trivial) (rgs_cons.mp h2).2
theorem V_astore (F : FX G X cc own nL d) {i : Nat} {z : Nat} {L' : List (Option RV)} (hd : decode cc pc = .ok (.astore i, 2)) (hn : i < nL) (hL : L.set i (some (.inr z)) = L') (k : V G X nL Q (pc + 2) L' st w) : V G X nL Q pc L (.inr z :: st) w := by
  subst hL
  exact fun H locs ls hP hS hl hw h1 h2 => lv_astore F.1.1 F.1.2.1 hd hl hn rfl fun ls' hl' => k H locs ls' hP hS (gL_set (x := .inr z) hl') hw (rgl_set h1 trivial) (rgs_cons.mp h2).2
theorem V_iinc (F : FX G X cc own nL d) {i : Nat} {n z : Int} {L' : List (Option RV)} (hd : decode cc pc = .ok (.iinc i n, 3)) (hn : i < nL) (hz : L[i]? = some (some (.inl z))) (hr : -2147483648 ≤ z + n ∧ z + n < 2147483648) (hL : L.set i (some (.inl (z + n))) = L') (k : V G X nL Q (pc + 3) L' st w) : V G X nL Q pc L st w := by
  subst hL
  intro H locs ls hP hS hl hw h1 h2
  obtain ⟨j, hj⟩ := List.getElem?_of_mem (gL_mem.mpr ⟨_, hz, rfl⟩ : ((i, rv G (.inl z)) : Nat × Value) ∈ gL G L)
  refine lv_iinc F.1.1 F.1.2.1 hd hl hj (v := Int32.ofInt (z + n)) (by rw [Int32.ofInt_add]) hn rfl fun ls' hl' => k H locs ls' hP hS (gL_set (x := .inl (z + n)) hl') hw (rgl_set h1 hr) h2
theorem V_dup (F : FX G X cc own nL d) {v : RV} (hd : decode cc pc = .ok (.dup, 1)) (k : V G X nL Q (pc + 1) L (v :: v :: st) w) : V G X nL Q pc L (v :: st) w :=
  V_go k (fun _ _ _ _ _ k => lv_dup F.1.1 F.1.2.1 hd (rv_cat G v) k) (fun _ h => rgs_cons.mpr ⟨(rgs_cons.mp h).1, h⟩)
theorem V_dup2 (F : FX G X cc own nL d) {v u : RV} (hd : decode cc pc = .ok (.dup2, 1)) (k : V G X nL Q (pc + 1) L (v :: u :: v :: u :: st) w) : V G X nL Q pc L (v :: u :: st) w :=
  V_go k (fun _ _ _ _ _ k => lv_dup2_11 F.1.1 F.1.2.1 hd (rv_cat G v) (rv_cat G u) k) (fun _ h => rgs_cons.mpr ⟨(rgs_cons.mp h).1, rgs_cons.mpr ⟨(rgs_cons.mp (rgs_cons.mp h).2).1, h⟩⟩)
theorem V_pop (F : FX G X cc own nL d) {v : RV} (hd : decode cc pc = .ok (.pop, 1)) (k : V G X nL Q (pc + 1) L st w) : V G X nL Q pc L (v :: st) w :=
  V_go k (fun _ _ _ _ _ k => lv_pop F.1.1 F.1.2.1 hd (rv_cat G v) k) (fun _ h => (rgs_cons.mp h).2)
theorem V_dup_x1 (F : FX G X cc own nL d) {v u : RV} (hd : decode cc pc = .ok (.dup_x1, 1)) (k : V G X nL Q (pc + 1) L (v :: u :: v :: st) w) : V G X nL Q pc L (v :: u :: st) w :=
  V_go k (fun _ _ _ _ _ k => lv_dup_x1 F.1.1 F.1.2.1 hd (rv_cat G v) (rv_cat G u) k) (fun _ h => rgs_cons.mpr ⟨(rgs_cons.mp h).1, rgs_cons.mpr ⟨(rgs_cons.mp (rgs_cons.mp h).2).1, rgs_cons.mpr ⟨(rgs_cons.mp h).1, (rgs_cons.mp (rgs_cons.mp h).2).2⟩⟩⟩)
-- arithmetic
theorem V_iadd (F : FX G X cc own nL d) {a b : Int} (hd : decode cc pc = .ok (.iadd, 1)) (hr : -2147483648 ≤ a + b ∧ a + b < 2147483648) (k : V G X nL Q (pc + 1) L (.inl (a + b) :: st) w) : V G X nL Q pc L (.inl b :: .inl a :: st) w :=
  V_go k (fun _ _ _ _ _ k => lv_iadd F.1.1 F.1.2.1 hd (by rw [← Int32.ofInt_add]; exact k)) (fun _ h => rgs_int.mpr ⟨hr, (rgs_cons.mp (rgs_cons.mp h).2).2⟩)
theorem V_isub (F : FX G X cc own nL d) {a b : Int} (hd : decode cc pc = .ok (.isub, 1)) (hr : -2147483648 ≤ a - b ∧ a - b < 2147483648) (k : V G X nL Q (pc + 1) L (.inl (a - b) :: st) w) : V G X nL Q pc L (.inl b :: .inl a :: st) w :=
  V_go k (fun _ _ _ _ _ k => lv_isub F.1.1 F.1.2.1 hd (by rw [← Int32.ofInt_sub]; exact k)) (fun _ h => rgs_int.mpr ⟨hr, (rgs_cons.mp (rgs_cons.mp h).2).2⟩)
theorem V_imul (F : FX G X cc own nL d) {a b : Int} (hd : decode cc pc = .ok (.imul, 1)) (hr : -2147483648 ≤ a * b ∧ a * b < 2147483648) (k : V G X nL Q (pc + 1) L (.inl (a * b) :: st) w) : V G X nL Q pc L (.inl b :: .inl a :: st) w :=
  V_go k (fun _ _ _ _ _ k => lv_imul F.1.1 F.1.2.1 hd (by rw [← Int32.ofInt_mul]; exact k)) (fun _ h => rgs_int.mpr ⟨hr, (rgs_cons.mp (rgs_cons.mp h).2).2⟩)
theorem V_idiv (F : FX G X cc own nL d) {a b : Int} (hd : decode cc pc = .ok (.idiv, 1)) (h0 : 0 ≤ a ∧ 0 < b) (k : V G X nL Q (pc + 1) L (.inl (a / b) :: st) w) : V G X nL Q pc L (.inl b :: .inl a :: st) w :=
  V_go k (fun _ _ _ h _ k => by
    have hb := (rgs_int.mp h).1
    have ha := (rgs_int.mp (rgs_int.mp h).2).1
    refine lv_idiv F.1.1 F.1.2.1 hd (fun e => ?_) (by rw [iR_div ha hb h0.1 h0.2]; exact k)
    have := (iR_eq hb iR_0).mp (e.trans iR_z.symm)
    omega) (fun _ h => rgs_int.mpr ⟨iR_div_in (rgs_int.mp (rgs_int.mp h).2).1 h0.1 h0.2, (rgs_cons.mp (rgs_cons.mp h).2).2⟩)
theorem V_irem (F : FX G X cc own nL d) {a b : Int} (hd : decode cc pc = .ok (.irem, 1)) (h0 : 0 ≤ a ∧ 0 < b) (k : V G X nL Q (pc + 1) L (.inl (a % b) :: st) w) : V G X nL Q pc L (.inl b :: .inl a :: st) w :=
  V_go k (fun _ _ _ h _ k => by
    have hb := (rgs_int.mp h).1
    have ha := (rgs_int.mp (rgs_int.mp h).2).1
    refine lv_irem F.1.1 F.1.2.1 hd (fun e => ?_) (by rw [iR_rem ha hb h0.1 h0.2]; exact k)
    have := (iR_eq hb iR_0).mp (e.trans iR_z.symm)
    omega) (fun _ h => rgs_int.mpr ⟨iR_rem_in (rgs_int.mp h).1 h0.2, (rgs_cons.mp (rgs_cons.mp h).2).2⟩)
def iand (a b : Int) : Int := (Int32.ofInt a &&& Int32.ofInt b).toInt
def ior (a b : Int) : Int := (Int32.ofInt a ||| Int32.ofInt b).toInt
def ixor (a b : Int) : Int := (Int32.ofInt a ^^^ Int32.ofInt b).toInt
def ishl (a b : Int) : Int := (Int32.ofInt a <<< (Int32.ofInt b &&& 31)).toInt
def ishr (a b : Int) : Int := (Int32.ofInt a >>> (Int32.ofInt b &&& 31)).toInt
theorem iR_toInt (x : Int32) : inR x.toInt := ⟨by have := Int32.le_toInt x; simpa using this, by have := Int32.toInt_lt x; simpa using this⟩
theorem V_iand (F : FX G X cc own nL d) {a b : Int} (r : Int) (hd : decode cc pc = .ok (.iand, 1)) (e : iand a b = r) (k : V G X nL Q (pc + 1) L (.inl r :: st) w) : V G X nL Q pc L (.inl b :: .inl a :: st) w :=
  V_go k (fun _ _ _ _ _ k => lv_iand F.1.1 F.1.2.1 hd (by rw [← e, iand] at k; rw [← Int32.ofInt_toInt (Int32.ofInt a &&& Int32.ofInt b)]; exact k)) (fun _ h => rgs_int.mpr ⟨by rw [← e]; exact iR_toInt _, (rgs_cons.mp (rgs_cons.mp h).2).2⟩)
theorem V_ior (F : FX G X cc own nL d) {a b : Int} (r : Int) (hd : decode cc pc = .ok (.ior, 1)) (e : ior a b = r) (k : V G X nL Q (pc + 1) L (.inl r :: st) w) : V G X nL Q pc L (.inl b :: .inl a :: st) w :=
  V_go k (fun _ _ _ _ _ k => lv_ior F.1.1 F.1.2.1 hd (by rw [← e, ior] at k; rw [← Int32.ofInt_toInt (Int32.ofInt a ||| Int32.ofInt b)]; exact k)) (fun _ h => rgs_int.mpr ⟨by rw [← e]; exact iR_toInt _, (rgs_cons.mp (rgs_cons.mp h).2).2⟩)
theorem V_ixor (F : FX G X cc own nL d) {a b : Int} (r : Int) (hd : decode cc pc = .ok (.ixor, 1)) (e : ixor a b = r) (k : V G X nL Q (pc + 1) L (.inl r :: st) w) : V G X nL Q pc L (.inl b :: .inl a :: st) w :=
  V_go k (fun _ _ _ _ _ k => lv_ixor F.1.1 F.1.2.1 hd (by rw [← e, ixor] at k; rw [← Int32.ofInt_toInt (Int32.ofInt a ^^^ Int32.ofInt b)]; exact k)) (fun _ h => rgs_int.mpr ⟨by rw [← e]; exact iR_toInt _, (rgs_cons.mp (rgs_cons.mp h).2).2⟩)
theorem V_ishl (F : FX G X cc own nL d) {a b : Int} (r : Int) (hd : decode cc pc = .ok (.ishl, 1)) (e : ishl a b = r) (k : V G X nL Q (pc + 1) L (.inl r :: st) w) : V G X nL Q pc L (.inl b :: .inl a :: st) w :=
  V_go k (fun _ _ _ _ _ k => lv_ishl F.1.1 F.1.2.1 hd (by rw [← e, ishl] at k; rw [← Int32.ofInt_toInt (Int32.ofInt a <<< (Int32.ofInt b &&& 31))]; exact k)) (fun _ h => rgs_int.mpr ⟨by rw [← e]; exact iR_toInt _, (rgs_cons.mp (rgs_cons.mp h).2).2⟩)
theorem V_ishr (F : FX G X cc own nL d) {a b : Int} (r : Int) (hd : decode cc pc = .ok (.ishr, 1)) (e : ishr a b = r) (k : V G X nL Q (pc + 1) L (.inl r :: st) w) : V G X nL Q pc L (.inl b :: .inl a :: st) w :=
  V_go k (fun _ _ _ _ _ k => lv_ishr F.1.1 F.1.2.1 hd (by rw [← e, ishr] at k; rw [← Int32.ofInt_toInt (Int32.ofInt a >>> (Int32.ofInt b &&& 31))]; exact k)) (fun _ h => rgs_int.mpr ⟨by rw [← e]; exact iR_toInt _, (rgs_cons.mp (rgs_cons.mp h).2).2⟩)
-- branches
theorem V_goto (F : FX G X cc own nL d) {off : Int} (tgt : Nat) (hd : decode cc pc = .ok (.goto off, 3)) (ht : (pc : Int) + off = (tgt : Int)) (k : V G X nL Q tgt L st w) : V G X nL Q pc L st w :=
  V_go k (fun _ _ _ _ _ k => lv_goto F.1.1 F.1.2.1 hd ht k) (fun _ h => h)
theorem V_if_eq (F : FX G X cc own nL d) {a off : Int} (tgt : Nat) (hd : decode cc pc = .ok (.ifCond .eq off, 3)) (ht : (pc : Int) + off = (tgt : Int)) (kt : a = 0 → V G X nL Q tgt L st w) (kf : ¬ a = 0 → V G X nL Q (pc + 3) L st w) : V G X nL Q pc L (.inl a :: st) w := by
  intro H locs ls hP hS hl hw h1 h2
  obtain ⟨ha, h3⟩ := rgs_int.mp h2
  have E := (iR_eq ha iR_0)
  rw [iR_z] at E
  exact lv_if_eq F.1.1 F.1.2.1 hd ht (fun q => kt (E.mp q) H locs ls hP hS hl hw h1 h3) (fun q => kf (fun z => q (E.mpr z)) H locs ls hP hS hl hw h1 h3)
theorem V_if_ne (F : FX G X cc own nL d) {a off : Int} (tgt : Nat) (hd : decode cc pc = .ok (.ifCond .ne off, 3)) (ht : (pc : Int) + off = (tgt : Int)) (kt : ¬ a = 0 → V G X nL Q tgt L st w) (kf : a = 0 → V G X nL Q (pc + 3) L st w) : V G X nL Q pc L (.inl a :: st) w := by
  intro H locs ls hP hS hl hw h1 h2
  obtain ⟨ha, h3⟩ := rgs_int.mp h2
  have E := (iR_eq ha iR_0)
  rw [iR_z] at E
  exact lv_if_ne F.1.1 F.1.2.1 hd ht (fun q => kt (fun z => q (E.mpr z)) H locs ls hP hS hl hw h1 h3) (fun q => kf (E.mp q) H locs ls hP hS hl hw h1 h3)
theorem V_if_lt (F : FX G X cc own nL d) {a off : Int} (tgt : Nat) (hd : decode cc pc = .ok (.ifCond .lt off, 3)) (ht : (pc : Int) + off = (tgt : Int)) (kt : a < 0 → V G X nL Q tgt L st w) (kf : ¬ a < 0 → V G X nL Q (pc + 3) L st w) : V G X nL Q pc L (.inl a :: st) w := by
  intro H locs ls hP hS hl hw h1 h2
  obtain ⟨ha, h3⟩ := rgs_int.mp h2
  have E := (iR_lt ha iR_0)
  rw [iR_z] at E
  exact lv_if_lt F.1.1 F.1.2.1 hd ht (fun q => kt (E.mp q) H locs ls hP hS hl hw h1 h3) (fun q => kf (fun z => q (E.mpr z)) H locs ls hP hS hl hw h1 h3)
theorem V_if_ge (F : FX G X cc own nL d) {a off : Int} (tgt : Nat) (hd : decode cc pc = .ok (.ifCond .ge off, 3)) (ht : (pc : Int) + off = (tgt : Int)) (kt : 0 ≤ a → V G X nL Q tgt L st w) (kf : ¬ 0 ≤ a → V G X nL Q (pc + 3) L st w) : V G X nL Q pc L (.inl a :: st) w := by
  intro H locs ls hP hS hl hw h1 h2
  obtain ⟨ha, h3⟩ := rgs_int.mp h2
  have E := (iR_le iR_0 ha)
  rw [iR_z] at E
  exact lv_if_ge F.1.1 F.1.2.1 hd ht (fun q => kt (E.mp q) H locs ls hP hS hl hw h1 h3) (fun q => kf (fun z => q (E.mpr z)) H locs ls hP hS hl hw h1 h3)
theorem V_if_gt (F : FX G X cc own nL d) {a off : Int} (tgt : Nat) (hd : decode cc pc = .ok (.ifCond .gt off, 3)) (ht : (pc : Int) + off = (tgt : Int)) (kt : 0 < a → V G X nL Q tgt L st w) (kf : ¬ 0 < a → V G X nL Q (pc + 3) L st w) : V G X nL Q pc L (.inl a :: st) w := by
  intro H locs ls hP hS hl hw h1 h2
  obtain ⟨ha, h3⟩ := rgs_int.mp h2
  have E := (iR_lt iR_0 ha)
  rw [iR_z] at E
  exact lv_if_gt F.1.1 F.1.2.1 hd ht (fun q => kt (E.mp q) H locs ls hP hS hl hw h1 h3) (fun q => kf (fun z => q (E.mpr z)) H locs ls hP hS hl hw h1 h3)
theorem V_if_le (F : FX G X cc own nL d) {a off : Int} (tgt : Nat) (hd : decode cc pc = .ok (.ifCond .le off, 3)) (ht : (pc : Int) + off = (tgt : Int)) (kt : a ≤ 0 → V G X nL Q tgt L st w) (kf : ¬ a ≤ 0 → V G X nL Q (pc + 3) L st w) : V G X nL Q pc L (.inl a :: st) w := by
  intro H locs ls hP hS hl hw h1 h2
  obtain ⟨ha, h3⟩ := rgs_int.mp h2
  have E := (iR_le ha iR_0)
  rw [iR_z] at E
  exact lv_if_le F.1.1 F.1.2.1 hd ht (fun q => kt (E.mp q) H locs ls hP hS hl hw h1 h3) (fun q => kf (fun z => q (E.mpr z)) H locs ls hP hS hl hw h1 h3)
theorem V_icmp_eq (F : FX G X cc own nL d) {a b off : Int} (tgt : Nat) (hd : decode cc pc = .ok (.if_icmp .eq off, 3)) (ht : (pc : Int) + off = (tgt : Int)) (kt : a = b → V G X nL Q tgt L st w) (kf : ¬ a = b → V G X nL Q (pc + 3) L st w) : V G X nL Q pc L (.inl b :: .inl a :: st) w := by
  intro H locs ls hP hS hl hw h1 h2
  obtain ⟨hb, h3⟩ := rgs_int.mp h2
  obtain ⟨ha, h4⟩ := rgs_int.mp h3
  have E := (iR_eq ha hb)
  exact lv_icmp_eq F.1.1 F.1.2.1 hd ht (fun q => kt (E.mp q) H locs ls hP hS hl hw h1 h4) (fun q => kf (fun z => q (E.mpr z)) H locs ls hP hS hl hw h1 h4)
theorem V_icmp_ne (F : FX G X cc own nL d) {a b off : Int} (tgt : Nat) (hd : decode cc pc = .ok (.if_icmp .ne off, 3)) (ht : (pc : Int) + off = (tgt : Int)) (kt : ¬ a = b → V G X nL Q tgt L st w) (kf : a = b → V G X nL Q (pc + 3) L st w) : V G X nL Q pc L (.inl b :: .inl a :: st) w := by
  intro H locs ls hP hS hl hw h1 h2
  obtain ⟨hb, h3⟩ := rgs_int.mp h2
  obtain ⟨ha, h4⟩ := rgs_int.mp h3
  have E := (iR_eq ha hb)
  exact lv_icmp_ne F.1.1 F.1.2.1 hd ht (fun q => kt (fun z => q (E.mpr z)) H locs ls hP hS hl hw h1 h4) (fun q => kf (E.mp q) H locs ls hP hS hl hw h1 h4)
theorem V_icmp_lt (F : FX G X cc own nL d) {a b off : Int} (tgt : Nat) (hd : decode cc pc = .ok (.if_icmp .lt off, 3)) (ht : (pc : Int) + off = (tgt : Int)) (kt : a < b → V G X nL Q tgt L st w) (kf : ¬ a < b → V G X nL Q (pc + 3) L st w) : V G X nL Q pc L (.inl b :: .inl a :: st) w := by
  intro H locs ls hP hS hl hw h1 h2
  obtain ⟨hb, h3⟩ := rgs_int.mp h2
  obtain ⟨ha, h4⟩ := rgs_int.mp h3
  have E := (iR_lt ha hb)
  exact lv_icmp_lt F.1.1 F.1.2.1 hd ht (fun q => kt (E.mp q) H locs ls hP hS hl hw h1 h4) (fun q => kf (fun z => q (E.mpr z)) H locs ls hP hS hl hw h1 h4)
theorem V_icmp_ge (F : FX G X cc own nL d) {a b off : Int} (tgt : Nat) (hd : decode cc pc = .ok (.if_icmp .ge off, 3)) (ht : (pc : Int) + off = (tgt : Int)) (kt : b ≤ a → V G X nL Q tgt L st w) (kf : ¬ b ≤ a → V G X nL Q (pc + 3) L st w) : V G X nL Q pc L (.inl b :: .inl a :: st) w := by
  intro H locs ls hP hS hl hw h1 h2
  obtain ⟨hb, h3⟩ := rgs_int.mp h2
  obtain ⟨ha, h4⟩ := rgs_int.mp h3
  have E := (iR_le hb ha)
  exact lv_icmp_ge F.1.1 F.1.2.1 hd ht (fun q => kt (E.mp q) H locs ls hP hS hl hw h1 h4) (fun q => kf (fun z => q (E.mpr z)) H locs ls hP hS hl hw h1 h4)
theorem V_icmp_gt (F : FX G X cc own nL d) {a b off : Int} (tgt : Nat) (hd : decode cc pc = .ok (.if_icmp .gt off, 3)) (ht : (pc : Int) + off = (tgt : Int)) (kt : b < a → V G X nL Q tgt L st w) (kf : ¬ b < a → V G X nL Q (pc + 3) L st w) : V G X nL Q pc L (.inl b :: .inl a :: st) w := by
  intro H locs ls hP hS hl hw h1 h2
  obtain ⟨hb, h3⟩ := rgs_int.mp h2
  obtain ⟨ha, h4⟩ := rgs_int.mp h3
  have E := (iR_lt hb ha)
  exact lv_icmp_gt F.1.1 F.1.2.1 hd ht (fun q => kt (E.mp q) H locs ls hP hS hl hw h1 h4) (fun q => kf (fun z => q (E.mpr z)) H locs ls hP hS hl hw h1 h4)
theorem V_icmp_le (F : FX G X cc own nL d) {a b off : Int} (tgt : Nat) (hd : decode cc pc = .ok (.if_icmp .le off, 3)) (ht : (pc : Int) + off = (tgt : Int)) (kt : a ≤ b → V G X nL Q tgt L st w) (kf : ¬ a ≤ b → V G X nL Q (pc + 3) L st w) : V G X nL Q pc L (.inl b :: .inl a :: st) w := by
  intro H locs ls hP hS hl hw h1 h2
  obtain ⟨hb, h3⟩ := rgs_int.mp h2
  obtain ⟨ha, h4⟩ := rgs_int.mp h3
  have E := (iR_le ha hb)
  exact lv_icmp_le F.1.1 F.1.2.1 hd ht (fun q => kt (E.mp q) H locs ls hP hS hl hw h1 h4) (fun q => kf (fun z => q (E.mpr z)) H locs ls hP hS hl hw h1 h4)
theorem V_tabOut (F : FX G X cc own nL d) {dflt lo hi : Int} {offs : Array Int} {len : Nat} {a : Int} (tgt : Nat) (hd : decode cc pc = .ok (.tableswitch dflt lo hi offs, len)) (h : a < lo ∨ hi < a) (ht : (pc : Int) + dflt = (tgt : Int)) (k : V G X nL Q tgt L st w) : V G X nL Q pc L (.inl a :: st) w :=
  V_go k (fun _ _ _ h2 _ k => lv_tableOut F.1.1 F.1.2.1 hd (by rw [iR_t (rgs_int.mp h2).1]; exact h) ht k) (fun _ h => (rgs_cons.mp h).2)
theorem V_tabIn (F : FX G X cc own nL d) {dflt lo hi : Int} {offs : Array Int} {len : Nat} {a off : Int} (tgt : Nat) (hd : decode cc pc = .ok (.tableswitch dflt lo hi offs, len)) (h : lo ≤ a ∧ a ≤ hi) (ho : offs[(a - lo).toNat]? = some off) (ht : (pc : Int) + off = (tgt : Int)) (k : V G X nL Q tgt L st w) : V G X nL Q pc L (.inl a :: st) w :=
  V_go k (fun _ _ _ h2 _ k => lv_tableIn F.1.1 F.1.2.1 hd (by rw [iR_t (rgs_int.mp h2).1]; omega) (by rw [iR_t (rgs_int.mp h2).1]; omega) (by rw [iR_t (rgs_int.mp h2).1]; exact ho) ht k) (fun _ h => (rgs_cons.mp h).2)
-- fields
theorem fvs_at {k j : Nat} {fs : List (Option Nat)} (h : fs[j]? = some none) : (fvs G w k fs)[j]? = some (.int (Int32.ofInt (w k (j : Int)))) := by
  simp [fvs, List.getElem?_map, List.getElem?_zipIdx, h]
theorem fvs_ar {k j t : Nat} {fs : List (Option Nat)} (h : fs[j]? = some (some t)) : (fvs G w k fs)[j]? = some (.ref (gad G t)) := by
  simp [fvs, List.getElem?_map, List.getElem?_zipIdx, h]
theorem fvs_set {k j : Nat} {z : Int} {fs : List (Option Nat)} (h : fs[j]? = some none) : (fvs G w k fs).set j (.int (Int32.ofInt z)) = fvs G (upw w k (j : Int) z) k fs := by
  have hj := (List.getElem?_eq_some_iff.mp h).1
  apply List.ext_getElem?
  intro i
  by_cases hi : i = j
  · subst hi
    rw [List.getElem?_set_self (by simp [fvs]; exact hj), fvs_at h, upw_s]
  · rw [List.getElem?_set_ne (Ne.symm hi)]
    cases hf : fs[i]? with
    | none =>
      have hl : fs.length ≤ i := by simpa using hf
      rw [List.getElem?_eq_none (by simp [fvs]; exact hl), List.getElem?_eq_none (by simp [fvs]; exact hl)]
    | some o =>
      cases o with
      | none => rw [fvs_at hf, fvs_at hf, upw_i (by omega)]
      | some t => rw [fvs_ar hf, fvs_ar hf]
theorem F_D (F : FX G X cc own nL d) (w : RW) : va_D (xA X) (gW G w) := gW_D F.2.1.2.2.1 F.2.2.1 w
theorem V_geti (F : FX G X cc own nL d) {k ci j index N : Nat} {fs : List (Option Nat)} {C : String} {T : u_T} (hd : decode cc pc = .ok (.getfield index, 3)) (hk : shp[k]? = some (.inr (.inl (ci, fs)))) (hc : classes[ci]? = some (C, T, N)) (jz : Int) (hjz : (j : Int) = jz) (hjN : j < N) (hj : fs[j]? = some none) (hl : Cond.fieldLink own index (T j).1 (T j).2.1 (T j).2.2.1 ∈ bigW) (kk : V G X nL Q (pc + 3) L (.inl (w k jz) :: st) w) : V G X nL Q pc L (.inr k :: st) w :=
  by subst hjz; exact fun H locs ls hP hS hL hw h1 h2 => va_get F.1.1 F.1.2.1 F.1.2.2.2.2 (cls_in hc) F.1.2.2.2.1 F.2.1.1 hP k (gW_at G w hk) hc j hjN (F.1.2.2.2.2 _ hl) (fun _ h => h) (fvs_at hj) hd (kk H locs ls hP hS hL hw h1 (rgs_int.mpr ⟨hw _ _, (rgs_cons.mp h2).2⟩))
theorem V_getr (F : FX G X cc own nL d) {k ci j t index N : Nat} {fs : List (Option Nat)} {C : String} {T : u_T} (hd : decode cc pc = .ok (.getfield index, 3)) (hk : shp[k]? = some (.inr (.inl (ci, fs)))) (hc : classes[ci]? = some (C, T, N)) (hjN : j < N) (hj : fs[j]? = some (some t)) (hl : Cond.fieldLink own index (T j).1 (T j).2.1 (T j).2.2.1 ∈ bigW) (kk : V G X nL Q (pc + 3) L (.inr t :: st) w) : V G X nL Q pc L (.inr k :: st) w :=
  fun H locs ls hP hS hL hw h1 h2 => va_get F.1.1 F.1.2.1 F.1.2.2.2.2 (cls_in hc) F.1.2.2.2.1 F.2.1.1 hP k (gW_at G w hk) hc j hjN (F.1.2.2.2.2 _ hl) (fun _ h => h) (fvs_ar hj) hd (kk H locs ls hP hS hL hw h1 (rgs_ref.mpr (rgs_cons.mp h2).2))
theorem V_getiN (F : FX G X cc own nL d) {k ci j index N : Nat} {fs : List (Option Nat)} {C : String} {T : u_T} (hd : decode cc pc = .ok (.getfield index, 3)) (hk : shp[k]? = some (.inr (.inl (ci, fs)))) (hc : classes[ci]? = some (C, T, N)) (jz : Int) (hjz : (j : Int) = jz) (hjN : j < N) (hj : fs[j]? = some none) (hl : Cond.fieldLinkNest own index (T j).1 (T j).2.1 (T j).2.2.1 hostN ∈ nestW) (kk : V G X nL Q (pc + 3) L (.inl (w k jz) :: st) w) : V G X nL Q pc L (.inr k :: st) w :=
  by subst hjz; exact fun H locs ls hP hS hL hw h1 h2 => va_getN F.1.1 F.1.2.1 F.1.2.2.2.2 (cls_in hc) F.1.2.2.2.1 F.2.1.1 hP k (gW_at G w hk) hc j hjN (va_Nw.use rfl (F.2.1.2.1 _ hl)) (fun _ h => h) (fvs_at hj) hd (kk H locs ls hP hS hL hw h1 (rgs_int.mpr ⟨hw _ _, (rgs_cons.mp h2).2⟩))
theorem V_getrN (F : FX G X cc own nL d) {k ci j t index N : Nat} {fs : List (Option Nat)} {C : String} {T : u_T} (hd : decode cc pc = .ok (.getfield index, 3)) (hk : shp[k]? = some (.inr (.inl (ci, fs)))) (hc : classes[ci]? = some (C, T, N)) (hjN : j < N) (hj : fs[j]? = some (some t)) (hl : Cond.fieldLinkNest own index (T j).1 (T j).2.1 (T j).2.2.1 hostN ∈ nestW) (kk : V G X nL Q (pc + 3) L (.inr t :: st) w) : V G X nL Q pc L (.inr k :: st) w :=
  fun H locs ls hP hS hL hw h1 h2 => va_getN F.1.1 F.1.2.1 F.1.2.2.2.2 (cls_in hc) F.1.2.2.2.1 F.2.1.1 hP k (gW_at G w hk) hc j hjN (va_Nw.use rfl (F.2.1.2.1 _ hl)) (fun _ h => h) (fvs_ar hj) hd (kk H locs ls hP hS hL hw h1 (rgs_ref.mpr (rgs_cons.mp h2).2))
theorem nar_z {z : Int} (h : z = 0 ∨ z = 1) : narrow .boolean (.int (Int32.ofInt z)) = .int (Int32.ofInt z) ∧ fits .boolean (.int (Int32.ofInt z)) = true ∧ vp_nar .boolean (Int32.ofInt z) = Int32.ofInt z := by
  rcases h with rfl | rfl <;> exact ⟨by decide +kernel, by decide +kernel, by decide +kernel⟩
theorem V_puti (F : FX G X cc own nL d) {k ci j index N : Nat} {z : Int} {fs : List (Option Nat)} {C : String} {T : u_T} (hd : decode cc pc = .ok (.putfield index, 3)) (hk : shp[k]? = some (.inr (.inl (ci, fs)))) (hc : classes[ci]? = some (C, T, N)) (jz : Int) (hjz : (j : Int) = jz) (hjN : j < N) (hj : fs[j]? = some none) (hf : (T j).2.2.2 = false) (hI : (T j).2.2.1 = "I") (hl : Cond.fieldLink own index (T j).1 (T j).2.1 (T j).2.2.1 ∈ bigW) (kk : V G X nL Q (pc + 3) L st (upw w k jz z)) : V G X nL Q pc L (.inl z :: .inr k :: st) w := by
  subst hjz
  intro H locs ls hP hS hL hw h1 h2
  obtain ⟨ty0, hty⟩ := cls_ty hc
  refine va_put F.1.1 F.1.2.1 F.1.2.2.2.2 (cls_in hc) ty0 hty (cls_nm hc) F.1.2.2.2.1 F.2.1.1 hP (F_D F w) hS k (gW_at G w hk) hc j hjN (F.1.2.2.2.2 _ hl) (fun _ h => h) hf (ty := .int) (by rw [hI]; decide +kernel) rfl rfl (by simp [fvs]; exact (List.getElem?_eq_some_iff.mp hj).1) hd (fun H1 locs1 hP1 _ hS1 => ?_)
  have hP1 : va_P (gD G) classes (List.set (gW G w) k (gad G k, Sum.inr (ci, (fvs G w k fs).set j (Value.int (Int32.ofInt z))))) H1 := hP1
  rw [fvs_set hj, gW_set (e := Sum.inr (ci, fvs G (upw w k (j : Int) z) k fs)) (w' := upw w k (j : Int) z) hk rfl (fun k' hk' i => upw_k hk')] at hP1
  exact kk H1 locs1 ls hP1 hS1 hL (rgw_upw hw (rgs_int.mp h2).1) h1 (rgs_cons.mp (rgs_cons.mp h2).2).2
theorem V_putiN (F : FX G X cc own nL d) {k ci j index N : Nat} {z : Int} {fs : List (Option Nat)} {C : String} {T : u_T} (hd : decode cc pc = .ok (.putfield index, 3)) (hk : shp[k]? = some (.inr (.inl (ci, fs)))) (hc : classes[ci]? = some (C, T, N)) (jz : Int) (hjz : (j : Int) = jz) (hjN : j < N) (hj : fs[j]? = some none) (hf : (T j).2.2.2 = false) (hI : (T j).2.2.1 = "I") (hl : Cond.fieldLinkNest own index (T j).1 (T j).2.1 (T j).2.2.1 hostN ∈ nestW) (kk : V G X nL Q (pc + 3) L st (upw w k jz z)) : V G X nL Q pc L (.inl z :: .inr k :: st) w := by
  subst hjz
  intro H locs ls hP hS hL hw h1 h2
  obtain ⟨ty0, hty⟩ := cls_ty hc
  refine va_putN F.1.1 F.1.2.1 F.1.2.2.2.2 (cls_in hc) ty0 hty (cls_nm hc) F.1.2.2.2.1 F.2.1.1 hP (F_D F w) hS k (gW_at G w hk) hc j hjN (va_Nw.use rfl (F.2.1.2.1 _ hl)) (fun _ h => h) hf (ty := .int) (by rw [hI]; decide +kernel) rfl rfl (by simp [fvs]; exact (List.getElem?_eq_some_iff.mp hj).1) hd (fun H1 locs1 hP1 _ hS1 => ?_)
  have hP1 : va_P (gD G) classes (List.set (gW G w) k (gad G k, Sum.inr (ci, (fvs G w k fs).set j (Value.int (Int32.ofInt z))))) H1 := hP1
  rw [fvs_set hj, gW_set (e := Sum.inr (ci, fvs G (upw w k (j : Int) z) k fs)) (w' := upw w k (j : Int) z) hk rfl (fun k' hk' i => upw_k hk')] at hP1
  exact kk H1 locs1 ls hP1 hS1 hL (rgw_upw hw (rgs_int.mp h2).1) h1 (rgs_cons.mp (rgs_cons.mp h2).2).2
theorem V_putz (F : FX G X cc own nL d) {k ci j index N : Nat} {z : Int} {fs : List (Option Nat)} {C : String} {T : u_T} (hd : decode cc pc = .ok (.putfield index, 3)) (hk : shp[k]? = some (.inr (.inl (ci, fs)))) (hc : classes[ci]? = some (C, T, N)) (jz : Int) (hjz : (j : Int) = jz) (hjN : j < N) (hj : fs[j]? = some none) (hf : (T j).2.2.2 = false) (hI : (T j).2.2.1 = "Z") (hz : z = 0 ∨ z = 1) (hl : Cond.fieldLink own index (T j).1 (T j).2.1 (T j).2.2.1 ∈ bigW) (kk : V G X nL Q (pc + 3) L st (upw w k jz z)) : V G X nL Q pc L (.inl z :: .inr k :: st) w := by
  subst hjz
  intro H locs ls hP hS hL hw h1 h2
  obtain ⟨ty0, hty⟩ := cls_ty hc
  refine va_put F.1.1 F.1.2.1 F.1.2.2.2.2 (cls_in hc) ty0 hty (cls_nm hc) F.1.2.2.2.1 F.2.1.1 hP (F_D F w) hS k (gW_at G w hk) hc j hjN (F.1.2.2.2.2 _ hl) (fun _ h => h) hf (ty := .boolean) (by rw [hI]; decide +kernel) (nar_z hz).1 (nar_z hz).2.1 (by simp [fvs]; exact (List.getElem?_eq_some_iff.mp hj).1) hd (fun H1 locs1 hP1 _ hS1 => ?_)
  have hP1 : va_P (gD G) classes (List.set (gW G w) k (gad G k, Sum.inr (ci, (fvs G w k fs).set j (Value.int (Int32.ofInt z))))) H1 := hP1
  rw [fvs_set hj, gW_set (e := Sum.inr (ci, fvs G (upw w k (j : Int) z) k fs)) (w' := upw w k (j : Int) z) hk rfl (fun k' hk' i => upw_k hk')] at hP1
  exact kk H1 locs1 ls hP1 hS1 hL (rgw_upw hw (rgs_int.mp h2).1) h1 (rgs_cons.mp (rgs_cons.mp h2).2).2
theorem V_putzN (F : FX G X cc own nL d) {k ci j index N : Nat} {z : Int} {fs : List (Option Nat)} {C : String} {T : u_T} (hd : decode cc pc = .ok (.putfield index, 3)) (hk : shp[k]? = some (.inr (.inl (ci, fs)))) (hc : classes[ci]? = some (C, T, N)) (jz : Int) (hjz : (j : Int) = jz) (hjN : j < N) (hj : fs[j]? = some none) (hf : (T j).2.2.2 = false) (hI : (T j).2.2.1 = "Z") (hz : z = 0 ∨ z = 1) (hl : Cond.fieldLinkNest own index (T j).1 (T j).2.1 (T j).2.2.1 hostN ∈ nestW) (kk : V G X nL Q (pc + 3) L st (upw w k jz z)) : V G X nL Q pc L (.inl z :: .inr k :: st) w := by
  subst hjz
  intro H locs ls hP hS hL hw h1 h2
  obtain ⟨ty0, hty⟩ := cls_ty hc
  refine va_putN F.1.1 F.1.2.1 F.1.2.2.2.2 (cls_in hc) ty0 hty (cls_nm hc) F.1.2.2.2.1 F.2.1.1 hP (F_D F w) hS k (gW_at G w hk) hc j hjN (va_Nw.use rfl (F.2.1.2.1 _ hl)) (fun _ h => h) hf (ty := .boolean) (by rw [hI]; decide +kernel) (nar_z hz).1 (nar_z hz).2.1 (by simp [fvs]; exact (List.getElem?_eq_some_iff.mp hj).1) hd (fun H1 locs1 hP1 _ hS1 => ?_)
  have hP1 : va_P (gD G) classes (List.set (gW G w) k (gad G k, Sum.inr (ci, (fvs G w k fs).set j (Value.int (Int32.ofInt z))))) H1 := hP1
  rw [fvs_set hj, gW_set (e := Sum.inr (ci, fvs G (upw w k (j : Int) z) k fs)) (w' := upw w k (j : Int) z) hk rfl (fun k' hk' i => upw_k hk')] at hP1
  exact kk H1 locs1 ls hP1 hS1 hL (rgw_upw hw (rgs_int.mp h2).1) h1 (rgs_cons.mp (rgs_cons.mp h2).2).2
-- arrays
theorem ce_ii {k t n : Nat} {i z : Int} (h0 : 0 ≤ i) : (Sum.inl (gdA G t, n, Sum.inl (upd (fun j : Nat => Int32.ofInt (w k (j : Int))) i.toNat (Int32.ofInt z))) : va_E) = ce G (upw w k i z) k (.inl (t, n)) := by
  show _ = Sum.inl (gdA G t, n, Sum.inl _)
  refine congrArg (fun f : Nat → Int32 => (Sum.inl (gdA G t, n, Sum.inl f) : va_E)) ?_
  funext j
  by_cases hj : j = i.toNat
  · subst hj
    rw [pk_us, Int.toNat_of_nonneg h0, upw_s]
  · rw [pk_un hj, upw_i (by omega)]
theorem V_iald (F : FX G X cc own nL d) {k t n : Nat} {i : Int} (hd : decode cc pc = .ok (.iaload, 1)) (hk : shp[k]? = some (.inl (t, n))) (ht : tyl[t]? = some .int) (hi : 0 ≤ i ∧ i < (n : Int)) (kk : V G X nL Q (pc + 1) L (.inl (w k i) :: st) w) : V G X nL Q pc L (.inl i :: .inr k :: st) w := by
  intro H locs ls hP hS hL hw h1 h2
  have hz := (rgs_int.mp h2).1
  refine va_iald F.1.1 F.1.2.1 F.2.1.1 hP k t (gW_at G w hk) (gT_at G ht) (iR_in hz hi.1 hi.2) hd ?_
  rw [iR_cl hz, Int.toNat_of_nonneg hi.1]
  exact kk H locs ls hP hS hL hw h1 (rgs_int.mpr ⟨hw _ _, (rgs_cons.mp (rgs_cons.mp h2).2).2⟩)
theorem V_zald (F : FX G X cc own nL d) {k t n : Nat} {i : Int} (hd : decode cc pc = .ok (.baload, 1)) (hk : shp[k]? = some (.inl (t, n))) (ht : tyl[t]? = some .boolean) (hi : 0 ≤ i ∧ i < (n : Int)) (kk : V G X nL Q (pc + 1) L (.inl (w k i) :: st) w) : V G X nL Q pc L (.inl i :: .inr k :: st) w := by
  intro H locs ls hP hS hL hw h1 h2
  have hz := (rgs_int.mp h2).1
  refine va_zald F.1.1 F.1.2.1 F.2.1.1 hP k t (gW_at G w hk) (gT_at G ht) (iR_in hz hi.1 hi.2) hd ?_
  rw [iR_cl hz, Int.toNat_of_nonneg hi.1]
  exact kk H locs ls hP hS hL hw h1 (rgs_int.mpr ⟨hw _ _, (rgs_cons.mp (rgs_cons.mp h2).2).2⟩)
theorem V_iast (F : FX G X cc own nL d) {k t n : Nat} {i z : Int} (hd : decode cc pc = .ok (.iastore, 1)) (hk : shp[k]? = some (.inl (t, n))) (ht : tyl[t]? = some .int) (hi : 0 ≤ i ∧ i < (n : Int)) (kk : V G X nL Q (pc + 1) L st (upw w k i z)) : V G X nL Q pc L (.inl z :: .inl i :: .inr k :: st) w := by
  intro H locs ls hP hS hL hw h1 h2
  obtain ⟨h3, h4⟩ := rgs_int.mp h2
  obtain ⟨h5, h6⟩ := rgs_int.mp h4
  refine va_iast F.1.1 F.1.2.1 F.2.1.1 hP (F_D F w) hS k t (gW_at G w hk) (gT_at G ht) (iR_in h5 hi.1 hi.2) hd (fun H1 locs1 hP1 _ hS1 => ?_)
  rw [iR_cl h5, ce_ii hi.1, gW_set (w' := upw w k i z) hk rfl (fun k' hk' i => upw_k hk')] at hP1
  exact kk H1 locs1 ls hP1 hS1 hL (rgw_upw hw h3) h1 (rgs_cons.mp h6).2
theorem V_zast (F : FX G X cc own nL d) {k t n : Nat} {i z : Int} (hd : decode cc pc = .ok (.bastore, 1)) (hk : shp[k]? = some (.inl (t, n))) (ht : tyl[t]? = some .boolean) (hi : 0 ≤ i ∧ i < (n : Int)) (hz : z = 0 ∨ z = 1) (kk : V G X nL Q (pc + 1) L st (upw w k i z)) : V G X nL Q pc L (.inl z :: .inl i :: .inr k :: st) w := by
  intro H locs ls hP hS hL hw h1 h2
  obtain ⟨h3, h4⟩ := rgs_int.mp h2
  obtain ⟨h5, h6⟩ := rgs_int.mp h4
  refine va_zast F.1.1 F.1.2.1 F.2.1.1 hP (F_D F w) hS k t (gW_at G w hk) (gT_at G ht) (iR_in h5 hi.1 hi.2) hd (fun H1 locs1 hP1 _ hS1 => ?_)
  rw [(nar_z hz).2.2, iR_cl h5, ce_ii hi.1, gW_set (w' := upw w k i z) hk rfl (fun k' hk' i => upw_k hk')] at hP1
  exact kk H1 locs1 ls hP1 hS1 hL (rgw_upw hw h3) h1 (rgs_cons.mp h6).2
theorem V_aald (F : FX G X cc own nL d) {k t u : Nat} {l : List Nat} {C : String} {i : Int} (hd : decode cc pc = .ok (.aaload, 1)) (hk : shp[k]? = some (.inr (.inr (t, l)))) (ht : tyl[t]? = some (.object C)) (h0 : 0 ≤ i) (hi : l[i.toNat]? = some u) (kk : V G X nL Q (pc + 1) L (.inr u :: st) w) : V G X nL Q pc L (.inl i :: .inr k :: st) w := by
  intro H locs ls hP hS hL hw h1 h2
  have hz := (rgs_int.mp h2).1
  have hlt := (List.getElem?_eq_some_iff.mp hi).1
  refine va_aldq F.1.1 F.1.2.1 F.2.1.1 hP k t (gW_at G w hk) (gT_at G ht) (iR_in hz h0 (by omega)) hd ?_
  rw [iR_cl hz]
  show W _ _ _ _ _ _ _ _ _ _ _ _ _ _ _ (F0 _ _ _ (va_rf (l[i.toNat]?.map (gad G)) :: _))
  rw [hi]
  exact kk H locs ls hP hS hL hw h1 (rgs_ref.mpr (rgs_cons.mp (rgs_cons.mp h2).2).2)
theorem V_aaldA (F : FX G X cc own nL d) {k t u : Nat} {l : List Nat} {ty : FieldType} {i : Int} (hd : decode cc pc = .ok (.aaload, 1)) (hk : shp[k]? = some (.inr (.inr (t, l)))) (ht : tyl[t]? = some (.array ty)) (h0 : 0 ≤ i) (hi : l[i.toNat]? = some u) (kk : V G X nL Q (pc + 1) L (.inr u :: st) w) : V G X nL Q pc L (.inl i :: .inr k :: st) w := by
  intro H locs ls hP hS hL hw h1 h2
  have hz := (rgs_int.mp h2).1
  have hlt := (List.getElem?_eq_some_iff.mp hi).1
  have hin := iR_in (n := l.length) hz h0 (by omega)
  have hc : (Int32.ofInt i).toNatClampNeg = i.toNat := iR_cl hz
  refine W.aald (v := va_rf (l[i.toNat]?.map (gad G))) (ty := .array ty) F.1.1 F.1.2.1 (hP k _ (gW_at G w hk)) ((F.2.1.1.2 t _ (gT_at G ht)).1 l.length (fun j => va_rf (l[j]?.map (gad G)))) rfl (fun q => by cases q) (by show ¬ (_ ∨ (arrV _ _ _).slots.size ≤ _); rw [arrV_size]; exact hin) (by show (arrV _ _ _).slots[_]? = _; rw [hc, arrV_read _ _ hlt]) rfl rfl hd ?_
  rw [hi]
  exact kk H locs ls hP hS hL hw h1 (rgs_ref.mpr (rgs_cons.mp (rgs_cons.mp h2).2).2)
theorem V_alen (F : FX G X cc own nL d) {k t n : Nat} {ty : FieldType} (hd : decode cc pc = .ok (.arraylength, 1)) (hk : shp[k]? = some (.inl (t, n))) (ht : tyl[t]? = some ty) (hn : n < 2147483648) (kk : V G X nL Q (pc + 1) L (.inl (n : Int) :: st) w) : V G X nL Q pc L (.inr k :: st) w := by
  intro H locs ls hP hS hL hw h1 h2
  refine va_alen F.1.1 F.1.2.1 F.2.1.1 hP k t (gW_at G w hk) (gT_at G ht) (v := Int32.ofInt (n : Int)) (by rw [Int32.ofInt_eq_ofNat]) hd ?_
  exact kk H locs ls hP hS hL hw h1 (rgs_int.mpr ⟨⟨by omega, by omega⟩, (rgs_cons.mp h2).2⟩)
-- static tables
theorem V_gets (F : FX G X cc own nL d) (i : Nat) {index : Nat} (hd : decode cc pc = .ok (.getstatic index, 3)) (hi : i < 3) (hl : Cond.fieldLink own index R_spot (snm i) "[I" ∈ bigW) (kk : V G X nL Q (pc + 3) L (.inr (900 + i) :: st) w) : V G X nL Q pc L st w :=
  fun H locs ls hP hS hL hw h1 h2 => va_gets F.1.1 F.1.2.1 (F.2.1.2.2.2 i hi).1 hS F.1.2.2.2.1 (F.1.2.2.2.2 _ hl) (fun _ h => h) hd (kk H locs ls hP hS hL hw h1 (rgs_ref.mpr h2))
theorem V_getsN (F : FX G X cc own nL d) (i : Nat) {index : Nat} (hd : decode cc pc = .ok (.getstatic index, 3)) (hi : i < 3) (hl : Cond.fieldLinkNest own index R_spot (snm i) "[I" hostN ∈ nestW) (kk : V G X nL Q (pc + 3) L (.inr (900 + i) :: st) w) : V G X nL Q pc L st w :=
  fun H locs ls hP hS hL hw h1 h2 => va_getsN F.1.1 F.1.2.1 (F.2.1.2.2.2 i hi).1 hS F.1.2.2.2.1 (va_Nw.use rfl (F.2.1.2.1 _ hl)) (fun _ h => h) hd (kk H locs ls hP hS hL hw h1 (rgs_ref.mpr h2))
theorem V_sald (F : FX G X cc own nL d) {i : Nat} {z : Int} (hd : decode cc pc = .ok (.iaload, 1)) (hi : i < 3) (hz : 0 ≤ z ∧ z < 6) (hr : inR (stt i z)) (kk : V G X nL Q (pc + 1) L (.inl (stt i z) :: st) w) : V G X nL Q pc L (.inl z :: .inr (900 + i) :: st) w := by
  intro H locs ls hP hS hL hw h1 h2
  have h3 := (rgs_int.mp h2).1
  refine va_ti F.1.1 F.1.2.1 (F.2.1.2.2.2 i hi).2 hS (iR_in h3 hz.1 (by omega)) (v := .int (Int32.ofInt (stt i z))) (by rw [iR_cl h3, Int.toNat_of_nonneg hz.1]) hd ?_
  exact kk H locs ls hP hS hL hw h1 (rgs_int.mpr ⟨hr, (rgs_cons.mp (rgs_cons.mp h2).2).2⟩)
-- Math.min, Math.max, System.arraycopy
theorem cat_sum (st : List RV) : ((st.map (rv G)).map fun v => v.category).sum = st.length := by
  induction st with
  | nil => rfl
  | cons v t ih => simp only [List.map_cons, List.sum_cons, ih, rv_cat, List.length_cons]; omega
theorem V_mmin (F : FX G X cc own nL d) {a b : Int} {index : Nat} (hd : decode cc pc = .ok (.invokestatic index, 3)) (hd1 : 1 ≤ d) (hst : st.length ≤ 8) (hl : Cond.methodLink own index Lib.Math.min.name ∈ bigW) (h1 : Cond.static Lib.Math.min.name ∈ bigW) (h2 : Cond.initialized "java/lang/Math" ∈ bigW) (h3 : Cond.code Lib.Math.min.name Lib.Math.min.code 2 (some .int) ∈ bigW) (kk : V G X nL Q (pc + 3) L (.inl (if b < a then b else a) :: st) w) : V G X nL Q pc L (.inl b :: .inl a :: st) w := by
  intro H locs ls hP hS hL hw g1 g2
  obtain ⟨hb, g3⟩ := rgs_int.mp g2
  obtain ⟨ha, g4⟩ := rgs_int.mp g3
  refine va_mmin F.1.1 F.1.2.1 (F.1.2.2.1.trans hL.1.symm) F.1.2.2.2.1 (F.1.2.2.2.2 _ hl) (F.1.2.2.2.2 _ h1) (F.1.2.2.2.2 _ h2) (F.1.2.2.2.2 _ h3) (by have := F.2.2.2.1; omega) (by rw [cat_sum]; have := F.2.2.2.2.1; omega) F.2.2.2.2.2.1 F.2.2.2.2.2.2 hd ?_
  have e : (if Int32.ofInt b < Int32.ofInt a then Int32.ofInt b else Int32.ofInt a) = Int32.ofInt (if b < a then b else a) := by
    by_cases h : b < a
    · rw [if_pos ((iR_lt hb ha).mpr h), if_pos h]
    · rw [if_neg (fun z => h ((iR_lt hb ha).mp z)), if_neg h]
  rw [e]
  exact kk H locs ls hP hS hL hw g1 (rgs_int.mpr ⟨by split <;> assumption, g4⟩)
theorem V_mmax (F : FX G X cc own nL d) {a b : Int} {index : Nat} (hd : decode cc pc = .ok (.invokestatic index, 3)) (hd1 : 1 ≤ d) (hst : st.length ≤ 8) (hl : Cond.methodLink own index Lib.Math.max.name ∈ bigW) (h1 : Cond.static Lib.Math.max.name ∈ bigW) (h2 : Cond.initialized "java/lang/Math" ∈ bigW) (h3 : Cond.code Lib.Math.max.name Lib.Math.max.code 2 (some .int) ∈ bigW) (kk : V G X nL Q (pc + 3) L (.inl (if a < b then b else a) :: st) w) : V G X nL Q pc L (.inl b :: .inl a :: st) w := by
  intro H locs ls hP hS hL hw g1 g2
  obtain ⟨hb, g3⟩ := rgs_int.mp g2
  obtain ⟨ha, g4⟩ := rgs_int.mp g3
  refine va_mmax F.1.1 F.1.2.1 (F.1.2.2.1.trans hL.1.symm) F.1.2.2.2.1 (F.1.2.2.2.2 _ hl) (F.1.2.2.2.2 _ h1) (F.1.2.2.2.2 _ h2) (F.1.2.2.2.2 _ h3) (by have := F.2.2.2.1; omega) (by rw [cat_sum]; have := F.2.2.2.2.1; omega) F.2.2.2.2.2.1 F.2.2.2.2.2.2 hd ?_
  have e : (if Int32.ofInt a < Int32.ofInt b then Int32.ofInt b else Int32.ofInt a) = Int32.ofInt (if a < b then b else a) := by
    by_cases h : a < b
    · rw [if_pos ((iR_lt ha hb).mpr h), if_pos h]
    · rw [if_neg (fun z => h ((iR_lt ha hb).mp z)), if_neg h]
  rw [e]
  exact kk H locs ls hP hS hL hw g1 (rgs_int.mpr ⟨by split <;> assumption, g4⟩)
theorem acw (F : FX G X cc own nL d) (hd1 : 1 ≤ d) {n : Nat} (hn : n ≤ 8) : n + (nativeFrameWords "java/lang/System" "arraycopy" 5 + 11) ≤ (xR X).locals := by
  have e : nativeFrameWords "java/lang/System" "arraycopy" 5 + 11 ≤ 32 := by decide +kernel
  have := F.2.2.2.2.1
  omega
theorem V_acopy (F : FX G X cc own nL d) {ks kd t ns nd index : Nat} {sp dp n : Int} (hd : decode cc pc = .ok (.invokestatic index, 3)) (hd1 : 1 ≤ d) (hst : st.length ≤ 8) (hks : shp[ks]? = some (.inl (t, ns))) (hkd : shp[kd]? = some (.inl (t, nd))) (ht : tyl[t]? = some .int) (hn : 0 ≤ sp ∧ 0 ≤ dp ∧ 0 ≤ n ∧ sp + n ≤ (ns : Int) ∧ dp + n ≤ (nd : Int)) (hl : Cond.methodLink own index arraycopyName ∈ bigW) (h1 : Cond.native arraycopyName ∈ bigW) (h2 : Cond.static arraycopyName ∈ bigW) (h3 : Cond.initialized "java/lang/System" ∈ bigW) (kk : V G X nL Q (pc + 3) L st (cpw w ks kd sp dp n)) : V G X nL Q pc L (.inl n :: .inl dp :: .inr kd :: .inl sp :: .inr ks :: st) w := by
  intro H locs ls hP hS hL hw g1 g2
  obtain ⟨i1, g3⟩ := rgs_int.mp g2
  obtain ⟨i2, g4⟩ := rgs_int.mp g3
  obtain ⟨i3, g5⟩ := rgs_int.mp (rgs_ref.mp g4)
  have g6 := rgs_ref.mp g5
  refine va_copyi F.1.1 F.1.2.1 (F.1.2.2.1.trans hL.1.symm) F.1.2.2.2.1 (F.1.2.2.2.2 _ hl) (F.1.2.2.2.2 _ h1) (F.1.2.2.2.2 _ h2) (F.1.2.2.2.2 _ h3) F.2.1.1 hP (F_D F w) hS ks kd t t (gW_at G w hks) (gW_at G w hkd) (gT_at G ht) (gT_at G ht) rfl (fun q => ?_) (fun q => ?_) (fun q => ?_) ?_ ?_ (fun _ _ => rfl) (by have := F.2.2.2.1; omega) (acw F hd1 (by rw [cat_sum]; exact hst)) hd (fun H1 locs1 hP1 _ hS1 => ?_)
  · have := (iR_lt i3 iR_0).mp q; omega
  · have := (iR_lt i2 iR_0).mp q; omega
  · have := (iR_lt i1 iR_0).mp q; omega
  · rw [iR_cl i3, iR_cl i1]; omega
  · rw [iR_cl i2, iR_cl i1]; omega
  · rw [iR_cl i1, iR_cl i2, iR_cl i3] at hP1
    rw [gW_set (w' := cpw w ks kd sp dp n) hkd ?_ (fun k' hk' i => by simp [cpw, hk'])] at hP1
    · exact kk H1 locs1 ls hP1 hS1 hL (rgw_cpw hw) g1 g6
    · show _ = Sum.inl (gdA G t, nd, Sum.inl _)
      refine congrArg (fun f : Nat → Int32 => (Sum.inl (gdA G t, nd, Sum.inl f) : va_E)) ?_
      funext j
      unfold va_cpy cpw
      by_cases h : dp.toNat ≤ j ∧ j < dp.toNat + n.toNat
      · rw [if_pos h, if_pos ⟨rfl, by omega, by omega⟩]
        have e1 : ((sp.toNat + (j - dp.toNat) : Nat) : Int) = sp + ((j : Int) - dp) := by omega
        show Int32.ofInt (w ks ((sp.toNat + (j - dp.toNat) : Nat) : Int)) = _
        rw [e1]
      · rw [if_neg h, if_neg (fun q => h ⟨by omega, by omega⟩)]
-- ends
def RetI (G : vG) (X : vX) (cc : ByteArray) (nL : Nat) (Q : State → Prop) (Post : Int → RW → Prop) : Prop := ∀ (pc : Nat) (L : List (Option RV)) (z : Int) (w : RW), decode cc pc = .ok (.ireturn, 1) → Post z w → V G X nL Q pc L [.inl z] w
def RetZ (G : vG) (X : vX) (cc : ByteArray) (nL : Nat) (Q : State → Prop) (Post : Int → RW → Prop) : Prop := ∀ (pc : Nat) (L : List (Option RV)) (z : Int) (w : RW), decode cc pc = .ok (.ireturn, 1) → (z = 0 ∨ z = 1) → Post z w → V G X nL Q pc L [.inl z] w
def RetV (G : vG) (X : vX) (cc : ByteArray) (nL : Nat) (Q : State → Prop) (Post : RW → Prop) : Prop := ∀ (pc : Nat) (L : List (Option RV)) (w : RW), decode cc pc = .ok (.return_, 1) → Post w → V G X nL Q pc L [] w
end VK
/-- contracts: an int, a boolean (rt), or nothing comes back -/
def CTi (G : vG) (l : Launch) (y : MethodName) (bs : ByteArray) (nL : Nat) (rt : FieldType) (d : Nat) (as : List RV) (w : RW) (Post : Int → RW → Prop) : Prop :=
  Met l y (.code y bs nL (some rt) :: bigW) (rmD d) (va_Pc (as.map (rv G)) (fun U => va_P (gD G) classes (gW G w) U.heap ∧ gE G (gA G) U ∧ rgw w ∧ rgs as)) (va_Qi (fun r u => ∃ z, inR z ∧ r = Int32.ofInt z ∧ Post z u ∧ rgw u) (fun u t => va_P (gD G) classes (gW G u) t.heap) (gA G)) 0 0 (gA G)
def CTv (G : vG) (l : Launch) (y : MethodName) (bs : ByteArray) (nL : Nat) (d : Nat) (as : List RV) (w : RW) (Post : RW → Prop) : Prop :=
  Met l y (.code y bs nL none :: bigW) (rmD d) (va_Pc (as.map (rv G)) (fun U => va_P (gD G) classes (gW G w) U.heap ∧ gE G (gA G) U ∧ rgw w ∧ rgs as)) (va_Qv (fun u => Post u ∧ rgw u) (fun u t => va_P (gD G) classes (gW G u) t.heap) (gA G)) 0 0 (gA G)
theorem FX.of {G : vG} {l : Launch} {y : MethodName} {bs : ByteArray} {nL d : Nat} {ret : Option FieldType} {p : Program} {e : Env} {s s₁ : State} {m : MethodId} {args : Array Value} {below : List Frame} {meth : Method} {c : Code} (B : BodyLoose p l y (headSpec (.code y bs nL ret :: bigW) (rmD d)) bs nL ret e s m args below meth c s₁) (hml : c.maxLocals = nL) (hE : gE G (gA G) s) :
    FX G (p, l, e, (headSpec (.code y bs nL ret :: bigW) (rmD d)).room, s, m, args, below, meth, c, gA G, 0, 0) bs y.cls nL d := by
  have hts := atoms_spec (ws := .code y bs nL ret :: bigW) B.pre
  exact ⟨⟨B.exec, B.bytes, hml, findClass_of_methodNamed B.named, fun w hw => hts w (List.mem_cons_of_mem _ hw)⟩, hE, fun k hk => ⟨k, hk, rfl⟩, Nat.le_refl d, Nat.le_refl (40 * d), Nat.le_refl 0, Nat.le_refl 0⟩
theorem CTi.int {G : vG} {l : Launch} {y : MethodName} {bs : ByteArray} {nL d : Nat} {as : List RV} {w : RW} {Post : Int → RW → Prop} (hy : plainName y.cls = true) (hn : as.length ≤ nL)
    (body : ∀ (X : vX) (Q : State → Prop), FX G X bs y.cls nL d → xl X = l → RetI G X bs nL Q Post → V G X nL Q 0 (as.map some ++ List.replicate (nL - as.length) none) [] w) : CTi G l y bs nL .int d as w Post := by
  refine Met.ofW (cc := bs) (maxL := nL) (ret := some .int) hy rfl ?_
  intro p e s m args below meth c s₁ B hml hv
  obtain ⟨rfl, hP, hE, hw, ha⟩ := hv
  have hr := B.returns
  have hlocks := B.notSynchronized
  obtain ⟨ls, e1, hl⟩ := gL_entry (G := G) as hn m
  rw [e1]
  refine body _ _ (FX.of B hml hE) rfl ?_ s.heap [] ls hP va_S.rf hl hw ?_ rgs_nil
  · intro pc L z w' hd hq H locs ls' hP' hS' hl' hw' h1 h2
    exact W.iret (v := Int32.ofInt z) B.exec B.bytes hr (fun t ht hW => ⟨⟨Int32.ofInt z, w', rfl, ⟨z, (rgs_int.mp h2).1, rfl, hq, hw'⟩, (show va_P (gD G) classes (gW G w') t.heap by rw [ht]; exact hP')⟩, hS'.F ht⟩) hS'.2.2 hd
  · intro x hx
    rcases List.mem_append.mp hx with h | h
    · obtain ⟨q, h3, h4⟩ := List.mem_map.mp h
      rw [← Option.some.inj h4]; exact ha q h3
    · have := List.eq_of_mem_replicate h
      simp at this
theorem CTi.bool {G : vG} {l : Launch} {y : MethodName} {bs : ByteArray} {nL d : Nat} {as : List RV} {w : RW} {Post : Int → RW → Prop} (hy : plainName y.cls = true) (hn : as.length ≤ nL)
    (body : ∀ (X : vX) (Q : State → Prop), FX G X bs y.cls nL d → xl X = l → RetZ G X bs nL Q Post → V G X nL Q 0 (as.map some ++ List.replicate (nL - as.length) none) [] w) : CTi G l y bs nL .boolean d as w Post := by
  refine Met.ofW (cc := bs) (maxL := nL) (ret := some .boolean) hy rfl ?_
  intro p e s m args below meth c s₁ B hml hv
  obtain ⟨rfl, hP, hE, hw, ha⟩ := hv
  have hr := B.returns
  have hlocks := B.notSynchronized
  obtain ⟨ls, e1, hl⟩ := gL_entry (G := G) as hn m
  rw [e1]
  refine body _ _ (FX.of B hml hE) rfl ?_ s.heap [] ls hP va_S.rf hl hw ?_ rgs_nil
  · intro pc L z w' hd hz hq H locs ls' hP' hS' hl' hw' h1 h2
    exact W.zret (v := Int32.ofInt z) B.exec B.bytes hr (nar_z hz).1 (fun t ht hW => ⟨⟨Int32.ofInt z, w', rfl, ⟨z, (rgs_int.mp h2).1, rfl, hq, hw'⟩, (show va_P (gD G) classes (gW G w') t.heap by rw [ht]; exact hP')⟩, hS'.F ht⟩) hS'.2.2 hd
  · intro x hx
    rcases List.mem_append.mp hx with h | h
    · obtain ⟨q, h3, h4⟩ := List.mem_map.mp h
      rw [← Option.some.inj h4]; exact ha q h3
    · have := List.eq_of_mem_replicate h
      simp at this
theorem CTv.intro {G : vG} {l : Launch} {y : MethodName} {bs : ByteArray} {nL d : Nat} {as : List RV} {w : RW} {Post : RW → Prop} (hy : plainName y.cls = true) (hn : as.length ≤ nL)
    (body : ∀ (X : vX) (Q : State → Prop), FX G X bs y.cls nL d → xl X = l → RetV G X bs nL Q Post → V G X nL Q 0 (as.map some ++ List.replicate (nL - as.length) none) [] w) : CTv G l y bs nL d as w Post := by
  refine Met.ofW (cc := bs) (maxL := nL) (ret := none) hy rfl ?_
  intro p e s m args below meth c s₁ B hml hv
  obtain ⟨rfl, hP, hE, hw, ha⟩ := hv
  have hr := B.returns
  have hlocks := B.notSynchronized
  obtain ⟨ls, e1, hl⟩ := gL_entry (G := G) as hn m
  rw [e1]
  refine body _ _ (FX.of B hml hE) rfl ?_ s.heap [] ls hP va_S.rf hl hw ?_ rgs_nil
  · intro pc L w' hd hq H locs ls' hP' hS' hl' hw' h1 h2
    exact W.vret B.exec B.bytes hr (fun t ht hW => ⟨⟨w', rfl, ⟨hq, hw'⟩, (show va_P (gD G) classes (gW G w') t.heap by rw [ht]; exact hP')⟩, hS'.F ht⟩) hS'.2.2 hd
  · intro x hx
    rcases List.mem_append.mp hx with h | h
    · obtain ⟨q, h3, h4⟩ := List.mem_map.mp h
      rw [← Option.some.inj h4]; exact ha q h3
    · have := List.eq_of_mem_replicate h
      simp at this
/-! calls -/
def MI (y : MethodName) (bs : ByteArray) (nM : Nat) (ret : Option FieldType) (n : Nat) : Prop := Cond.code y bs nM ret ∈ bigW ∧ Cond.initialized y.cls ∈ bigW ∧ (y.cls ≠ "java/lang/invoke/MethodHandle" ∧ y.cls ≠ "java/lang/invoke/VarHandle") ∧ (parseMethodDescriptor y.desc).map (fun d => d.parameters.length) = some n ∧ nM ≤ 21
def MV (y : MethodName) : Prop := Cond.instanceMethod y ∈ bigW ∧ Cond.selects y.cls y y ∈ bigW
theorem gE_like {G : vG} {A B : Nat → Prop} {s U : State} {H : Heap} {locs : List Loc} (h : gE G A s) (hW : s.WarmedH U.vm) (hU : U.heap = H) (hS : va_S A s.heap H locs) (hAB : ∀ q, B q → A q) : gE G B U := by
  refine ⟨va_K.moved hW.alike h.1, fun w hw => nest_warm hw hW (h.2.1 w hw), h.2.2.1, fun i hi => ?_⟩
  obtain ⟨h1, h2⟩ := h.2.2.2 i hi
  rw [hU]
  exact ⟨((h1.moved hW.alike).kept (fun a h3 h4 => hS.2.1 a h3 h4)).narrow hAB, ((h2.moved hW.alike).kept (fun a h3 h4 => hS.2.1 a h3 h4)).narrow hAB⟩
theorem gE_blind {G : vG} {w : RW} {as : List RV} : FrameBlind (va_Pc (as.map (rv G)) (fun U => va_P (gD G) classes (gW G w) U.heap ∧ gE G (gA G) U ∧ rgw w ∧ rgs as)) := by
  intro a U g mk q
  obtain ⟨q1, q2, q3, q4, q5⟩ := q
  refine ⟨q1, q2, ⟨va_K.moved (u := U) (U := U.calling g mk a) (Vm.Alike.refl U.vm) q3.1, fun w hw => va_Nw.same (nest_tab hw) (rfl : U.vm = (U.calling g mk a).vm) (q3.2.1 w hw), q3.2.2.1, fun i hi => ?_⟩, q4, q5⟩
  obtain ⟨h1, h2⟩ := q3.2.2.2 i hi
  exact ⟨va_Z.moved (u := U) (U := U.calling g mk a) (Vm.Alike.refl U.vm) h1, va_T.moved (u := U) (U := U.calling g mk a) (Vm.Alike.refl U.vm) h2⟩
theorem big_good {y : MethodName} {bs : ByteArray} {nM : Nat} {ret : Option FieldType} (h : Cond.code y bs nM ret ∈ bigW) : GoodIn bigW (.code y bs nM ret :: bigW) := by
  intro w hw
  rcases List.mem_cons.mp hw with rfl | h1
  · exact ⟨h, big_ok _ h⟩
  · exact ⟨h1, big_ok _ h1⟩
theorem cb_of {G : vG} {X : vX} {cc : ByteArray} {own : String} {nL d d' : Nat} {y : MethodName} {bs : ByteArray} {nM n index : Nat} {ret : Option FieldType} (F : FX G X cc own nL d) (mi : MI y bs nM ret n) (hd' : d' + 1 ≤ d) (hl : Cond.methodLink own index y ∈ bigW) : CallB (xR X) (xs X) (xa X) own index y bs nM ret (.code y bs nM ret :: bigW) (rmD d') 0 0 n := by
  obtain ⟨m1, m2, m3, m4, m5⟩ := mi
  refine ⟨rfl, rfl, ?_, ?_, pay_in F.1.2.2.2.2 (big_good m1), List.mem_cons_self, F.1.2.2.2.2 _ m1, F.1.2.2.2.2 _ m2, m3, fun sig h => ?_, F.1.2.2.2.2 _ hl⟩
  · have := F.2.2.2.1
    show d' + 1 ≤ _
    omega
  · have := F.2.2.2.2.1
    show 8 + (nM + 11) + 40 * d' ≤ _
    omega
  · rw [h] at m4
    exact (Option.some.inj m4).symm
theorem rgs_args {As rest st : List RV} {b : RV} (h : rgs st) (e : st = As.reverse ++ b :: rest) : rgs (b :: As) := by
  intro v hv
  apply h
  rw [e]
  rcases List.mem_cons.mp hv with rfl | h1
  · exact List.mem_append_right _ List.mem_cons_self
  · exact List.mem_append_left _ (List.mem_reverse.mpr h1)
theorem rgs_argS {As rest st : List RV} (h : rgs st) (e : st = As.reverse ++ rest) : rgs As := by
  intro v hv
  apply h
  rw [e]
  exact List.mem_append_left _ (List.mem_reverse.mpr hv)
theorem rgs_rest {As rest st : List RV} (h : rgs st) (e : st = As ++ rest) : rgs rest := fun v hv => h v (by rw [e]; exact List.mem_append_right _ hv)
section VC
variable {G : vG} {X : vX} {cc : ByteArray} {own : String} {nL d pc : Nat} {Q : State → Prop} {L : List (Option RV)} {st : List RV} {w : RW}
theorem V_callVi (F : FX G X cc own nL d) {y : MethodName} {bs : ByteArray} {nM d' b ci N index : Nat} {rt : FieldType} {fs : List (Option Nat)} {T : u_T} {As rest : List RV} {Post' : Int → RW → Prop} (hd : decode cc pc = .ok (.invokevirtual index, 3)) (hl : Cond.methodLink own index y ∈ bigW) (mi : MI y bs nM (some rt) As.length) (mv : MV y) (hM : CTi G (xl X) y bs nM rt d' (.inr b :: As) w Post') (hd' : d' + 1 ≤ d) (hk : shp[b]? = some (.inr (.inl (ci, fs)))) (hc : classes[ci]? = some (y.cls, T, N)) (hst : st = As.reverse ++ .inr b :: rest) (hrest : rest.length ≤ 8)
    (kk : ∀ r u, Post' r u → V G X nL Q (pc + 3) L (.inl r :: rest) u) : V G X nL Q pc L st w := by
  intro H locs ls hP hS hL hw h1 h2
  have hre : (st.map (rv G)) = (As.map (rv G)).reverse ++ .ref (gad G b) :: rest.map (rv G) := by rw [hst, List.map_append, List.map_reverse]; rfl
  refine va_calli (va_runV (C := y.cls) (b := gad G b) (As := As.map (rv G)) (rest := rest.map (rv G)) F.1 hM ⟨cb_of F mi hd' hl, F.1.2.2.2.2 _ mv.1, F.1.2.2.2.2 _ mv.2⟩ ⟨gE_blind, va_recv F.2.1.1 hP hc (gW_at G w hk), fun U hU hW => ⟨rfl, by rw [hU]; exact hP, gE_like F.2.1 hW hU hS (fun q hq => by obtain ⟨k, hk', rfl⟩ := hq; exact F.2.2.1 k hk'), hw, rgs_args h2 hst⟩⟩ rfl (by simp) hL.1 hre (lv_room (by rw [cat_sum]; exact hrest)) hd ⟨F.2.2.2.2.2.1, F.2.2.2.2.2.2⟩) hS (fun q _ hq => by obtain ⟨k, hk', rfl⟩ := hq; exact F.2.2.1 k hk') (fun q hq => by obtain ⟨k, hk', rfl⟩ := hq; exact F.2.2.1 k hk') (fun r u t H1 locs1 ht hvm hp hB _ _ hS1 => ?_)
  obtain ⟨z, hz, rfl, hpz, hwu⟩ := hp
  rw [ht] at hB
  have h3 := rgs_cons.mp (rgs_rest h2 hst)
  exact kk z u hpz H1 locs1 ls hB hS1 hL hwu h1 (rgs_int.mpr ⟨hz, h3.2⟩)
theorem V_callVv (F : FX G X cc own nL d) {y : MethodName} {bs : ByteArray} {nM d' b ci N index : Nat} {fs : List (Option Nat)} {T : u_T} {As rest : List RV} {Post' : RW → Prop} (hd : decode cc pc = .ok (.invokevirtual index, 3)) (hl : Cond.methodLink own index y ∈ bigW) (mi : MI y bs nM none As.length) (mv : MV y) (hM : CTv G (xl X) y bs nM d' (.inr b :: As) w Post') (hd' : d' + 1 ≤ d) (hk : shp[b]? = some (.inr (.inl (ci, fs)))) (hc : classes[ci]? = some (y.cls, T, N)) (hst : st = As.reverse ++ .inr b :: rest) (hrest : rest.length ≤ 8)
    (kk : ∀ u, Post' u → V G X nL Q (pc + 3) L rest u) : V G X nL Q pc L st w := by
  intro H locs ls hP hS hL hw h1 h2
  have hre : (st.map (rv G)) = (As.map (rv G)).reverse ++ .ref (gad G b) :: rest.map (rv G) := by rw [hst, List.map_append, List.map_reverse]; rfl
  refine va_callv (va_runV (C := y.cls) (b := gad G b) (As := As.map (rv G)) (rest := rest.map (rv G)) F.1 hM ⟨cb_of F mi hd' hl, F.1.2.2.2.2 _ mv.1, F.1.2.2.2.2 _ mv.2⟩ ⟨gE_blind, va_recv F.2.1.1 hP hc (gW_at G w hk), fun U hU hW => ⟨rfl, by rw [hU]; exact hP, gE_like F.2.1 hW hU hS (fun q hq => by obtain ⟨k, hk', rfl⟩ := hq; exact F.2.2.1 k hk'), hw, rgs_args h2 hst⟩⟩ rfl (by simp) hL.1 hre (lv_room (by rw [cat_sum]; exact hrest)) hd ⟨F.2.2.2.2.2.1, F.2.2.2.2.2.2⟩) hS (fun q _ hq => by obtain ⟨k, hk', rfl⟩ := hq; exact F.2.2.1 k hk') (fun q hq => by obtain ⟨k, hk', rfl⟩ := hq; exact F.2.2.1 k hk') (fun u t H1 locs1 ht hvm hp hB _ _ hS1 => ?_)
  rw [ht] at hB
  have h3 := rgs_cons.mp (rgs_rest h2 hst)
  exact kk u hp.1 H1 locs1 ls hB hS1 hL hp.2 h1 h3.2
theorem V_callSi (F : FX G X cc own nL d) {y : MethodName} {bs : ByteArray} {nM d' index : Nat} {rt : FieldType} {As rest : List RV} {Post' : Int → RW → Prop} (hd : decode cc pc = .ok (.invokestatic index, 3)) (hl : Cond.methodLink own index y ∈ bigW) (mi : MI y bs nM (some rt) As.length) (ms : Cond.static y ∈ bigW) (hM : CTi G (xl X) y bs nM rt d' As w Post') (hd' : d' + 1 ≤ d) (hst : st = As.reverse ++ rest) (hrest : rest.length ≤ 8)
    (kk : ∀ r u, Post' r u → V G X nL Q (pc + 3) L (.inl r :: rest) u) : V G X nL Q pc L st w := by
  intro H locs ls hP hS hL hw h1 h2
  have hre : (st.map (rv G)) = (As.map (rv G)).reverse ++ rest.map (rv G) := by rw [hst, List.map_append, List.map_reverse]
  refine va_calli (va_runS (As := As.map (rv G)) (rest := rest.map (rv G)) F.1 hM ⟨cb_of F mi hd' hl, F.1.2.2.2.2 _ ms⟩ ⟨gE_blind, fun U hU hW => ⟨rfl, by rw [hU]; exact hP, gE_like F.2.1 hW hU hS (fun q hq => by obtain ⟨k, hk', rfl⟩ := hq; exact F.2.2.1 k hk'), hw, rgs_argS h2 hst⟩⟩ rfl (by simp) hL.1 hre (lv_room (by rw [cat_sum]; exact hrest)) hd ⟨F.2.2.2.2.2.1, F.2.2.2.2.2.2⟩) hS (fun q _ hq => by obtain ⟨k, hk', rfl⟩ := hq; exact F.2.2.1 k hk') (fun q hq => by obtain ⟨k, hk', rfl⟩ := hq; exact F.2.2.1 k hk') (fun r u t H1 locs1 ht hvm hp hB _ _ hS1 => ?_)
  obtain ⟨z, hz, rfl, hpz, hwu⟩ := hp
  rw [ht] at hB
  exact kk z u hpz H1 locs1 ls hB hS1 hL hwu h1 (rgs_int.mpr ⟨hz, rgs_rest h2 hst⟩)
theorem V_callSv (F : FX G X cc own nL d) {y : MethodName} {bs : ByteArray} {nM d' index : Nat} {As rest : List RV} {Post' : RW → Prop} (hd : decode cc pc = .ok (.invokestatic index, 3)) (hl : Cond.methodLink own index y ∈ bigW) (mi : MI y bs nM none As.length) (ms : Cond.static y ∈ bigW) (hM : CTv G (xl X) y bs nM d' As w Post') (hd' : d' + 1 ≤ d) (hst : st = As.reverse ++ rest) (hrest : rest.length ≤ 8)
    (kk : ∀ u, Post' u → V G X nL Q (pc + 3) L rest u) : V G X nL Q pc L st w := by
  intro H locs ls hP hS hL hw h1 h2
  have hre : (st.map (rv G)) = (As.map (rv G)).reverse ++ rest.map (rv G) := by rw [hst, List.map_append, List.map_reverse]
  refine va_callv (va_runS (As := As.map (rv G)) (rest := rest.map (rv G)) F.1 hM ⟨cb_of F mi hd' hl, F.1.2.2.2.2 _ ms⟩ ⟨gE_blind, fun U hU hW => ⟨rfl, by rw [hU]; exact hP, gE_like F.2.1 hW hU hS (fun q hq => by obtain ⟨k, hk', rfl⟩ := hq; exact F.2.2.1 k hk'), hw, rgs_argS h2 hst⟩⟩ rfl (by simp) hL.1 hre (lv_room (by rw [cat_sum]; exact hrest)) hd ⟨F.2.2.2.2.2.1, F.2.2.2.2.2.2⟩) hS (fun q _ hq => by obtain ⟨k, hk', rfl⟩ := hq; exact F.2.2.1 k hk') (fun q hq => by obtain ⟨k, hk', rfl⟩ := hq; exact F.2.2.1 k hk') (fun u t H1 locs1 ht hvm hp hB _ _ hS1 => ?_)
  rw [ht] at hB
  exact kk u hp.1 H1 locs1 ls hB hS1 hL hp.2 h1 (rgs_rest h2 hst)
end VC
noncomputable def bz (P : Prop) : Int := @ite _ P (Classical.propDecidable P) 1 0
theorem bz_t {P : Prop} (h : P) : bz P = 1 := by unfold bz; exact @if_pos P (Classical.propDecidable P) h Int 1 0
theorem bz_f {P : Prop} (h : ¬ P) : bz P = 0 := by unfold bz; exact @if_neg P (Classical.propDecidable P) h Int 1 0
theorem bz_01 (P : Prop) : bz P = 0 ∨ bz P = 1 := by
  by_cases h : P
  · exact Or.inr (bz_t h)
  · exact Or.inl (bz_f h)
theorem bz_eq0 {P : Prop} : bz P = 0 ↔ ¬ P := ⟨fun h q => by rw [bz_t q] at h; omega, bz_f⟩
theorem bz_ne0 {P : Prop} : ¬ bz P = 0 ↔ P := ⟨fun h => Classical.byContradiction (fun q => h (bz_f q)), fun h q => by rw [bz_t h] at q; omega⟩
theorem bz_eq1 {P : Prop} : bz P = 1 ↔ P := ⟨fun h => Classical.byContradiction (fun q => by rw [bz_f q] at h; omega), bz_t⟩
theorem bz_c {P Q : Prop} (h : P ↔ Q) : bz P = bz Q := by
  by_cases q : P
  · rw [bz_t q, bz_t (h.mp q)]
  · rw [bz_f q, bz_f (fun z => q (h.mpr z))]
theorem stt_rng (i : Nat) (z : Int) : 0 ≤ stt i z ∧ stt i z < 64 := by
  unfold stt
  have key : ∀ l ∈ sttL, ∀ x ∈ l, (0 : Int) ≤ x ∧ x < 64 := by decide
  rw [List.getD_eq_getElem?_getD, List.getD_eq_getElem?_getD]
  cases h : sttL[i]? with
  | none => simp
  | some l =>
    cases h2 : l[z.toNat]? with
    | none => simp [h2]
    | some x => simpa [h2] using key l (List.mem_of_getElem? h) x (List.mem_of_getElem? h2)
theorem stt_in (i : Nat) (z : Int) : inR (stt i z) := by
  have := stt_rng i z
  exact ⟨by omega, by omega⟩
noncomputable def cif (P : Prop) (a b : Int) : Int := @ite _ P (Classical.propDecidable P) a b
theorem cif_t {P : Prop} {a b : Int} (h : P) : cif P a b = a := by unfold cif; exact @if_pos P (Classical.propDecidable P) h Int a b
theorem cif_f {P : Prop} {a b : Int} (h : ¬ P) : cif P a b = b := by unfold cif; exact @if_neg P (Classical.propDecidable P) h Int a b
theorem cif_c {P R : Prop} {a b c d : Int} (h : P ↔ R) (ha : P → a = c) (hb : ¬ P → b = d) : cif P a b = cif R c d := by
  by_cases q : P
  · rw [cif_t q, cif_t (h.mp q), ha q]
  · rw [cif_f q, cif_f (fun z => q (h.mpr z)), hb q]
