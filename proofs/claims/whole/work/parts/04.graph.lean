/-! WAYS: what two tables of sums to a goal have in common; pure. ed q k: the k-th way on from q: nothing, or (none: the goal; some b: node b) and what it costs -/
abbrev ED : Type := Int → Int → Option (Option Int × Int)
def okE (n : Int) (ed : ED) : Prop := ∀ q k t c, ed q k = some (t, c) → 1 ≤ c ∧ c ≤ 15 ∧ ∀ b, t = some b → 0 ≤ b ∧ b < n
/-- every sum is borne out by one way on -/
def gJu (F n : Int) (ed : ED) (f : Int → Int) : Prop := ∀ q : Int, 0 ≤ q → q < n → f q < F → ∃ k t c, (0 ≤ k ∧ k < 6) ∧ ed q k = some (t, c) ∧ ((t = none ∧ c ≤ f q) ∨ ∃ b, t = some b ∧ f b < F ∧ c + f b ≤ f q)
/-- no way on is better -/
def gRl (F n : Int) (ed : ED) (f : Int → Int) : Prop := ∀ (q k : Int) (t : Option Int) (c : Int), 0 ≤ q → q < n → 0 ≤ k → k < 6 → ed q k = some (t, c) → (t = none → f q ≤ c) ∧ ∀ b, t = some b → f b < F → f q ≤ c + f b
def gPos (n : Int) (f : Int → Int) : Prop := ∀ q : Int, 0 ≤ q → q < n → 0 ≤ f q
theorem g_le {F1 F2 n : Int} {ed : ED} {f g : Int → Int} (hE : okE n ed) (hf : gJu F1 n ed f) (hg : gRl F2 n ed g) (h0 : gPos n f) (hF : ∀ q : Int, 0 ≤ q → q < n → f q < F1 → f q < F2) : ∀ (m : Nat) (q : Int), 0 ≤ q → q < n → (f q).toNat < m → f q < F1 → g q ≤ f q := by
  intro m
  induction m with
  | zero => intro q _ _ h; omega
  | succ m ih =>
    intro q hq hn hm hq1
    obtain ⟨k, t, c, ⟨hk0, hk⟩, he, h⟩ := hf q hq hn hq1
    obtain ⟨c1, -, hb⟩ := hE q k t c he
    obtain ⟨r1, r2⟩ := hg q k t c hq hn hk0 hk he
    rcases h with ⟨ht, hc⟩ | ⟨b, ht, hb1, hb2⟩
    · have := r1 ht; omega
    · obtain ⟨hb3, hb4⟩ := hb b ht
      have p1 := h0 b hb3 hb4
      have p2 := h0 q hq hn
      have h2 := ih b hb3 hb4 (by omega) hb1
      have h3 := hF b hb3 hb4 hb1
      have h4 := r2 b ht (by omega)
      omega
/-- how many nodes have less -/
def gRk (n : Nat) (f : Int → Int) (v : Int) : Nat := ((List.range n).filter (fun (i : Nat) => decide (f (i : Int) < v))).length
theorem gRk_le (n : Nat) (f : Int → Int) (v : Int) : gRk n f v ≤ n := by
  unfold gRk
  exact Nat.le_trans (List.length_filter_le _ _) (by simp)
theorem g_filter_lt {α : Type} (p q : α → Bool) (l : List α) (h : ∀ x, p x = true → q x = true) {a : α} (ha : a ∈ l) (h1 : q a = true) (h2 : p a = false) : (l.filter p).length < (l.filter q).length := by
  induction l with
  | nil => exact absurd ha List.not_mem_nil
  | cons b t ih =>
    have hle : ∀ t : List α, (t.filter p).length ≤ (t.filter q).length := by
      intro t
      induction t with
      | nil => simp
      | cons c t ih2 =>
        by_cases hp : p c = true
        · simp [hp, h c hp]; omega
        · by_cases hq : q c = true
          · simp [hp, hq]; omega
          · simp [hp, hq]; omega
    rcases List.mem_cons.mp ha with rfl | ha'
    · have := hle t
      simp [h1, h2]; omega
    · have := ih ha'
      by_cases hp : p b = true
      · simp [hp, h b hp]; omega
      · by_cases hq : q b = true
        · simp [hp, hq]; omega
        · simp [hp, hq]; omega
theorem g_filter_le2 {α : Type} (p q : α → Bool) (l : List α) (h : ∀ x ∈ l, p x = true → q x = true) : (l.filter p).length ≤ (l.filter q).length := by
  induction l with
  | nil => simp
  | cons c t ih =>
    have ih2 := ih (fun x hx => h x (List.mem_cons_of_mem _ hx))
    by_cases hp : p c = true
    · simp [hp, h c List.mem_cons_self hp]; omega
    · by_cases hq : q c = true
      · simp [hp, hq]; omega
      · simp [hp, hq]; omega
theorem g_filter_lt2 {α : Type} (p q : α → Bool) (l : List α) (h : ∀ x ∈ l, p x = true → q x = true) {a : α} (ha : a ∈ l) (h1 : q a = true) (h2 : p a = false) : (l.filter p).length < (l.filter q).length := by
  induction l with
  | nil => exact absurd ha List.not_mem_nil
  | cons b t ih =>
    have hle := g_filter_le2 p q t (fun x hx => h x (List.mem_cons_of_mem _ hx))
    rcases List.mem_cons.mp ha with rfl | ha'
    · simp [h1, h2]; omega
    · have := ih (fun x hx => h x (List.mem_cons_of_mem _ hx)) ha'
      by_cases hp : p b = true
      · simp [hp, h b List.mem_cons_self hp]; omega
      · by_cases hq : q b = true
        · simp [hp, hq]; omega
        · simp [hp, hq]; omega
theorem gRk_lt {n : Nat} {f : Int → Int} {b v : Int} (hb : 0 ≤ b) (hn : b < n) (h : f b < v) : gRk n f (f b) < gRk n f v := by
  unfold gRk
  refine g_filter_lt _ _ _ (fun x hx => ?_) (a := b.toNat) (by simp; omega) ?_ ?_
  · simp only [decide_eq_true_eq] at hx ⊢; omega
  · simp only [decide_eq_true_eq]; rw [Int.toNat_of_nonneg hb]; exact h
  · simp only [decide_eq_false_iff_not]; rw [Int.toNat_of_nonneg hb]; omega
/-- sums that are borne out exactly are small -/
theorem g_small {F : Int} {n : Nat} {ed : ED} {f : Int → Int} (hE : okE n ed) (hf : gJu F n ed f) (hr : gRl F n ed f) (h0 : gPos n f) : ∀ (m : Nat) (q : Int), 0 ≤ q → q < n → (f q).toNat < m → f q < F → f q ≤ 15 * ((gRk n f (f q) : Int) + 1) := by
  intro m
  induction m with
  | zero => intro q _ _ h; omega
  | succ m ih =>
    intro q hq hn hm hq1
    obtain ⟨k, t, c, ⟨hk0, hk⟩, he, h⟩ := hf q hq hn hq1
    obtain ⟨c1, c2, hb⟩ := hE q k t c he
    obtain ⟨r1, r2⟩ := hr q k t c hq hn hk0 hk he
    rcases h with ⟨ht, hc⟩ | ⟨b, ht, hb1, hb2⟩
    · have := r1 ht; omega
    · obtain ⟨hb3, hb4⟩ := hb b ht
      have p1 := h0 b hb3 hb4
      have h2 := ih b hb3 hb4 (by omega) hb1
      have h3 := gRk_lt (n := n) (f := f) hb3 hb4 (show f b < f q by omega)
      have h4 := r2 b ht hb1
      omega
/-- two tables over one graph agree -/
theorem g_same {F1 F2 : Int} {n : Nat} {ed : ED} {f g : Int → Int} (hE : okE n ed) (h1 : gJu F1 n ed f) (h2 : gRl F1 n ed f) (h3 : gPos n f) (h4 : gJu F2 n ed g) (h5 : gRl F2 n ed g) (h6 : gPos n g) (hF1 : 15 * ((n : Int) + 1) < F1) (hF2 : 15 * ((n : Int) + 1) < F2) {q : Int} (hq : 0 ≤ q) (hn : q < n) : (f q < F1 ↔ g q < F2) ∧ (f q < F1 → f q = g q) := by
  have sf : ∀ q, 0 ≤ q → q < (n : Int) → f q < F1 → f q ≤ 15 * ((n : Int) + 1) := fun q a b c => by
    have := g_small hE h1 h2 h3 ((f q).toNat + 1) q a b (by omega) c
    have := gRk_le n f (f q)
    omega
  have sg : ∀ q, 0 ≤ q → q < (n : Int) → g q < F2 → g q ≤ 15 * ((n : Int) + 1) := fun q a b c => by
    have := g_small hE h4 h5 h6 ((g q).toNat + 1) q a b (by omega) c
    have := gRk_le n g (g q)
    omega
  have e1 : f q < F1 → g q ≤ f q := fun c => g_le hE h1 h5 h3 (fun q a b c => by have := sf q a b c; omega) ((f q).toNat + 1) q hq hn (by omega) c
  have e2 : g q < F2 → f q ≤ g q := fun c => g_le hE h4 h2 h6 (fun q a b c => by have := sg q a b c; omega) ((g q).toNat + 1) q hq hn (by omega) c
  refine ⟨⟨fun c => ?_, fun c => ?_⟩, fun c => ?_⟩
  · have := e1 c; have := sf q hq hn c; omega
  · have := e2 c; have := sg q hq hn c; omega
  · have a1 := e1 c
    have a2 := sf q hq hn c
    have a3 := e2 (by omega)
    omega
/-! the true sums -/
def gR (ed : ED) : Nat → Int → Int → Prop
  | 0, _, _ => False
  | j + 1, q, v => ∃ k t c, (0 ≤ k ∧ k < 6) ∧ ed q k = some (t, c) ∧ ((t = none ∧ v = c) ∨ ∃ b, t = some b ∧ gR ed j b (v - c))
def gReach (ed : ED) (q v : Int) : Prop := ∃ j, gR ed j q v
def isD (ed : ED) (q v : Int) : Prop := gReach ed q v ∧ ∀ u, gReach ed q u → v ≤ u
theorem gR_pos {n : Int} {ed : ED} (hE : okE n ed) : ∀ (j : Nat) (q v : Int), gR ed j q v → 1 ≤ v := by
  intro j
  induction j with
  | zero => intro q v h; exact absurd h (by simp [gR])
  | succ j ih =>
    intro q v h
    obtain ⟨k, t, c, -, he, h⟩ := h
    have c1 := (hE q k t c he).1
    rcases h with ⟨-, rfl⟩ | ⟨b, -, hb⟩
    · exact c1
    · have := ih b _ hb; omega
theorem isD_of {n : Int} {ed : ED} (hE : okE n ed) {q v : Int} (h : gReach ed q v) : ∃ d, isD ed q d ∧ d ≤ v := by
  have hpos : ∀ u, gReach ed q u → 1 ≤ u := fun u ⟨j, hj⟩ => gR_pos hE j q u hj
  have hv := hpos v h
  obtain ⟨m, hm, hl⟩ := pk_least (fun m : Nat => gReach ed q (m : Int)) ⟨v.toNat, by rw [Int.toNat_of_nonneg (by omega)]; exact h⟩
  have hmin : ∀ u, gReach ed q u → (m : Int) ≤ u := fun u hu => by
    have hu1 := hpos u hu
    apply Decidable.byContradiction
    intro hc
    exact hl u.toNat (by omega) (by rw [Int.toNat_of_nonneg (by omega)]; exact hu)
  exact ⟨m, ⟨hm, hmin⟩, hmin v h⟩
theorem gReach_edge {ed : ED} {q k c b v : Int} (hk : 0 ≤ k ∧ k < 6) (he : ed q k = some (some b, c)) (h : gReach ed b v) : gReach ed q (c + v) := by
  obtain ⟨j, hj⟩ := h
  exact ⟨j + 1, k, some b, c, hk, he, Or.inr ⟨b, rfl, by rw [show c + v - c = v by omega]; exact hj⟩⟩
theorem gReach_goal {ed : ED} {q k c : Int} (hk : 0 ≤ k ∧ k < 6) (he : ed q k = some (none, c)) : gReach ed q c := ⟨1, k, none, c, hk, he, Or.inl ⟨rfl, rfl⟩⟩
theorem isD_edge {n : Int} {ed : ED} (hE : okE n ed) {q d : Int} (h : isD ed q d) : ∃ k t c, (0 ≤ k ∧ k < 6) ∧ ed q k = some (t, c) ∧ ((t = none ∧ d = c) ∨ ∃ b d', t = some b ∧ isD ed b d' ∧ d = c + d') := by
  obtain ⟨⟨j, hj⟩, hmin⟩ := h
  cases j with
  | zero => exact absurd hj (by simp [gR])
  | succ j =>
    obtain ⟨k, t, c, hk, he, h⟩ := hj
    refine ⟨k, t, c, hk, he, ?_⟩
    rcases h with ⟨ht, hd⟩ | ⟨b, ht, hb⟩
    · exact Or.inl ⟨ht, hd⟩
    · obtain ⟨d', hd', hle⟩ := isD_of hE ⟨j, hb⟩
      subst ht
      have := hmin _ (gReach_edge hk he hd'.1)
      exact Or.inr ⟨b, d', rfl, hd', by omega⟩
theorem isD_uniq {ed : ED} {q d e : Int} (h1 : isD ed q d) (h2 : isD ed q e) : d = e := by
  have := h1.2 e h2.1
  have := h2.2 d h1.1
  omega
/-- what is borne out is never below the true sum -/
theorem gJu_reach {F n : Int} {ed : ED} {f : Int → Int} (hE : okE n ed) (hf : gJu F n ed f) (h0 : gPos n f) : ∀ (m : Nat) (q : Int), 0 ≤ q → q < n → (f q).toNat < m → f q < F → ∃ v, gReach ed q v ∧ v ≤ f q := by
  intro m
  induction m with
  | zero => intro q _ _ h; omega
  | succ m ih =>
    intro q hq hn hm hq1
    obtain ⟨k, t, c, hk, he, h⟩ := hf q hq hn hq1
    obtain ⟨c1, -, hb⟩ := hE q k t c he
    rcases h with ⟨rfl, hc⟩ | ⟨b, rfl, hb1, hb2⟩
    · exact ⟨c, gReach_goal hk he, hc⟩
    · obtain ⟨hb3, hb4⟩ := hb b rfl
      have p1 := h0 b hb3 hb4
      obtain ⟨v, h5, h6⟩ := ih b hb3 hb4 (by omega) hb1
      exact ⟨c + v, gReach_edge hk he h5, by omega⟩
theorem gJu_ge {F n : Int} {ed : ED} {f : Int → Int} (hE : okE n ed) (hf : gJu F n ed f) (h0 : gPos n f) {q d : Int} (hq : 0 ≤ q) (hn : q < n) (h : f q < F) (hd : isD ed q d) : d ≤ f q := by
  obtain ⟨v, h1, h2⟩ := gJu_reach hE hf h0 ((f q).toNat + 1) q hq hn (by omega) h
  have := hd.2 v h1
  omega
/-- all final: no way on is better -/
theorem gRl_of_fin {F n : Int} {ed : ED} {f : Int → Int} (hE : okE n ed) (hf : gJu F n ed f) (h0 : gPos n f) (hfin : ∀ (q d : Int), 0 ≤ q → q < n → isD ed q d → f q ≤ d) : gRl F n ed f := by
  intro q k t c hq hn hk0 hk he
  refine ⟨fun ht => ?_, fun b ht hb => ?_⟩
  · subst ht
    obtain ⟨d, hd, hle⟩ := isD_of hE (gReach_goal ⟨hk0, hk⟩ he)
    have := hfin q d hq hn hd
    omega
  · subst ht
    obtain ⟨-, -, hbn⟩ := hE q k (some b) c he
    obtain ⟨hb1, hb2⟩ := hbn b rfl
    obtain ⟨v, h1, h2⟩ := gJu_reach hE hf h0 ((f b).toNat + 1) b hb1 hb2 (by omega) hb
    obtain ⟨d, hd, hle⟩ := isD_of hE (gReach_edge ⟨hk0, hk⟩ he h1)
    have := hfin q d hq hn hd
    omega
/-! sweeps: each makes one more node final -/
noncomputable def nfB (ed : ED) (f : Int → Int) (i : Nat) : Bool := @decide (∃ d, isD ed (i : Int) d ∧ d < f (i : Int)) (Classical.propDecidable _)
theorem nfB_iff {ed : ED} {f : Int → Int} {i : Nat} : nfB ed f i = true ↔ ∃ d, isD ed (i : Int) d ∧ d < f (i : Int) := @decide_eq_true_iff _ (Classical.propDecidable _)
theorem nfB_not {ed : ED} {f : Int → Int} {i : Nat} : nfB ed f i = false ↔ ¬ ∃ d, isD ed (i : Int) d ∧ d < f (i : Int) := by
  rw [← nfB_iff]
  cases nfB ed f i <;> simp
noncomputable def nfN (n : Nat) (ed : ED) (f : Int → Int) : Nat := ((List.range n).filter (nfB ed f)).length
theorem nfN_le (n : Nat) (ed : ED) (f : Int → Int) : nfN n ed f ≤ n := Nat.le_trans (List.length_filter_le _ _) (by simp)
theorem nfN_0 {n : Nat} {ed : ED} {f : Int → Int} (h : nfN n ed f = 0) {q d : Int} (hq : 0 ≤ q) (hn : q < n) (hd : isD ed q d) : f q ≤ d := by
  have h1 := List.length_eq_zero_iff.mp h
  have h2 : nfB ed f q.toNat = false := by
    have := List.filter_eq_nil_iff.mp h1 q.toNat (by simp; omega)
    simpa using this
  have h3 := nfB_not.mp h2
  rw [Int.toNat_of_nonneg hq] at h3
  apply Decidable.byContradiction
  intro hc
  exact h3 ⟨d, hd, by omega⟩
theorem g_sweep {F : Int} {n : Nat} {ed : ED} {f0 f1 : Int → Int} (hE : okE n ed) (hF : ∀ q : Int, 0 ≤ q → q < n → f0 q ≤ F) (hle : ∀ q : Int, 0 ≤ q → q < n → f1 q ≤ f0 q)
    (hj : ∀ (q k : Int) (t : Option Int) (c : Int), 0 ≤ q → q < n → 0 ≤ k → k < 6 → ed q k = some (t, c) → (t = none → f1 q ≤ c) ∧ ∀ b, t = some b → f0 b < F → f1 q ≤ c + f0 b) (h : 0 < nfN n ed f0) : nfN n ed f1 < nfN n ed f0 := by
  have hex : ∃ m : Nat, ∃ q : Int, (0 ≤ q ∧ q < n) ∧ isD ed q (m : Int) ∧ (m : Int) < f0 q := by
    unfold nfN at h
    obtain ⟨i, hi⟩ := List.exists_mem_of_length_pos h
    obtain ⟨h1, h2⟩ := List.mem_filter.mp hi
    obtain ⟨d, hd, hlt⟩ := nfB_iff.mp h2
    obtain ⟨j, hj⟩ := hd.1
    have hp := gR_pos hE j _ _ hj
    refine ⟨d.toNat, (i : Int), ⟨by omega, by have := List.mem_range.mp h1; omega⟩, ?_, ?_⟩
    · rw [Int.toNat_of_nonneg (by omega)]; exact hd
    · rw [Int.toNat_of_nonneg (by omega)]; exact hlt
  obtain ⟨m, ⟨q, ⟨hq, hn⟩, hd, hlt⟩, hmin⟩ := pk_least _ hex
  have hfin : f1 q ≤ m := by
    obtain ⟨k, t, c, hk, he, h⟩ := isD_edge hE hd
    obtain ⟨c1, -, hb⟩ := hE q k t c he
    obtain ⟨r1, r2⟩ := hj q k t c hq hn hk.1 hk.2 he
    rcases h with ⟨ht, hc⟩ | ⟨b, d', ht, hd', hc⟩
    · have := r1 ht; omega
    · obtain ⟨hb1, hb2⟩ := hb b ht
      obtain ⟨j, hjj⟩ := hd'.1
      have hp := gR_pos hE j _ _ hjj
      have h2 : f0 b ≤ d' := by
        apply Decidable.byContradiction
        intro hc2
        exact hmin d'.toNat (by omega) ⟨b, ⟨hb1, hb2⟩, by rw [Int.toNat_of_nonneg (by omega)]; exact hd', by rw [Int.toNat_of_nonneg (by omega)]; omega⟩
      have h3 := hF q hq hn
      have h4 := r2 b ht (by omega)
      omega
  unfold nfN
  refine g_filter_lt2 _ _ _ (fun x hx hp => ?_) (a := q.toNat) (by simp; omega) ?_ ?_
  · obtain ⟨d, h1, h2⟩ := nfB_iff.mp hp
    have hx' := List.mem_range.mp hx
    have := hle (x : Int) (by omega) (by omega)
    exact nfB_iff.mpr ⟨d, h1, by omega⟩
  · apply nfB_iff.mpr
    rw [Int.toNat_of_nonneg hq]
    exact ⟨m, hd, hlt⟩
  · apply nfB_not.mpr
    rw [Int.toNat_of_nonneg hq]
    rintro ⟨d, h1, h2⟩
    have := isD_uniq h1 hd
    omega
/-! a queue: each taken node that is final is settled for good -/
noncomputable def usB (ed : ED) (f : Int → Int) (Qs : List Int) (i : Nat) : Bool := @decide (∃ d, isD ed (i : Int) d ∧ (d < f (i : Int) ∨ (i : Int) ∈ Qs)) (Classical.propDecidable _)
theorem usB_iff {ed : ED} {f : Int → Int} {Qs : List Int} {i : Nat} : usB ed f Qs i = true ↔ ∃ d, isD ed (i : Int) d ∧ (d < f (i : Int) ∨ (i : Int) ∈ Qs) := @decide_eq_true_iff _ (Classical.propDecidable _)
theorem usB_not {ed : ED} {f : Int → Int} {Qs : List Int} {i : Nat} : usB ed f Qs i = false ↔ ¬ ∃ d, isD ed (i : Int) d ∧ (d < f (i : Int) ∨ (i : Int) ∈ Qs) := by
  rw [← usB_iff]
  cases usB ed f Qs i <;> simp
noncomputable def usN (n : Nat) (ed : ED) (f : Int → Int) (Qs : List Int) : Nat := ((List.range n).filter (usB ed f Qs)).length
theorem usN_le (n : Nat) (ed : ED) (f : Int → Int) (Qs : List Int) : usN n ed f Qs ≤ n := Nat.le_trans (List.length_filter_le _ _) (by simp)
/-- sums, and nodes that wait: ways into nodes that don't wait are relaxed -/
def gQ (F : Int) (n : Nat) (ed : ED) (f : Int → Int) (Qs : List Int) : Prop := gJu F n ed f ∧ gPos n f ∧ (∀ q : Int, 0 ≤ q → q < n → f q ≤ F) ∧ (∀ x ∈ Qs, (0 ≤ x ∧ x < (n : Int)) ∧ f x < F) ∧ Qs.length ≤ n ∧
  ∀ (q k : Int) (t : Option Int) (c : Int), 0 ≤ q → q < n → 0 ≤ k → k < 6 → ed q k = some (t, c) → (t = none → f q ≤ c) ∧ ∀ b, t = some b → b ∉ Qs → f b < F → f q ≤ c + f b
def gPot (n : Nat) (ed : ED) (f : Int → Int) (Qs : List Int) (B : Int) : Prop := Qs = [] ∨ ∃ (u p : Nat) (q0 d : Int), (n : Int) * u + p + 1 ≤ B ∧ usN n ed f Qs ≤ u + 1 ∧ Qs[p]? = some q0 ∧ isD ed q0 d ∧ f q0 ≤ d
theorem gQ_first {F : Int} {n : Nat} {ed : ED} {f : Int → Int} {Qs : List Int} (hE : okE n ed) (h : gQ F n ed f Qs) (hne : Qs ≠ []) : ∃ (p : Nat) (q0 d : Int), Qs[p]? = some q0 ∧ isD ed q0 d ∧ f q0 ≤ d ∧ 0 < usN n ed f Qs := by
  obtain ⟨h1, h2, h3, h4, h5, h6⟩ := h
  have hex : ∃ m : Nat, ∃ q : Int, (0 ≤ q ∧ q < n) ∧ isD ed q (m : Int) ∧ ((m : Int) < f q ∨ q ∈ Qs) := by
    obtain ⟨x, hx⟩ := List.exists_mem_of_ne_nil Qs hne
    obtain ⟨⟨hx1, hx2⟩, hx3⟩ := h4 x hx
    obtain ⟨v, hv, -⟩ := gJu_reach hE h1 h2 ((f x).toNat + 1) x hx1 hx2 (by omega) hx3
    obtain ⟨d, hd, -⟩ := isD_of hE hv
    obtain ⟨j, hj⟩ := hd.1
    have hp := gR_pos hE j _ _ hj
    exact ⟨d.toNat, x, ⟨hx1, hx2⟩, by rw [Int.toNat_of_nonneg (by omega)]; exact hd, Or.inr hx⟩
  obtain ⟨m, ⟨q, ⟨hq, hn⟩, hd, hlt⟩, hmin⟩ := pk_least _ hex
  have hfin : f q ≤ m := by
    obtain ⟨k, t, c, hk, he, h⟩ := isD_edge hE hd
    obtain ⟨c1, -, hb⟩ := hE q k t c he
    obtain ⟨r1, r2⟩ := h6 q k t c hq hn hk.1 hk.2 he
    rcases h with ⟨ht, hc⟩ | ⟨b, d', ht, hd', hc⟩
    · have := r1 ht; omega
    · obtain ⟨hb1, hb2⟩ := hb b ht
      obtain ⟨j, hjj⟩ := hd'.1
      have hp := gR_pos hE j _ _ hjj
      have hns : ¬ (d' < f b ∨ b ∈ Qs) := fun hc2 => hmin d'.toNat (by omega) ⟨b, ⟨hb1, hb2⟩, by rw [Int.toNat_of_nonneg (by omega)]; exact hd', by rw [Int.toNat_of_nonneg (by omega)]; exact hc2⟩
      by_cases hff : f q ≤ m
      · exact hff
      · have h7 := h3 q hq hn
        have h8 := r2 b ht (fun z => hns (Or.inr z)) (by have : ¬ d' < f b := fun z => hns (Or.inl z)
                                                         omega)
        have : ¬ d' < f b := fun z => hns (Or.inl z)
        omega
  have hin : q ∈ Qs := by
    rcases hlt with h | h
    · omega
    · exact h
  obtain ⟨p, hp⟩ := List.getElem?_of_mem hin
  refine ⟨p, q, m, hp, hd, hfin, ?_⟩
  unfold usN
  apply List.length_pos_of_mem (a := q.toNat)
  apply List.mem_filter.mpr
  refine ⟨by simp; omega, usB_iff.mpr ?_⟩
  rw [Int.toNat_of_nonneg hq]
  exact ⟨m, hd, Or.inr hin⟩
theorem gPot_start {F : Int} {n : Nat} {ed : ED} {f : Int → Int} {Qs : List Int} (hE : okE n ed) (h : gQ F n ed f Qs) : gPot n ed f Qs ((n : Int) * usN n ed f Qs) := by
  by_cases hne : Qs = []
  · exact Or.inl hne
  · obtain ⟨p, q0, d, h1, h2, h3, h4⟩ := gQ_first hE h hne
    have hp := (List.getElem?_eq_some_iff.mp h1).1
    have := h.2.2.2.2.1
    refine Or.inr ⟨usN n ed f Qs - 1, p, q0, d, ?_, by omega, h1, h2, h3⟩
    have e : (n : Int) * (usN n ed f Qs : Int) = (n : Int) * ((usN n ed f Qs - 1 : Nat) : Int) + n := by
      have : ((usN n ed f Qs : Nat) : Int) = ((usN n ed f Qs - 1 : Nat) : Int) + 1 := by omega
      rw [this, Int.mul_add, Int.mul_one]
    omega
theorem gQ_take {F : Int} {n : Nat} {ed : ED} {f f' : Int → Int} {Qs' new : List Int} {e B : Int} (hE : okE n ed) (h : gQ F n ed f (e :: Qs')) (hp : gPot n ed f (e :: Qs') B) (hnd : (e :: Qs').Nodup)
    (hle : ∀ q : Int, 0 ≤ q → q < n → f' q ≤ f q) (hJ : gJu F n ed f') (h0 : gPos n f') (hnew : ∀ x ∈ new, (0 ≤ x ∧ x < (n : Int)) ∧ f' x < f x) (hch : ∀ q : Int, 0 ≤ q → q < n → f' q < f q → q ∈ Qs' ++ new) (hlen : (Qs' ++ new).length ≤ n)
    (hrel : ∀ (q k c : Int), 0 ≤ q → q < n → 0 ≤ k → k < 6 → ed q k = some (some e, c) → f' q ≤ c + f e) : gQ F n ed f' (Qs' ++ new) ∧ gPot n ed f' (Qs' ++ new) (B - 1) := by
  obtain ⟨h1, h2, h3, h4, h5, h6⟩ := h
  have hQ' : gQ F n ed f' (Qs' ++ new) := by
    refine ⟨hJ, h0, fun q a b => by have := hle q a b; have := h3 q a b; omega, fun x hx => ?_, hlen, fun q k t c hq hn hk0 hk he => ?_⟩
    · rcases List.mem_append.mp hx with hx | hx
      · obtain ⟨a, b⟩ := h4 x (List.mem_cons_of_mem _ hx)
        have := hle x a.1 a.2
        exact ⟨a, by omega⟩
      · obtain ⟨a, b⟩ := hnew x hx
        have := h3 x a.1 a.2
        exact ⟨a, by omega⟩
    · obtain ⟨r1, r2⟩ := h6 q k t c hq hn hk0 hk he
      have hl := hle q hq hn
      refine ⟨fun ht => by have := r1 ht; omega, fun b ht hb hbF => ?_⟩
      obtain ⟨-, -, hbb⟩ := hE q k t c he
      obtain ⟨b1, b2⟩ := hbb b ht
      have hsame : ¬ f' b < f b := fun z => hb (hch b b1 b2 z)
      by_cases hbe : b = e
      · subst hbe
        subst ht
        have := hrel q k c hq hn hk0 hk he
        omega
      · have := r2 b ht (fun z => by
          rcases List.mem_cons.mp z with z | z
          · exact hbe z
          · exact hb (List.mem_append_left _ z)) (by have := hle b b1 b2; omega)
        have := hle b b1 b2
        omega
  refine ⟨hQ', ?_⟩
  have hmono : ∀ x ∈ List.range n, usB ed f' (Qs' ++ new) x = true → usB ed f (e :: Qs') x = true := by
    intro x hx hp
    obtain ⟨d, hd, hor⟩ := usB_iff.mp hp
    have hx' := List.mem_range.mp hx
    refine usB_iff.mpr ⟨d, hd, ?_⟩
    have hl := hle (x : Int) (by omega) (by omega)
    rcases hor with h | h
    · exact Or.inl (by omega)
    · rcases List.mem_append.mp h with h | h
      · exact Or.inr (List.mem_cons_of_mem _ h)
      · obtain ⟨a, b⟩ := hnew _ h
        by_cases hf : f' (x : Int) < F
        · have := gJu_ge hE hJ h0 a.1 a.2 hf hd
          exact Or.inl (by omega)
        · have := h3 (x : Int) a.1 a.2
          omega
  by_cases hne : Qs' ++ new = []
  · exact Or.inl hne
  rcases hp with hp | ⟨u, p, q0, d, hB, hU, hq0, hd, hfd⟩
  · exact absurd hp (by simp)
  cases p with
  | zero =>
    have hqe : e = q0 := by simpa using hq0
    subst hqe
    obtain ⟨⟨e1, e2⟩, e3⟩ := h4 e List.mem_cons_self
    have hge := gJu_ge hE h1 h2 e1 e2 e3 hd
    have hle' := hle e e1 e2
    have hge' := gJu_ge hE hJ h0 e1 e2 (by omega) hd
    have hout : e ∉ Qs' ++ new := by
      intro z
      rcases List.mem_append.mp z with z | z
      · exact (List.nodup_cons.mp hnd).1 z
      · have := (hnew e z).2; omega
    have hlt : usN n ed f' (Qs' ++ new) < usN n ed f (e :: Qs') := by
      unfold usN
      refine g_filter_lt2 _ _ _ hmono (a := e.toNat) (by simp; omega) ?_ ?_
      · apply usB_iff.mpr
        rw [Int.toNat_of_nonneg e1]
        exact ⟨d, hd, Or.inr List.mem_cons_self⟩
      · apply usB_not.mpr
        rw [Int.toNat_of_nonneg e1]
        rintro ⟨d2, g1, g2⟩
        have := isD_uniq g1 hd
        rcases g2 with g2 | g2
        · omega
        · exact hout g2
    obtain ⟨p', q1, d1, g1, g2, g3, g4⟩ := gQ_first hE hQ' hne
    have hp' := (List.getElem?_eq_some_iff.mp g1).1
    refine Or.inr ⟨u - 1, p', q1, d1, ?_, by omega, g1, g2, g3⟩
    have hu : ((u - 1 : Nat) : Int) = (u : Int) - 1 := by omega
    rw [hu, Int.mul_sub, Int.mul_one]
    omega
  | succ p =>
    have hq1 : Qs'[p]? = some q0 := by simpa using hq0
    have hp1 := (List.getElem?_eq_some_iff.mp hq1).1
    have hmem := List.mem_of_getElem? hq1
    obtain ⟨⟨e1, e2⟩, e3⟩ := h4 q0 (List.mem_cons_of_mem _ hmem)
    refine Or.inr ⟨u, p, q0, d, by omega, ?_, by rw [List.getElem?_append_left hp1]; exact hq1, hd, by have := hle q0 e1 e2; omega⟩
    have : usN n ed f' (Qs' ++ new) ≤ usN n ed f (e :: Qs') := by
      unfold usN
      exact g_filter_le2 _ _ _ hmono
    omega
/-- nobody waits: the sums are right -/
theorem gQ_end {F : Int} {n : Nat} {ed : ED} {f : Int → Int} (h : gQ F n ed f []) : gRl F n ed f := by
  intro q k t c hq hn hk0 hk he
  obtain ⟨r1, r2⟩ := h.2.2.2.2.2 q k t c hq hn hk0 hk he
  exact ⟨r1, fun b ht hb => r2 b ht (by simp) hb⟩
