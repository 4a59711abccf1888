theorem dR_layBody_0 : decode cR_layBody 0 = .ok (.aload_n 0, 1) := by decide +kernel
theorem dR_layBody_1 : decode cR_layBody 1 = .ok (.iconst 0, 1) := by decide +kernel
theorem dR_layBody_2 : decode cR_layBody 2 = .ok (.putfield 18, 3) := by decide +kernel
theorem dR_layBody_5 : decode cR_layBody 5 = .ok (.iload_n 2, 1) := by decide +kernel
theorem dR_layBody_6 : decode cR_layBody 6 = .ok (.istore 4, 2) := by decide +kernel
theorem dR_layBody_8 : decode cR_layBody 8 = .ok (.iconst 0, 1) := by decide +kernel
theorem dR_layBody_9 : decode cR_layBody 9 = .ok (.istore 5, 2) := by decide +kernel
theorem dR_layBody_11 : decode cR_layBody 11 = .ok (.iload 5, 2) := by decide +kernel
theorem dR_layBody_13 : decode cR_layBody 13 = .ok (.iload_n 3, 1) := by decide +kernel
theorem dR_layBody_14 : decode cR_layBody 14 = .ok (.if_icmp .ge 29, 3) := by decide +kernel
theorem dR_layBody_17 : decode cR_layBody 17 = .ok (.iload 4, 2) := by decide +kernel
theorem dR_layBody_19 : decode cR_layBody 19 = .ok (.iconst (-1), 1) := by decide +kernel
theorem dR_layBody_20 : decode cR_layBody 20 = .ok (.if_icmp .eq 23, 3) := by decide +kernel
theorem dR_layBody_23 : decode cR_layBody 23 = .ok (.aload_n 0, 1) := by decide +kernel
theorem dR_layBody_24 : decode cR_layBody 24 = .ok (.iload 4, 2) := by decide +kernel
theorem dR_layBody_26 : decode cR_layBody 26 = .ok (.invokevirtual 22, 3) := by decide +kernel
theorem dR_layBody_29 : decode cR_layBody 29 = .ok (.aload_n 1, 1) := by decide +kernel
theorem dR_layBody_30 : decode cR_layBody 30 = .ok (.iload 4, 2) := by decide +kernel
theorem dR_layBody_32 : decode cR_layBody 32 = .ok (.invokestatic 26, 3) := by decide +kernel
theorem dR_layBody_35 : decode cR_layBody 35 = .ok (.istore 4, 2) := by decide +kernel
theorem dR_layBody_37 : decode cR_layBody 37 = .ok (.iinc 5 1, 3) := by decide +kernel
theorem dR_layBody_40 : decode cR_layBody 40 = .ok (.goto (-29), 3) := by decide +kernel
theorem dR_layBody_43 : decode cR_layBody 43 = .ok (.return_, 1) := by decide +kernel
theorem dR_hold_0 : decode cR_hold 0 = .ok (.iconst 0, 1) := by decide +kernel
theorem dR_hold_1 : decode cR_hold 1 = .ok (.istore_n 3, 1) := by decide +kernel
theorem dR_hold_2 : decode cR_hold 2 = .ok (.iload_n 3, 1) := by decide +kernel
theorem dR_hold_3 : decode cR_hold 3 = .ok (.aload_n 0, 1) := by decide +kernel
theorem dR_hold_4 : decode cR_hold 4 = .ok (.getfield 18, 3) := by decide +kernel
theorem dR_hold_7 : decode cR_hold 7 = .ok (.if_icmp .ge 24, 3) := by decide +kernel
theorem dR_hold_10 : decode cR_hold 10 = .ok (.aload_n 1, 1) := by decide +kernel
theorem dR_hold_11 : decode cR_hold 11 = .ok (.getfield 70, 3) := by decide +kernel
theorem dR_hold_14 : decode cR_hold 14 = .ok (.aload_n 0, 1) := by decide +kernel
theorem dR_hold_15 : decode cR_hold 15 = .ok (.getfield 9, 3) := by decide +kernel
theorem dR_hold_18 : decode cR_hold 18 = .ok (.iload_n 3, 1) := by decide +kernel
theorem dR_hold_19 : decode cR_hold 19 = .ok (.iaload, 1) := by decide +kernel
theorem dR_hold_20 : decode cR_hold 20 = .ok (.invokestatic 73, 3) := by decide +kernel
theorem dR_hold_23 : decode cR_hold 23 = .ok (.iload_n 2, 1) := by decide +kernel
theorem dR_hold_24 : decode cR_hold 24 = .ok (.iastore, 1) := by decide +kernel
theorem dR_hold_25 : decode cR_hold 25 = .ok (.iinc 3 1, 3) := by decide +kernel
theorem dR_hold_28 : decode cR_hold 28 = .ok (.goto (-26), 3) := by decide +kernel
theorem dR_hold_31 : decode cR_hold 31 = .ok (.return_, 1) := by decide +kernel
theorem dN_stand_0 : decode cN_stand 0 = .ok (.aload_n 0, 1) := by decide +kernel
theorem dN_stand_1 : decode cN_stand 1 = .ok (.aload_n 1, 1) := by decide +kernel
theorem dN_stand_2 : decode cN_stand 2 = .ok (.getfield 18, 3) := by decide +kernel
theorem dN_stand_5 : decode cN_stand 5 = .ok (.putfield 24, 3) := by decide +kernel
theorem dN_stand_8 : decode cN_stand 8 = .ok (.aload_n 0, 1) := by decide +kernel
theorem dN_stand_9 : decode cN_stand 9 = .ok (.aload_n 0, 1) := by decide +kernel
theorem dN_stand_10 : decode cN_stand 10 = .ok (.getfield 24, 3) := by decide +kernel
theorem dN_stand_13 : decode cN_stand 13 = .ok (.putfield 27, 3) := by decide +kernel
theorem dN_stand_16 : decode cN_stand 16 = .ok (.iconst 0, 1) := by decide +kernel
theorem dN_stand_17 : decode cN_stand 17 = .ok (.istore_n 2, 1) := by decide +kernel
theorem dN_stand_18 : decode cN_stand 18 = .ok (.iload_n 2, 1) := by decide +kernel
theorem dN_stand_19 : decode cN_stand 19 = .ok (.aload_n 0, 1) := by decide +kernel
theorem dN_stand_20 : decode cN_stand 20 = .ok (.getfield 24, 3) := by decide +kernel
theorem dN_stand_23 : decode cN_stand 23 = .ok (.if_icmp .ge 28, 3) := by decide +kernel
theorem dN_stand_26 : decode cN_stand 26 = .ok (.aload_n 0, 1) := by decide +kernel
theorem dN_stand_27 : decode cN_stand 27 = .ok (.getfield 9, 3) := by decide +kernel
theorem dN_stand_30 : decode cN_stand 30 = .ok (.iload_n 2, 1) := by decide +kernel
theorem dN_stand_31 : decode cN_stand 31 = .ok (.aload_n 1, 1) := by decide +kernel
theorem dN_stand_32 : decode cN_stand 32 = .ok (.getfield 28, 3) := by decide +kernel
theorem dN_stand_35 : decode cN_stand 35 = .ok (.aload_n 0, 1) := by decide +kernel
theorem dN_stand_36 : decode cN_stand 36 = .ok (.getfield 24, 3) := by decide +kernel
theorem dN_stand_39 : decode cN_stand 39 = .ok (.iconst 1, 1) := by decide +kernel
theorem dN_stand_40 : decode cN_stand 40 = .ok (.isub, 1) := by decide +kernel
theorem dN_stand_41 : decode cN_stand 41 = .ok (.iload_n 2, 1) := by decide +kernel
theorem dN_stand_42 : decode cN_stand 42 = .ok (.isub, 1) := by decide +kernel
theorem dN_stand_43 : decode cN_stand 43 = .ok (.iaload, 1) := by decide +kernel
theorem dN_stand_44 : decode cN_stand 44 = .ok (.iastore, 1) := by decide +kernel
theorem dN_stand_45 : decode cN_stand 45 = .ok (.iinc 2 1, 3) := by decide +kernel
theorem dN_stand_48 : decode cN_stand 48 = .ok (.goto (-30), 3) := by decide +kernel
theorem dN_stand_51 : decode cN_stand 51 = .ok (.aload_n 0, 1) := by decide +kernel
theorem dN_stand_52 : decode cN_stand 52 = .ok (.iconst 0, 1) := by decide +kernel
theorem dN_stand_53 : decode cN_stand 53 = .ok (.putfield 29, 3) := by decide +kernel
theorem dN_stand_56 : decode cN_stand 56 = .ok (.aload_n 0, 1) := by decide +kernel
theorem dN_stand_57 : decode cN_stand 57 = .ok (.iconst 0, 1) := by decide +kernel
theorem dN_stand_58 : decode cN_stand 58 = .ok (.putfield 32, 3) := by decide +kernel
theorem dN_stand_61 : decode cN_stand 61 = .ok (.aload_n 0, 1) := by decide +kernel
theorem dN_stand_62 : decode cN_stand 62 = .ok (.iconst 0, 1) := by decide +kernel
theorem dN_stand_63 : decode cN_stand 63 = .ok (.putfield 35, 3) := by decide +kernel
theorem dN_stand_66 : decode cN_stand 66 = .ok (.aload_n 0, 1) := by decide +kernel
theorem dN_stand_67 : decode cN_stand 67 = .ok (.iconst 0, 1) := by decide +kernel
theorem dN_stand_68 : decode cN_stand 68 = .ok (.putfield 38, 3) := by decide +kernel
theorem dN_stand_71 : decode cN_stand 71 = .ok (.aload_n 0, 1) := by decide +kernel
theorem dN_stand_72 : decode cN_stand 72 = .ok (.iconst 0, 1) := by decide +kernel
theorem dN_stand_73 : decode cN_stand 73 = .ok (.putfield 41, 3) := by decide +kernel
theorem dN_stand_76 : decode cN_stand 76 = .ok (.aload_n 0, 1) := by decide +kernel
theorem dN_stand_77 : decode cN_stand 77 = .ok (.iconst 0, 1) := by decide +kernel
theorem dN_stand_78 : decode cN_stand 78 = .ok (.putfield 44, 3) := by decide +kernel
theorem dN_stand_81 : decode cN_stand 81 = .ok (.return_, 1) := by decide +kernel
theorem dN_reserve_0 : decode cN_reserve 0 = .ok (.iconst 0, 1) := by decide +kernel
theorem dN_reserve_1 : decode cN_reserve 1 = .ok (.istore_n 2, 1) := by decide +kernel
theorem dN_reserve_2 : decode cN_reserve 2 = .ok (.iload_n 2, 1) := by decide +kernel
theorem dN_reserve_3 : decode cN_reserve 3 = .ok (.aload_n 1, 1) := by decide +kernel
theorem dN_reserve_4 : decode cN_reserve 4 = .ok (.getfield 18, 3) := by decide +kernel
theorem dN_reserve_7 : decode cN_reserve 7 = .ok (.if_icmp .ge 43, 3) := by decide +kernel
theorem dN_reserve_10 : decode cN_reserve 10 = .ok (.aload_n 0, 1) := by decide +kernel
theorem dN_reserve_11 : decode cN_reserve 11 = .ok (.getfield 27, 3) := by decide +kernel
theorem dN_reserve_14 : decode cN_reserve 14 = .ok (.bipush 96, 2) := by decide +kernel
theorem dN_reserve_16 : decode cN_reserve 16 = .ok (.if_icmp .ge 34, 3) := by decide +kernel
theorem dN_reserve_19 : decode cN_reserve 19 = .ok (.aload_n 0, 1) := by decide +kernel
theorem dN_reserve_20 : decode cN_reserve 20 = .ok (.getfield 9, 3) := by decide +kernel
theorem dN_reserve_23 : decode cN_reserve 23 = .ok (.aload_n 0, 1) := by decide +kernel
theorem dN_reserve_24 : decode cN_reserve 24 = .ok (.getfield 27, 3) := by decide +kernel
theorem dN_reserve_27 : decode cN_reserve 27 = .ok (.aload_n 1, 1) := by decide +kernel
theorem dN_reserve_28 : decode cN_reserve 28 = .ok (.getfield 28, 3) := by decide +kernel
theorem dN_reserve_31 : decode cN_reserve 31 = .ok (.iload_n 2, 1) := by decide +kernel
theorem dN_reserve_32 : decode cN_reserve 32 = .ok (.iaload, 1) := by decide +kernel
theorem dN_reserve_33 : decode cN_reserve 33 = .ok (.iastore, 1) := by decide +kernel
theorem dN_reserve_34 : decode cN_reserve 34 = .ok (.aload_n 0, 1) := by decide +kernel
theorem dN_reserve_35 : decode cN_reserve 35 = .ok (.dup, 1) := by decide +kernel
theorem dN_reserve_36 : decode cN_reserve 36 = .ok (.getfield 27, 3) := by decide +kernel
theorem dN_reserve_39 : decode cN_reserve 39 = .ok (.iconst 1, 1) := by decide +kernel
theorem dN_reserve_40 : decode cN_reserve 40 = .ok (.iadd, 1) := by decide +kernel
theorem dN_reserve_41 : decode cN_reserve 41 = .ok (.putfield 27, 3) := by decide +kernel
theorem dN_reserve_44 : decode cN_reserve 44 = .ok (.iinc 2 1, 3) := by decide +kernel
theorem dN_reserve_47 : decode cN_reserve 47 = .ok (.goto (-45), 3) := by decide +kernel
theorem dN_reserve_50 : decode cN_reserve 50 = .ok (.return_, 1) := by decide +kernel
theorem lmR_22 : Cond.methodLink R_R 22 yR_add ∈ bigW := bw 347 (by decide +kernel) rfl
theorem lmR_26 : Cond.methodLink R_R 26 yR_firstBefore ∈ bigW := bw 351 (by decide +kernel) rfl
theorem lmR_73 : Cond.methodLink R_R 73 yS_placeOf ∈ bigW := bw 397 (by decide +kernel) rfl
theorem lfN_32 : Cond.fieldLink R_N 32 "RailYard$Train" "loading" "I" ∈ bigW := bw 182 (by decide +kernel) rfl
theorem lfN_35 : Cond.fieldLink R_N 35 "RailYard$Train" "cargo" "I" ∈ bigW := bw 184 (by decide +kernel) rfl
theorem lfN_28 : Cond.fieldLinkNest R_N 28 "RailYard$Stretch" "runs" "[I" hostN ∈ nestW := nw 94 (by decide +kernel) rfl
theorem lfN_18 : Cond.fieldLinkNest R_N 18 "RailYard$Stretch" "count" "I" hostN ∈ nestW := nw 97 (by decide +kernel) rfl
theorem miR_add : MI yR_add cR_add 2 none 1 := ⟨bw 350 (by decide +kernel) rfl, bw 41 (by decide +kernel) rfl, ⟨by decide +kernel, by decide +kernel⟩, by decide +kernel, by decide⟩
theorem mvR_add : MV yR_add := ⟨bw 348 (by decide +kernel) rfl, bw 349 (by decide +kernel) rfl⟩
theorem miR_firstBefore : MI yR_firstBefore cR_firstBefore 6 (some .int) 2 := ⟨bw 353 (by decide +kernel) rfl, bw 41 (by decide +kernel) rfl, ⟨by decide +kernel, by decide +kernel⟩, by decide +kernel, by decide⟩
theorem msR_firstBefore : Cond.static yR_firstBefore ∈ bigW := bw 352 (by decide +kernel) rfl
theorem acr_c {w u : RW} (h : u 2 = w 2) (t e : Int) : acr (u 2 0) (u 2 1) t e = acr (w 2 0) (w 2 1) t e := by rw [h]
theorem fbf_c {w u : RW} (h2 : u 2 = w 2) (h3 : u 3 = w 3) (x : Int) : fbf u x = fbf w x := by
  unfold fbf fbP fbT
  rw [h2, h3]
theorem fbf_ok {w : RW} {x : Int} (hb : w 2 0 ≤ 8 ∧ w 2 1 ≤ 6) : fbf w x = -1 ∨ okR (fbf w x) := by
  have hT : fbT w x = -1 ∨ (0 ≤ fbT w x ∧ fbT w x < 48) := acr_rng (by omega) (by omega)
  have hE : 0 ≤ fbE x ∧ fbE x < 4 := by unfold fbE; omega
  unfold fbf
  by_cases h : fbT w x = -1 ∨ fst6 (fbP w x) = -1
  · rw [cif_t h]; exact Or.inl rfl
  · rw [cif_f h]
    right
    rcases fst6_or (fbP w x) with h6 | ⟨h6, h7, h8, -⟩
    · exact absurd (Or.inr h6.1) h
    · have e1 : (fbT w x + 64 * fst6 (fbP w x) + 512 * fbE x) % 64 = fbT w x := by omega
      have e2 : (fbT w x + 64 * fst6 (fbP w x) + 512 * fbE x) % 512 / 64 = fst6 (fbP w x) := by omega
      have e3 : (fbT w x + 64 * fst6 (fbP w x) + 512 * fbE x) / 512 = fbE x := by omega
      refine ⟨by omega, by omega, by omega, by omega, ?_⟩
      rw [e2, e3]
      exact h8.2
/-- the chain of first runs before x -/
noncomputable def cbf (w : RW) (x : Int) : Nat → Int
  | 0 => x
  | n + 1 => fbf w (cbf w x n)
theorem cbf_c {w u : RW} (h2 : u 2 = w 2) (h3 : u 3 = w 3) (x : Int) : ∀ n, cbf u x n = cbf w x n
  | 0 => rfl
  | n + 1 => by
    show fbf u (cbf u x n) = fbf w (cbf w x n)
    rw [cbf_c h2 h3 x n, fbf_c h2 h3]
def lbI (w u : RW) (x i : Int) : Prop := (∀ j, j ≠ 73 → j ≠ 74 → u j = w j) ∧ u 73 2 = i ∧ (∀ j, 0 ≤ j → j < i → u 74 j = cbf w x j.toNat ∧ okR (cbf w x j.toNat))
theorem lpR_layBody {G : vG} {X : vX} {Q : State → Prop} {w : RW} {x n : Int} (hx : okR x) (hn : 0 ≤ n ∧ n ≤ 5) (hb : w 2 0 ≤ 8 ∧ w 2 1 ≤ 6) (hw : ∀ t, 0 ≤ t → t < 48 → 0 ≤ w 3 t) (F : FX G X cR_layBody yR_layBody.cls 6 3) (hR : RetV G X cR_layBody 6 Q (fun u => ∃ c, (0 ≤ c ∧ c ≤ n) ∧ lbI w u x c ∧ (c = n ∨ cbf w x c.toNat = -1))) : ∀ (m : Nat) (i y : Int) (u0 : RW), 0 ≤ i → i ≤ n → n - i < m → lbI w u0 x i → y = cbf w x i.toNat → (y = -1 ∨ okR y) → V G X 6 Q 11 [some (.inr 73), some (.inr 2), some (.inl x), some (.inl n), some (.inl y), some (.inl i)] [] u0 := by
  intro m
  induction m with
  | zero => intro i y u0 h1 h2 h3; omega
  | succ m ih =>
    intro i y u0 h1 h2 h3 hI hyi hy
    refine V_iload F dR_layBody_11 rfl ?_
    refine V_iload_n (i := 3) F dR_layBody_13 rfl rfl ?_
    refine V_icmp_ge F 43 dR_layBody_14 (by decide) (fun h14 => ?_) (fun h14 => ?_)
    · exact hR _ _ _ dR_layBody_43 (by first | exact ⟨i, by omega, hI, Or.inl (by omega)⟩ | exact ⟨i, by omega, hI, Or.inr (by rw [← hyi]; exact h20)⟩)
    · refine V_iload F dR_layBody_17 rfl ?_
      refine V_iconst F dR_layBody_19 (by decide) ?_
      refine V_icmp_eq F 43 dR_layBody_20 (by decide) (fun h20 => ?_) (fun h20 => ?_)
      · exact hR _ _ _ dR_layBody_43 (by first | exact ⟨i, by omega, hI, Or.inl (by omega)⟩ | exact ⟨i, by omega, hI, Or.inr (by rw [← hyi]; exact h20)⟩)
      · have hok : okR y := by rcases hy with h | h
                               · exact absurd h h20
                               · exact h
        have e2 : upw (upw u0 74 (u0 73 2) y) 73 2 (u0 73 2 + 1) 2 = w 2 := by rw [upw_f (by decide), upw_f (by decide)]; exact hI.1 2 (by decide) (by decide)
        have e3 : upw (upw u0 74 (u0 73 2) y) 73 2 (u0 73 2 + 1) 3 = w 3 := by rw [upw_f (by decide), upw_f (by decide)]; exact hI.1 3 (by decide) (by decide)
        have hc := hI.2.1
        refine V_aload_n (i := 0) F dR_layBody_23 rfl rfl ?_
        refine V_iload F dR_layBody_24 rfl ?_
        refine V_callVv F dR_layBody_26 lmR_22 miR_add mvR_add (ctR_add (by omega)) (by decide) (by first | rfl | assumption) rfl rfl (Nat.le_of_ble_eq_true rfl) (fun u hr => ?_)
        subst hr
        refine V_aload_n (i := 1) F dR_layBody_29 rfl rfl ?_
        refine V_iload F dR_layBody_30 rfl ?_
        refine V_callSi F dR_layBody_32 lmR_26 miR_firstBefore msR_firstBefore (ctR_firstBefore (w := upw (upw u0 74 (u0 73 2) y) 73 2 (u0 73 2 + 1)) hok (by rw [e2]; exact hb) (fun t t1 t2 => by rw [e3]; exact hw t t1 t2)) (by decide) rfl (Nat.le_of_ble_eq_true rfl) (fun r u hr => ?_)
        obtain ⟨rfl, rfl⟩ := hr
        refine V_istore F dR_layBody_35 (by decide) (by simp only [List.set_cons_zero, List.set_cons_succ]; exact rfl) ?_
        refine V_iinc F dR_layBody_37 (by decide) rfl (by omega) (by simp only [List.set_cons_zero, List.set_cons_succ]; exact rfl) ?_
        refine V_goto F 11 dR_layBody_40 (by decide) ?_
        rw [fbf_c e2 e3]
        refine ih (i + 1) _ _ (by omega) (by omega) (by omega) ⟨fun j j1 j2 => ?_, ?_, fun j j1 j2 => ?_⟩ ?_ ?_
        · rw [upw_f j1, upw_f j2]; exact hI.1 j j1 j2
        · rw [upw_s, hc]
        · rw [upw_k (by decide)]
          by_cases hj : j = i
          · rw [hc, hj, upw_s, ← hyi]
            exact ⟨rfl, hok⟩
          · rw [hc, upw_i hj]
            exact hI.2.2 j j1 (by omega)
        · rw [show (i + 1).toNat = i.toNat + 1 by omega, hyi]
          rfl
        · exact fbf_ok hb
theorem ctR_layBody {G : vG} {l : Launch} {w : RW} {x n : Int} (hx : okR x) (hn : 0 ≤ n ∧ n ≤ 5) (hb : w 2 0 ≤ 8 ∧ w 2 1 ≤ 6) (hw : ∀ t, 0 ≤ t → t < 48 → 0 ≤ w 3 t) : CTv G l yR_layBody cR_layBody 6 3 [.inr 73, .inr 2, .inl x, .inl n] w (fun u => ∃ c, (0 ≤ c ∧ c ≤ n) ∧ lbI w u x c ∧ (c = n ∨ cbf w x c.toNat = -1)) := by
  refine CTv.intro (by decide) (Nat.le_of_ble_eq_true rfl) ?_
  intro X Q F hX hR
  subst hX
  show V G X 6 Q 0 [some (.inr 73), some (.inr 2), some (.inl x), some (.inl n), none, none] [] w
  refine V_aload_n (i := 0) F dR_layBody_0 rfl rfl ?_
  refine V_iconst F dR_layBody_1 (by decide) ?_
  refine V_puti (ci := 2) (C := R_R) (T := T_R) (N := 3) F dR_layBody_2 (by first | rfl | assumption) rfl (j := 2) 2 rfl (by decide) rfl rfl rfl lfR_18 ?_
  refine V_iload_n (i := 2) F dR_layBody_5 rfl rfl ?_
  refine V_istore F dR_layBody_6 (by decide) (by simp only [List.set_cons_zero, List.set_cons_succ]; exact rfl) ?_
  refine V_iconst F dR_layBody_8 (by decide) ?_
  refine V_istore F dR_layBody_9 (by decide) (by simp only [List.set_cons_zero, List.set_cons_succ]; exact rfl) ?_
  exact lpR_layBody hx hn hb hw F hR (n.toNat + 1) 0 x _ (by omega) (by omega) (by omega) ⟨fun j j1 j2 => upw_f j1, upw_s _ _ _ _, fun j j1 j2 => by omega⟩ rfl (Or.inr hx)
def hoI (w u : RW) (t n : Int) : Prop := (∀ j, j ≠ 5 → u j = w j) ∧ (∀ i, 0 ≤ i → i < n → u 5 (w 74 i % 512) = t) ∧ ∀ p, (∀ i, 0 ≤ i → i < n → ¬ w 74 i % 512 = p) → u 5 p = w 5 p
theorem lpR_hold {G : vG} {X : vX} {Q : State → Prop} {w : RW} {t : Int} (hn : 0 ≤ w 73 2 ∧ w 73 2 ≤ 257) (hx : ∀ i, 0 ≤ i → i < w 73 2 → okR (w 74 i)) (F : FX G X cR_hold yR_hold.cls 4 1) (hR : RetV G X cR_hold 4 Q (fun u => hoI w u t (w 73 2))) : ∀ (m : Nat) (i : Int) (u0 : RW), 0 ≤ i → i ≤ w 73 2 → w 73 2 - i < m → hoI w u0 t i → V G X 4 Q 2 [some (.inr 73), some (.inr 2), some (.inl t), some (.inl i)] [] u0 := by
  intro m
  induction m with
  | zero => intro i u0 h1 h2 h3; omega
  | succ m ih =>
    intro i u0 h1 h2 h3 hI
    refine V_iload_n (i := 3) F dR_hold_2 rfl rfl ?_
    refine V_aload_n (i := 0) F dR_hold_3 rfl rfl ?_
    refine V_geti (ci := 2) (C := R_R) (T := T_R) (N := 3) F dR_hold_4 (by first | rfl | assumption) rfl (j := 2) 2 rfl (by decide) rfl lfR_18 ?_
    rw [hI.1 73 (by decide)]
    refine V_icmp_ge F 31 dR_hold_7 (by decide) (fun h7 => ?_) (fun h7 => ?_)
    · exact hR _ _ _ dR_hold_31 (by rw [show i = w 73 2 by omega] at hI; exact hI)
    · obtain ⟨x1, x2, x3, x4, x5⟩ := hx i h1 (by omega)
      refine V_aload_n (i := 1) F dR_hold_10 rfl rfl ?_
      refine V_getrN (ci := 0) (C := R_G) (T := T_G) (N := 5) F dR_hold_11 (by first | rfl | assumption) rfl (j := 4) (by decide) rfl lfR_70 ?_
      refine V_aload_n (i := 0) F dR_hold_14 rfl rfl ?_
      refine V_getr (ci := 2) (C := R_R) (T := T_R) (N := 3) F dR_hold_15 (by first | rfl | assumption) rfl (j := 0) (by decide) rfl lfR_9 ?_
      refine V_iload_n (i := 3) F dR_hold_18 rfl rfl ?_
      refine V_iald F dR_hold_19 (by first | rfl | assumption) rfl (by omega) ?_
      rw [hI.1 74 (by decide)]
      refine V_callSi F dR_hold_20 lmR_73 miS_placeOf msS_placeOf (ctS_placeOf (by omega)) (by decide) rfl (Nat.le_of_ble_eq_true rfl) (fun r u hr => ?_)
      obtain ⟨rfl, rfl⟩ := hr
      refine V_iload_n (i := 2) F dR_hold_23 rfl rfl ?_
      refine V_iast F dR_hold_24 (by first | rfl | assumption) rfl (by omega) ?_
      refine V_iinc F dR_hold_25 (by decide) rfl (by omega) (by simp only [List.set_cons_zero, List.set_cons_succ]; exact rfl) ?_
      refine V_goto F 2 dR_hold_28 (by decide) ?_
      refine ih (i + 1) _ (by omega) (by omega) (by omega) ⟨fun j j1 => ?_, fun j j1 j2 => ?_, fun p hp => ?_⟩
      · rw [upw_f j1]; exact hI.1 j j1
      · by_cases hj : w 74 j % 512 = w 74 i % 512
        · rw [hj, upw_s]
        · rw [upw_i hj]
          exact hI.2.1 j j1 (by
            by_cases hji : j = i
            · exact absurd (by rw [hji]) hj
            · omega)
      · rw [upw_i (fun q => hp i h1 (by omega) q.symm)]
        exact hI.2.2 p (fun j j1 j2 => hp j j1 (by omega))
theorem ctR_hold {G : vG} {l : Launch} {w : RW} {t : Int} (hn : 0 ≤ w 73 2 ∧ w 73 2 ≤ 257) (hx : ∀ i, 0 ≤ i → i < w 73 2 → okR (w 74 i)) : CTv G l yR_hold cR_hold 4 1 [.inr 73, .inr 2, .inl t] w (fun u => hoI w u t (w 73 2)) := by
  refine CTv.intro (by decide) (Nat.le_of_ble_eq_true rfl) ?_
  intro X Q F hX hR
  subst hX
  show V G X 4 Q 0 [some (.inr 73), some (.inr 2), some (.inl t), none] [] w
  refine V_iconst F dR_hold_0 (by decide) ?_
  refine V_istore_n (i := 3) F dR_hold_1 rfl (by decide) (by simp only [List.set_cons_zero, List.set_cons_succ]; exact rfl) ?_
  exact lpR_hold hn hx F hR ((w 73 2).toNat + 1) 0 _ (by omega) (by omega) (by omega) ⟨fun j _ => rfl, fun j j1 j2 => by omega, fun p _ => rfl⟩
def snI (w u : RW) (k r : Nat) (n : Int) : Prop := (∀ j, j ≠ k → j ≠ r → u j = w j) ∧ (u k 1 = w 73 2 ∧ u k 2 = w 73 2) ∧ (∀ i, 0 ≤ i → i < n → u r i = w 74 (w 73 2 - 1 - i)) ∧ ∀ i, ¬ (0 ≤ i ∧ i < n) → u r i = w r i
theorem lpN_stand {G : vG} {X : vX} {Q : State → Prop} {w : RW} {k r o : Nat} (hk : shp[k]? = some (.inr (.inl (3, [some r, none, none, none, none, none, some o, none, none, none])))) (hr : shp[r]? = some (.inl (0, 96))) (ho : shp[o]? = some (.inl (0, 6))) (hkr : r ≠ k ∧ k ≠ 73 ∧ k ≠ 74 ∧ r ≠ 73 ∧ r ≠ 74) (hn : 0 ≤ w 73 2 ∧ w 73 2 ≤ 5) (F : FX G X cN_stand yN_stand.cls 3 0) (hR : RetV G X cN_stand 3 Q (fun u => (∀ j, j ≠ k → j ≠ r → u j = w j) ∧ (u k 1 = w 73 2 ∧ u k 2 = w 73 2 ∧ u k 3 = 0 ∧ u k 4 = 0 ∧ u k 5 = 0 ∧ u k 7 = 0 ∧ u k 8 = 0 ∧ u k 9 = 0) ∧ (∀ i, 0 ≤ i → i < w 73 2 → u r i = w 74 (w 73 2 - 1 - i)) ∧ ∀ i, ¬ (0 ≤ i ∧ i < w 73 2) → u r i = w r i)) : ∀ (m : Nat) (i : Int) (u0 : RW), 0 ≤ i → i ≤ w 73 2 → w 73 2 - i < m → snI w u0 k r i → V G X 3 Q 18 [some (.inr k), some (.inr 73), some (.inl i)] [] u0 := by
  intro m
  induction m with
  | zero => intro i u0 h1 h2 h3; omega
  | succ m ih =>
    intro i u0 h1 h2 h3 hI
    refine V_iload_n (i := 2) F dN_stand_18 rfl rfl ?_
    refine V_aload_n (i := 0) F dN_stand_19 rfl rfl ?_
    refine V_geti (ci := 3) (C := R_N) (T := T_N) (N := 10) F dN_stand_20 (by first | rfl | assumption) rfl (j := 2) 2 rfl (by decide) rfl lfN_24 ?_
    rw [hI.2.1.2]
    refine V_icmp_ge F 51 dN_stand_23 (by decide) (fun h23 => ?_) (fun h23 => ?_)
    · refine V_aload_n (i := 0) F dN_stand_51 rfl rfl ?_
      refine V_iconst F dN_stand_52 (by decide) ?_
      refine V_puti (ci := 3) (C := R_N) (T := T_N) (N := 10) F dN_stand_53 (by first | rfl | assumption) rfl (j := 3) 3 rfl (by decide) rfl rfl rfl lfN_29 ?_
      refine V_aload_n (i := 0) F dN_stand_56 rfl rfl ?_
      refine V_iconst F dN_stand_57 (by decide) ?_
      refine V_puti (ci := 3) (C := R_N) (T := T_N) (N := 10) F dN_stand_58 (by first | rfl | assumption) rfl (j := 4) 4 rfl (by decide) rfl rfl rfl lfN_32 ?_
      refine V_aload_n (i := 0) F dN_stand_61 rfl rfl ?_
      refine V_iconst F dN_stand_62 (by decide) ?_
      refine V_puti (ci := 3) (C := R_N) (T := T_N) (N := 10) F dN_stand_63 (by first | rfl | assumption) rfl (j := 5) 5 rfl (by decide) rfl rfl rfl lfN_35 ?_
      refine V_aload_n (i := 0) F dN_stand_66 rfl rfl ?_
      refine V_iconst F dN_stand_67 (by decide) ?_
      refine V_puti (ci := 3) (C := R_N) (T := T_N) (N := 10) F dN_stand_68 (by first | rfl | assumption) rfl (j := 7) 7 rfl (by decide) rfl rfl rfl lfN_38 ?_
      refine V_aload_n (i := 0) F dN_stand_71 rfl rfl ?_
      refine V_iconst F dN_stand_72 (by decide) ?_
      refine V_puti (ci := 3) (C := R_N) (T := T_N) (N := 10) F dN_stand_73 (by first | rfl | assumption) rfl (j := 8) 8 rfl (by decide) rfl rfl rfl lfN_41 ?_
      refine V_aload_n (i := 0) F dN_stand_76 rfl rfl ?_
      refine V_iconst F dN_stand_77 (by decide) ?_
      refine V_putz (ci := 3) (C := R_N) (T := T_N) (N := 10) F dN_stand_78 (by first | rfl | assumption) rfl (j := 9) 9 rfl (by decide) rfl rfl rfl (by first | exact Or.inl rfl | exact Or.inr rfl | exact bz_01 _ | assumption) lfN_44 ?_
      exact hR _ _ _ dN_stand_81 (by
        rw [show i = w 73 2 by omega] at hI
        obtain ⟨i1, ⟨i2, i3⟩, i4, i5⟩ := hI
        refine ⟨fun j j1 j2 => ?_, ?_, fun q q1 q2 => ?_, fun q hq => ?_⟩
        · rw [upw_f j1, upw_f j1, upw_f j1, upw_f j1, upw_f j1, upw_f j1]; exact i1 j j1 j2
        · simp [upw, i2, i3]
        · rw [upw_f hkr.1, upw_f hkr.1, upw_f hkr.1, upw_f hkr.1, upw_f hkr.1, upw_f hkr.1]; exact i4 q q1 q2
        · rw [upw_f hkr.1, upw_f hkr.1, upw_f hkr.1, upw_f hkr.1, upw_f hkr.1, upw_f hkr.1]; exact i5 q hq)
    · refine V_aload_n (i := 0) F dN_stand_26 rfl rfl ?_
      refine V_getr (ci := 3) (C := R_N) (T := T_N) (N := 10) F dN_stand_27 (by first | rfl | assumption) rfl (j := 0) (by decide) rfl lfN_9 ?_
      refine V_iload_n (i := 2) F dN_stand_30 rfl rfl ?_
      refine V_aload_n (i := 1) F dN_stand_31 rfl rfl ?_
      refine V_getrN (ci := 2) (C := R_R) (T := T_R) (N := 3) F dN_stand_32 (by first | rfl | assumption) rfl (j := 0) (by decide) rfl lfN_28 ?_
      refine V_aload_n (i := 0) F dN_stand_35 rfl rfl ?_
      refine V_geti (ci := 3) (C := R_N) (T := T_N) (N := 10) F dN_stand_36 (by first | rfl | assumption) rfl (j := 2) 2 rfl (by decide) rfl lfN_24 ?_
      rw [hI.2.1.2]
      refine V_iconst F dN_stand_39 (by decide) ?_
      refine V_isub F dN_stand_40 (by omega) ?_
      refine V_iload_n (i := 2) F dN_stand_41 rfl rfl ?_
      refine V_isub F dN_stand_42 (by omega) ?_
      refine V_iald F dN_stand_43 (k := 74) rfl rfl (by omega) ?_
      rw [hI.1 74 (Ne.symm hkr.2.2.1) (Ne.symm hkr.2.2.2.2)]
      refine V_iast F dN_stand_44 (by first | rfl | assumption) rfl (by omega) ?_
      refine V_iinc F dN_stand_45 (by decide) rfl (by omega) (by simp only [List.set_cons_zero, List.set_cons_succ]; exact rfl) ?_
      refine V_goto F 18 dN_stand_48 (by decide) ?_
      refine ih (i + 1) _ (by omega) (by omega) (by omega) ⟨fun j j1 j2 => ?_, ?_, fun j j1 j2 => ?_, fun j hj => ?_⟩
      · rw [upw_f j2]; exact hI.1 j j1 j2
      · rw [upw_k (Ne.symm hkr.1), upw_k (Ne.symm hkr.1)]; exact hI.2.1
      · by_cases hj : j = i
        · rw [hj, upw_s]
        · rw [upw_i hj]; exact hI.2.2.1 j j1 (by omega)
      · rw [upw_i (by omega)]; exact hI.2.2.2 j (by omega)
theorem ctN_stand {G : vG} {l : Launch} {w : RW} {k r o : Nat} (hk : shp[k]? = some (.inr (.inl (3, [some r, none, none, none, none, none, some o, none, none, none])))) (hr : shp[r]? = some (.inl (0, 96))) (ho : shp[o]? = some (.inl (0, 6))) (hkr : r ≠ k ∧ k ≠ 73 ∧ k ≠ 74 ∧ r ≠ 73 ∧ r ≠ 74) (hn : 0 ≤ w 73 2 ∧ w 73 2 ≤ 5) : CTv G l yN_stand cN_stand 3 0 [.inr k, .inr 73] w (fun u => (∀ j, j ≠ k → j ≠ r → u j = w j) ∧ (u k 1 = w 73 2 ∧ u k 2 = w 73 2 ∧ u k 3 = 0 ∧ u k 4 = 0 ∧ u k 5 = 0 ∧ u k 7 = 0 ∧ u k 8 = 0 ∧ u k 9 = 0) ∧ (∀ i, 0 ≤ i → i < w 73 2 → u r i = w 74 (w 73 2 - 1 - i)) ∧ ∀ i, ¬ (0 ≤ i ∧ i < w 73 2) → u r i = w r i) := by
  refine CTv.intro (by decide) (Nat.le_of_ble_eq_true rfl) ?_
  intro X Q F hX hR
  subst hX
  show V G X 3 Q 0 [some (.inr k), some (.inr 73), none] [] w
  refine V_aload_n (i := 0) F dN_stand_0 rfl rfl ?_
  refine V_aload_n (i := 1) F dN_stand_1 rfl rfl ?_
  refine V_getiN (ci := 2) (C := R_R) (T := T_R) (N := 3) F dN_stand_2 (by first | rfl | assumption) rfl (j := 2) 2 rfl (by decide) rfl lfN_18 ?_
  refine V_puti (ci := 3) (C := R_N) (T := T_N) (N := 10) F dN_stand_5 (by first | rfl | assumption) rfl (j := 2) 2 rfl (by decide) rfl rfl rfl lfN_24 ?_
  refine V_aload_n (i := 0) F dN_stand_8 rfl rfl ?_
  refine V_aload_n (i := 0) F dN_stand_9 rfl rfl ?_
  refine V_geti (ci := 3) (C := R_N) (T := T_N) (N := 10) F dN_stand_10 (by first | rfl | assumption) rfl (j := 2) 2 rfl (by decide) rfl lfN_24 ?_
  rw [upw_s]
  refine V_puti (ci := 3) (C := R_N) (T := T_N) (N := 10) F dN_stand_13 (by first | rfl | assumption) rfl (j := 1) 1 rfl (by decide) rfl rfl rfl lfN_27 ?_
  refine V_iconst F dN_stand_16 (by decide) ?_
  refine V_istore_n (i := 2) F dN_stand_17 rfl (by decide) (by simp only [List.set_cons_zero, List.set_cons_succ]; exact rfl) ?_
  exact lpN_stand hk hr ho hkr hn F hR ((w 73 2).toNat + 1) 0 _ (by omega) (by omega) (by omega) ⟨fun j j1 j2 => by rw [upw_f j1, upw_f j1], ⟨by rw [upw_s], by rw [upw_i (by decide), upw_s]⟩, fun j j1 j2 => by omega, fun j _ => by rw [upw_f hkr.1, upw_f hkr.1]⟩
def rvI (w u : RW) (k r : Nat) (n : Int) : Prop := (∀ j, j ≠ k → j ≠ r → u j = w j) ∧ (u k 1 = w k 1 + n ∧ ∀ f, f ≠ 1 → u k f = w k f) ∧ (∀ i, 0 ≤ i → i < n → u r (w k 1 + i) = w 74 i) ∧ ∀ i, i < w k 1 → u r i = w r i
theorem lpN_reserve {G : vG} {X : vX} {Q : State → Prop} {w : RW} {k r o : Nat} (hk : shp[k]? = some (.inr (.inl (3, [some r, none, none, none, none, none, some o, none, none, none])))) (hr : shp[r]? = some (.inl (0, 96))) (ho : shp[o]? = some (.inl (0, 6))) (hkr : r ≠ k ∧ k ≠ 73 ∧ k ≠ 74 ∧ r ≠ 73 ∧ r ≠ 74) (hn : 0 ≤ w 73 2 ∧ 0 ≤ w k 1 ∧ w k 1 + w 73 2 ≤ 96) (F : FX G X cN_reserve yN_reserve.cls 3 0) (hR : RetV G X cN_reserve 3 Q (fun u => rvI w u k r (w 73 2))) : ∀ (m : Nat) (i : Int) (u0 : RW), 0 ≤ i → i ≤ w 73 2 → w 73 2 - i < m → rvI w u0 k r i → V G X 3 Q 2 [some (.inr k), some (.inr 73), some (.inl i)] [] u0 := by
  intro m
  induction m with
  | zero => intro i u0 h1 h2 h3; omega
  | succ m ih =>
    intro i u0 h1 h2 h3 hI
    refine V_iload_n (i := 2) F dN_reserve_2 rfl rfl ?_
    refine V_aload_n (i := 1) F dN_reserve_3 rfl rfl ?_
    refine V_getiN (ci := 2) (C := R_R) (T := T_R) (N := 3) F dN_reserve_4 (by first | rfl | assumption) rfl (j := 2) 2 rfl (by decide) rfl lfN_18 ?_
    rw [hI.1 73 (Ne.symm hkr.2.1) (Ne.symm hkr.2.2.2.1)]
    refine V_icmp_ge F 50 dN_reserve_7 (by decide) (fun h7 => ?_) (fun h7 => ?_)
    · exact hR _ _ _ dN_reserve_50 (by first | (exfalso; omega) | (rw [show i = w 73 2 by omega] at hI; exact hI))
    · refine V_aload_n (i := 0) F dN_reserve_10 rfl rfl ?_
      refine V_geti (ci := 3) (C := R_N) (T := T_N) (N := 10) F dN_reserve_11 (by first | rfl | assumption) rfl (j := 1) 1 rfl (by decide) rfl lfN_27 ?_
      rw [hI.2.1.1]
      refine V_bipush F dN_reserve_14 (by decide) ?_
      refine V_icmp_ge F 50 dN_reserve_16 (by decide) (fun h16 => ?_) (fun h16 => ?_)
      · exact hR _ _ _ dN_reserve_50 (by first | (exfalso; omega) | (rw [show i = w 73 2 by omega] at hI; exact hI))
      · refine V_aload_n (i := 0) F dN_reserve_19 rfl rfl ?_
        refine V_getr (ci := 3) (C := R_N) (T := T_N) (N := 10) F dN_reserve_20 (by first | rfl | assumption) rfl (j := 0) (by decide) rfl lfN_9 ?_
        refine V_aload_n (i := 0) F dN_reserve_23 rfl rfl ?_
        refine V_geti (ci := 3) (C := R_N) (T := T_N) (N := 10) F dN_reserve_24 (by first | rfl | assumption) rfl (j := 1) 1 rfl (by decide) rfl lfN_27 ?_
        rw [hI.2.1.1]
        refine V_aload_n (i := 1) F dN_reserve_27 rfl rfl ?_
        refine V_getrN (ci := 2) (C := R_R) (T := T_R) (N := 3) F dN_reserve_28 (by first | rfl | assumption) rfl (j := 0) (by decide) rfl lfN_28 ?_
        refine V_iload_n (i := 2) F dN_reserve_31 rfl rfl ?_
        refine V_iald F dN_reserve_32 (k := 74) rfl rfl (by omega) ?_
        rw [hI.1 74 (Ne.symm hkr.2.2.1) (Ne.symm hkr.2.2.2.2)]
        refine V_iast F dN_reserve_33 (by first | rfl | assumption) rfl (by omega) ?_
        refine V_aload_n (i := 0) F dN_reserve_34 rfl rfl ?_
        refine V_dup F dN_reserve_35 ?_
        refine V_geti (ci := 3) (C := R_N) (T := T_N) (N := 10) F dN_reserve_36 (by first | rfl | assumption) rfl (j := 1) 1 rfl (by decide) rfl lfN_27 ?_
        rw [upw_k (Ne.symm hkr.1), hI.2.1.1]
        refine V_iconst F dN_reserve_39 (by decide) ?_
        refine V_iadd F dN_reserve_40 (by omega) ?_
        refine V_puti (ci := 3) (C := R_N) (T := T_N) (N := 10) F dN_reserve_41 (by first | rfl | assumption) rfl (j := 1) 1 rfl (by decide) rfl rfl rfl lfN_27 ?_
        refine V_iinc F dN_reserve_44 (by decide) rfl (by omega) (by simp only [List.set_cons_zero, List.set_cons_succ]; exact rfl) ?_
        refine V_goto F 2 dN_reserve_47 (by decide) ?_
        refine ih (i + 1) _ (by omega) (by omega) (by omega) ⟨fun j j1 j2 => ?_, ⟨?_, fun f hf => ?_⟩, fun j j1 j2 => ?_, fun j hj => ?_⟩
        · rw [upw_f j1, upw_f j2]; exact hI.1 j j1 j2
        · rw [upw_s]; omega
        · rw [upw_i hf, upw_k (Ne.symm hkr.1)]; exact hI.2.1.2 f hf
        · rw [upw_f hkr.1]
          by_cases hj : j = i
          · rw [hj, upw_s]
          · rw [upw_i (by omega)]; exact hI.2.2.1 j j1 (by omega)
        · rw [upw_f hkr.1, upw_i (by omega)]; exact hI.2.2.2 j hj
theorem ctN_reserve {G : vG} {l : Launch} {w : RW} {k r o : Nat} (hk : shp[k]? = some (.inr (.inl (3, [some r, none, none, none, none, none, some o, none, none, none])))) (hr : shp[r]? = some (.inl (0, 96))) (ho : shp[o]? = some (.inl (0, 6))) (hkr : r ≠ k ∧ k ≠ 73 ∧ k ≠ 74 ∧ r ≠ 73 ∧ r ≠ 74) (hn : 0 ≤ w 73 2 ∧ 0 ≤ w k 1 ∧ w k 1 + w 73 2 ≤ 96) : CTv G l yN_reserve cN_reserve 3 0 [.inr k, .inr 73] w (fun u => rvI w u k r (w 73 2)) := by
  refine CTv.intro (by decide) (Nat.le_of_ble_eq_true rfl) ?_
  intro X Q F hX hR
  subst hX
  show V G X 3 Q 0 [some (.inr k), some (.inr 73), none] [] w
  refine V_iconst F dN_reserve_0 (by decide) ?_
  refine V_istore_n (i := 2) F dN_reserve_1 rfl (by decide) (by simp only [List.set_cons_zero, List.set_cons_succ]; exact rfl) ?_
  exact lpN_reserve hk hr ho hkr hn F hR ((w 73 2).toNat + 1) 0 _ (by omega) (by omega) (by omega) ⟨fun j j1 j2 => rfl, ⟨by omega, fun _ _ => rfl⟩, fun j j1 j2 => by omega, fun j _ => rfl⟩
