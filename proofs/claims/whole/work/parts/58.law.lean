theorem dL_law_38 : decode cL_law 38 = .ok (.iload_n 3, 1) := by decide +kernel
theorem dL_law_39 : decode cL_law 39 = .ok (.aload_n 0, 1) := by decide +kernel
theorem dL_law_40 : decode cL_law 40 = .ok (.arraylength, 1) := by decide +kernel
theorem dL_law_41 : decode cL_law 41 = .ok (.bipush 6, 2) := by decide +kernel
theorem dL_law_43 : decode cL_law 43 = .ok (.isub, 1) := by decide +kernel
theorem dL_law_44 : decode cL_law 44 = .ok (.if_icmp .gt 842, 3) := by decide +kernel
theorem dL_law_47 : decode cL_law 47 = .ok (.aload_n 0, 1) := by decide +kernel
theorem dL_law_48 : decode cL_law 48 = .ok (.iload_n 3, 1) := by decide +kernel
theorem dL_law_49 : decode cL_law 49 = .ok (.iaload, 1) := by decide +kernel
theorem dL_law_50 : decode cL_law 50 = .ok (.bipush 31, 2) := by decide +kernel
theorem dL_law_52 : decode cL_law 52 = .ok (.iand, 1) := by decide +kernel
theorem dL_law_53 : decode cL_law 53 = .ok (.tableswitch 827 0 21 #[103, 172, 251, 304, 367, 400, 423, 446, 479, 522, 565, 628, 661, 684, 707, 730, 753, 766, 779, 792, 805, 816], 103) := by decide +kernel
theorem dL_law_880 : decode cL_law 880 = .ok (.iinc 3 6, 3) := by decide +kernel
theorem dL_law_883 : decode cL_law 883 = .ok (.goto (-845), 3) := by decide +kernel
theorem dL_law_886 : decode cL_law 886 = .ok (.iconst 1, 1) := by decide +kernel
theorem dL_law_887 : decode cL_law 887 = .ok (.ireturn, 1) := by decide +kernel
theorem lw_loop {G : vG} {X : vX} {Q : State → Prop} {sc : Nat → Int32} {N : Nat} (F : FX G X cL_law R_L 4 9) (hX : SCR G X N sc) (hE : ∀ (L : List (Option RV)) (w : RW), V G X 4 Q 887 L [.inl 1] w) : ∀ (m : Nat) (k : Int) (w : RW), 520 - k < m → 0 ≤ k → k ≤ 519 → ST k w → V G X 4 Q 38 [some (.inr 903), some (.inr 0), some (.inr 77), some (.inl (2 + 6 * k))] [] w := by
  have hN := hX.2.2.2
  intro m
  induction m with
  | zero => intro k w h0 h1 h2; omega
  | succ m ih =>
    intro k w h0 h1 h2 hz
    refine V_iload_n (i := 3) F dL_law_38 rfl rfl ?_
    refine V_aload_n (i := 0) F dL_law_39 rfl rfl ?_
    refine V_slen F hX dL_law_40 ?_
    refine V_bipush F dL_law_41 (by decide) ?_
    refine V_isub F dL_law_43 (by omega) ?_
    refine V_icmp_gt F 886 dL_law_44 (by decide) (fun h44 => ?_) (fun h44 => ?_)
    · refine V_iconst F dL_law_886 (by decide) ?_
      exact hE _ _
    · refine V_aload_n (i := 0) F dL_law_47 rfl rfl ?_
      refine V_iload_n (i := 3) F dL_law_48 rfl rfl ?_
      refine V_scr F hX (by omega) dL_law_49 ?_
      refine V_bipush F dL_law_50 (by decide) ?_
      refine V_iand F _ dL_law_52 rfl ?_
      have h31 := and31 (sv sc (2 + 6 * k))
      generalize iand (sv sc (2 + 6 * k)) 31 = z at h31
      have K : ∀ v, ST (k + 1) v → V G X 4 Q 880 [some (.inr 903), some (.inr 0), some (.inr 77), some (.inl (2 + 6 * k))] [] v := fun v hv => by
        refine V_iinc F dL_law_880 (by decide) rfl (by omega) (by simp only [List.set_cons_zero, List.set_cons_succ]; exact rfl) ?_
        refine V_goto F 38 dL_law_883 (by decide) ?_
        rw [show 2 + 6 * k + 6 = 2 + 6 * (k + 1) by omega]
        exact ih (k + 1) v (by omega) (by omega) (by omega) hv
      have hi : 2 ≤ 2 + 6 * k ∧ 2 + 6 * k + 5 < (N : Int) := by omega
      have hk : 0 ≤ k ∧ k ≤ 520 := by omega
      by_cases hz21 : z ≤ 21
      · rcases (show z = 0 ∨ z = 1 ∨ z = 2 ∨ z = 3 ∨ z = 4 ∨ z = 5 ∨ z = 6 ∨ z = 7 ∨ z = 8 ∨ z = 9 ∨ z = 10 ∨ z = 11 ∨ z = 12 ∨ z = 13 ∨ z = 14 ∨ z = 15 ∨ z = 16 ∨ z = 17 ∨ z = 18 ∨ z = 19 ∨ z = 20 ∨ z = 21 by omega) with rfl | rfl | rfl | rfl | rfl | rfl | rfl | rfl | rfl | rfl | rfl | rfl | rfl | rfl | rfl | rfl | rfl | rfl | rfl | rfl | rfl | rfl
        · exact V_tabI F 156 dL_law_53 ⟨by decide, by decide⟩ rfl (by decide) (lw_c0 F hX hi hk hz K)
        · exact V_tabI F 225 dL_law_53 ⟨by decide, by decide⟩ rfl (by decide) (lw_c1 F hX hi hk hz K)
        · exact V_tabI F 304 dL_law_53 ⟨by decide, by decide⟩ rfl (by decide) (lw_c2 F hX hi hk hz K)
        · exact V_tabI F 357 dL_law_53 ⟨by decide, by decide⟩ rfl (by decide) (lw_c3 F hX hi hk hz K)
        · exact V_tabI F 420 dL_law_53 ⟨by decide, by decide⟩ rfl (by decide) (lw_c4 F hX hi hk hz K)
        · exact V_tabI F 453 dL_law_53 ⟨by decide, by decide⟩ rfl (by decide) (lw_c5 F hX hi hk hz K)
        · exact V_tabI F 476 dL_law_53 ⟨by decide, by decide⟩ rfl (by decide) (lw_c6 F hX hi hk hz K)
        · exact V_tabI F 499 dL_law_53 ⟨by decide, by decide⟩ rfl (by decide) (lw_c7 F hX hi hk hz K)
        · exact V_tabI F 532 dL_law_53 ⟨by decide, by decide⟩ rfl (by decide) (lw_c8 F hX hi hk hz K)
        · exact V_tabI F 575 dL_law_53 ⟨by decide, by decide⟩ rfl (by decide) (lw_c9 F hX hi hk hz K)
        · exact V_tabI F 618 dL_law_53 ⟨by decide, by decide⟩ rfl (by decide) (lw_c10 F hX hi hk hz K)
        · exact V_tabI F 681 dL_law_53 ⟨by decide, by decide⟩ rfl (by decide) (lw_c11 F hX hi hk hz K)
        · exact V_tabI F 714 dL_law_53 ⟨by decide, by decide⟩ rfl (by decide) (lw_c12 F hX hi hk hz K)
        · exact V_tabI F 737 dL_law_53 ⟨by decide, by decide⟩ rfl (by decide) (lw_c13 F hX hi hk hz K)
        · exact V_tabI F 760 dL_law_53 ⟨by decide, by decide⟩ rfl (by decide) (lw_c14 F hX hi hk hz K)
        · exact V_tabI F 783 dL_law_53 ⟨by decide, by decide⟩ rfl (by decide) (lw_c15 F hX hi hk hz K)
        · exact V_tabI F 806 dL_law_53 ⟨by decide, by decide⟩ rfl (by decide) (lw_c16 F hX hi hk hz K)
        · exact V_tabI F 819 dL_law_53 ⟨by decide, by decide⟩ rfl (by decide) (lw_c17 F hX hi hk hz K)
        · exact V_tabI F 832 dL_law_53 ⟨by decide, by decide⟩ rfl (by decide) (lw_c18 F hX hi hk hz K)
        · exact V_tabI F 845 dL_law_53 ⟨by decide, by decide⟩ rfl (by decide) (lw_c19 F hX hi hk hz K)
        · exact V_tabI F 858 dL_law_53 ⟨by decide, by decide⟩ rfl (by decide) (lw_c20 F hX hi hk hz K)
        · exact V_tabI F 869 dL_law_53 ⟨by decide, by decide⟩ rfl (by decide) (lw_c21 F hX hi hk hz K)
      · exact V_tabO F 880 dL_law_53 (by omega) (by decide) (K _ (ST_mono hz))
/-! the start -/
def wh (a b i : Int) : Int := if i = 0 then a else if i = 1 then b else 0
def w0 (a b : Int) : RW := fun k i => match k with
  | 2 => wh a b i
  | 5 => -1
  | 33 => wh a b i
  | 36 => -1
  | 77 => wh a b i
  | _ => 0
theorem wh_in {a b : Int} (ha : 3 ≤ a ∧ a ≤ 8) (hb : 3 ≤ b ∧ b ≤ 6) (i : Int) : inR (wh a b i) := by
  unfold wh inR
  split
  · omega
  · split <;> omega
theorem w0_in {a b : Int} (ha : 3 ≤ a ∧ a ≤ 8) (hb : 3 ≤ b ∧ b ≤ 6) : rgw (w0 a b) := by
  intro k i
  unfold w0
  split
  · exact wh_in ha hb i
  · exact ⟨by decide, by decide⟩
  · exact wh_in ha hb i
  · exact ⟨by decide, by decide⟩
  · exact wh_in ha hb i
  · exact ⟨by decide, by decide⟩
theorem w0_c {a b : Int} (ha : 3 ≤ a ∧ a ≤ 8) (hb : 3 ≤ b ∧ b ≤ 6) : cOK (w0 a b) := by
  have n3 : w0 a b 1 3 = 0 := rfl
  have n4 : w0 a b 1 4 = 0 := rfl
  refine ⟨⟨ha.1, ha.2, hb.1, hb.2⟩, fun t _ _ => ?_, fun p _ _ => ?_, by rw [n3, n4]; decide, fun s s1 s2 => ?_, fun t t1 t2 => ?_⟩
  · show (0 : Int) ≤ 0 ∧ (0 : Int) < 64; decide
  · show (0 : Int) ≤ 0 ∧ (0 : Int) < 16 ∧ (-1 : Int) ≤ -1 ∧ (-1 : Int) < 6; decide
  · rw [n3] at s2; omega
  · rw [n4] at t2; omega
theorem w0_C {a b : Int} (ha : 3 ≤ a ∧ a ≤ 8) (hb : 3 ≤ b ∧ b ≤ 6) : CI (w0 a b) := by
  have n3 : w0 a b 1 3 = 0 := rfl
  have n4 : w0 a b 1 4 = 0 := rfl
  have he : ∀ t k, ¬ heX (w0 a b) t k := fun t k h => by have := h.1; rw [n4] at this; omega
  refine ⟨w0_c ha hb, fun c p _ _ _ _ h => absurd h (tb_0 p), fun s s1 s2 => by rw [n3] at s2; omega, fun t k h => absurd h (he t k), fun t k _ _ h => absurd h (he t k), fun i _ _ _ t t1 => ?_⟩
  exact ⟨fun h => by have h : (-1 : Int) = t := h; omega, fun ⟨k, h, _⟩ => absurd h (he t k)⟩
theorem w0_m {a b : Int} (ha : 3 ≤ a ∧ a ≤ 8) (hb : 3 ≤ b ∧ b ≤ 6) : mOK (w0 a b) := by
  refine ⟨⟨ha.1, ha.2, hb.1, hb.2⟩, fun p _ _ => ?_, ?_, fun s _ _ => ?_, fun t _ _ => ?_, fun i _ _ => ?_, fun i _ _ => ?_⟩
  · show ((0 : Int) = 0 ∨ (0 : Int) = 1) ∧ (0 : Int) ≤ 0 ∧ (0 : Int) ≤ 3; decide
  · show (0 : Int) ≤ 0 ∧ (0 : Int) ≤ 6 ∧ (0 : Int) ≤ 0 ∧ (0 : Int) ≤ 6; decide
  · show (0 : Int) ≤ 0 ∧ (0 : Int) < 288 ∧ (0 : Int) ≤ 0 ∧ (0 : Int) ≤ 50 ∧ (0 : Int) ≤ 0 ∧ (0 : Int) ≤ 500; decide
  · show (0 : Int) ≤ 0 ∧ (0 : Int) ≤ 96 ∧ (0 : Int) ≤ 0 ∧ (0 : Int) ≤ 5 ∧ (0 : Int) ≤ 0 ∧ (0 : Int) ≤ 0 ∧ (0 : Int) ≤ 3 ∧ (0 : Int) ≤ 0 ∧ (0 : Int) ≤ 2 ∧ (0 : Int) ≤ 0 ∧ (0 : Int) ≤ 100 ∧ ((0 : Int) = 0 ∨ (0 : Int) = 1) ∧ (0 : Int) ≤ 0 ∧ (0 : Int) ≤ 6 ∧ (0 : Int) ≤ 0 ∧ (0 : Int) < 6; decide
  · show (0 : Int) ≤ 0 ∧ (0 : Int) < 576; decide
  · show (0 : Int) ≤ 0 ∧ (0 : Int) < 6; decide
theorem w0_R {a b : Int} (ha : 3 ≤ a ∧ a ≤ 8) (hb : 3 ≤ b ∧ b ≤ 6) : Rel (w0 a b) (w0 a b) := by
  refine ⟨⟨rfl, rfl⟩, ⟨rfl, rfl, rfl, rfl⟩, fun i i1 i2 => ⟨⟨fun h => absurd h (tb_0 _), fun h => absurd rfl h⟩, ?_⟩, fun s s1 s2 => ?_, fun t t1 t2 => ?_⟩
  · have := (lgt_f (p := i % 6) (m := 0) (by omega) (by omega)).2.2.1
    exact (this.mpr rfl).symm
  · have s2 : s < 0 := s2; omega
  · have t2 : t < 0 := t2; omega
theorem w0_w {a b : Int} : wOK (w0 a b) := by
  have hq : qL (w0 a b) = [] := rfl
  refine ⟨⟨?_, ?_, ?_, ?_, ?_⟩, rfl, ?_, fun s _ _ h => absurd h (tb_0 s)⟩
  · show (0 : Int) ≤ 0 ∧ (0 : Int) < 256; decide
  · show (0 : Int) ≤ 0 ∧ (0 : Int) ≤ 256; decide
  · rw [hq]; exact List.nodup_nil
  · rw [hq]; intro x hx; cases hx
  · rw [hq]; intro e _ _; exact Or.inl ⟨rfl, fun h => by cases h⟩
  · show (0 : Int) ≤ 0 ∧ (0 : Int) < 64; decide
theorem w0_ST {a b : Int} (ha : 3 ≤ a ∧ a ≤ 8) (hb : 3 ≤ b ∧ b ≤ 6) : ST 0 (w0 a b) := by
  have eC : eqC (w0 a b) (shw (w0 a b)) := by
    refine ⟨⟨rfl, rfl⟩, fun _ _ _ => rfl, fun _ _ _ => ⟨rfl, rfl⟩, ⟨rfl, rfl, rfl, rfl, rfl⟩, fun s s1 s2 => ?_, fun t t1 t2 => ?_⟩
    · have s2 : s < 0 := s2; omega
    · have t2 : t < 0 := t2; omega
  have eM : eqM (w0 a b) (kp (w0 a b)) := ⟨⟨rfl, rfl, rfl, rfl, rfl, rfl⟩, fun _ _ _ => ⟨rfl, rfl⟩, fun _ _ _ => rfl, fun _ _ _ => ⟨⟨rfl, rfl, rfl, rfl, rfl, rfl, rfl, rfl⟩, rfl, rfl, rfl⟩, fun _ _ _ => rfl⟩
  have c0 : cB 0 (w0 a b) := by
    show ((0 : Int) ≤ 0 ∧ (0 : Int) ≤ 6000 * 0) ∧ ((0 : Int) ≤ 0 ∧ (0 : Int) ≤ 12000 * 0) ∧ (0 : Int) ≤ 0 ∧ (0 : Int) ≤ 20 * 0
    decide
  have c1 : cB 0 (shw (w0 a b)) := by
    show ((0 : Int) ≤ 0 ∧ (0 : Int) ≤ 6000 * 0) ∧ ((0 : Int) ≤ 0 ∧ (0 : Int) ≤ 12000 * 0) ∧ (0 : Int) ≤ 0 ∧ (0 : Int) ≤ 20 * 0
    decide
  refine ⟨⟨w0_R ha hb, w0_C ha hb, w0_w, w0_m ha hb, kOK_0 (fun _ _ _ => rfl)⟩, rfl, c0, Rel_eq eC eM (w0_m ha hb) (w0_R ha hb), CI_eq eC (w0_C ha hb), mOK_eq eM (w0_m ha hb), rfl, c1, fun t _ _ => ?_⟩
  show (0 : Int) ≤ 0
  decide

