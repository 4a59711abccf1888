theorem dG_hasTile_0 : decode cG_hasTile 0 = .ok (.iload_n 1, 1) := by decide +kernel
theorem dG_hasTile_1 : decode cG_hasTile 1 = .ok (.ifCond .lt 27, 3) := by decide +kernel
theorem dG_hasTile_4 : decode cG_hasTile 4 = .ok (.iload_n 1, 1) := by decide +kernel
theorem dG_hasTile_5 : decode cG_hasTile 5 = .ok (.aload_n 0, 1) := by decide +kernel
theorem dG_hasTile_6 : decode cG_hasTile 6 = .ok (.getfield 21, 3) := by decide +kernel
theorem dG_hasTile_9 : decode cG_hasTile 9 = .ok (.if_icmp .ge 19, 3) := by decide +kernel
theorem dG_hasTile_12 : decode cG_hasTile 12 = .ok (.iload_n 2, 1) := by decide +kernel
theorem dG_hasTile_13 : decode cG_hasTile 13 = .ok (.ifCond .lt 15, 3) := by decide +kernel
theorem dG_hasTile_16 : decode cG_hasTile 16 = .ok (.iload_n 2, 1) := by decide +kernel
theorem dG_hasTile_17 : decode cG_hasTile 17 = .ok (.aload_n 0, 1) := by decide +kernel
theorem dG_hasTile_18 : decode cG_hasTile 18 = .ok (.getfield 25, 3) := by decide +kernel
theorem dG_hasTile_21 : decode cG_hasTile 21 = .ok (.if_icmp .ge 7, 3) := by decide +kernel
theorem dG_hasTile_24 : decode cG_hasTile 24 = .ok (.iconst 1, 1) := by decide +kernel
theorem dG_hasTile_25 : decode cG_hasTile 25 = .ok (.goto 4, 3) := by decide +kernel
theorem dG_hasTile_28 : decode cG_hasTile 28 = .ok (.iconst 0, 1) := by decide +kernel
theorem dG_hasTile_29 : decode cG_hasTile 29 = .ok (.ireturn, 1) := by decide +kernel
theorem dG_hasPiece_0 : decode cG_hasPiece 0 = .ok (.aload_n 0, 1) := by decide +kernel
theorem dG_hasPiece_1 : decode cG_hasPiece 1 = .ok (.getfield 9, 3) := by decide +kernel
theorem dG_hasPiece_4 : decode cG_hasPiece 4 = .ok (.iload_n 1, 1) := by decide +kernel
theorem dG_hasPiece_5 : decode cG_hasPiece 5 = .ok (.iaload, 1) := by decide +kernel
theorem dG_hasPiece_6 : decode cG_hasPiece 6 = .ok (.iload_n 2, 1) := by decide +kernel
theorem dG_hasPiece_7 : decode cG_hasPiece 7 = .ok (.ishr, 1) := by decide +kernel
theorem dG_hasPiece_8 : decode cG_hasPiece 8 = .ok (.iconst 1, 1) := by decide +kernel
theorem dG_hasPiece_9 : decode cG_hasPiece 9 = .ok (.iand, 1) := by decide +kernel
theorem dG_hasPiece_10 : decode cG_hasPiece 10 = .ok (.ifCond .eq 7, 3) := by decide +kernel
theorem dG_hasPiece_13 : decode cG_hasPiece 13 = .ok (.iconst 1, 1) := by decide +kernel
theorem dG_hasPiece_14 : decode cG_hasPiece 14 = .ok (.goto 4, 3) := by decide +kernel
theorem dG_hasPiece_17 : decode cG_hasPiece 17 = .ok (.iconst 0, 1) := by decide +kernel
theorem dG_hasPiece_18 : decode cG_hasPiece 18 = .ok (.ireturn, 1) := by decide +kernel
theorem dG_hasTrack_0 : decode cG_hasTrack 0 = .ok (.aload_n 0, 1) := by decide +kernel
theorem dG_hasTrack_1 : decode cG_hasTrack 1 = .ok (.iload_n 1, 1) := by decide +kernel
theorem dG_hasTrack_2 : decode cG_hasTrack 2 = .ok (.iload_n 2, 1) := by decide +kernel
theorem dG_hasTrack_3 : decode cG_hasTrack 3 = .ok (.invokevirtual 40, 3) := by decide +kernel
theorem dG_hasTrack_6 : decode cG_hasTrack 6 = .ok (.ifCond .eq 30, 3) := by decide +kernel
theorem dG_hasTrack_9 : decode cG_hasTrack 9 = .ok (.iload_n 3, 1) := by decide +kernel
theorem dG_hasTrack_10 : decode cG_hasTrack 10 = .ok (.ifCond .lt 26, 3) := by decide +kernel
theorem dG_hasTrack_13 : decode cG_hasTrack 13 = .ok (.iload_n 3, 1) := by decide +kernel
theorem dG_hasTrack_14 : decode cG_hasTrack 14 = .ok (.bipush 6, 2) := by decide +kernel
theorem dG_hasTrack_16 : decode cG_hasTrack 16 = .ok (.if_icmp .ge 20, 3) := by decide +kernel
theorem dG_hasTrack_19 : decode cG_hasTrack 19 = .ok (.aload_n 0, 1) := by decide +kernel
theorem dG_hasTrack_20 : decode cG_hasTrack 20 = .ok (.iload_n 1, 1) := by decide +kernel
theorem dG_hasTrack_21 : decode cG_hasTrack 21 = .ok (.iload_n 2, 1) := by decide +kernel
theorem dG_hasTrack_22 : decode cG_hasTrack 22 = .ok (.invokestatic 44, 3) := by decide +kernel
theorem dG_hasTrack_25 : decode cG_hasTrack 25 = .ok (.iload_n 3, 1) := by decide +kernel
theorem dG_hasTrack_26 : decode cG_hasTrack 26 = .ok (.invokevirtual 50, 3) := by decide +kernel
theorem dG_hasTrack_29 : decode cG_hasTrack 29 = .ok (.ifCond .eq 7, 3) := by decide +kernel
theorem dG_hasTrack_32 : decode cG_hasTrack 32 = .ok (.iconst 1, 1) := by decide +kernel
theorem dG_hasTrack_33 : decode cG_hasTrack 33 = .ok (.goto 4, 3) := by decide +kernel
theorem dG_hasTrack_36 : decode cG_hasTrack 36 = .ok (.iconst 0, 1) := by decide +kernel
theorem dG_hasTrack_37 : decode cG_hasTrack 37 = .ok (.ireturn, 1) := by decide +kernel
theorem dG_meets_0 : decode cG_meets 0 = .ok (.aload_n 0, 1) := by decide +kernel
theorem dG_meets_1 : decode cG_meets 1 = .ok (.iload_n 1, 1) := by decide +kernel
theorem dG_meets_2 : decode cG_meets 2 = .ok (.iload_n 2, 1) := by decide +kernel
theorem dG_meets_3 : decode cG_meets 3 = .ok (.invokevirtual 50, 3) := by decide +kernel
theorem dG_meets_6 : decode cG_meets 6 = .ok (.ifCond .eq 15, 3) := by decide +kernel
theorem dG_meets_9 : decode cG_meets 9 = .ok (.iload_n 2, 1) := by decide +kernel
theorem dG_meets_10 : decode cG_meets 10 = .ok (.iload_n 3, 1) := by decide +kernel
theorem dG_meets_11 : decode cG_meets 11 = .ok (.invokestatic 53, 3) := by decide +kernel
theorem dG_meets_14 : decode cG_meets 14 = .ok (.ifCond .eq 7, 3) := by decide +kernel
theorem dG_meets_17 : decode cG_meets 17 = .ok (.iconst 1, 1) := by decide +kernel
theorem dG_meets_18 : decode cG_meets 18 = .ok (.goto 4, 3) := by decide +kernel
theorem dG_meets_21 : decode cG_meets 21 = .ok (.iconst 0, 1) := by decide +kernel
theorem dG_meets_22 : decode cG_meets 22 = .ok (.ireturn, 1) := by decide +kernel
theorem dG_across_0 : decode cG_across 0 = .ok (.iload_n 1, 1) := by decide +kernel
theorem dG_across_1 : decode cG_across 1 = .ok (.bipush 8, 2) := by decide +kernel
theorem dG_across_3 : decode cG_across 3 = .ok (.irem, 1) := by decide +kernel
theorem dG_across_4 : decode cG_across 4 = .ok (.istore_n 3, 1) := by decide +kernel
theorem dG_across_5 : decode cG_across 5 = .ok (.iload_n 1, 1) := by decide +kernel
theorem dG_across_6 : decode cG_across 6 = .ok (.bipush 8, 2) := by decide +kernel
theorem dG_across_8 : decode cG_across 8 = .ok (.idiv, 1) := by decide +kernel
theorem dG_across_9 : decode cG_across 9 = .ok (.istore 4, 2) := by decide +kernel
theorem dG_across_11 : decode cG_across 11 = .ok (.iload_n 2, 1) := by decide +kernel
theorem dG_across_12 : decode cG_across 12 = .ok (.tableswitch 46 0 2 #[28, 34, 40], 28) := by decide +kernel
theorem dG_across_40 : decode cG_across 40 = .ok (.iinc 4 (-1), 3) := by decide +kernel
theorem dG_across_43 : decode cG_across 43 = .ok (.goto 18, 3) := by decide +kernel
theorem dG_across_46 : decode cG_across 46 = .ok (.iinc 3 1, 3) := by decide +kernel
theorem dG_across_49 : decode cG_across 49 = .ok (.goto 12, 3) := by decide +kernel
theorem dG_across_52 : decode cG_across 52 = .ok (.iinc 4 1, 3) := by decide +kernel
theorem dG_across_55 : decode cG_across 55 = .ok (.goto 6, 3) := by decide +kernel
theorem dG_across_58 : decode cG_across 58 = .ok (.iinc 3 (-1), 3) := by decide +kernel
theorem dG_across_61 : decode cG_across 61 = .ok (.aload_n 0, 1) := by decide +kernel
theorem dG_across_62 : decode cG_across 62 = .ok (.iload_n 3, 1) := by decide +kernel
theorem dG_across_63 : decode cG_across 63 = .ok (.iload 4, 2) := by decide +kernel
theorem dG_across_65 : decode cG_across 65 = .ok (.invokevirtual 40, 3) := by decide +kernel
theorem dG_across_68 : decode cG_across 68 = .ok (.ifCond .eq 12, 3) := by decide +kernel
theorem dG_across_71 : decode cG_across 71 = .ok (.iload_n 3, 1) := by decide +kernel
theorem dG_across_72 : decode cG_across 72 = .ok (.iload 4, 2) := by decide +kernel
theorem dG_across_74 : decode cG_across 74 = .ok (.invokestatic 44, 3) := by decide +kernel
theorem dG_across_77 : decode cG_across 77 = .ok (.goto 4, 3) := by decide +kernel
theorem dG_across_80 : decode cG_across 80 = .ok (.iconst (-1), 1) := by decide +kernel
theorem dG_across_81 : decode cG_across 81 = .ok (.ireturn, 1) := by decide +kernel
theorem dG_isHeld_0 : decode cG_isHeld 0 = .ok (.iconst 0, 1) := by decide +kernel
theorem dG_isHeld_1 : decode cG_isHeld 1 = .ok (.istore_n 2, 1) := by decide +kernel
theorem dG_isHeld_2 : decode cG_isHeld 2 = .ok (.iload_n 2, 1) := by decide +kernel
theorem dG_isHeld_3 : decode cG_isHeld 3 = .ok (.bipush 6, 2) := by decide +kernel
theorem dG_isHeld_5 : decode cG_isHeld 5 = .ok (.if_icmp .ge 25, 3) := by decide +kernel
theorem dG_isHeld_8 : decode cG_isHeld 8 = .ok (.aload_n 0, 1) := by decide +kernel
theorem dG_isHeld_9 : decode cG_isHeld 9 = .ok (.getfield 18, 3) := by decide +kernel
theorem dG_isHeld_12 : decode cG_isHeld 12 = .ok (.iload_n 1, 1) := by decide +kernel
theorem dG_isHeld_13 : decode cG_isHeld 13 = .ok (.iload_n 2, 1) := by decide +kernel
theorem dG_isHeld_14 : decode cG_isHeld 14 = .ok (.invokestatic 56, 3) := by decide +kernel
theorem dG_isHeld_17 : decode cG_isHeld 17 = .ok (.iaload, 1) := by decide +kernel
theorem dG_isHeld_18 : decode cG_isHeld 18 = .ok (.iconst (-1), 1) := by decide +kernel
theorem dG_isHeld_19 : decode cG_isHeld 19 = .ok (.if_icmp .eq 5, 3) := by decide +kernel
theorem dG_isHeld_22 : decode cG_isHeld 22 = .ok (.iconst 1, 1) := by decide +kernel
theorem dG_isHeld_23 : decode cG_isHeld 23 = .ok (.ireturn, 1) := by decide +kernel
theorem dG_isHeld_24 : decode cG_isHeld 24 = .ok (.iinc 2 1, 3) := by decide +kernel
theorem dG_isHeld_27 : decode cG_isHeld 27 = .ok (.goto (-25), 3) := by decide +kernel
theorem dG_isHeld_30 : decode cG_isHeld 30 = .ok (.iconst 0, 1) := by decide +kernel
theorem dG_isHeld_31 : decode cG_isHeld 31 = .ok (.ireturn, 1) := by decide +kernel
theorem dG_isLit_0 : decode cG_isLit 0 = .ok (.aload_n 0, 1) := by decide +kernel
theorem dG_isLit_1 : decode cG_isLit 1 = .ok (.getfield 15, 3) := by decide +kernel
theorem dG_isLit_4 : decode cG_isLit 4 = .ok (.iload_n 1, 1) := by decide +kernel
theorem dG_isLit_5 : decode cG_isLit 5 = .ok (.invokestatic 59, 3) := by decide +kernel
theorem dG_isLit_8 : decode cG_isLit 8 = .ok (.iaload, 1) := by decide +kernel
theorem dG_isLit_9 : decode cG_isLit 9 = .ok (.iload_n 1, 1) := by decide +kernel
theorem dG_isLit_10 : decode cG_isLit 10 = .ok (.invokestatic 63, 3) := by decide +kernel
theorem dG_isLit_13 : decode cG_isLit 13 = .ok (.ishr, 1) := by decide +kernel
theorem dG_isLit_14 : decode cG_isLit 14 = .ok (.iconst 1, 1) := by decide +kernel
theorem dG_isLit_15 : decode cG_isLit 15 = .ok (.iand, 1) := by decide +kernel
theorem dG_isLit_16 : decode cG_isLit 16 = .ok (.ifCond .eq 7, 3) := by decide +kernel
theorem dG_isLit_19 : decode cG_isLit 19 = .ok (.iconst 1, 1) := by decide +kernel
theorem dG_isLit_20 : decode cG_isLit 20 = .ok (.goto 4, 3) := by decide +kernel
theorem dG_isLit_23 : decode cG_isLit 23 = .ok (.iconst 0, 1) := by decide +kernel
theorem dG_isLit_24 : decode cG_isLit 24 = .ok (.ireturn, 1) := by decide +kernel
theorem dG_cost_0 : decode cG_cost 0 = .ok (.iload_n 1, 1) := by decide +kernel
theorem dG_cost_1 : decode cG_cost 1 = .ok (.invokestatic 66, 3) := by decide +kernel
theorem dG_cost_4 : decode cG_cost 4 = .ok (.iconst 2, 1) := by decide +kernel
theorem dG_cost_5 : decode cG_cost 5 = .ok (.if_icmp .ge 8, 3) := by decide +kernel
theorem dG_cost_8 : decode cG_cost 8 = .ok (.bipush 10, 2) := by decide +kernel
theorem dG_cost_10 : decode cG_cost 10 = .ok (.goto 5, 3) := by decide +kernel
theorem dG_cost_13 : decode cG_cost 13 = .ok (.bipush 7, 2) := by decide +kernel
theorem dG_cost_15 : decode cG_cost 15 = .ok (.istore_n 2, 1) := by decide +kernel
theorem dG_cost_16 : decode cG_cost 16 = .ok (.aload_n 0, 1) := by decide +kernel
theorem dG_cost_17 : decode cG_cost 17 = .ok (.getfield 15, 3) := by decide +kernel
theorem dG_cost_20 : decode cG_cost 20 = .ok (.iload_n 1, 1) := by decide +kernel
theorem dG_cost_21 : decode cG_cost 21 = .ok (.invokestatic 59, 3) := by decide +kernel
theorem dG_cost_24 : decode cG_cost 24 = .ok (.iaload, 1) := by decide +kernel
theorem dG_cost_25 : decode cG_cost 25 = .ok (.istore_n 3, 1) := by decide +kernel
theorem dG_cost_26 : decode cG_cost 26 = .ok (.iload_n 3, 1) := by decide +kernel
theorem dG_cost_27 : decode cG_cost 27 = .ok (.ifCond .ne 5, 3) := by decide +kernel
theorem dG_cost_30 : decode cG_cost 30 = .ok (.iload_n 2, 1) := by decide +kernel
theorem dG_cost_31 : decode cG_cost 31 = .ok (.ireturn, 1) := by decide +kernel
theorem dG_cost_32 : decode cG_cost 32 = .ok (.iload_n 3, 1) := by decide +kernel
theorem dG_cost_33 : decode cG_cost 33 = .ok (.iload_n 1, 1) := by decide +kernel
theorem dG_cost_34 : decode cG_cost 34 = .ok (.invokestatic 63, 3) := by decide +kernel
theorem dG_cost_37 : decode cG_cost 37 = .ok (.ishr, 1) := by decide +kernel
theorem dG_cost_38 : decode cG_cost 38 = .ok (.iconst 1, 1) := by decide +kernel
theorem dG_cost_39 : decode cG_cost 39 = .ok (.iand, 1) := by decide +kernel
theorem dG_cost_40 : decode cG_cost 40 = .ok (.ifCond .eq 9, 3) := by decide +kernel
theorem dG_cost_43 : decode cG_cost 43 = .ok (.iload_n 2, 1) := by decide +kernel
theorem dG_cost_44 : decode cG_cost 44 = .ok (.iconst 5, 1) := by decide +kernel
theorem dG_cost_45 : decode cG_cost 45 = .ok (.iadd, 1) := by decide +kernel
theorem dG_cost_46 : decode cG_cost 46 = .ok (.goto 5, 3) := by decide +kernel
theorem dG_cost_49 : decode cG_cost 49 = .ok (.ldc 69, 2) := by decide +kernel
theorem dG_cost_51 : decode cG_cost 51 = .ok (.ireturn, 1) := by decide +kernel
theorem lfG_21 : Cond.fieldLink R_G 21 "RailYard$Grid" "width" "I" ∈ bigW := bw 131 (by decide +kernel) rfl
theorem lfG_25 : Cond.fieldLink R_G 25 "RailYard$Grid" "height" "I" ∈ bigW := bw 132 (by decide +kernel) rfl
theorem lfG_9 : Cond.fieldLink R_G 9 "RailYard$Grid" "tracks" "[I" ∈ bigW := bw 133 (by decide +kernel) rfl
theorem lmG_40 : Cond.methodLink R_G 40 yG_hasTile ∈ bigW := bw 302 (by decide +kernel) rfl
theorem lmG_44 : Cond.methodLink R_G 44 yS_tile ∈ bigW := bw 303 (by decide +kernel) rfl
theorem lmG_50 : Cond.methodLink R_G 50 yG_hasPiece ∈ bigW := bw 304 (by decide +kernel) rfl
theorem lmG_53 : Cond.methodLink R_G 53 yS_hasEdge ∈ bigW := bw 378 (by decide +kernel) rfl
theorem lfG_18 : Cond.fieldLink R_G 18 "RailYard$Grid" "holders" "[I" ∈ bigW := bw 137 (by decide +kernel) rfl
theorem lmG_56 : Cond.methodLink R_G 56 yS_place ∈ bigW := bw 281 (by decide +kernel) rfl
theorem lfG_15 : Cond.fieldLink R_G 15 "RailYard$Grid" "lights" "[I" ∈ bigW := bw 135 (by decide +kernel) rfl
theorem lmG_59 : Cond.methodLink R_G 59 yS_placeOf ∈ bigW := bw 319 (by decide +kernel) rfl
theorem lmG_63 : Cond.methodLink R_G 63 yS_edgeOf ∈ bigW := bw 322 (by decide +kernel) rfl
theorem lmG_66 : Cond.methodLink R_G 66 yS_pieceOf ∈ bigW := bw 488 (by decide +kernel) rfl
theorem lcG_69 : Cond.constant R_G 69 (Int32.ofInt 1048576) ∈ bigW := bw 489 (by decide +kernel) rfl
theorem miG_hasTile : MI yG_hasTile cG_hasTile 3 (some .boolean) 2 := ⟨bw 270 (by decide +kernel) rfl, bw 44 (by decide +kernel) rfl, ⟨by decide +kernel, by decide +kernel⟩, by decide +kernel, by decide⟩
theorem mvG_hasTile : MV yG_hasTile := ⟨bw 268 (by decide +kernel) rfl, bw 269 (by decide +kernel) rfl⟩
theorem miS_tile : MI yS_tile cS_tile 2 (some .int) 2 := ⟨bw 273 (by decide +kernel) rfl, bw 49 (by decide +kernel) rfl, ⟨by decide +kernel, by decide +kernel⟩, by decide +kernel, by decide⟩
theorem msS_tile : Cond.static yS_tile ∈ bigW := bw 272 (by decide +kernel) rfl
theorem miG_hasPiece : MI yG_hasPiece cG_hasPiece 3 (some .boolean) 2 := ⟨bw 285 (by decide +kernel) rfl, bw 44 (by decide +kernel) rfl, ⟨by decide +kernel, by decide +kernel⟩, by decide +kernel, by decide⟩
theorem mvG_hasPiece : MV yG_hasPiece := ⟨bw 283 (by decide +kernel) rfl, bw 284 (by decide +kernel) rfl⟩
theorem miS_hasEdge : MI yS_hasEdge cS_hasEdge 2 (some .boolean) 2 := ⟨bw 307 (by decide +kernel) rfl, bw 49 (by decide +kernel) rfl, ⟨by decide +kernel, by decide +kernel⟩, by decide +kernel, by decide⟩
theorem msS_hasEdge : Cond.static yS_hasEdge ∈ bigW := bw 306 (by decide +kernel) rfl
theorem miS_place : MI yS_place cS_place 2 (some .int) 2 := ⟨bw 276 (by decide +kernel) rfl, bw 49 (by decide +kernel) rfl, ⟨by decide +kernel, by decide +kernel⟩, by decide +kernel, by decide⟩
theorem msS_place : Cond.static yS_place ∈ bigW := bw 275 (by decide +kernel) rfl
theorem miS_placeOf : MI yS_placeOf cS_placeOf 1 (some .int) 1 := ⟨bw 321 (by decide +kernel) rfl, bw 49 (by decide +kernel) rfl, ⟨by decide +kernel, by decide +kernel⟩, by decide +kernel, by decide⟩
theorem msS_placeOf : Cond.static yS_placeOf ∈ bigW := bw 320 (by decide +kernel) rfl
def isT (W H x y : Int) : Prop := 0 ≤ x ∧ x < W ∧ 0 ≤ y ∧ y < H
theorem ctG_hasTile {G : vG} {l : Launch} {w : RW} {x y : Int} : CTi G l yG_hasTile cG_hasTile 3 .boolean 0 [.inr 2, .inl x, .inl y] w (fun r u => r = bz (isT (w 2 0) (w 2 1) x y) ∧ w = u) := by
  refine CTi.bool (by decide) (Nat.le_of_ble_eq_true rfl) ?_
  intro X Q F hX hR
  subst hX
  show V G X 3 Q 0 [some (.inr 2), some (.inl x), some (.inl y)] [] w
  refine V_iload_n (i := 1) F dG_hasTile_0 rfl rfl ?_
  refine V_if_lt F 28 dG_hasTile_1 (by decide) (fun h1 => ?_) (fun h1 => ?_)
  · refine V_iconst F dG_hasTile_28 (by decide) ?_
    exact hR _ _ _ _ dG_hasTile_29 (by first | exact Or.inl rfl | exact Or.inr rfl | exact bz_01 _ | assumption) (by first | exact ⟨(bz_t (by unfold isT; omega)).symm, rfl⟩ | exact ⟨(bz_f (by unfold isT; omega)).symm, rfl⟩)
  · refine V_iload_n (i := 1) F dG_hasTile_4 rfl rfl ?_
    refine V_aload_n (i := 0) F dG_hasTile_5 rfl rfl ?_
    refine V_geti (ci := 0) (C := R_G) (T := T_G) (N := 5) F dG_hasTile_6 (by first | rfl | assumption) rfl (j := 0) 0 rfl (by decide) rfl lfG_21 ?_
    refine V_icmp_ge F 28 dG_hasTile_9 (by decide) (fun h9 => ?_) (fun h9 => ?_)
    · refine V_iconst F dG_hasTile_28 (by decide) ?_
      exact hR _ _ _ _ dG_hasTile_29 (by first | exact Or.inl rfl | exact Or.inr rfl | exact bz_01 _ | assumption) (by first | exact ⟨(bz_t (by unfold isT; omega)).symm, rfl⟩ | exact ⟨(bz_f (by unfold isT; omega)).symm, rfl⟩)
    · refine V_iload_n (i := 2) F dG_hasTile_12 rfl rfl ?_
      refine V_if_lt F 28 dG_hasTile_13 (by decide) (fun h13 => ?_) (fun h13 => ?_)
      · refine V_iconst F dG_hasTile_28 (by decide) ?_
        exact hR _ _ _ _ dG_hasTile_29 (by first | exact Or.inl rfl | exact Or.inr rfl | exact bz_01 _ | assumption) (by first | exact ⟨(bz_t (by unfold isT; omega)).symm, rfl⟩ | exact ⟨(bz_f (by unfold isT; omega)).symm, rfl⟩)
      · refine V_iload_n (i := 2) F dG_hasTile_16 rfl rfl ?_
        refine V_aload_n (i := 0) F dG_hasTile_17 rfl rfl ?_
        refine V_geti (ci := 0) (C := R_G) (T := T_G) (N := 5) F dG_hasTile_18 (by first | rfl | assumption) rfl (j := 1) 1 rfl (by decide) rfl lfG_25 ?_
        refine V_icmp_ge F 28 dG_hasTile_21 (by decide) (fun h21 => ?_) (fun h21 => ?_)
        · refine V_iconst F dG_hasTile_28 (by decide) ?_
          exact hR _ _ _ _ dG_hasTile_29 (by first | exact Or.inl rfl | exact Or.inr rfl | exact bz_01 _ | assumption) (by first | exact ⟨(bz_t (by unfold isT; omega)).symm, rfl⟩ | exact ⟨(bz_f (by unfold isT; omega)).symm, rfl⟩)
        · refine V_iconst F dG_hasTile_24 (by decide) ?_
          refine V_goto F 29 dG_hasTile_25 (by decide) ?_
          exact hR _ _ _ _ dG_hasTile_29 (by first | exact Or.inl rfl | exact Or.inr rfl | exact bz_01 _ | assumption) (by first | exact ⟨(bz_t (by unfold isT; omega)).symm, rfl⟩ | exact ⟨(bz_f (by unfold isT; omega)).symm, rfl⟩)
theorem ctG_hasPiece {G : vG} {l : Launch} {w : RW} {t p : Int} (ht : 0 ≤ t ∧ t < 64) (hp : 0 ≤ p ∧ p < 31) (hw : 0 ≤ w 3 t) : CTi G l yG_hasPiece cG_hasPiece 3 .boolean 0 [.inr 2, .inl t, .inl p] w (fun r u => r = bz (tb (w 3 t) p) ∧ w = u) := by
  refine CTi.bool (by decide) (Nat.le_of_ble_eq_true rfl) ?_
  intro X Q F hX hR
  subst hX
  show V G X 3 Q 0 [some (.inr 2), some (.inl t), some (.inl p)] [] w
  refine V_w (fun hg => ?_)
  have hg1 := (hg 3 t).2
  refine V_aload_n (i := 0) F dG_hasPiece_0 rfl rfl ?_
  refine V_getr (ci := 0) (C := R_G) (T := T_G) (N := 5) F dG_hasPiece_1 (by first | rfl | assumption) rfl (j := 2) (by decide) rfl lfG_9 ?_
  refine V_iload_n (i := 1) F dG_hasPiece_4 rfl rfl ?_
  first
    | refine V_sald F dG_hasPiece_5 (by decide) (by omega) (stt_in _ _) ?_
    | refine V_iald F dG_hasPiece_5 (by first | rfl | assumption) rfl (by omega) ?_
  refine V_iload_n (i := 2) F dG_hasPiece_6 rfl rfl ?_
  refine V_ishr F _ dG_hasPiece_7 rfl ?_
  refine V_iconst F dG_hasPiece_8 (by decide) ?_
  refine V_iand F _ dG_hasPiece_9 (bit_1 ⟨hw, hg1⟩ (by omega)) ?_
  refine V_if_eq F 17 dG_hasPiece_10 (by decide) (fun h10 => ?_) (fun h10 => ?_)
  · first | (replace h10 := bz_ne0.mp h10) | (replace h10 := bz_eq0.mp h10) | skip
    refine V_iconst F dG_hasPiece_17 (by decide) ?_
    exact hR _ _ _ _ dG_hasPiece_18 (by first | exact Or.inl rfl | exact Or.inr rfl | exact bz_01 _ | assumption) (by first | exact ⟨(bz_t (by assumption)).symm, rfl⟩ | exact ⟨(bz_f (by assumption)).symm, rfl⟩)
  · first | (replace h10 := bz_ne0.mp h10) | (replace h10 := bz_eq0.mp h10) | skip
    refine V_iconst F dG_hasPiece_13 (by decide) ?_
    refine V_goto F 18 dG_hasPiece_14 (by decide) ?_
    exact hR _ _ _ _ dG_hasPiece_18 (by first | exact Or.inl rfl | exact Or.inr rfl | exact bz_01 _ | assumption) (by first | exact ⟨(bz_t (by assumption)).symm, rfl⟩ | exact ⟨(bz_f (by assumption)).symm, rfl⟩)
theorem ctG_hasTrack {G : vG} {l : Launch} {w : RW} {x y p : Int} (hb : w 2 0 ≤ 8 ∧ w 2 1 ≤ 8) (hw : ∀ t, 0 ≤ t → t < 64 → 0 ≤ w 3 t) : CTi G l yG_hasTrack cG_hasTrack 4 .boolean 1 [.inr 2, .inl x, .inl y, .inl p] w (fun r u => r = bz (isT (w 2 0) (w 2 1) x y ∧ (0 ≤ p ∧ p < 6) ∧ tb (w 3 (x + 8 * y)) p) ∧ w = u) := by
  refine CTi.bool (by decide) (Nat.le_of_ble_eq_true rfl) ?_
  intro X Q F hX hR
  subst hX
  show V G X 4 Q 0 [some (.inr 2), some (.inl x), some (.inl y), some (.inl p)] [] w
  refine V_aload_n (i := 0) F dG_hasTrack_0 rfl rfl ?_
  refine V_iload_n (i := 1) F dG_hasTrack_1 rfl rfl ?_
  refine V_iload_n (i := 2) F dG_hasTrack_2 rfl rfl ?_
  refine V_callVi F dG_hasTrack_3 lmG_40 miG_hasTile mvG_hasTile (ctG_hasTile) (by decide) (by first | rfl | assumption) rfl rfl (Nat.le_of_ble_eq_true rfl) (fun r u hr => ?_)
  obtain ⟨rfl, rfl⟩ := hr
  refine V_if_eq F 36 dG_hasTrack_6 (by decide) (fun h6 => ?_) (fun h6 => ?_)
  · first | (replace h6 := bz_ne0.mp h6) | (replace h6 := bz_eq0.mp h6) | skip
    refine V_iconst F dG_hasTrack_36 (by decide) ?_
    exact hR _ _ _ _ dG_hasTrack_37 (by first | exact Or.inl rfl | exact Or.inr rfl | exact bz_01 _ | assumption) (by first | exact ⟨(bz_t ⟨h6, by omega, by assumption⟩).symm, rfl⟩ | exact ⟨(bz_f (fun q => absurd q.1 (by assumption))).symm, rfl⟩ | exact ⟨(bz_f (fun q => absurd q.2.2 (by assumption))).symm, rfl⟩ | exact ⟨(bz_f (fun q => absurd q.2.1 (by omega))).symm, rfl⟩)
  · first | (replace h6 := bz_ne0.mp h6) | (replace h6 := bz_eq0.mp h6) | skip
    refine V_iload_n (i := 3) F dG_hasTrack_9 rfl rfl ?_
    refine V_if_lt F 36 dG_hasTrack_10 (by decide) (fun h10 => ?_) (fun h10 => ?_)
    · first | (replace h10 := bz_ne0.mp h10) | (replace h10 := bz_eq0.mp h10) | skip
      refine V_iconst F dG_hasTrack_36 (by decide) ?_
      exact hR _ _ _ _ dG_hasTrack_37 (by first | exact Or.inl rfl | exact Or.inr rfl | exact bz_01 _ | assumption) (by first | exact ⟨(bz_t ⟨h6, by omega, by assumption⟩).symm, rfl⟩ | exact ⟨(bz_f (fun q => absurd q.1 (by assumption))).symm, rfl⟩ | exact ⟨(bz_f (fun q => absurd q.2.2 (by assumption))).symm, rfl⟩ | exact ⟨(bz_f (fun q => absurd q.2.1 (by omega))).symm, rfl⟩)
    · first | (replace h10 := bz_ne0.mp h10) | (replace h10 := bz_eq0.mp h10) | skip
      refine V_iload_n (i := 3) F dG_hasTrack_13 rfl rfl ?_
      refine V_bipush F dG_hasTrack_14 (by decide) ?_
      refine V_icmp_ge F 36 dG_hasTrack_16 (by decide) (fun h16 => ?_) (fun h16 => ?_)
      · first | (replace h16 := bz_ne0.mp h16) | (replace h16 := bz_eq0.mp h16) | skip
        refine V_iconst F dG_hasTrack_36 (by decide) ?_
        exact hR _ _ _ _ dG_hasTrack_37 (by first | exact Or.inl rfl | exact Or.inr rfl | exact bz_01 _ | assumption) (by first | exact ⟨(bz_t ⟨h6, by omega, by assumption⟩).symm, rfl⟩ | exact ⟨(bz_f (fun q => absurd q.1 (by assumption))).symm, rfl⟩ | exact ⟨(bz_f (fun q => absurd q.2.2 (by assumption))).symm, rfl⟩ | exact ⟨(bz_f (fun q => absurd q.2.1 (by omega))).symm, rfl⟩)
      · first | (replace h16 := bz_ne0.mp h16) | (replace h16 := bz_eq0.mp h16) | skip
        have hxy : 0 ≤ x ∧ x < w 2 0 ∧ 0 ≤ y ∧ y < w 2 1 := h6
        refine V_aload_n (i := 0) F dG_hasTrack_19 rfl rfl ?_
        refine V_iload_n (i := 1) F dG_hasTrack_20 rfl rfl ?_
        refine V_iload_n (i := 2) F dG_hasTrack_21 rfl rfl ?_
        refine V_callSi F dG_hasTrack_22 lmG_44 miS_tile msS_tile (ctS_tile (by omega)) (by decide) rfl (Nat.le_of_ble_eq_true rfl) (fun r u hr => ?_)
        obtain ⟨rfl, rfl⟩ := hr
        refine V_iload_n (i := 3) F dG_hasTrack_25 rfl rfl ?_
        refine V_callVi F dG_hasTrack_26 lmG_50 miG_hasPiece mvG_hasPiece (ctG_hasPiece (by omega) (by omega) (hw _ (by omega) (by omega))) (by decide) (by first | rfl | assumption) rfl rfl (Nat.le_of_ble_eq_true rfl) (fun r u hr => ?_)
        obtain ⟨rfl, rfl⟩ := hr
        refine V_if_eq F 36 dG_hasTrack_29 (by decide) (fun h29 => ?_) (fun h29 => ?_)
        · first | (replace h29 := bz_ne0.mp h29) | (replace h29 := bz_eq0.mp h29) | skip
          refine V_iconst F dG_hasTrack_36 (by decide) ?_
          exact hR _ _ _ _ dG_hasTrack_37 (by first | exact Or.inl rfl | exact Or.inr rfl | exact bz_01 _ | assumption) (by first | exact ⟨(bz_t ⟨h6, by omega, by assumption⟩).symm, rfl⟩ | exact ⟨(bz_f (fun q => absurd q.1 (by assumption))).symm, rfl⟩ | exact ⟨(bz_f (fun q => absurd q.2.2 (by assumption))).symm, rfl⟩ | exact ⟨(bz_f (fun q => absurd q.2.1 (by omega))).symm, rfl⟩)
        · first | (replace h29 := bz_ne0.mp h29) | (replace h29 := bz_eq0.mp h29) | skip
          refine V_iconst F dG_hasTrack_32 (by decide) ?_
          refine V_goto F 37 dG_hasTrack_33 (by decide) ?_
          exact hR _ _ _ _ dG_hasTrack_37 (by first | exact Or.inl rfl | exact Or.inr rfl | exact bz_01 _ | assumption) (by first | exact ⟨(bz_t ⟨h6, by omega, by assumption⟩).symm, rfl⟩ | exact ⟨(bz_f (fun q => absurd q.1 (by assumption))).symm, rfl⟩ | exact ⟨(bz_f (fun q => absurd q.2.2 (by assumption))).symm, rfl⟩ | exact ⟨(bz_f (fun q => absurd q.2.1 (by omega))).symm, rfl⟩)
theorem ctG_meets {G : vG} {l : Launch} {w : RW} {t p e : Int} (ht : 0 ≤ t ∧ t < 64) (hp : 0 ≤ p ∧ p < 6) (hw : 0 ≤ w 3 t) : CTi G l yG_meets cG_meets 4 .boolean 1 [.inr 2, .inl t, .inl p, .inl e] w (fun r u => r = bz (tb (w 3 t) p ∧ hsE p e) ∧ w = u) := by
  refine CTi.bool (by decide) (Nat.le_of_ble_eq_true rfl) ?_
  intro X Q F hX hR
  subst hX
  show V G X 4 Q 0 [some (.inr 2), some (.inl t), some (.inl p), some (.inl e)] [] w
  refine V_aload_n (i := 0) F dG_meets_0 rfl rfl ?_
  refine V_iload_n (i := 1) F dG_meets_1 rfl rfl ?_
  refine V_iload_n (i := 2) F dG_meets_2 rfl rfl ?_
  refine V_callVi F dG_meets_3 lmG_50 miG_hasPiece mvG_hasPiece (ctG_hasPiece ht (by omega) hw) (by decide) (by first | rfl | assumption) rfl rfl (Nat.le_of_ble_eq_true rfl) (fun r u hr => ?_)
  obtain ⟨rfl, rfl⟩ := hr
  refine V_if_eq F 21 dG_meets_6 (by decide) (fun h6 => ?_) (fun h6 => ?_)
  · first | (replace h6 := bz_ne0.mp h6) | (replace h6 := bz_eq0.mp h6) | skip
    refine V_iconst F dG_meets_21 (by decide) ?_
    exact hR _ _ _ _ dG_meets_22 (by first | exact Or.inl rfl | exact Or.inr rfl | exact bz_01 _ | assumption) (by first | exact ⟨(bz_t ⟨by assumption, by assumption⟩).symm, rfl⟩ | exact ⟨(bz_f (fun q => absurd q.1 (by assumption))).symm, rfl⟩ | exact ⟨(bz_f (fun q => absurd q.2 (by assumption))).symm, rfl⟩)
  · first | (replace h6 := bz_ne0.mp h6) | (replace h6 := bz_eq0.mp h6) | skip
    refine V_iload_n (i := 2) F dG_meets_9 rfl rfl ?_
    refine V_iload_n (i := 3) F dG_meets_10 rfl rfl ?_
    refine V_callSi F dG_meets_11 lmG_53 miS_hasEdge msS_hasEdge (ctS_hasEdge hp) (by decide) rfl (Nat.le_of_ble_eq_true rfl) (fun r u hr => ?_)
    obtain ⟨rfl, rfl⟩ := hr
    refine V_if_eq F 21 dG_meets_14 (by decide) (fun h14 => ?_) (fun h14 => ?_)
    · first | (replace h14 := bz_ne0.mp h14) | (replace h14 := bz_eq0.mp h14) | skip
      refine V_iconst F dG_meets_21 (by decide) ?_
      exact hR _ _ _ _ dG_meets_22 (by first | exact Or.inl rfl | exact Or.inr rfl | exact bz_01 _ | assumption) (by first | exact ⟨(bz_t ⟨by assumption, by assumption⟩).symm, rfl⟩ | exact ⟨(bz_f (fun q => absurd q.1 (by assumption))).symm, rfl⟩ | exact ⟨(bz_f (fun q => absurd q.2 (by assumption))).symm, rfl⟩)
    · first | (replace h14 := bz_ne0.mp h14) | (replace h14 := bz_eq0.mp h14) | skip
      refine V_iconst F dG_meets_17 (by decide) ?_
      refine V_goto F 22 dG_meets_18 (by decide) ?_
      exact hR _ _ _ _ dG_meets_22 (by first | exact Or.inl rfl | exact Or.inr rfl | exact bz_01 _ | assumption) (by first | exact ⟨(bz_t ⟨by assumption, by assumption⟩).symm, rfl⟩ | exact ⟨(bz_f (fun q => absurd q.1 (by assumption))).symm, rfl⟩ | exact ⟨(bz_f (fun q => absurd q.2 (by assumption))).symm, rfl⟩)
def acX (t e : Int) : Int := if e = 1 then t % 8 + 1 else if e = 3 then t % 8 + -1 else t % 8
def acY (t e : Int) : Int := if e = 2 then t / 8 + 1 else if e = 0 then t / 8 + -1 else t / 8
noncomputable def acr (W H t e : Int) : Int := cif (isT W H (acX t e) (acY t e)) (acX t e + 8 * acY t e) (-1)
theorem ctG_across {G : vG} {l : Launch} {w : RW} {t e : Int} (ht : 0 ≤ t ∧ t < 64) (he : 0 ≤ e ∧ e < 4) : CTi G l yG_across cG_across 5 .int 1 [.inr 2, .inl t, .inl e] w (fun r u => r = acr (w 2 0) (w 2 1) t e ∧ w = u) := by
  refine CTi.int (by decide) (Nat.le_of_ble_eq_true rfl) ?_
  intro X Q F hX hR
  subst hX
  show V G X 5 Q 0 [some (.inr 2), some (.inl t), some (.inl e), none, none] [] w
  refine V_iload_n (i := 1) F dG_across_0 rfl rfl ?_
  refine V_bipush F dG_across_1 (by decide) ?_
  refine V_irem F dG_across_3 (by omega) ?_
  refine V_istore_n (i := 3) F dG_across_4 rfl (by decide) (by simp only [List.set_cons_zero, List.set_cons_succ]; exact rfl) ?_
  refine V_iload_n (i := 1) F dG_across_5 rfl rfl ?_
  refine V_bipush F dG_across_6 (by decide) ?_
  refine V_idiv F dG_across_8 (by omega) ?_
  refine V_istore F dG_across_9 (by decide) (by simp only [List.set_cons_zero, List.set_cons_succ]; exact rfl) ?_
  refine V_iload_n (i := 2) F dG_across_11 rfl rfl ?_
  rcases (show e = 0 ∨ e = 1 ∨ e = 2 ∨ e = 3 by omega) with rfl | rfl | rfl | rfl
  · refine V_tabIn F 40 dG_across_12 (by decide) rfl (by decide) ?_
    refine V_iinc F dG_across_40 (by decide) rfl (by omega) (by simp only [List.set_cons_zero, List.set_cons_succ]; exact rfl) ?_
    refine V_goto F 61 dG_across_43 (by decide) ?_
    refine V_aload_n (i := 0) F dG_across_61 rfl rfl ?_
    refine V_iload_n (i := 3) F dG_across_62 rfl rfl ?_
    refine V_iload F dG_across_63 rfl ?_
    refine V_callVi F dG_across_65 lmG_40 miG_hasTile mvG_hasTile (ctG_hasTile) (by decide) (by first | rfl | assumption) rfl rfl (Nat.le_of_ble_eq_true rfl) (fun r u hr => ?_)
    obtain ⟨rfl, rfl⟩ := hr
    refine V_if_eq F 80 dG_across_68 (by decide) (fun h68 => ?_) (fun h68 => ?_)
    · first | (replace h68 := bz_ne0.mp h68) | (replace h68 := bz_eq0.mp h68) | skip
      refine V_iconst F dG_across_80 (by decide) ?_
      exact hR _ _ _ _ dG_across_81 (by first | exact ⟨(cif_t (P := isT (w 2 0) (w 2 1) (acX t 0) (acY t 0)) h68).symm, rfl⟩ | exact ⟨(cif_f (P := isT (w 2 0) (w 2 1) (acX t 0) (acY t 0)) h68).symm, rfl⟩)
    · first | (replace h68 := bz_ne0.mp h68) | (replace h68 := bz_eq0.mp h68) | skip
      refine V_iload_n (i := 3) F dG_across_71 rfl rfl ?_
      refine V_iload F dG_across_72 rfl ?_
      refine V_callSi F dG_across_74 lmG_44 miS_tile msS_tile (ctS_tile (by omega)) (by decide) rfl (Nat.le_of_ble_eq_true rfl) (fun r u hr => ?_)
      obtain ⟨rfl, rfl⟩ := hr
      refine V_goto F 81 dG_across_77 (by decide) ?_
      exact hR _ _ _ _ dG_across_81 (by first | exact ⟨(cif_t (P := isT (w 2 0) (w 2 1) (acX t 0) (acY t 0)) h68).symm, rfl⟩ | exact ⟨(cif_f (P := isT (w 2 0) (w 2 1) (acX t 0) (acY t 0)) h68).symm, rfl⟩)
  · refine V_tabIn F 46 dG_across_12 (by decide) rfl (by decide) ?_
    refine V_iinc F dG_across_46 (by decide) rfl (by omega) (by simp only [List.set_cons_zero, List.set_cons_succ]; exact rfl) ?_
    refine V_goto F 61 dG_across_49 (by decide) ?_
    refine V_aload_n (i := 0) F dG_across_61 rfl rfl ?_
    refine V_iload_n (i := 3) F dG_across_62 rfl rfl ?_
    refine V_iload F dG_across_63 rfl ?_
    refine V_callVi F dG_across_65 lmG_40 miG_hasTile mvG_hasTile (ctG_hasTile) (by decide) (by first | rfl | assumption) rfl rfl (Nat.le_of_ble_eq_true rfl) (fun r u hr => ?_)
    obtain ⟨rfl, rfl⟩ := hr
    refine V_if_eq F 80 dG_across_68 (by decide) (fun h68 => ?_) (fun h68 => ?_)
    · first | (replace h68 := bz_ne0.mp h68) | (replace h68 := bz_eq0.mp h68) | skip
      refine V_iconst F dG_across_80 (by decide) ?_
      exact hR _ _ _ _ dG_across_81 (by first | exact ⟨(cif_t (P := isT (w 2 0) (w 2 1) (acX t 1) (acY t 1)) h68).symm, rfl⟩ | exact ⟨(cif_f (P := isT (w 2 0) (w 2 1) (acX t 1) (acY t 1)) h68).symm, rfl⟩)
    · first | (replace h68 := bz_ne0.mp h68) | (replace h68 := bz_eq0.mp h68) | skip
      refine V_iload_n (i := 3) F dG_across_71 rfl rfl ?_
      refine V_iload F dG_across_72 rfl ?_
      refine V_callSi F dG_across_74 lmG_44 miS_tile msS_tile (ctS_tile (by omega)) (by decide) rfl (Nat.le_of_ble_eq_true rfl) (fun r u hr => ?_)
      obtain ⟨rfl, rfl⟩ := hr
      refine V_goto F 81 dG_across_77 (by decide) ?_
      exact hR _ _ _ _ dG_across_81 (by first | exact ⟨(cif_t (P := isT (w 2 0) (w 2 1) (acX t 1) (acY t 1)) h68).symm, rfl⟩ | exact ⟨(cif_f (P := isT (w 2 0) (w 2 1) (acX t 1) (acY t 1)) h68).symm, rfl⟩)
  · refine V_tabIn F 52 dG_across_12 (by decide) rfl (by decide) ?_
    refine V_iinc F dG_across_52 (by decide) rfl (by omega) (by simp only [List.set_cons_zero, List.set_cons_succ]; exact rfl) ?_
    refine V_goto F 61 dG_across_55 (by decide) ?_
    refine V_aload_n (i := 0) F dG_across_61 rfl rfl ?_
    refine V_iload_n (i := 3) F dG_across_62 rfl rfl ?_
    refine V_iload F dG_across_63 rfl ?_
    refine V_callVi F dG_across_65 lmG_40 miG_hasTile mvG_hasTile (ctG_hasTile) (by decide) (by first | rfl | assumption) rfl rfl (Nat.le_of_ble_eq_true rfl) (fun r u hr => ?_)
    obtain ⟨rfl, rfl⟩ := hr
    refine V_if_eq F 80 dG_across_68 (by decide) (fun h68 => ?_) (fun h68 => ?_)
    · first | (replace h68 := bz_ne0.mp h68) | (replace h68 := bz_eq0.mp h68) | skip
      refine V_iconst F dG_across_80 (by decide) ?_
      exact hR _ _ _ _ dG_across_81 (by first | exact ⟨(cif_t (P := isT (w 2 0) (w 2 1) (acX t 2) (acY t 2)) h68).symm, rfl⟩ | exact ⟨(cif_f (P := isT (w 2 0) (w 2 1) (acX t 2) (acY t 2)) h68).symm, rfl⟩)
    · first | (replace h68 := bz_ne0.mp h68) | (replace h68 := bz_eq0.mp h68) | skip
      refine V_iload_n (i := 3) F dG_across_71 rfl rfl ?_
      refine V_iload F dG_across_72 rfl ?_
      refine V_callSi F dG_across_74 lmG_44 miS_tile msS_tile (ctS_tile (by omega)) (by decide) rfl (Nat.le_of_ble_eq_true rfl) (fun r u hr => ?_)
      obtain ⟨rfl, rfl⟩ := hr
      refine V_goto F 81 dG_across_77 (by decide) ?_
      exact hR _ _ _ _ dG_across_81 (by first | exact ⟨(cif_t (P := isT (w 2 0) (w 2 1) (acX t 2) (acY t 2)) h68).symm, rfl⟩ | exact ⟨(cif_f (P := isT (w 2 0) (w 2 1) (acX t 2) (acY t 2)) h68).symm, rfl⟩)
  · refine V_tabOut F 58 dG_across_12 (by decide) (by decide) ?_
    refine V_iinc F dG_across_58 (by decide) rfl (by omega) (by simp only [List.set_cons_zero, List.set_cons_succ]; exact rfl) ?_
    refine V_aload_n (i := 0) F dG_across_61 rfl rfl ?_
    refine V_iload_n (i := 3) F dG_across_62 rfl rfl ?_
    refine V_iload F dG_across_63 rfl ?_
    refine V_callVi F dG_across_65 lmG_40 miG_hasTile mvG_hasTile (ctG_hasTile) (by decide) (by first | rfl | assumption) rfl rfl (Nat.le_of_ble_eq_true rfl) (fun r u hr => ?_)
    obtain ⟨rfl, rfl⟩ := hr
    refine V_if_eq F 80 dG_across_68 (by decide) (fun h68 => ?_) (fun h68 => ?_)
    · first | (replace h68 := bz_ne0.mp h68) | (replace h68 := bz_eq0.mp h68) | skip
      refine V_iconst F dG_across_80 (by decide) ?_
      exact hR _ _ _ _ dG_across_81 (by first | exact ⟨(cif_t (P := isT (w 2 0) (w 2 1) (acX t 3) (acY t 3)) h68).symm, rfl⟩ | exact ⟨(cif_f (P := isT (w 2 0) (w 2 1) (acX t 3) (acY t 3)) h68).symm, rfl⟩)
    · first | (replace h68 := bz_ne0.mp h68) | (replace h68 := bz_eq0.mp h68) | skip
      refine V_iload_n (i := 3) F dG_across_71 rfl rfl ?_
      refine V_iload F dG_across_72 rfl ?_
      refine V_callSi F dG_across_74 lmG_44 miS_tile msS_tile (ctS_tile (by omega)) (by decide) rfl (Nat.le_of_ble_eq_true rfl) (fun r u hr => ?_)
      obtain ⟨rfl, rfl⟩ := hr
      refine V_goto F 81 dG_across_77 (by decide) ?_
      exact hR _ _ _ _ dG_across_81 (by first | exact ⟨(cif_t (P := isT (w 2 0) (w 2 1) (acX t 3) (acY t 3)) h68).symm, rfl⟩ | exact ⟨(cif_f (P := isT (w 2 0) (w 2 1) (acX t 3) (acY t 3)) h68).symm, rfl⟩)
def hdT (w : RW) (t : Int) : Prop := ∃ j, 0 ≤ j ∧ j < 6 ∧ ¬ w 5 (t + 64 * j) = -1
theorem lpG_isHeld {G : vG} {X : vX} {Q : State → Prop} {w : RW} {t : Int} (ht : 0 ≤ t ∧ t < 64) (F : FX G X cG_isHeld yG_isHeld.cls 3 1) (hR : RetZ G X cG_isHeld 3 Q (fun r u => r = bz (hdT w t) ∧ w = u)) : ∀ (m : Nat) (i : Int), 0 ≤ i → i ≤ 6 → 6 - i < m → (∀ j, 0 ≤ j → j < i → w 5 (t + 64 * j) = -1) → V G X 3 Q 2 [some (.inr 2), some (.inl t), some (.inl i)] [] w := by
  intro m
  induction m with
  | zero => intro i h1 h2 h3; omega
  | succ m ih =>
    intro i h1 h2 h3 hn
    refine V_iload_n (i := 2) F dG_isHeld_2 rfl rfl ?_
    refine V_bipush F dG_isHeld_3 (by decide) ?_
    refine V_icmp_ge F 30 dG_isHeld_5 (by decide) (fun h5 => ?_) (fun h5 => ?_)
    · refine V_iconst F dG_isHeld_30 (by decide) ?_
      exact hR _ _ _ _ dG_isHeld_31 (by first | exact Or.inl rfl | exact Or.inr rfl | exact bz_01 _ | assumption) (by first | exact ⟨(bz_t ⟨i, by omega, by omega, by assumption⟩).symm, rfl⟩ | exact ⟨(bz_f (fun q => by obtain ⟨j, h1, h2, h3⟩ := q; exact h3 (hn j h1 (by omega)))).symm, rfl⟩)
    · refine V_aload_n (i := 0) F dG_isHeld_8 rfl rfl ?_
      refine V_getr (ci := 0) (C := R_G) (T := T_G) (N := 5) F dG_isHeld_9 (by first | rfl | assumption) rfl (j := 4) (by decide) rfl lfG_18 ?_
      refine V_iload_n (i := 1) F dG_isHeld_12 rfl rfl ?_
      refine V_iload_n (i := 2) F dG_isHeld_13 rfl rfl ?_
      refine V_callSi F dG_isHeld_14 lmG_56 miS_place msS_place (ctS_place (by omega)) (by decide) rfl (Nat.le_of_ble_eq_true rfl) (fun r u hr => ?_)
      obtain ⟨rfl, rfl⟩ := hr
      first
        | refine V_sald F dG_isHeld_17 (by decide) (by omega) (stt_in _ _) ?_
        | refine V_iald F dG_isHeld_17 (by first | rfl | assumption) rfl (by omega) ?_
      refine V_iconst F dG_isHeld_18 (by decide) ?_
      refine V_icmp_eq F 24 dG_isHeld_19 (by decide) (fun h19 => ?_) (fun h19 => ?_)
      · refine V_iinc F dG_isHeld_24 (by decide) rfl (by omega) (by simp only [List.set_cons_zero, List.set_cons_succ]; exact rfl) ?_
        refine V_goto F 2 dG_isHeld_27 (by decide) ?_
        exact ih (i + 1) (by omega) (by omega) (by omega) (fun j h1 h2 => by
          by_cases hj : j = i
          · rw [hj]; omega
          · exact hn j h1 (by omega))
      · refine V_iconst F dG_isHeld_22 (by decide) ?_
        exact hR _ _ _ _ dG_isHeld_23 (by first | exact Or.inl rfl | exact Or.inr rfl | exact bz_01 _ | assumption) (by first | exact ⟨(bz_t ⟨i, by omega, by omega, by assumption⟩).symm, rfl⟩ | exact ⟨(bz_f (fun q => by obtain ⟨j, h1, h2, h3⟩ := q; exact h3 (hn j h1 (by omega)))).symm, rfl⟩)
theorem ctG_isHeld {G : vG} {l : Launch} {w : RW} {t : Int} (ht : 0 ≤ t ∧ t < 64) : CTi G l yG_isHeld cG_isHeld 3 .boolean 1 [.inr 2, .inl t] w (fun r u => r = bz (hdT w t) ∧ w = u) := by
  refine CTi.bool (by decide) (Nat.le_of_ble_eq_true rfl) ?_
  intro X Q F hX hR
  subst hX
  show V G X 3 Q 0 [some (.inr 2), some (.inl t), none] [] w
  refine V_iconst F dG_isHeld_0 (by decide) ?_
  refine V_istore_n (i := 2) F dG_isHeld_1 rfl (by decide) (by simp only [List.set_cons_zero, List.set_cons_succ]; exact rfl) ?_
  exact lpG_isHeld ht F hR 7 0 (by omega) (by omega) (by omega) (fun j h1 h2 => by omega)
theorem ctG_isLit {G : vG} {l : Launch} {w : RW} {x : Int} (h : 0 ≤ x ∧ x < 2048) (h2 : x % 512 < 384) (hw : 0 ≤ w 4 (x % 512)) : CTi G l yG_isLit cG_isLit 2 .boolean 1 [.inr 2, .inl x] w (fun r u => r = bz (tb (w 4 (x % 512)) (x / 512)) ∧ w = u) := by
  refine CTi.bool (by decide) (Nat.le_of_ble_eq_true rfl) ?_
  intro X Q F hX hR
  subst hX
  show V G X 2 Q 0 [some (.inr 2), some (.inl x)] [] w
  refine V_w (fun hg => ?_)
  have hg1 := (hg 4 (x % 512)).2
  refine V_aload_n (i := 0) F dG_isLit_0 rfl rfl ?_
  refine V_getr (ci := 0) (C := R_G) (T := T_G) (N := 5) F dG_isLit_1 (by first | rfl | assumption) rfl (j := 3) (by decide) rfl lfG_15 ?_
  refine V_iload_n (i := 1) F dG_isLit_4 rfl rfl ?_
  refine V_callSi F dG_isLit_5 lmG_59 miS_placeOf msS_placeOf (ctS_placeOf (by omega)) (by decide) rfl (Nat.le_of_ble_eq_true rfl) (fun r u hr => ?_)
  obtain ⟨rfl, rfl⟩ := hr
  first
    | refine V_sald F dG_isLit_8 (by decide) (by omega) (stt_in _ _) ?_
    | refine V_iald F dG_isLit_8 (by first | rfl | assumption) rfl (by omega) ?_
  refine V_iload_n (i := 1) F dG_isLit_9 rfl rfl ?_
  refine V_callSi F dG_isLit_10 lmG_63 miS_edgeOf msS_edgeOf (ctS_edgeOf (by omega)) (by decide) rfl (Nat.le_of_ble_eq_true rfl) (fun r u hr => ?_)
  obtain ⟨rfl, rfl⟩ := hr
  refine V_ishr F _ dG_isLit_13 rfl ?_
  refine V_iconst F dG_isLit_14 (by decide) ?_
  refine V_iand F _ dG_isLit_15 (bit_1 ⟨hw, hg1⟩ (by omega)) ?_
  refine V_if_eq F 23 dG_isLit_16 (by decide) (fun h16 => ?_) (fun h16 => ?_)
  · first | (replace h16 := bz_ne0.mp h16) | (replace h16 := bz_eq0.mp h16) | skip
    refine V_iconst F dG_isLit_23 (by decide) ?_
    exact hR _ _ _ _ dG_isLit_24 (by first | exact Or.inl rfl | exact Or.inr rfl | exact bz_01 _ | assumption) (by first | exact ⟨(bz_t (by assumption)).symm, rfl⟩ | exact ⟨(bz_f (by assumption)).symm, rfl⟩)
  · first | (replace h16 := bz_ne0.mp h16) | (replace h16 := bz_eq0.mp h16) | skip
    refine V_iconst F dG_isLit_19 (by decide) ?_
    refine V_goto F 24 dG_isLit_20 (by decide) ?_
    exact hR _ _ _ _ dG_isLit_24 (by first | exact Or.inl rfl | exact Or.inr rfl | exact bz_01 _ | assumption) (by first | exact ⟨(bz_t (by assumption)).symm, rfl⟩ | exact ⟨(bz_f (by assumption)).symm, rfl⟩)
noncomputable def gco (lit x : Int) : Int := if lit = 0 then (if x % 512 / 64 < 2 then 10 else 7) else cif (tb lit (x / 512)) ((if x % 512 / 64 < 2 then 10 else 7) + 5) 1048576
theorem ctG_cost {G : vG} {l : Launch} {w : RW} {x : Int} (h : 0 ≤ x ∧ x < 2048) (h2 : x % 512 < 384) (hw : 0 ≤ w 4 (x % 512)) : CTi G l yG_cost cG_cost 4 .int 1 [.inr 2, .inl x] w (fun r u => r = gco (w 4 (x % 512)) x ∧ w = u) := by
  refine CTi.int (by decide) (Nat.le_of_ble_eq_true rfl) ?_
  intro X Q F hX hR
  subst hX
  show V G X 4 Q 0 [some (.inr 2), some (.inl x), none, none] [] w
  refine V_w (fun hg => ?_)
  have hg1 := (hg 4 (x % 512)).2
  refine V_iload_n (i := 1) F dG_cost_0 rfl rfl ?_
  refine V_callSi F dG_cost_1 lmG_66 miS_pieceOf msS_pieceOf (ctS_pieceOf (by omega)) (by decide) rfl (Nat.le_of_ble_eq_true rfl) (fun r u hr => ?_)
  obtain ⟨rfl, rfl⟩ := hr
  refine V_iconst F dG_cost_4 (by decide) ?_
  refine V_icmp_ge F 13 dG_cost_5 (by decide) (fun h5 => ?_) (fun h5 => ?_)
  · first | (replace h5 := bz_ne0.mp h5) | (replace h5 := bz_eq0.mp h5) | skip
    refine V_bipush F dG_cost_13 (by decide) ?_
    refine V_istore_n (i := 2) F dG_cost_15 rfl (by decide) (by simp only [List.set_cons_zero, List.set_cons_succ]; exact rfl) ?_
    refine V_aload_n (i := 0) F dG_cost_16 rfl rfl ?_
    refine V_getr (ci := 0) (C := R_G) (T := T_G) (N := 5) F dG_cost_17 (by first | rfl | assumption) rfl (j := 3) (by decide) rfl lfG_15 ?_
    refine V_iload_n (i := 1) F dG_cost_20 rfl rfl ?_
    refine V_callSi F dG_cost_21 lmG_59 miS_placeOf msS_placeOf (ctS_placeOf (by omega)) (by decide) rfl (Nat.le_of_ble_eq_true rfl) (fun r u hr => ?_)
    obtain ⟨rfl, rfl⟩ := hr
    first
      | refine V_sald F dG_cost_24 (by decide) (by omega) (stt_in _ _) ?_
      | refine V_iald F dG_cost_24 (by first | rfl | assumption) rfl (by omega) ?_
    refine V_istore_n (i := 3) F dG_cost_25 rfl (by decide) (by simp only [List.set_cons_zero, List.set_cons_succ]; exact rfl) ?_
    refine V_iload_n (i := 3) F dG_cost_26 rfl rfl ?_
    refine V_if_ne F 32 dG_cost_27 (by decide) (fun h27 => ?_) (fun h27 => ?_)
    · first | (replace h27 := bz_ne0.mp h27) | (replace h27 := bz_eq0.mp h27) | skip
      refine V_iload_n (i := 3) F dG_cost_32 rfl rfl ?_
      refine V_iload_n (i := 1) F dG_cost_33 rfl rfl ?_
      refine V_callSi F dG_cost_34 lmG_63 miS_edgeOf msS_edgeOf (ctS_edgeOf (by omega)) (by decide) rfl (Nat.le_of_ble_eq_true rfl) (fun r u hr => ?_)
      obtain ⟨rfl, rfl⟩ := hr
      refine V_ishr F _ dG_cost_37 rfl ?_
      refine V_iconst F dG_cost_38 (by decide) ?_
      refine V_iand F _ dG_cost_39 (bit_1 ⟨hw, hg1⟩ (by omega)) ?_
      refine V_if_eq F 49 dG_cost_40 (by decide) (fun h40 => ?_) (fun h40 => ?_)
      · first | (replace h40 := bz_ne0.mp h40) | (replace h40 := bz_eq0.mp h40) | skip
        refine V_ldc F dG_cost_49 lcG_69 ⟨by decide, by decide⟩ ?_
        exact hR _ _ _ _ dG_cost_51 (by refine ⟨?_, rfl⟩; unfold gco; first | (rw [if_pos h27]; split <;> omega) | (rw [if_neg h27, cif_t h40]; split <;> omega) | (rw [if_neg h27, cif_f h40]))
      · first | (replace h40 := bz_ne0.mp h40) | (replace h40 := bz_eq0.mp h40) | skip
        refine V_iload_n (i := 2) F dG_cost_43 rfl rfl ?_
        refine V_iconst F dG_cost_44 (by decide) ?_
        refine V_iadd F dG_cost_45 (by omega) ?_
        refine V_goto F 51 dG_cost_46 (by decide) ?_
        exact hR _ _ _ _ dG_cost_51 (by refine ⟨?_, rfl⟩; unfold gco; first | (rw [if_pos h27]; split <;> omega) | (rw [if_neg h27, cif_t h40]; split <;> omega) | (rw [if_neg h27, cif_f h40]))
    · first | (replace h27 := bz_ne0.mp h27) | (replace h27 := bz_eq0.mp h27) | skip
      refine V_iload_n (i := 2) F dG_cost_30 rfl rfl ?_
      exact hR _ _ _ _ dG_cost_31 (by refine ⟨?_, rfl⟩; unfold gco; first | (rw [if_pos h27]; split <;> omega) | (rw [if_neg h27, cif_t h40]; split <;> omega) | (rw [if_neg h27, cif_f h40]))
  · first | (replace h5 := bz_ne0.mp h5) | (replace h5 := bz_eq0.mp h5) | skip
    refine V_bipush F dG_cost_8 (by decide) ?_
    refine V_goto F 15 dG_cost_10 (by decide) ?_
    refine V_istore_n (i := 2) F dG_cost_15 rfl (by decide) (by simp only [List.set_cons_zero, List.set_cons_succ]; exact rfl) ?_
    refine V_aload_n (i := 0) F dG_cost_16 rfl rfl ?_
    refine V_getr (ci := 0) (C := R_G) (T := T_G) (N := 5) F dG_cost_17 (by first | rfl | assumption) rfl (j := 3) (by decide) rfl lfG_15 ?_
    refine V_iload_n (i := 1) F dG_cost_20 rfl rfl ?_
    refine V_callSi F dG_cost_21 lmG_59 miS_placeOf msS_placeOf (ctS_placeOf (by omega)) (by decide) rfl (Nat.le_of_ble_eq_true rfl) (fun r u hr => ?_)
    obtain ⟨rfl, rfl⟩ := hr
    first
      | refine V_sald F dG_cost_24 (by decide) (by omega) (stt_in _ _) ?_
      | refine V_iald F dG_cost_24 (by first | rfl | assumption) rfl (by omega) ?_
    refine V_istore_n (i := 3) F dG_cost_25 rfl (by decide) (by simp only [List.set_cons_zero, List.set_cons_succ]; exact rfl) ?_
    refine V_iload_n (i := 3) F dG_cost_26 rfl rfl ?_
    refine V_if_ne F 32 dG_cost_27 (by decide) (fun h27 => ?_) (fun h27 => ?_)
    · first | (replace h27 := bz_ne0.mp h27) | (replace h27 := bz_eq0.mp h27) | skip
      refine V_iload_n (i := 3) F dG_cost_32 rfl rfl ?_
      refine V_iload_n (i := 1) F dG_cost_33 rfl rfl ?_
      refine V_callSi F dG_cost_34 lmG_63 miS_edgeOf msS_edgeOf (ctS_edgeOf (by omega)) (by decide) rfl (Nat.le_of_ble_eq_true rfl) (fun r u hr => ?_)
      obtain ⟨rfl, rfl⟩ := hr
      refine V_ishr F _ dG_cost_37 rfl ?_
      refine V_iconst F dG_cost_38 (by decide) ?_
      refine V_iand F _ dG_cost_39 (bit_1 ⟨hw, hg1⟩ (by omega)) ?_
      refine V_if_eq F 49 dG_cost_40 (by decide) (fun h40 => ?_) (fun h40 => ?_)
      · first | (replace h40 := bz_ne0.mp h40) | (replace h40 := bz_eq0.mp h40) | skip
        refine V_ldc F dG_cost_49 lcG_69 ⟨by decide, by decide⟩ ?_
        exact hR _ _ _ _ dG_cost_51 (by refine ⟨?_, rfl⟩; unfold gco; first | (rw [if_pos h27]; split <;> omega) | (rw [if_neg h27, cif_t h40]; split <;> omega) | (rw [if_neg h27, cif_f h40]))
      · first | (replace h40 := bz_ne0.mp h40) | (replace h40 := bz_eq0.mp h40) | skip
        refine V_iload_n (i := 2) F dG_cost_43 rfl rfl ?_
        refine V_iconst F dG_cost_44 (by decide) ?_
        refine V_iadd F dG_cost_45 (by omega) ?_
        refine V_goto F 51 dG_cost_46 (by decide) ?_
        exact hR _ _ _ _ dG_cost_51 (by refine ⟨?_, rfl⟩; unfold gco; first | (rw [if_pos h27]; split <;> omega) | (rw [if_neg h27, cif_t h40]; split <;> omega) | (rw [if_neg h27, cif_f h40]))
    · first | (replace h27 := bz_ne0.mp h27) | (replace h27 := bz_eq0.mp h27) | skip
      refine V_iload_n (i := 2) F dG_cost_30 rfl rfl ?_
      exact hR _ _ _ _ dG_cost_31 (by refine ⟨?_, rfl⟩; unfold gco; first | (rw [if_pos h27]; split <;> omega) | (rw [if_neg h27, cif_t h40]; split <;> omega) | (rw [if_neg h27, cif_f h40]))
