theorem dT_init_0 : decode cT_init 0 = .ok (.aload_n 0, 1) := by decide +kernel
theorem dT_init_1 : decode cT_init 1 = .ok (.invokespecial 3, 3) := by decide +kernel
theorem dT_init_4 : decode cT_init 4 = .ok (.return_, 1) := by decide +kernel
theorem dN_init_0 : decode cN_init 0 = .ok (.aload_n 0, 1) := by decide +kernel
theorem dN_init_1 : decode cN_init 1 = .ok (.invokespecial 3, 3) := by decide +kernel
theorem dN_init_4 : decode cN_init 4 = .ok (.aload_n 0, 1) := by decide +kernel
theorem dN_init_5 : decode cN_init 5 = .ok (.bipush 96, 2) := by decide +kernel
theorem dN_init_7 : decode cN_init 7 = .ok (.newarray .int, 2) := by decide +kernel
theorem dN_init_9 : decode cN_init 9 = .ok (.putfield 9, 3) := by decide +kernel
theorem dN_init_12 : decode cN_init 12 = .ok (.aload_n 0, 1) := by decide +kernel
theorem dN_init_13 : decode cN_init 13 = .ok (.bipush 6, 2) := by decide +kernel
theorem dN_init_15 : decode cN_init 15 = .ok (.newarray .int, 2) := by decide +kernel
theorem dN_init_17 : decode cN_init 17 = .ok (.putfield 15, 3) := by decide +kernel
theorem dN_init_20 : decode cN_init 20 = .ok (.return_, 1) := by decide +kernel
theorem dR_init_0 : decode cR_init 0 = .ok (.aload_n 0, 1) := by decide +kernel
theorem dR_init_1 : decode cR_init 1 = .ok (.invokespecial 3, 3) := by decide +kernel
theorem dR_init_4 : decode cR_init 4 = .ok (.aload_n 0, 1) := by decide +kernel
theorem dR_init_5 : decode cR_init 5 = .ok (.sipush 257, 3) := by decide +kernel
theorem dR_init_8 : decode cR_init 8 = .ok (.newarray .int, 2) := by decide +kernel
theorem dR_init_10 : decode cR_init 10 = .ok (.putfield 9, 3) := by decide +kernel
theorem dR_init_13 : decode cR_init 13 = .ok (.aload_n 0, 1) := by decide +kernel
theorem dR_init_14 : decode cR_init 14 = .ok (.bipush 64, 2) := by decide +kernel
theorem dR_init_16 : decode cR_init 16 = .ok (.newarray .int, 2) := by decide +kernel
theorem dR_init_18 : decode cR_init 18 = .ok (.putfield 15, 3) := by decide +kernel
theorem dR_init_21 : decode cR_init 21 = .ok (.return_, 1) := by decide +kernel
theorem dW_init_0 : decode cW_init 0 = .ok (.aload_n 0, 1) := by decide +kernel
theorem dW_init_1 : decode cW_init 1 = .ok (.invokespecial 3, 3) := by decide +kernel
theorem dW_init_4 : decode cW_init 4 = .ok (.aload_n 0, 1) := by decide +kernel
theorem dW_init_5 : decode cW_init 5 = .ok (.bipush 6, 2) := by decide +kernel
theorem dW_init_7 : decode cW_init 7 = .ok (.sipush 256, 3) := by decide +kernel
theorem dW_init_10 : decode cW_init 10 = .ok (.multianewarray 9 2, 4) := by decide +kernel
theorem dW_init_14 : decode cW_init 14 = .ok (.putfield 11, 3) := by decide +kernel
theorem dW_init_17 : decode cW_init 17 = .ok (.aload_n 0, 1) := by decide +kernel
theorem dW_init_18 : decode cW_init 18 = .ok (.sipush 256, 3) := by decide +kernel
theorem dW_init_21 : decode cW_init 21 = .ok (.newarray .int, 2) := by decide +kernel
theorem dW_init_23 : decode cW_init 23 = .ok (.putfield 16, 3) := by decide +kernel
theorem dW_init_26 : decode cW_init 26 = .ok (.aload_n 0, 1) := by decide +kernel
theorem dW_init_27 : decode cW_init 27 = .ok (.sipush 256, 3) := by decide +kernel
theorem dW_init_30 : decode cW_init 30 = .ok (.newarray .int, 2) := by decide +kernel
theorem dW_init_32 : decode cW_init 32 = .ok (.putfield 20, 3) := by decide +kernel
theorem dW_init_35 : decode cW_init 35 = .ok (.return_, 1) := by decide +kernel
theorem dG_init_0 : decode cG_init 0 = .ok (.aload_n 0, 1) := by decide +kernel
theorem dG_init_1 : decode cG_init 1 = .ok (.invokespecial 3, 3) := by decide +kernel
theorem dG_init_4 : decode cG_init 4 = .ok (.aload_n 0, 1) := by decide +kernel
theorem dG_init_5 : decode cG_init 5 = .ok (.bipush 64, 2) := by decide +kernel
theorem dG_init_7 : decode cG_init 7 = .ok (.newarray .int, 2) := by decide +kernel
theorem dG_init_9 : decode cG_init 9 = .ok (.putfield 9, 3) := by decide +kernel
theorem dG_init_12 : decode cG_init 12 = .ok (.aload_n 0, 1) := by decide +kernel
theorem dG_init_13 : decode cG_init 13 = .ok (.sipush 384, 3) := by decide +kernel
theorem dG_init_16 : decode cG_init 16 = .ok (.newarray .int, 2) := by decide +kernel
theorem dG_init_18 : decode cG_init 18 = .ok (.putfield 15, 3) := by decide +kernel
theorem dG_init_21 : decode cG_init 21 = .ok (.aload_n 0, 1) := by decide +kernel
theorem dG_init_22 : decode cG_init 22 = .ok (.sipush 384, 3) := by decide +kernel
theorem dG_init_25 : decode cG_init 25 = .ok (.newarray .int, 2) := by decide +kernel
theorem dG_init_27 : decode cG_init 27 = .ok (.putfield 18, 3) := by decide +kernel
theorem dG_init_30 : decode cG_init 30 = .ok (.aload_n 0, 1) := by decide +kernel
theorem dG_init_31 : decode cG_init 31 = .ok (.iload_n 1, 1) := by decide +kernel
theorem dG_init_32 : decode cG_init 32 = .ok (.putfield 21, 3) := by decide +kernel
theorem dG_init_35 : decode cG_init 35 = .ok (.aload_n 0, 1) := by decide +kernel
theorem dG_init_36 : decode cG_init 36 = .ok (.iload_n 2, 1) := by decide +kernel
theorem dG_init_37 : decode cG_init 37 = .ok (.putfield 25, 3) := by decide +kernel
theorem dG_init_40 : decode cG_init 40 = .ok (.aload_n 0, 1) := by decide +kernel
theorem dG_init_41 : decode cG_init 41 = .ok (.getfield 18, 3) := by decide +kernel
theorem dG_init_44 : decode cG_init 44 = .ok (.iconst (-1), 1) := by decide +kernel
theorem dG_init_45 : decode cG_init 45 = .ok (.invokestatic 28, 3) := by decide +kernel
theorem dG_init_48 : decode cG_init 48 = .ok (.return_, 1) := by decide +kernel
theorem loT : Cond.methodLink R_T 3 Lib.objectInit ∈ bigW := bw 155 (by decide +kernel) rfl
theorem lo_im : Cond.instanceMethod Lib.objectInit ∈ bigW := bw 57 (by decide +kernel) rfl
theorem lo_cd : Cond.code Lib.objectInit ⟨#[0xb1]⟩ 1 none ∈ bigW := bw 58 (by decide +kernel) rfl
theorem loN : Cond.methodLink R_N 3 Lib.objectInit ∈ bigW := bw 173 (by decide +kernel) rfl
theorem la_int : Cond.arrayClass .int ∈ bigW := bw 86 (by decide +kernel) rfl
theorem loR : Cond.methodLink R_R 3 Lib.objectInit ∈ bigW := bw 92 (by decide +kernel) rfl
theorem loW : Cond.methodLink R_W 3 Lib.objectInit ∈ bigW := bw 64 (by decide +kernel) rfl
theorem lkW_9 : Cond.classLink R_W 9 ("[" ++ (FieldType.array .int).toString) ∈ bigW := bw 65 (by decide +kernel) rfl
theorem loG : Cond.methodLink R_G 3 Lib.objectInit ∈ bigW := bw 127 (by decide +kernel) rfl
theorem lmG_28 : Cond.methodLink R_G 28 yA_fill ∈ bigW := bw 128 (by decide +kernel) rfl
def outT (G : vG) (h0 : Nat) : va_W := [co h0 1 [Value.int 0, Value.int 0, Value.int 0]]
theorem ctN_T {G : vG} {l : Launch} {ws : va_W} {h0 : Nat} : CTg G l yT_init cT_init 1 1 0 0 [.inr h0] Unit (ws ++ [co h0 1 [Value.int 0, Value.int 0, Value.int 0]]) (fun u => ws ++ outT G h0) := by
  refine CTg.intro (by decide) (Nat.le_of_ble_eq_true rfl) ?_
  intro X Q F hX hin hRc hRs hR
  subst hX
  show NJ G X 1 Q 0 0 0 [some (.inr h0)] [] (ws ++ [co h0 1 [Value.int 0, Value.int 0, Value.int 0]])
  refine N_aload_n (i := 0) F dT_init_0 rfl rfl ?_
  refine N_obj F (by decide) dT_init_1 loT lo_im lo_cd ?_
  exact hR _ _ () _ _ dT_init_4 (by decide) (by decide)
def outN (G : vG) (h0 : Nat) (u : Nat × Nat) : va_W := [co h0 3 [Value.ref u.1, Value.int 0, Value.int 0, Value.int 0, Value.int 0, Value.int 0, Value.ref u.2, Value.int 0, Value.int 0, Value.int 0], cz G u.1 0 96, cz G u.2 0 6]
theorem ctN_N {G : vG} {l : Launch} {ws : va_W} {h0 : Nat} : CTg G l yN_init cN_init 1 1 2 102 [.inr h0] (Nat × Nat) (ws ++ [co h0 3 [Value.null, Value.int 0, Value.int 0, Value.int 0, Value.int 0, Value.int 0, Value.null, Value.int 0, Value.int 0, Value.int 0]]) (fun u => ws ++ outN G h0 u) := by
  refine CTg.intro (by decide) (Nat.le_of_ble_eq_true rfl) ?_
  intro X Q F hX hin hRc hRs hR
  subst hX
  show NJ G X 1 Q 0 0 0 [some (.inr h0)] [] (ws ++ [co h0 3 [Value.null, Value.int 0, Value.int 0, Value.int 0, Value.int 0, Value.int 0, Value.null, Value.int 0, Value.int 0, Value.int 0]])
  refine N_aload_n (i := 0) F dN_init_0 rfl rfl ?_
  refine N_obj F (by decide) dN_init_1 loN lo_im lo_cd ?_
  refine N_aload_n (i := 0) F dN_init_4 rfl rfl ?_
  refine N_bipush F dN_init_5 (by decide) ?_
  refine N_newa F (t := 0) (n := 96) (ty := .int) dN_init_7 la_int rfl rfl rfl (by decide) (by decide) (by decide) (by rw [hRc]; decide) (by rw [hRs]; decide) (fun q1 => ?_)
  show NJ G X 1 Q 1 96 9 [some (.inr h0)] [.inr q1, .inr h0] (ws ++ [co h0 3 [Value.null, Value.int 0, Value.int 0, Value.int 0, Value.int 0, Value.int 0, Value.null, Value.int 0, Value.int 0, Value.int 0], cz G q1 0 96])
  refine N_putF F hin (ci := 3) (C := R_N) (T := T_N) (n := 10) (j := 0) (k := 0) (ty := (.array .int)) (cs' := [co h0 3 [Value.ref q1, Value.int 0, Value.int 0, Value.int 0, Value.int 0, Value.int 0, Value.null, Value.int 0, Value.int 0, Value.int 0], cz G q1 0 96]) dN_init_9 rfl rfl (by decide) lfN_9 rfl rfl (by decide +kernel) rfl rfl (Nat.le_of_ble_eq_true rfl) rfl ?_
  refine N_aload_n (i := 0) F dN_init_12 rfl rfl ?_
  refine N_bipush F dN_init_13 (by decide) ?_
  refine N_newa F (t := 0) (n := 6) (ty := .int) dN_init_15 la_int rfl rfl rfl (by decide) (by decide) (by decide) (by rw [hRc]; decide) (by rw [hRs]; decide) (fun q2 => ?_)
  show NJ G X 1 Q 2 102 17 [some (.inr h0)] [.inr q2, .inr h0] (ws ++ [co h0 3 [Value.ref q1, Value.int 0, Value.int 0, Value.int 0, Value.int 0, Value.int 0, Value.null, Value.int 0, Value.int 0, Value.int 0], cz G q1 0 96, cz G q2 0 6])
  refine N_putF F hin (ci := 3) (C := R_N) (T := T_N) (n := 10) (j := 0) (k := 6) (ty := (.array .int)) (cs' := [co h0 3 [Value.ref q1, Value.int 0, Value.int 0, Value.int 0, Value.int 0, Value.int 0, Value.ref q2, Value.int 0, Value.int 0, Value.int 0], cz G q1 0 96, cz G q2 0 6]) dN_init_17 rfl rfl (by decide) lfN_15 rfl rfl (by decide +kernel) rfl rfl (Nat.le_of_ble_eq_true rfl) rfl ?_
  exact hR _ _ (q1, q2) _ _ dN_init_20 (by decide) (by decide)
def outR (G : vG) (h0 : Nat) (u : Nat × Nat) : va_W := [co h0 2 [Value.ref u.1, Value.ref u.2, Value.int 0], cz G u.1 0 257, cz G u.2 0 64]
theorem ctN_R {G : vG} {l : Launch} {ws : va_W} {h0 : Nat} : CTg G l yR_init cR_init 1 1 2 321 [.inr h0] (Nat × Nat) (ws ++ [co h0 2 [Value.null, Value.null, Value.int 0]]) (fun u => ws ++ outR G h0 u) := by
  refine CTg.intro (by decide) (Nat.le_of_ble_eq_true rfl) ?_
  intro X Q F hX hin hRc hRs hR
  subst hX
  show NJ G X 1 Q 0 0 0 [some (.inr h0)] [] (ws ++ [co h0 2 [Value.null, Value.null, Value.int 0]])
  refine N_aload_n (i := 0) F dR_init_0 rfl rfl ?_
  refine N_obj F (by decide) dR_init_1 loR lo_im lo_cd ?_
  refine N_aload_n (i := 0) F dR_init_4 rfl rfl ?_
  refine N_sipush F dR_init_5 (by decide) ?_
  refine N_newa F (t := 0) (n := 257) (ty := .int) dR_init_8 la_int rfl rfl rfl (by decide) (by decide) (by decide) (by rw [hRc]; decide) (by rw [hRs]; decide) (fun q1 => ?_)
  show NJ G X 1 Q 1 257 10 [some (.inr h0)] [.inr q1, .inr h0] (ws ++ [co h0 2 [Value.null, Value.null, Value.int 0], cz G q1 0 257])
  refine N_putF F hin (ci := 2) (C := R_R) (T := T_R) (n := 3) (j := 0) (k := 0) (ty := (.array .int)) (cs' := [co h0 2 [Value.ref q1, Value.null, Value.int 0], cz G q1 0 257]) dR_init_10 rfl rfl (by decide) lfR_9 rfl rfl (by decide +kernel) rfl rfl (Nat.le_of_ble_eq_true rfl) rfl ?_
  refine N_aload_n (i := 0) F dR_init_13 rfl rfl ?_
  refine N_bipush F dR_init_14 (by decide) ?_
  refine N_newa F (t := 0) (n := 64) (ty := .int) dR_init_16 la_int rfl rfl rfl (by decide) (by decide) (by decide) (by rw [hRc]; decide) (by rw [hRs]; decide) (fun q2 => ?_)
  show NJ G X 1 Q 2 321 18 [some (.inr h0)] [.inr q2, .inr h0] (ws ++ [co h0 2 [Value.ref q1, Value.null, Value.int 0], cz G q1 0 257, cz G q2 0 64])
  refine N_putF F hin (ci := 2) (C := R_R) (T := T_R) (n := 3) (j := 0) (k := 1) (ty := (.array .int)) (cs' := [co h0 2 [Value.ref q1, Value.ref q2, Value.int 0], cz G q1 0 257, cz G q2 0 64]) dR_init_18 rfl rfl (by decide) lfR_15 rfl rfl (by decide +kernel) rfl rfl (Nat.le_of_ble_eq_true rfl) rfl ?_
  exact hR _ _ (q1, q2) _ _ dR_init_21 (by decide) (by decide)
def outW (G : vG) (h0 : Nat) (u : Nat × Nat × Nat) : va_W := [co h0 4 [Value.ref u.1, Value.int 0, Value.ref u.2.1, Value.ref u.2.2, Value.int 0, Value.int 0], cr G u.1 4 6 (fun j => if j < 6 then some (u.1 + 1 + j) else none), cz G (u.1 + 1) 0 256, cz G (u.1 + 2) 0 256, cz G (u.1 + 3) 0 256, cz G (u.1 + 4) 0 256, cz G (u.1 + 5) 0 256, cz G (u.1 + 6) 0 256, cz G u.2.1 0 256, cz G u.2.2 0 256]
theorem ctN_W {G : vG} {l : Launch} {ws : va_W} {h0 : Nat} : CTg G l yW_init cW_init 1 1 9 2054 [.inr h0] (Nat × Nat × Nat) (ws ++ [co h0 4 [Value.null, Value.int 0, Value.null, Value.null, Value.int 0, Value.int 0]]) (fun u => ws ++ outW G h0 u) := by
  refine CTg.intro (by decide) (Nat.le_of_ble_eq_true rfl) ?_
  intro X Q F hX hin hRc hRs hR
  subst hX
  show NJ G X 1 Q 0 0 0 [some (.inr h0)] [] (ws ++ [co h0 4 [Value.null, Value.int 0, Value.null, Value.null, Value.int 0, Value.int 0]])
  refine N_aload_n (i := 0) F dW_init_0 rfl rfl ?_
  refine N_obj F (by decide) dW_init_1 loW lo_im lo_cd ?_
  refine N_aload_n (i := 0) F dW_init_4 rfl rfl ?_
  refine N_bipush F dW_init_5 (by decide) ?_
  refine N_sipush F dW_init_7 (by decide) ?_
  refine N_multi F dW_init_10 lkW_9 la_int (by rw [hRc]; decide) (by rw [hRs]; decide) (fun q1 => ?_)
  show NJ G X 1 Q 7 1542 14 [some (.inr h0)] [.inr q1, .inr h0] (ws ++ [co h0 4 [Value.null, Value.int 0, Value.null, Value.null, Value.int 0, Value.int 0], cr G q1 4 6 (fun j => if j < 6 then some (q1 + 1 + j) else none), cz G (q1 + 1) 0 256, cz G (q1 + 2) 0 256, cz G (q1 + 3) 0 256, cz G (q1 + 4) 0 256, cz G (q1 + 5) 0 256, cz G (q1 + 6) 0 256])
  refine N_putF F hin (ci := 4) (C := R_W) (T := T_W) (n := 6) (j := 0) (k := 0) (ty := (.array (.array .int))) (cs' := [co h0 4 [Value.ref q1, Value.int 0, Value.null, Value.null, Value.int 0, Value.int 0], cr G q1 4 6 (fun j => if j < 6 then some (q1 + 1 + j) else none), cz G (q1 + 1) 0 256, cz G (q1 + 2) 0 256, cz G (q1 + 3) 0 256, cz G (q1 + 4) 0 256, cz G (q1 + 5) 0 256, cz G (q1 + 6) 0 256]) dW_init_14 rfl rfl (by decide) lfW_11 rfl rfl (by decide +kernel) rfl rfl (Nat.le_of_ble_eq_true rfl) rfl ?_
  refine N_aload_n (i := 0) F dW_init_17 rfl rfl ?_
  refine N_sipush F dW_init_18 (by decide) ?_
  refine N_newa F (t := 0) (n := 256) (ty := .int) dW_init_21 la_int rfl rfl rfl (by decide) (by decide) (by decide) (by rw [hRc]; decide) (by rw [hRs]; decide) (fun q2 => ?_)
  show NJ G X 1 Q 8 1798 23 [some (.inr h0)] [.inr q2, .inr h0] (ws ++ [co h0 4 [Value.ref q1, Value.int 0, Value.null, Value.null, Value.int 0, Value.int 0], cr G q1 4 6 (fun j => if j < 6 then some (q1 + 1 + j) else none), cz G (q1 + 1) 0 256, cz G (q1 + 2) 0 256, cz G (q1 + 3) 0 256, cz G (q1 + 4) 0 256, cz G (q1 + 5) 0 256, cz G (q1 + 6) 0 256, cz G q2 0 256])
  refine N_putF F hin (ci := 4) (C := R_W) (T := T_W) (n := 6) (j := 0) (k := 2) (ty := (.array .int)) (cs' := [co h0 4 [Value.ref q1, Value.int 0, Value.ref q2, Value.null, Value.int 0, Value.int 0], cr G q1 4 6 (fun j => if j < 6 then some (q1 + 1 + j) else none), cz G (q1 + 1) 0 256, cz G (q1 + 2) 0 256, cz G (q1 + 3) 0 256, cz G (q1 + 4) 0 256, cz G (q1 + 5) 0 256, cz G (q1 + 6) 0 256, cz G q2 0 256]) dW_init_23 rfl rfl (by decide) lfW_16 rfl rfl (by decide +kernel) rfl rfl (Nat.le_of_ble_eq_true rfl) rfl ?_
  refine N_aload_n (i := 0) F dW_init_26 rfl rfl ?_
  refine N_sipush F dW_init_27 (by decide) ?_
  refine N_newa F (t := 0) (n := 256) (ty := .int) dW_init_30 la_int rfl rfl rfl (by decide) (by decide) (by decide) (by rw [hRc]; decide) (by rw [hRs]; decide) (fun q3 => ?_)
  show NJ G X 1 Q 9 2054 32 [some (.inr h0)] [.inr q3, .inr h0] (ws ++ [co h0 4 [Value.ref q1, Value.int 0, Value.ref q2, Value.null, Value.int 0, Value.int 0], cr G q1 4 6 (fun j => if j < 6 then some (q1 + 1 + j) else none), cz G (q1 + 1) 0 256, cz G (q1 + 2) 0 256, cz G (q1 + 3) 0 256, cz G (q1 + 4) 0 256, cz G (q1 + 5) 0 256, cz G (q1 + 6) 0 256, cz G q2 0 256, cz G q3 0 256])
  refine N_putF F hin (ci := 4) (C := R_W) (T := T_W) (n := 6) (j := 0) (k := 3) (ty := (.array .int)) (cs' := [co h0 4 [Value.ref q1, Value.int 0, Value.ref q2, Value.ref q3, Value.int 0, Value.int 0], cr G q1 4 6 (fun j => if j < 6 then some (q1 + 1 + j) else none), cz G (q1 + 1) 0 256, cz G (q1 + 2) 0 256, cz G (q1 + 3) 0 256, cz G (q1 + 4) 0 256, cz G (q1 + 5) 0 256, cz G (q1 + 6) 0 256, cz G q2 0 256, cz G q3 0 256]) dW_init_32 rfl rfl (by decide) lfW_20 rfl rfl (by decide +kernel) rfl rfl (Nat.le_of_ble_eq_true rfl) rfl ?_
  exact hR _ _ (q1, q2, q3) _ _ dW_init_35 (by decide) (by decide)
def outG (G : vG) (a b : Int) (h0 : Nat) (u : Nat × Nat × Nat) : va_W := [co h0 0 [Value.int (Int32.ofInt a), Value.int (Int32.ofInt b), Value.ref u.1, Value.ref u.2.1, Value.ref u.2.2], cz G u.1 0 64, cz G u.2.1 0 384, cv G u.2.2 0 384 (fun _ => Int32.ofInt (-1))]
theorem ctN_G {G : vG} {l : Launch} {ws : va_W} {h0 : Nat} {a b : Int} : CTg G l yG_init cG_init 3 1 3 832 [.inr h0, .inl a, .inl b] (Nat × Nat × Nat) (ws ++ [co h0 0 [Value.int 0, Value.int 0, Value.null, Value.null, Value.null]]) (fun u => ws ++ outG G a b h0 u) := by
  refine CTg.intro (by decide) (Nat.le_of_ble_eq_true rfl) ?_
  intro X Q F hX hin hRc hRs hR
  subst hX
  show NJ G X 3 Q 0 0 0 [some (.inr h0), some (.inl a), some (.inl b)] [] (ws ++ [co h0 0 [Value.int 0, Value.int 0, Value.null, Value.null, Value.null]])
  refine N_aload_n (i := 0) F dG_init_0 rfl rfl ?_
  refine N_obj F (by decide) dG_init_1 loG lo_im lo_cd ?_
  refine N_aload_n (i := 0) F dG_init_4 rfl rfl ?_
  refine N_bipush F dG_init_5 (by decide) ?_
  refine N_newa F (t := 0) (n := 64) (ty := .int) dG_init_7 la_int rfl rfl rfl (by decide) (by decide) (by decide) (by rw [hRc]; decide) (by rw [hRs]; decide) (fun q1 => ?_)
  show NJ G X 3 Q 1 64 9 [some (.inr h0), some (.inl a), some (.inl b)] [.inr q1, .inr h0] (ws ++ [co h0 0 [Value.int 0, Value.int 0, Value.null, Value.null, Value.null], cz G q1 0 64])
  refine N_putF F hin (ci := 0) (C := R_G) (T := T_G) (n := 5) (j := 0) (k := 2) (ty := (.array .int)) (cs' := [co h0 0 [Value.int 0, Value.int 0, Value.ref q1, Value.null, Value.null], cz G q1 0 64]) dG_init_9 rfl rfl (by decide) lfG_9 rfl rfl (by decide +kernel) rfl rfl (Nat.le_of_ble_eq_true rfl) rfl ?_
  refine N_aload_n (i := 0) F dG_init_12 rfl rfl ?_
  refine N_sipush F dG_init_13 (by decide) ?_
  refine N_newa F (t := 0) (n := 384) (ty := .int) dG_init_16 la_int rfl rfl rfl (by decide) (by decide) (by decide) (by rw [hRc]; decide) (by rw [hRs]; decide) (fun q2 => ?_)
  show NJ G X 3 Q 2 448 18 [some (.inr h0), some (.inl a), some (.inl b)] [.inr q2, .inr h0] (ws ++ [co h0 0 [Value.int 0, Value.int 0, Value.ref q1, Value.null, Value.null], cz G q1 0 64, cz G q2 0 384])
  refine N_putF F hin (ci := 0) (C := R_G) (T := T_G) (n := 5) (j := 0) (k := 3) (ty := (.array .int)) (cs' := [co h0 0 [Value.int 0, Value.int 0, Value.ref q1, Value.ref q2, Value.null], cz G q1 0 64, cz G q2 0 384]) dG_init_18 rfl rfl (by decide) lfG_15 rfl rfl (by decide +kernel) rfl rfl (Nat.le_of_ble_eq_true rfl) rfl ?_
  refine N_aload_n (i := 0) F dG_init_21 rfl rfl ?_
  refine N_sipush F dG_init_22 (by decide) ?_
  refine N_newa F (t := 0) (n := 384) (ty := .int) dG_init_25 la_int rfl rfl rfl (by decide) (by decide) (by decide) (by rw [hRc]; decide) (by rw [hRs]; decide) (fun q3 => ?_)
  show NJ G X 3 Q 3 832 27 [some (.inr h0), some (.inl a), some (.inl b)] [.inr q3, .inr h0] (ws ++ [co h0 0 [Value.int 0, Value.int 0, Value.ref q1, Value.ref q2, Value.null], cz G q1 0 64, cz G q2 0 384, cz G q3 0 384])
  refine N_putF F hin (ci := 0) (C := R_G) (T := T_G) (n := 5) (j := 0) (k := 4) (ty := (.array .int)) (cs' := [co h0 0 [Value.int 0, Value.int 0, Value.ref q1, Value.ref q2, Value.ref q3], cz G q1 0 64, cz G q2 0 384, cz G q3 0 384]) dG_init_27 rfl rfl (by decide) lfG_18 rfl rfl (by decide +kernel) rfl rfl (Nat.le_of_ble_eq_true rfl) rfl ?_
  refine N_aload_n (i := 0) F dG_init_30 rfl rfl ?_
  refine N_iload_n (i := 1) F dG_init_31 rfl rfl ?_
  refine N_putF F hin (ci := 0) (C := R_G) (T := T_G) (n := 5) (j := 0) (k := 0) (ty := .int) (cs' := [co h0 0 [Value.int (Int32.ofInt a), Value.int 0, Value.ref q1, Value.ref q2, Value.ref q3], cz G q1 0 64, cz G q2 0 384, cz G q3 0 384]) dG_init_32 rfl rfl (by decide) lfG_21 rfl rfl (by decide +kernel) rfl rfl (Nat.le_of_ble_eq_true rfl) rfl ?_
  refine N_aload_n (i := 0) F dG_init_35 rfl rfl ?_
  refine N_iload_n (i := 2) F dG_init_36 rfl rfl ?_
  refine N_putF F hin (ci := 0) (C := R_G) (T := T_G) (n := 5) (j := 0) (k := 1) (ty := .int) (cs' := [co h0 0 [Value.int (Int32.ofInt a), Value.int (Int32.ofInt b), Value.ref q1, Value.ref q2, Value.ref q3], cz G q1 0 64, cz G q2 0 384, cz G q3 0 384]) dG_init_37 rfl rfl (by decide) lfG_25 rfl rfl (by decide +kernel) rfl rfl (Nat.le_of_ble_eq_true rfl) rfl ?_
  refine N_aload_n (i := 0) F dG_init_40 rfl rfl ?_
  refine N_getr F (ci := 0) (C := R_G) (T := T_G) (n := 5) (j := 0) (k := 4) (b := q3) dG_init_41 rfl rfl (by decide) lfG_18 rfl ?_
  refine N_iconst F dG_init_44 ?_
  refine N_callS F dG_init_45 lmG_28 miA_fill msA_fill (ctN_fill (by decide) (app_at (j := 3) rfl)) (by decide) (by rw [hRc]; decide) (by rw [hRs]; decide) rfl (Nat.le_of_ble_eq_true rfl) (fun _ => ?_)
  rw [app_set]
  show NJ G X 3 Q 3 832 48 [some (.inr h0), some (.inl a), some (.inl b)] [] (ws ++ [co h0 0 [Value.int (Int32.ofInt a), Value.int (Int32.ofInt b), Value.ref q1, Value.ref q2, Value.ref q3], cz G q1 0 64, cz G q2 0 384, cv G q3 0 384 (fun _ => Int32.ofInt (-1))])
  exact hR _ _ (q1, q2, q3) _ _ dG_init_48 (by decide) (by decide)
