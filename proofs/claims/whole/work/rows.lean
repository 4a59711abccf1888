section
-- ===== PART A: goes FIRST, ahead of the names: the tables' words, and 'selects' of the private methods out of them =====
/-- a private method of a class that the tables say can be made, by its rows of tables_1 -/
def lw_okq (q : MethodName × Nat) : Prop := (q.1.cls ≠ "java/lang/invoke/MethodHandle" ∧ q.1.cls ≠ "java/lang/invoke/VarHandle") ∧ Cond.instantiable q.1.cls q.2 ∈ tables_1 ∧ Cond.privateMethod q.1 ∈ tables_1 ∧ Cond.instanceMethod q.1 ∈ tables_1
theorem lw_p0 : lw_okq (⟨"RailYard", "growCargo", "()V"⟩, 5) := ⟨⟨by decide +kernel, by decide +kernel⟩, List.mem_of_getElem? (i := 14) (by decide +kernel), List.mem_of_getElem? (i := 393) (by decide +kernel), List.mem_of_getElem? (i := 394) (by decide +kernel)⟩
theorem lw_p1 : lw_okq (⟨"RailYard", "advance", "(I)I"⟩, 5) := ⟨⟨by decide +kernel, by decide +kernel⟩, List.mem_of_getElem? (i := 14) (by decide +kernel), List.mem_of_getElem? (i := 402) (by decide +kernel), List.mem_of_getElem? (i := 403) (by decide +kernel)⟩
theorem lw_p2 : lw_okq (⟨"RailYard", "goOnLoading", "(LRailYard$Train;)V"⟩, 5) := ⟨⟨by decide +kernel, by decide +kernel⟩, List.mem_of_getElem? (i := 14) (by decide +kernel), List.mem_of_getElem? (i := 406) (by decide +kernel), List.mem_of_getElem? (i := 407) (by decide +kernel)⟩
theorem lw_p3 : lw_okq (⟨"RailYard", "isDue", "(LRailYard$Train;)Z"⟩, 5) := ⟨⟨by decide +kernel, by decide +kernel⟩, List.mem_of_getElem? (i := 14) (by decide +kernel), List.mem_of_getElem? (i := 422) (by decide +kernel), List.mem_of_getElem? (i := 423) (by decide +kernel)⟩
theorem lw_p4 : lw_okq (⟨"RailYard", "makeRequest", "(I)I"⟩, 5) := ⟨⟨by decide +kernel, by decide +kernel⟩, List.mem_of_getElem? (i := 14) (by decide +kernel), List.mem_of_getElem? (i := 430) (by decide +kernel), List.mem_of_getElem? (i := 431) (by decide +kernel)⟩
theorem lw_p5 : lw_okq (⟨"RailYard$Ways", "offer", "(LRailYard$Grid;III)V"⟩, 6) := ⟨⟨by decide +kernel, by decide +kernel⟩, List.mem_of_getElem? (i := 22) (by decide +kernel), List.mem_of_getElem? (i := 443) (by decide +kernel), List.mem_of_getElem? (i := 444) (by decide +kernel)⟩
theorem lw_p6 : lw_okq (⟨"RailYard$Ways", "putInQueue", "(I)V"⟩, 6) := ⟨⟨by decide +kernel, by decide +kernel⟩, List.mem_of_getElem? (i := 22) (by decide +kernel), List.mem_of_getElem? (i := 460) (by decide +kernel), List.mem_of_getElem? (i := 461) (by decide +kernel)⟩
theorem lw_p7 : lw_okq (⟨"RailYard$Ways", "takeFromQueue", "()I"⟩, 6) := ⟨⟨by decide +kernel, by decide +kernel⟩, List.mem_of_getElem? (i := 22) (by decide +kernel), List.mem_of_getElem? (i := 466) (by decide +kernel), List.mem_of_getElem? (i := 467) (by decide +kernel)⟩
theorem lw_p8 : lw_okq (⟨"RailYard", "standsWaiting", "(LRailYard$Train;)Z"⟩, 5) := ⟨⟨by decide +kernel, by decide +kernel⟩, List.mem_of_getElem? (i := 14) (by decide +kernel), List.mem_of_getElem? (i := 553) (by decide +kernel), List.mem_of_getElem? (i := 554) (by decide +kernel)⟩
theorem lw_p9 : lw_okq (⟨"RailYardModel", "act", "(I)I"⟩, 32) := ⟨⟨by decide +kernel, by decide +kernel⟩, List.mem_of_getElem? (i := 589) (by decide +kernel), List.mem_of_getElem? (i := 697) (by decide +kernel), List.mem_of_getElem? (i := 698) (by decide +kernel)⟩
theorem lw_p10 : lw_okq (⟨"RailYardModel", "goal", "(I)I"⟩, 32) := ⟨⟨by decide +kernel, by decide +kernel⟩, List.mem_of_getElem? (i := 589) (by decide +kernel), List.mem_of_getElem? (i := 701) (by decide +kernel), List.mem_of_getElem? (i := 702) (by decide +kernel)⟩
theorem lw_p11 : lw_okq (⟨"RailYardModel", "due", "(I)Z"⟩, 32) := ⟨⟨by decide +kernel, by decide +kernel⟩, List.mem_of_getElem? (i := 589) (by decide +kernel), List.mem_of_getElem? (i := 705) (by decide +kernel), List.mem_of_getElem? (i := 706) (by decide +kernel)⟩
theorem lw_p12 : lw_okq (⟨"RailYardModel", "last", "(I)I"⟩, 32) := ⟨⟨by decide +kernel, by decide +kernel⟩, List.mem_of_getElem? (i := 589) (by decide +kernel), List.mem_of_getElem? (i := 709) (by decide +kernel), List.mem_of_getElem? (i := 710) (by decide +kernel)⟩
theorem lw_p13 : lw_okq (⟨"RailYardModel", "ahead", "(I)I"⟩, 32) := ⟨⟨by decide +kernel, by decide +kernel⟩, List.mem_of_getElem? (i := 589) (by decide +kernel), List.mem_of_getElem? (i := 713) (by decide +kernel), List.mem_of_getElem? (i := 714) (by decide +kernel)⟩
theorem lw_p14 : lw_okq (⟨"RailYardModel", "makeRequest", "(I)Z"⟩, 32) := ⟨⟨by decide +kernel, by decide +kernel⟩, List.mem_of_getElem? (i := 589) (by decide +kernel), List.mem_of_getElem? (i := 717) (by decide +kernel), List.mem_of_getElem? (i := 718) (by decide +kernel)⟩
theorem lw_p15 : lw_okq (⟨"RailYardModel", "measure", "(I)V"⟩, 32) := ⟨⟨by decide +kernel, by decide +kernel⟩, List.mem_of_getElem? (i := 589) (by decide +kernel), List.mem_of_getElem? (i := 721) (by decide +kernel), List.mem_of_getElem? (i := 722) (by decide +kernel)⟩
def lw_privs_1 : List (MethodName × Nat) := [(⟨"RailYard", "growCargo", "()V"⟩, 5), (⟨"RailYard", "advance", "(I)I"⟩, 5), (⟨"RailYard", "goOnLoading", "(LRailYard$Train;)V"⟩, 5), (⟨"RailYard", "isDue", "(LRailYard$Train;)Z"⟩, 5), (⟨"RailYard", "makeRequest", "(I)I"⟩, 5), (⟨"RailYard$Ways", "offer", "(LRailYard$Grid;III)V"⟩, 6), (⟨"RailYard$Ways", "putInQueue", "(I)V"⟩, 6), (⟨"RailYard$Ways", "takeFromQueue", "()I"⟩, 6), (⟨"RailYard", "standsWaiting", "(LRailYard$Train;)Z"⟩, 5), (⟨"RailYardModel", "act", "(I)I"⟩, 32), (⟨"RailYardModel", "goal", "(I)I"⟩, 32), (⟨"RailYardModel", "due", "(I)Z"⟩, 32), (⟨"RailYardModel", "last", "(I)I"⟩, 32), (⟨"RailYardModel", "ahead", "(I)I"⟩, 32), (⟨"RailYardModel", "makeRequest", "(I)Z"⟩, 32), (⟨"RailYardModel", "measure", "(I)V"⟩, 32)]
theorem lw_r1 : ∀ q ∈ lw_privs_1, lw_okq q := List.forall_mem_cons.mpr ⟨lw_p0, List.forall_mem_cons.mpr ⟨lw_p1, List.forall_mem_cons.mpr ⟨lw_p2, List.forall_mem_cons.mpr ⟨lw_p3, List.forall_mem_cons.mpr ⟨lw_p4, List.forall_mem_cons.mpr ⟨lw_p5, List.forall_mem_cons.mpr ⟨lw_p6, List.forall_mem_cons.mpr ⟨lw_p7, List.forall_mem_cons.mpr ⟨lw_p8, List.forall_mem_cons.mpr ⟨lw_p9, List.forall_mem_cons.mpr ⟨lw_p10, List.forall_mem_cons.mpr ⟨lw_p11, List.forall_mem_cons.mpr ⟨lw_p12, List.forall_mem_cons.mpr ⟨lw_p13, List.forall_mem_cons.mpr ⟨lw_p14, List.forall_mem_cons.mpr ⟨lw_p15, fun _ h => absurd h List.not_mem_nil⟩⟩⟩⟩⟩⟩⟩⟩⟩⟩⟩⟩⟩⟩⟩⟩
theorem lw_p16 : lw_okq (⟨"RailYardModel", "onward", "(II)I"⟩, 32) := ⟨⟨by decide +kernel, by decide +kernel⟩, List.mem_of_getElem? (i := 589) (by decide +kernel), List.mem_of_getElem? (i := 726) (by decide +kernel), List.mem_of_getElem? (i := 727) (by decide +kernel)⟩
theorem lw_p17 : lw_okq (⟨"RailYardModel", "behind", "(II)I"⟩, 32) := ⟨⟨by decide +kernel, by decide +kernel⟩, List.mem_of_getElem? (i := 589) (by decide +kernel), List.mem_of_getElem? (i := 730) (by decide +kernel), List.mem_of_getElem? (i := 731) (by decide +kernel)⟩
theorem lw_p18 : lw_okq (⟨"RailYardModel", "across", "(II)I"⟩, 32) := ⟨⟨by decide +kernel, by decide +kernel⟩, List.mem_of_getElem? (i := 589) (by decide +kernel), List.mem_of_getElem? (i := 743) (by decide +kernel), List.mem_of_getElem? (i := 744) (by decide +kernel)⟩
theorem lw_p19 : lw_okq (⟨"RailYardModel", "isTile", "(II)Z"⟩, 32) := ⟨⟨by decide +kernel, by decide +kernel⟩, List.mem_of_getElem? (i := 589) (by decide +kernel), List.mem_of_getElem? (i := 747) (by decide +kernel), List.mem_of_getElem? (i := 748) (by decide +kernel)⟩
theorem lw_p20 : lw_okq (⟨"RailYardModel", "open", "(I)Z"⟩, 32) := ⟨⟨by decide +kernel, by decide +kernel⟩, List.mem_of_getElem? (i := 589) (by decide +kernel), List.mem_of_getElem? (i := 751) (by decide +kernel), List.mem_of_getElem? (i := 752) (by decide +kernel)⟩
theorem lw_p21 : lw_okq (⟨"RailYardModel", "cost", "(I)I"⟩, 32) := ⟨⟨by decide +kernel, by decide +kernel⟩, List.mem_of_getElem? (i := 589) (by decide +kernel), List.mem_of_getElem? (i := 755) (by decide +kernel), List.mem_of_getElem? (i := 756) (by decide +kernel)⟩
theorem lw_p22 : lw_okq (⟨"RailYardModel", "signalled", "(I)Z"⟩, 32) := ⟨⟨by decide +kernel, by decide +kernel⟩, List.mem_of_getElem? (i := 589) (by decide +kernel), List.mem_of_getElem? (i := 759) (by decide +kernel), List.mem_of_getElem? (i := 760) (by decide +kernel)⟩
theorem lw_p23 : lw_okq (⟨"RailYardModel", "next", "(II)I"⟩, 32) := ⟨⟨by decide +kernel, by decide +kernel⟩, List.mem_of_getElem? (i := 589) (by decide +kernel), List.mem_of_getElem? (i := 763) (by decide +kernel), List.mem_of_getElem? (i := 764) (by decide +kernel)⟩
theorem lw_p24 : lw_okq (⟨"RailYardModel", "canGrant", "()Z"⟩, 32) := ⟨⟨by decide +kernel, by decide +kernel⟩, List.mem_of_getElem? (i := 589) (by decide +kernel), List.mem_of_getElem? (i := 767) (by decide +kernel), List.mem_of_getElem? (i := 768) (by decide +kernel)⟩
theorem lw_p25 : lw_okq (⟨"RailYardModel", "crossesItself", "()Z"⟩, 32) := ⟨⟨by decide +kernel, by decide +kernel⟩, List.mem_of_getElem? (i := 589) (by decide +kernel), List.mem_of_getElem? (i := 771) (by decide +kernel), List.mem_of_getElem? (i := 772) (by decide +kernel)⟩
theorem lw_p26 : lw_okq (⟨"RailYardModel", "barred", "(I)Z"⟩, 32) := ⟨⟨by decide +kernel, by decide +kernel⟩, List.mem_of_getElem? (i := 589) (by decide +kernel), List.mem_of_getElem? (i := 778) (by decide +kernel), List.mem_of_getElem? (i := 779) (by decide +kernel)⟩
theorem lw_p27 : lw_okq (⟨"RailYardModel", "bars", "(II)Z"⟩, 32) := ⟨⟨by decide +kernel, by decide +kernel⟩, List.mem_of_getElem? (i := 589) (by decide +kernel), List.mem_of_getElem? (i := 782) (by decide +kernel), List.mem_of_getElem? (i := 783) (by decide +kernel)⟩
theorem lw_p28 : lw_okq (⟨"RailYardModel", "grant", "(I)V"⟩, 32) := ⟨⟨by decide +kernel, by decide +kernel⟩, List.mem_of_getElem? (i := 589) (by decide +kernel), List.mem_of_getElem? (i := 786) (by decide +kernel), List.mem_of_getElem? (i := 787) (by decide +kernel)⟩
theorem lw_p29 : lw_okq (⟨"RailYardModel", "moveOn", "(I)V"⟩, 32) := ⟨⟨by decide +kernel, by decide +kernel⟩, List.mem_of_getElem? (i := 589) (by decide +kernel), List.mem_of_getElem? (i := 790) (by decide +kernel), List.mem_of_getElem? (i := 791) (by decide +kernel)⟩
theorem lw_p30 : lw_okq (⟨"RailYardModel", "tileHeld", "(II)Z"⟩, 32) := ⟨⟨by decide +kernel, by decide +kernel⟩, List.mem_of_getElem? (i := 589) (by decide +kernel), List.mem_of_getElem? (i := 798) (by decide +kernel), List.mem_of_getElem? (i := 799) (by decide +kernel)⟩
theorem lw_p31 : lw_okq (⟨"RailYardModel", "stationed", "(III)Z"⟩, 32) := ⟨⟨by decide +kernel, by decide +kernel⟩, List.mem_of_getElem? (i := 589) (by decide +kernel), List.mem_of_getElem? (i := 802) (by decide +kernel), List.mem_of_getElem? (i := 803) (by decide +kernel)⟩
def lw_privs_2 : List (MethodName × Nat) := [(⟨"RailYardModel", "onward", "(II)I"⟩, 32), (⟨"RailYardModel", "behind", "(II)I"⟩, 32), (⟨"RailYardModel", "across", "(II)I"⟩, 32), (⟨"RailYardModel", "isTile", "(II)Z"⟩, 32), (⟨"RailYardModel", "open", "(I)Z"⟩, 32), (⟨"RailYardModel", "cost", "(I)I"⟩, 32), (⟨"RailYardModel", "signalled", "(I)Z"⟩, 32), (⟨"RailYardModel", "next", "(II)I"⟩, 32), (⟨"RailYardModel", "canGrant", "()Z"⟩, 32), (⟨"RailYardModel", "crossesItself", "()Z"⟩, 32), (⟨"RailYardModel", "barred", "(I)Z"⟩, 32), (⟨"RailYardModel", "bars", "(II)Z"⟩, 32), (⟨"RailYardModel", "grant", "(I)V"⟩, 32), (⟨"RailYardModel", "moveOn", "(I)V"⟩, 32), (⟨"RailYardModel", "tileHeld", "(II)Z"⟩, 32), (⟨"RailYardModel", "stationed", "(III)Z"⟩, 32)]
theorem lw_r2 : ∀ q ∈ lw_privs_2, lw_okq q := List.forall_mem_cons.mpr ⟨lw_p16, List.forall_mem_cons.mpr ⟨lw_p17, List.forall_mem_cons.mpr ⟨lw_p18, List.forall_mem_cons.mpr ⟨lw_p19, List.forall_mem_cons.mpr ⟨lw_p20, List.forall_mem_cons.mpr ⟨lw_p21, List.forall_mem_cons.mpr ⟨lw_p22, List.forall_mem_cons.mpr ⟨lw_p23, List.forall_mem_cons.mpr ⟨lw_p24, List.forall_mem_cons.mpr ⟨lw_p25, List.forall_mem_cons.mpr ⟨lw_p26, List.forall_mem_cons.mpr ⟨lw_p27, List.forall_mem_cons.mpr ⟨lw_p28, List.forall_mem_cons.mpr ⟨lw_p29, List.forall_mem_cons.mpr ⟨lw_p30, List.forall_mem_cons.mpr ⟨lw_p31, fun _ h => absurd h List.not_mem_nil⟩⟩⟩⟩⟩⟩⟩⟩⟩⟩⟩⟩⟩⟩⟩⟩
theorem lw_p32 : lw_okq (⟨"RailYardModel", "changed", "()V"⟩, 32) := ⟨⟨by decide +kernel, by decide +kernel⟩, List.mem_of_getElem? (i := 589) (by decide +kernel), List.mem_of_getElem? (i := 806) (by decide +kernel), List.mem_of_getElem? (i := 807) (by decide +kernel)⟩
theorem lw_p33 : lw_okq (⟨"RailYardModel", "toward", "(IIII)I"⟩, 32) := ⟨⟨by decide +kernel, by decide +kernel⟩, List.mem_of_getElem? (i := 589) (by decide +kernel), List.mem_of_getElem? (i := 814) (by decide +kernel), List.mem_of_getElem? (i := 815) (by decide +kernel)⟩
theorem lw_p34 : lw_okq (⟨"RailYardModel", "isPiece", "(III)Z"⟩, 32) := ⟨⟨by decide +kernel, by decide +kernel⟩, List.mem_of_getElem? (i := 589) (by decide +kernel), List.mem_of_getElem? (i := 818) (by decide +kernel), List.mem_of_getElem? (i := 819) (by decide +kernel)⟩
theorem lw_p35 : lw_okq (⟨"RailYardModel", "before", "(I)I"⟩, 32) := ⟨⟨by decide +kernel, by decide +kernel⟩, List.mem_of_getElem? (i := 589) (by decide +kernel), List.mem_of_getElem? (i := 830) (by decide +kernel), List.mem_of_getElem? (i := 831) (by decide +kernel)⟩
theorem lw_p36 : lw_okq (⟨"RailYardModel", "isTrain", "(I)Z"⟩, 32) := ⟨⟨by decide +kernel, by decide +kernel⟩, List.mem_of_getElem? (i := 589) (by decide +kernel), List.mem_of_getElem? (i := 838) (by decide +kernel), List.mem_of_getElem? (i := 839) (by decide +kernel)⟩
theorem lw_p37 : lw_okq (⟨"RailYardModel", "waitsFor", "(I)I"⟩, 32) := ⟨⟨by decide +kernel, by decide +kernel⟩, List.mem_of_getElem? (i := 589) (by decide +kernel), List.mem_of_getElem? (i := 898) (by decide +kernel), List.mem_of_getElem? (i := 899) (by decide +kernel)⟩
def lw_privs_3 : List (MethodName × Nat) := [(⟨"RailYardModel", "changed", "()V"⟩, 32), (⟨"RailYardModel", "toward", "(IIII)I"⟩, 32), (⟨"RailYardModel", "isPiece", "(III)Z"⟩, 32), (⟨"RailYardModel", "before", "(I)I"⟩, 32), (⟨"RailYardModel", "isTrain", "(I)Z"⟩, 32), (⟨"RailYardModel", "waitsFor", "(I)I"⟩, 32)]
theorem lw_r3 : ∀ q ∈ lw_privs_3, lw_okq q := List.forall_mem_cons.mpr ⟨lw_p32, List.forall_mem_cons.mpr ⟨lw_p33, List.forall_mem_cons.mpr ⟨lw_p34, List.forall_mem_cons.mpr ⟨lw_p35, List.forall_mem_cons.mpr ⟨lw_p36, List.forall_mem_cons.mpr ⟨lw_p37, fun _ h => absurd h List.not_mem_nil⟩⟩⟩⟩⟩⟩
def lw_privs : List (MethodName × Nat) := lw_privs_1 ++ (lw_privs_2 ++ (lw_privs_3))
def lw_tbl : List Cond := k2_sels lw_privs ++ tables_1
theorem lw_privs_ok : ∀ q ∈ lw_privs, lw_okq q := by
  show ∀ q ∈ lw_privs_1 ++ (lw_privs_2 ++ (lw_privs_3)), lw_okq q
  exact List.forall_mem_append.mpr ⟨lw_r1, List.forall_mem_append.mpr ⟨lw_r2, lw_r3⟩⟩
end
section
/-! NAMES, printed by a program of mine out of the Statement and JAVAP.txt -/
def R_G : String := "RailYard$Grid"
def R_S : String := "RailYard$Spot"
def R_T : String := "RailYard$Station"
def R_R : String := "RailYard$Stretch"
def R_N : String := "RailYard$Train"
def R_W : String := "RailYard$Ways"
def R_Y : String := "RailYard$Yard"
def R_X : String := "RailYard"
def R_M : String := "RailYardModel"
def R_A : String := "java/util/Arrays"
def R_L : String := "RailYardLaw"
abbrev R_spot : String := R_S
def hostN : String := "RailYard"
def T_G : u_T := fun k => match k with
  | 0 => ("RailYard$Grid", "width", "I", true)
  | 1 => ("RailYard$Grid", "height", "I", true)
  | 2 => ("RailYard$Grid", "tracks", "[I", true)
  | 3 => ("RailYard$Grid", "lights", "[I", true)
  | _ => ("RailYard$Grid", "holders", "[I", true)
def ty_G : Nat → FieldType := fun k => match k with
  | 0 => .int
  | 1 => .int
  | 2 => .array .int
  | 3 => .array .int
  | _ => .array .int
def T_T : u_T := fun k => match k with
  | 0 => ("RailYard$Station", "place", "I", false)
  | 1 => ("RailYard$Station", "rate", "I", false)
  | _ => ("RailYard$Station", "cargo", "I", false)
def ty_T : Nat → FieldType := fun k => match k with
  | 0 => .int
  | 1 => .int
  | _ => .int
def T_R : u_T := fun k => match k with
  | 0 => ("RailYard$Stretch", "runs", "[I", true)
  | 1 => ("RailYard$Stretch", "covered", "[I", true)
  | _ => ("RailYard$Stretch", "count", "I", false)
def ty_R : Nat → FieldType := fun k => match k with
  | 0 => .array .int
  | 1 => .array .int
  | _ => .int
def T_N : u_T := fun k => match k with
  | 0 => ("RailYard$Train", "runs", "[I", true)
  | 1 => ("RailYard$Train", "count", "I", false)
  | 2 => ("RailYard$Train", "length", "I", false)
  | 3 => ("RailYard$Train", "speed", "I", false)
  | 4 => ("RailYard$Train", "loading", "I", false)
  | 5 => ("RailYard$Train", "cargo", "I", false)
  | 6 => ("RailYard$Train", "orders", "[I", true)
  | 7 => ("RailYard$Train", "orderCount", "I", false)
  | 8 => ("RailYard$Train", "turn", "I", false)
  | _ => ("RailYard$Train", "hasLoaded", "Z", false)
def ty_N : Nat → FieldType := fun k => match k with
  | 0 => .array .int
  | 1 => .int
  | 2 => .int
  | 3 => .int
  | 4 => .int
  | 5 => .int
  | 6 => .array .int
  | 7 => .int
  | 8 => .int
  | _ => .boolean
def T_W : u_T := fun k => match k with
  | 0 => ("RailYard$Ways", "least", "[[I", true)
  | 1 => ("RailYard$Ways", "known", "I", false)
  | 2 => ("RailYard$Ways", "queue", "[I", true)
  | 3 => ("RailYard$Ways", "queued", "[I", true)
  | 4 => ("RailYard$Ways", "queueStart", "I", false)
  | _ => ("RailYard$Ways", "queueCount", "I", false)
def ty_W : Nat → FieldType := fun k => match k with
  | 0 => .array (.array .int)
  | 1 => .int
  | 2 => .array .int
  | 3 => .array .int
  | 4 => .int
  | _ => .int
def T_Y : u_T := fun k => match k with
  | 0 => ("RailYard$Yard", "grid", "LRailYard$Grid;", true)
  | 1 => ("RailYard$Yard", "stations", "[LRailYard$Station;", true)
  | 2 => ("RailYard$Yard", "trains", "[LRailYard$Train;", true)
  | 3 => ("RailYard$Yard", "stationCount", "I", false)
  | 4 => ("RailYard$Yard", "trainCount", "I", false)
  | 5 => ("RailYard$Yard", "madeCargo", "I", false)
  | 6 => ("RailYard$Yard", "broughtCargo", "I", false)
  | _ => ("RailYard$Yard", "time", "I", false)
def ty_Y : Nat → FieldType := fun k => match k with
  | 0 => .object "RailYard$Grid"
  | 1 => .array (.object "RailYard$Station")
  | 2 => .array (.object "RailYard$Train")
  | 3 => .int
  | 4 => .int
  | 5 => .int
  | 6 => .int
  | _ => .int
def T_X : u_T := fun k => match k with
  | 0 => ("RailYard", "now", "LRailYard$Yard;", true)
  | 1 => ("RailYard", "kept", "LRailYard$Yard;", true)
  | 2 => ("RailYard", "ways", "LRailYard$Ways;", true)
  | 3 => ("RailYard", "wish", "LRailYard$Stretch;", true)
  | _ => ("RailYard", "waitsFor", "[I", true)
def ty_X : Nat → FieldType := fun k => match k with
  | 0 => .object "RailYard$Yard"
  | 1 => .object "RailYard$Yard"
  | 2 => .object "RailYard$Ways"
  | 3 => .object "RailYard$Stretch"
  | _ => .array .int
def T_M : u_T := fun k => match k with
  | 0 => ("RailYardModel", "width", "I", true)
  | 1 => ("RailYardModel", "height", "I", true)
  | 2 => ("RailYardModel", "laid", "[Z", false)
  | 3 => ("RailYardModel", "marks", "[I", false)
  | 4 => ("RailYardModel", "stations", "I", false)
  | 5 => ("RailYardModel", "spot", "[I", false)
  | 6 => ("RailYardModel", "rate", "[I", false)
  | 7 => ("RailYardModel", "waits", "[I", false)
  | 8 => ("RailYardModel", "known", "[Z", false)
  | 9 => ("RailYardModel", "far", "[I", false)
  | 10 => ("RailYardModel", "trains", "I", false)
  | 11 => ("RailYardModel", "row", "[I", false)
  | 12 => ("RailYardModel", "many", "[I", false)
  | 13 => ("RailYardModel", "size", "[I", false)
  | 14 => ("RailYardModel", "speed", "[I", false)
  | 15 => ("RailYardModel", "wait", "[I", false)
  | 16 => ("RailYardModel", "cargo", "[I", false)
  | 17 => ("RailYardModel", "loaded", "[Z", false)
  | 18 => ("RailYardModel", "orders", "[I", false)
  | 19 => ("RailYardModel", "orderCount", "[I", false)
  | 20 => ("RailYardModel", "turn", "[I", false)
  | 21 => ("RailYardModel", "asked", "I", false)
  | 22 => ("RailYardModel", "request", "[I", false)
  | 23 => ("RailYardModel", "made", "I", false)
  | 24 => ("RailYardModel", "brought", "I", false)
  | 25 => ("RailYardModel", "now", "I", false)
  | 26 => ("RailYardModel", "keptLaid", "[Z", false)
  | 27 => ("RailYardModel", "keptMarks", "[I", false)
  | 28 => ("RailYardModel", "keptRow", "[I", false)
  | 29 => ("RailYardModel", "keptTrain", "[I", false)
  | 30 => ("RailYardModel", "keptStation", "[I", false)
  | _ => ("RailYardModel", "keptNumbers", "[I", false)
def ty_M : Nat → FieldType := fun k => match k with
  | 0 => .int
  | 1 => .int
  | 2 => .array .boolean
  | 3 => .array .int
  | 4 => .int
  | 5 => .array .int
  | 6 => .array .int
  | 7 => .array .int
  | 8 => .array .boolean
  | 9 => .array .int
  | 10 => .int
  | 11 => .array .int
  | 12 => .array .int
  | 13 => .array .int
  | 14 => .array .int
  | 15 => .array .int
  | 16 => .array .int
  | 17 => .array .boolean
  | 18 => .array .int
  | 19 => .array .int
  | 20 => .array .int
  | 21 => .int
  | 22 => .array .int
  | 23 => .int
  | 24 => .int
  | 25 => .int
  | 26 => .array .boolean
  | 27 => .array .int
  | 28 => .array .int
  | 29 => .array .int
  | 30 => .array .int
  | _ => .array .int
abbrev cX_init : ByteArray := prog_1_method_1_code
def yX_init : MethodName := ⟨R_X, "<init>", "(II)V"⟩
abbrev cX_track : ByteArray := prog_1_method_2_code
def yX_track : MethodName := ⟨R_X, "track", "(IIIZ)Z"⟩
abbrev cX_signal : ByteArray := prog_1_method_3_code
def yX_signal : MethodName := ⟨R_X, "signal", "(IIIIZ)Z"⟩
abbrev cX_station : ByteArray := prog_1_method_4_code
def yX_station : MethodName := ⟨R_X, "station", "(IIII)I"⟩
abbrev cX_train : ByteArray := prog_1_method_5_code
def yX_train : MethodName := ⟨R_X, "train", "(IIIII)I"⟩
abbrev cX_order : ByteArray := prog_1_method_6_code
def yX_order : MethodName := ⟨R_X, "order", "(II)Z"⟩
abbrev cX_reverse : ByteArray := prog_1_method_7_code
def yX_reverse : MethodName := ⟨R_X, "reverse", "(I)Z"⟩
abbrev cX_tick : ByteArray := prog_1_method_8_code
def yX_tick : MethodName := ⟨R_X, "tick", "(I)I"⟩
abbrev cX_pieces : ByteArray := prog_1_method_9_code
def yX_pieces : MethodName := ⟨R_X, "pieces", "(II)I"⟩
abbrev cX_signals : ByteArray := prog_1_method_10_code
def yX_signals : MethodName := ⟨R_X, "signals", "(III)I"⟩
abbrev cX_holder : ByteArray := prog_1_method_11_code
def yX_holder : MethodName := ⟨R_X, "holder", "(III)I"⟩
abbrev cX_toGo : ByteArray := prog_1_method_12_code
def yX_toGo : MethodName := ⟨R_X, "toGo", "(IIIII)I"⟩
abbrev cX_held : ByteArray := prog_1_method_13_code
def yX_held : MethodName := ⟨R_X, "held", "(II)I"⟩
abbrev cX_motion : ByteArray := prog_1_method_14_code
def yX_motion : MethodName := ⟨R_X, "motion", "(I)I"⟩
abbrev cX_load : ByteArray := prog_1_method_15_code
def yX_load : MethodName := ⟨R_X, "load", "(I)I"⟩
abbrev cX_target : ByteArray := prog_1_method_16_code
def yX_target : MethodName := ⟨R_X, "target", "(I)I"⟩
abbrev cX_waiting : ByteArray := prog_1_method_17_code
def yX_waiting : MethodName := ⟨R_X, "waiting", "(I)I"⟩
abbrev cX_produced : ByteArray := prog_1_method_18_code
def yX_produced : MethodName := ⟨R_X, "produced", "()I"⟩
abbrev cX_delivered : ByteArray := prog_1_method_19_code
def yX_delivered : MethodName := ⟨R_X, "delivered", "()I"⟩
abbrev cX_blocked : ByteArray := prog_1_method_20_code
def yX_blocked : MethodName := ⟨R_X, "blocked", "()I"⟩
abbrev cX_clock : ByteArray := prog_1_method_21_code
def yX_clock : MethodName := ⟨R_X, "clock", "()I"⟩
abbrev cX_save : ByteArray := prog_1_method_22_code
def yX_save : MethodName := ⟨R_X, "save", "()V"⟩
abbrev cX_restore : ByteArray := prog_1_method_23_code
def yX_restore : MethodName := ⟨R_X, "restore", "()V"⟩
abbrev cX_growCargo : ByteArray := prog_1_method_24_code
def yX_growCargo : MethodName := ⟨R_X, "growCargo", "()V"⟩
abbrev cX_advance : ByteArray := prog_1_method_25_code
def yX_advance : MethodName := ⟨R_X, "advance", "(I)I"⟩
abbrev cX_goOnLoading : ByteArray := prog_1_method_26_code
def yX_goOnLoading : MethodName := ⟨R_X, "goOnLoading", "(LRailYard$Train;)V"⟩
abbrev cX_isDue : ByteArray := prog_1_method_27_code
def yX_isDue : MethodName := ⟨R_X, "isDue", "(LRailYard$Train;)Z"⟩
abbrev cX_standsWaiting : ByteArray := prog_1_method_28_code
def yX_standsWaiting : MethodName := ⟨R_X, "standsWaiting", "(LRailYard$Train;)Z"⟩
abbrev cX_makeRequest : ByteArray := prog_1_method_29_code
def yX_makeRequest : MethodName := ⟨R_X, "makeRequest", "(I)I"⟩
abbrev cM_init : ByteArray := prog_10_method_1_code
def yM_init : MethodName := ⟨R_M, "<init>", "(II)V"⟩
abbrev cM_firstEdge : ByteArray := prog_10_method_2_code
def yM_firstEdge : MethodName := ⟨R_M, "firstEdge", "(I)I"⟩
abbrev cM_secondEdge : ByteArray := prog_10_method_3_code
def yM_secondEdge : MethodName := ⟨R_M, "secondEdge", "(I)I"⟩
abbrev cM_edgeOf : ByteArray := prog_10_method_4_code
def yM_edgeOf : MethodName := ⟨R_M, "edgeOf", "(I)I"⟩
abbrev cM_isTile : ByteArray := prog_10_method_5_code
def yM_isTile : MethodName := ⟨R_M, "isTile", "(II)Z"⟩
abbrev cM_isPiece : ByteArray := prog_10_method_6_code
def yM_isPiece : MethodName := ⟨R_M, "isPiece", "(III)Z"⟩
abbrev cM_toward : ByteArray := prog_10_method_7_code
def yM_toward : MethodName := ⟨R_M, "toward", "(IIII)I"⟩
abbrev cM_open : ByteArray := prog_10_method_8_code
def yM_open : MethodName := ⟨R_M, "open", "(I)Z"⟩
abbrev cM_signalled : ByteArray := prog_10_method_9_code
def yM_signalled : MethodName := ⟨R_M, "signalled", "(I)Z"⟩
abbrev cM_cost : ByteArray := prog_10_method_10_code
def yM_cost : MethodName := ⟨R_M, "cost", "(I)I"⟩
abbrev cM_across : ByteArray := prog_10_method_11_code
def yM_across : MethodName := ⟨R_M, "across", "(II)I"⟩
abbrev cM_behind : ByteArray := prog_10_method_12_code
def yM_behind : MethodName := ⟨R_M, "behind", "(II)I"⟩
abbrev cM_cross : ByteArray := prog_10_method_13_code
def yM_cross : MethodName := ⟨R_M, "cross", "(II)Z"⟩
abbrev cM_measure : ByteArray := prog_10_method_14_code
def yM_measure : MethodName := ⟨R_M, "measure", "(I)V"⟩
abbrev cM_onward : ByteArray := prog_10_method_15_code
def yM_onward : MethodName := ⟨R_M, "onward", "(II)I"⟩
abbrev cM_next : ByteArray := prog_10_method_16_code
def yM_next : MethodName := ⟨R_M, "next", "(II)I"⟩
abbrev cM_changed : ByteArray := prog_10_method_17_code
def yM_changed : MethodName := ⟨R_M, "changed", "()V"⟩
abbrev cM_last : ByteArray := prog_10_method_18_code
def yM_last : MethodName := ⟨R_M, "last", "(I)I"⟩
abbrev cM_ahead : ByteArray := prog_10_method_19_code
def yM_ahead : MethodName := ⟨R_M, "ahead", "(I)I"⟩
abbrev cM_goal : ByteArray := prog_10_method_20_code
def yM_goal : MethodName := ⟨R_M, "goal", "(I)I"⟩
abbrev cM_due : ByteArray := prog_10_method_21_code
def yM_due : MethodName := ⟨R_M, "due", "(I)Z"⟩
abbrev cM_bars : ByteArray := prog_10_method_22_code
def yM_bars : MethodName := ⟨R_M, "bars", "(II)Z"⟩
abbrev cM_barred : ByteArray := prog_10_method_23_code
def yM_barred : MethodName := ⟨R_M, "barred", "(I)Z"⟩
abbrev cM_makeRequest : ByteArray := prog_10_method_24_code
def yM_makeRequest : MethodName := ⟨R_M, "makeRequest", "(I)Z"⟩
abbrev cM_crossesItself : ByteArray := prog_10_method_25_code
def yM_crossesItself : MethodName := ⟨R_M, "crossesItself", "()Z"⟩
abbrev cM_canGrant : ByteArray := prog_10_method_26_code
def yM_canGrant : MethodName := ⟨R_M, "canGrant", "()Z"⟩
abbrev cM_grant : ByteArray := prog_10_method_27_code
def yM_grant : MethodName := ⟨R_M, "grant", "(I)V"⟩
abbrev cM_moveOn : ByteArray := prog_10_method_28_code
def yM_moveOn : MethodName := ⟨R_M, "moveOn", "(I)V"⟩
abbrev cM_act : ByteArray := prog_10_method_29_code
def yM_act : MethodName := ⟨R_M, "act", "(I)I"⟩
abbrev cM_tick : ByteArray := prog_10_method_30_code
def yM_tick : MethodName := ⟨R_M, "tick", "(I)I"⟩
abbrev cM_tileHeld : ByteArray := prog_10_method_31_code
def yM_tileHeld : MethodName := ⟨R_M, "tileHeld", "(II)Z"⟩
abbrev cM_stationed : ByteArray := prog_10_method_32_code
def yM_stationed : MethodName := ⟨R_M, "stationed", "(III)Z"⟩
abbrev cM_track : ByteArray := prog_10_method_33_code
def yM_track : MethodName := ⟨R_M, "track", "(IIIZ)Z"⟩
abbrev cM_signal : ByteArray := prog_10_method_34_code
def yM_signal : MethodName := ⟨R_M, "signal", "(IIIIZ)Z"⟩
abbrev cM_station : ByteArray := prog_10_method_35_code
def yM_station : MethodName := ⟨R_M, "station", "(IIII)I"⟩
abbrev cM_before : ByteArray := prog_10_method_36_code
def yM_before : MethodName := ⟨R_M, "before", "(I)I"⟩
abbrev cM_train : ByteArray := prog_10_method_37_code
def yM_train : MethodName := ⟨R_M, "train", "(IIIII)I"⟩
abbrev cM_isTrain : ByteArray := prog_10_method_38_code
def yM_isTrain : MethodName := ⟨R_M, "isTrain", "(I)Z"⟩
abbrev cM_order : ByteArray := prog_10_method_39_code
def yM_order : MethodName := ⟨R_M, "order", "(II)Z"⟩
abbrev cM_reverse : ByteArray := prog_10_method_40_code
def yM_reverse : MethodName := ⟨R_M, "reverse", "(I)Z"⟩
abbrev cM_pieces : ByteArray := prog_10_method_41_code
def yM_pieces : MethodName := ⟨R_M, "pieces", "(II)I"⟩
abbrev cM_signals : ByteArray := prog_10_method_42_code
def yM_signals : MethodName := ⟨R_M, "signals", "(III)I"⟩
abbrev cM_holder : ByteArray := prog_10_method_43_code
def yM_holder : MethodName := ⟨R_M, "holder", "(III)I"⟩
abbrev cM_toGo : ByteArray := prog_10_method_44_code
def yM_toGo : MethodName := ⟨R_M, "toGo", "(IIIII)I"⟩
abbrev cM_held : ByteArray := prog_10_method_45_code
def yM_held : MethodName := ⟨R_M, "held", "(II)I"⟩
abbrev cM_motion : ByteArray := prog_10_method_46_code
def yM_motion : MethodName := ⟨R_M, "motion", "(I)I"⟩
abbrev cM_load : ByteArray := prog_10_method_47_code
def yM_load : MethodName := ⟨R_M, "load", "(I)I"⟩
abbrev cM_target : ByteArray := prog_10_method_48_code
def yM_target : MethodName := ⟨R_M, "target", "(I)I"⟩
abbrev cM_waiting : ByteArray := prog_10_method_49_code
def yM_waiting : MethodName := ⟨R_M, "waiting", "(I)I"⟩
abbrev cM_produced : ByteArray := prog_10_method_50_code
def yM_produced : MethodName := ⟨R_M, "produced", "()I"⟩
abbrev cM_delivered : ByteArray := prog_10_method_51_code
def yM_delivered : MethodName := ⟨R_M, "delivered", "()I"⟩
abbrev cM_clock : ByteArray := prog_10_method_52_code
def yM_clock : MethodName := ⟨R_M, "clock", "()I"⟩
abbrev cM_waitsFor : ByteArray := prog_10_method_53_code
def yM_waitsFor : MethodName := ⟨R_M, "waitsFor", "(I)I"⟩
abbrev cM_blocked : ByteArray := prog_10_method_54_code
def yM_blocked : MethodName := ⟨R_M, "blocked", "()I"⟩
abbrev cM_save : ByteArray := prog_10_method_55_code
def yM_save : MethodName := ⟨R_M, "save", "()V"⟩
abbrev cM_restore : ByteArray := prog_10_method_56_code
def yM_restore : MethodName := ⟨R_M, "restore", "()V"⟩
abbrev cG_init : ByteArray := prog_2_method_1_code
def yG_init : MethodName := ⟨R_G, "<init>", "(II)V"⟩
abbrev cG_copyFrom : ByteArray := prog_2_method_2_code
def yG_copyFrom : MethodName := ⟨R_G, "copyFrom", "(LRailYard$Grid;)V"⟩
abbrev cG_hasTile : ByteArray := prog_2_method_3_code
def yG_hasTile : MethodName := ⟨R_G, "hasTile", "(II)Z"⟩
abbrev cG_hasTrack : ByteArray := prog_2_method_4_code
def yG_hasTrack : MethodName := ⟨R_G, "hasTrack", "(III)Z"⟩
abbrev cG_hasPiece : ByteArray := prog_2_method_5_code
def yG_hasPiece : MethodName := ⟨R_G, "hasPiece", "(II)Z"⟩
abbrev cG_meets : ByteArray := prog_2_method_6_code
def yG_meets : MethodName := ⟨R_G, "meets", "(III)Z"⟩
abbrev cG_across : ByteArray := prog_2_method_7_code
def yG_across : MethodName := ⟨R_G, "across", "(II)I"⟩
abbrev cG_isHeld : ByteArray := prog_2_method_8_code
def yG_isHeld : MethodName := ⟨R_G, "isHeld", "(I)Z"⟩
abbrev cG_isLit : ByteArray := prog_2_method_9_code
def yG_isLit : MethodName := ⟨R_G, "isLit", "(I)Z"⟩
abbrev cG_cost : ByteArray := prog_2_method_10_code
def yG_cost : MethodName := ⟨R_G, "cost", "(I)I"⟩
abbrev cS_tile : ByteArray := prog_3_method_2_code
def yS_tile : MethodName := ⟨R_S, "tile", "(II)I"⟩
abbrev cS_place : ByteArray := prog_3_method_3_code
def yS_place : MethodName := ⟨R_S, "place", "(II)I"⟩
abbrev cS_run : ByteArray := prog_3_method_4_code
def yS_run : MethodName := ⟨R_S, "run", "(II)I"⟩
abbrev cS_exit : ByteArray := prog_3_method_5_code
def yS_exit : MethodName := ⟨R_S, "exit", "(II)I"⟩
abbrev cS_tileOf : ByteArray := prog_3_method_6_code
def yS_tileOf : MethodName := ⟨R_S, "tileOf", "(I)I"⟩
abbrev cS_pieceOf : ByteArray := prog_3_method_7_code
def yS_pieceOf : MethodName := ⟨R_S, "pieceOf", "(I)I"⟩
abbrev cS_placeOf : ByteArray := prog_3_method_8_code
def yS_placeOf : MethodName := ⟨R_S, "placeOf", "(I)I"⟩
abbrev cS_edgeOf : ByteArray := prog_3_method_9_code
def yS_edgeOf : MethodName := ⟨R_S, "edgeOf", "(I)I"⟩
abbrev cS_hasEdge : ByteArray := prog_3_method_10_code
def yS_hasEdge : MethodName := ⟨R_S, "hasEdge", "(II)Z"⟩
abbrev cS_otherEdge : ByteArray := prog_3_method_11_code
def yS_otherEdge : MethodName := ⟨R_S, "otherEdge", "(II)I"⟩
abbrev cS_entryOf : ByteArray := prog_3_method_12_code
def yS_entryOf : MethodName := ⟨R_S, "entryOf", "(I)I"⟩
abbrev cS_opposite : ByteArray := prog_3_method_13_code
def yS_opposite : MethodName := ⟨R_S, "opposite", "(I)I"⟩
abbrev cT_init : ByteArray := prog_4_method_1_code
def yT_init : MethodName := ⟨R_T, "<init>", "()V"⟩
abbrev cT_open : ByteArray := prog_4_method_2_code
def yT_open : MethodName := ⟨R_T, "open", "(II)V"⟩
abbrev cT_copyFrom : ByteArray := prog_4_method_3_code
def yT_copyFrom : MethodName := ⟨R_T, "copyFrom", "(LRailYard$Station;)V"⟩
abbrev cT_grow : ByteArray := prog_4_method_4_code
def yT_grow : MethodName := ⟨R_T, "grow", "()I"⟩
abbrev cT_take : ByteArray := prog_4_method_5_code
def yT_take : MethodName := ⟨R_T, "take", "(I)I"⟩
abbrev cR_init : ByteArray := prog_5_method_1_code
def yR_init : MethodName := ⟨R_R, "<init>", "()V"⟩
abbrev cR_add : ByteArray := prog_5_method_2_code
def yR_add : MethodName := ⟨R_R, "add", "(I)V"⟩
abbrev cR_layBody : ByteArray := prog_5_method_3_code
def yR_layBody : MethodName := ⟨R_R, "layBody", "(LRailYard$Grid;II)V"⟩
abbrev cR_firstBefore : ByteArray := prog_5_method_4_code
def yR_firstBefore : MethodName := ⟨R_R, "firstBefore", "(LRailYard$Grid;I)I"⟩
abbrev cR_against : ByteArray := prog_5_method_5_code
def yR_against : MethodName := ⟨R_R, "against", "(LRailYard$Grid;I)I"⟩
abbrev cR_hold : ByteArray := prog_5_method_6_code
def yR_hold : MethodName := ⟨R_R, "hold", "(LRailYard$Grid;I)V"⟩
abbrev cN_init : ByteArray := prog_6_method_1_code
def yN_init : MethodName := ⟨R_N, "<init>", "()V"⟩
abbrev cN_stand : ByteArray := prog_6_method_2_code
def yN_stand : MethodName := ⟨R_N, "stand", "(LRailYard$Stretch;)V"⟩
abbrev cN_copyFrom : ByteArray := prog_6_method_3_code
def yN_copyFrom : MethodName := ⟨R_N, "copyFrom", "(LRailYard$Train;)V"⟩
abbrev cN_ahead : ByteArray := prog_6_method_4_code
def yN_ahead : MethodName := ⟨R_N, "ahead", "()I"⟩
abbrev cN_last : ByteArray := prog_6_method_5_code
def yN_last : MethodName := ⟨R_N, "last", "()I"⟩
abbrev cN_goesFor : ByteArray := prog_6_method_6_code
def yN_goesFor : MethodName := ⟨R_N, "goesFor", "()I"⟩
abbrev cN_takeNextOrder : ByteArray := prog_6_method_7_code
def yN_takeNextOrder : MethodName := ⟨R_N, "takeNextOrder", "()V"⟩
abbrev cN_reserve : ByteArray := prog_6_method_8_code
def yN_reserve : MethodName := ⟨R_N, "reserve", "(LRailYard$Stretch;)V"⟩
abbrev cN_nextSpeed : ByteArray := prog_6_method_9_code
def yN_nextSpeed : MethodName := ⟨R_N, "nextSpeed", "()I"⟩
abbrev cN_moveOn : ByteArray := prog_6_method_10_code
def yN_moveOn : MethodName := ⟨R_N, "moveOn", "()V"⟩
abbrev cN_turnAbout : ByteArray := prog_6_method_11_code
def yN_turnAbout : MethodName := ⟨R_N, "turnAbout", "()V"⟩
abbrev cW_init : ByteArray := prog_7_method_1_code
def yW_init : MethodName := ⟨R_W, "<init>", "()V"⟩
abbrev cW_forget : ByteArray := prog_7_method_2_code
def yW_forget : MethodName := ⟨R_W, "forget", "()V"⟩
abbrev cW_rest : ByteArray := prog_7_method_3_code
def yW_rest : MethodName := ⟨R_W, "rest", "(III)I"⟩
abbrev cW_next : ByteArray := prog_7_method_4_code
def yW_next : MethodName := ⟨R_W, "next", "(LRailYard$Grid;III)I"⟩
abbrev cW_learn : ByteArray := prog_7_method_5_code
def yW_learn : MethodName := ⟨R_W, "learn", "(LRailYard$Grid;II)V"⟩
abbrev cW_offer : ByteArray := prog_7_method_6_code
def yW_offer : MethodName := ⟨R_W, "offer", "(LRailYard$Grid;III)V"⟩
abbrev cW_putInQueue : ByteArray := prog_7_method_7_code
def yW_putInQueue : MethodName := ⟨R_W, "putInQueue", "(I)V"⟩
abbrev cW_takeFromQueue : ByteArray := prog_7_method_8_code
def yW_takeFromQueue : MethodName := ⟨R_W, "takeFromQueue", "()I"⟩
abbrev cY_init : ByteArray := prog_8_method_1_code
def yY_init : MethodName := ⟨R_Y, "<init>", "(II)V"⟩
abbrev cY_copyFrom : ByteArray := prog_8_method_2_code
def yY_copyFrom : MethodName := ⟨R_Y, "copyFrom", "(LRailYard$Yard;)V"⟩
abbrev cY_isStation : ByteArray := prog_8_method_3_code
def yY_isStation : MethodName := ⟨R_Y, "isStation", "(I)Z"⟩
abbrev cY_hasTrain : ByteArray := prog_8_method_4_code
def yY_hasTrain : MethodName := ⟨R_Y, "hasTrain", "(I)Z"⟩
abbrev cY_stationOn : ByteArray := prog_8_method_5_code
def yY_stationOn : MethodName := ⟨R_Y, "stationOn", "(I)I"⟩
abbrev cY_hasStation : ByteArray := prog_8_method_6_code
def yY_hasStation : MethodName := ⟨R_Y, "hasStation", "(I)Z"⟩
abbrev cL_cell : ByteArray := method_2_code
def yL_cell : MethodName := ⟨R_L, "cell", "([II)I"⟩
abbrev cA_fill : ByteArray := prog_13_method_103_code
def yA_fill : MethodName := ⟨R_A, "fill", "([II)V"⟩
abbrev classes : List vw_C := [(R_G, T_G, 5), (R_T, T_T, 3), (R_R, T_R, 3), (R_N, T_N, 10), (R_W, T_W, 6), (R_Y, T_Y, 8), (R_X, T_X, 5), (R_M, T_M, 32)]
def tyl : List FieldType := [.int, .boolean, .object R_T, .object R_N, .array .int]
def bigW : List Cond := lw_tbl.filter goodWord
theorem bw (i : Nat) {w : Cond} (h : lw_tbl[i]? = some w) (g : goodWord w = true) : w ∈ bigW := List.mem_filter.mpr ⟨List.mem_of_getElem? h, g⟩
theorem big_ok : ∀ w ∈ bigW, (w.onTables && w.keeps) = true ∨ ∃ ty, w = .arrayClass ty := fun _ h => good_of_word (List.mem_filter.mp h).2
def isNest (w : Cond) : Bool := match w with
  | .fieldLinkNest _ _ _ _ _ _ => true
  | .methodLinkNest _ _ _ _ => true
  | _ => false
def nestW : List Cond := lw_tbl.filter isNest
theorem nw (i : Nat) {w : Cond} (h : lw_tbl[i]? = some w) (g : isNest w = true) : w ∈ nestW := List.mem_filter.mpr ⟨List.mem_of_getElem? h, g⟩
theorem nest_tab {w : Cond} (h : w ∈ nestW) : w.onTables = true := by
  have h2 := (List.mem_filter.mp h).2
  cases w <;> first | rfl | (simp [isNest] at h2)
theorem nest_warm {w : Cond} {s U : State} (h : w ∈ nestW) (hW : s.WarmedH U.vm) (hZ : va_Nw w s) : va_Nw w U := by
  have h2 := (List.mem_filter.mp h).2
  cases w <;> first | exact va_Nw.warmF hW hZ | exact va_Nw.warmM hW hZ | (simp [isNest] at h2)
def sttL : List (List Int) := [[3, 0, 0, 2, 0, 1], [1, 2, 1, 3, 3, 2], [63, 63, 55, 59, 31, 47]]
def stt (i : Nat) (z : Int) : Int := (sttL.getD i []).getD z.toNat 0
def snm (i : Nat) : String := ["FIRST_EDGE", "SECOND_EDGE", "CROSSING"].getD i ""
theorem nm_G : ∀ a, a < 5 → ∀ b, b < 5 → a ≠ b → (T_G a).2.1 ≠ (T_G b).2.1 := by decide +kernel
theorem to_G : ∀ k, k < 5 → parseFieldDescriptor (T_G k).2.2.1 = some (ty_G k) := by decide +kernel
theorem in_G : ∀ w ∈ u_ws R_G T_G 5, w ∈ bigW := by
  show ∀ w ∈ [u_lay R_G T_G 0, u_lay R_G T_G 1, u_lay R_G T_G 2, u_lay R_G T_G 3, u_lay R_G T_G 4], w ∈ bigW
  exact List.forall_mem_cons.mpr ⟨bw 140 (by decide +kernel) rfl, List.forall_mem_cons.mpr ⟨bw 142 (by decide +kernel) rfl, List.forall_mem_cons.mpr ⟨bw 144 (by decide +kernel) rfl, List.forall_mem_cons.mpr ⟨bw 146 (by decide +kernel) rfl, List.forall_mem_cons.mpr ⟨bw 148 (by decide +kernel) rfl, fun _ h => absurd h List.not_mem_nil⟩⟩⟩⟩⟩
theorem nm_T : ∀ a, a < 3 → ∀ b, b < 3 → a ≠ b → (T_T a).2.1 ≠ (T_T b).2.1 := by decide +kernel
theorem to_T : ∀ k, k < 3 → parseFieldDescriptor (T_T k).2.2.1 = some (ty_T k) := by decide +kernel
theorem in_T : ∀ w ∈ u_ws R_T T_T 3, w ∈ bigW := by
  show ∀ w ∈ [u_lay R_T T_T 0, u_lay R_T T_T 1, u_lay R_T T_T 2], w ∈ bigW
  exact List.forall_mem_cons.mpr ⟨bw 162 (by decide +kernel) rfl, List.forall_mem_cons.mpr ⟨bw 164 (by decide +kernel) rfl, List.forall_mem_cons.mpr ⟨bw 166 (by decide +kernel) rfl, fun _ h => absurd h List.not_mem_nil⟩⟩⟩
theorem nm_R : ∀ a, a < 3 → ∀ b, b < 3 → a ≠ b → (T_R a).2.1 ≠ (T_R b).2.1 := by decide +kernel
theorem to_R : ∀ k, k < 3 → parseFieldDescriptor (T_R k).2.2.1 = some (ty_R k) := by decide +kernel
theorem in_R : ∀ w ∈ u_ws R_R T_R 3, w ∈ bigW := by
  show ∀ w ∈ [u_lay R_R T_R 0, u_lay R_R T_R 1, u_lay R_R T_R 2], w ∈ bigW
  exact List.forall_mem_cons.mpr ⟨bw 99 (by decide +kernel) rfl, List.forall_mem_cons.mpr ⟨bw 101 (by decide +kernel) rfl, List.forall_mem_cons.mpr ⟨bw 103 (by decide +kernel) rfl, fun _ h => absurd h List.not_mem_nil⟩⟩⟩
theorem nm_N : ∀ a, a < 10 → ∀ b, b < 10 → a ≠ b → (T_N a).2.1 ≠ (T_N b).2.1 := by decide +kernel
theorem to_N : ∀ k, k < 10 → parseFieldDescriptor (T_N k).2.2.1 = some (ty_N k) := by decide +kernel
theorem in_N : ∀ w ∈ u_ws R_N T_N 10, w ∈ bigW := by
  show ∀ w ∈ [u_lay R_N T_N 0, u_lay R_N T_N 1, u_lay R_N T_N 2, u_lay R_N T_N 3, u_lay R_N T_N 4, u_lay R_N T_N 5, u_lay R_N T_N 6, u_lay R_N T_N 7, u_lay R_N T_N 8, u_lay R_N T_N 9], w ∈ bigW
  exact List.forall_mem_cons.mpr ⟨bw 193 (by decide +kernel) rfl, List.forall_mem_cons.mpr ⟨bw 195 (by decide +kernel) rfl, List.forall_mem_cons.mpr ⟨bw 197 (by decide +kernel) rfl, List.forall_mem_cons.mpr ⟨bw 199 (by decide +kernel) rfl, List.forall_mem_cons.mpr ⟨bw 201 (by decide +kernel) rfl, List.forall_mem_cons.mpr ⟨bw 203 (by decide +kernel) rfl, List.forall_mem_cons.mpr ⟨bw 205 (by decide +kernel) rfl, List.forall_mem_cons.mpr ⟨bw 207 (by decide +kernel) rfl, List.forall_mem_cons.mpr ⟨bw 209 (by decide +kernel) rfl, List.forall_mem_cons.mpr ⟨bw 211 (by decide +kernel) rfl, fun _ h => absurd h List.not_mem_nil⟩⟩⟩⟩⟩⟩⟩⟩⟩⟩
theorem nm_W : ∀ a, a < 6 → ∀ b, b < 6 → a ≠ b → (T_W a).2.1 ≠ (T_W b).2.1 := by decide +kernel
theorem to_W : ∀ k, k < 6 → parseFieldDescriptor (T_W k).2.2.1 = some (ty_W k) := by decide +kernel
theorem in_W : ∀ w ∈ u_ws R_W T_W 6, w ∈ bigW := by
  show ∀ w ∈ [u_lay R_W T_W 0, u_lay R_W T_W 1, u_lay R_W T_W 2, u_lay R_W T_W 3, u_lay R_W T_W 4, u_lay R_W T_W 5], w ∈ bigW
  exact List.forall_mem_cons.mpr ⟨bw 73 (by decide +kernel) rfl, List.forall_mem_cons.mpr ⟨bw 75 (by decide +kernel) rfl, List.forall_mem_cons.mpr ⟨bw 77 (by decide +kernel) rfl, List.forall_mem_cons.mpr ⟨bw 79 (by decide +kernel) rfl, List.forall_mem_cons.mpr ⟨bw 81 (by decide +kernel) rfl, List.forall_mem_cons.mpr ⟨bw 83 (by decide +kernel) rfl, fun _ h => absurd h List.not_mem_nil⟩⟩⟩⟩⟩⟩
theorem nm_Y : ∀ a, a < 8 → ∀ b, b < 8 → a ≠ b → (T_Y a).2.1 ≠ (T_Y b).2.1 := by decide +kernel
theorem to_Y : ∀ k, k < 8 → parseFieldDescriptor (T_Y k).2.2.1 = some (ty_Y k) := by decide +kernel
theorem in_Y : ∀ w ∈ u_ws R_Y T_Y 8, w ∈ bigW := by
  show ∀ w ∈ [u_lay R_Y T_Y 0, u_lay R_Y T_Y 1, u_lay R_Y T_Y 2, u_lay R_Y T_Y 3, u_lay R_Y T_Y 4, u_lay R_Y T_Y 5, u_lay R_Y T_Y 6, u_lay R_Y T_Y 7], w ∈ bigW
  exact List.forall_mem_cons.mpr ⟨bw 230 (by decide +kernel) rfl, List.forall_mem_cons.mpr ⟨bw 232 (by decide +kernel) rfl, List.forall_mem_cons.mpr ⟨bw 234 (by decide +kernel) rfl, List.forall_mem_cons.mpr ⟨bw 236 (by decide +kernel) rfl, List.forall_mem_cons.mpr ⟨bw 238 (by decide +kernel) rfl, List.forall_mem_cons.mpr ⟨bw 240 (by decide +kernel) rfl, List.forall_mem_cons.mpr ⟨bw 242 (by decide +kernel) rfl, List.forall_mem_cons.mpr ⟨bw 244 (by decide +kernel) rfl, fun _ h => absurd h List.not_mem_nil⟩⟩⟩⟩⟩⟩⟩⟩
theorem nm_X : ∀ a, a < 5 → ∀ b, b < 5 → a ≠ b → (T_X a).2.1 ≠ (T_X b).2.1 := by decide +kernel
theorem to_X : ∀ k, k < 5 → parseFieldDescriptor (T_X k).2.2.1 = some (ty_X k) := by decide +kernel
theorem in_X : ∀ w ∈ u_ws R_X T_X 5, w ∈ bigW := by
  show ∀ w ∈ [u_lay R_X T_X 0, u_lay R_X T_X 1, u_lay R_X T_X 2, u_lay R_X T_X 3, u_lay R_X T_X 4], w ∈ bigW
  exact List.forall_mem_cons.mpr ⟨bw 252 (by decide +kernel) rfl, List.forall_mem_cons.mpr ⟨bw 254 (by decide +kernel) rfl, List.forall_mem_cons.mpr ⟨bw 256 (by decide +kernel) rfl, List.forall_mem_cons.mpr ⟨bw 258 (by decide +kernel) rfl, List.forall_mem_cons.mpr ⟨bw 260 (by decide +kernel) rfl, fun _ h => absurd h List.not_mem_nil⟩⟩⟩⟩⟩
theorem nm_M : ∀ a, a < 32 → ∀ b, b < 32 → a ≠ b → (T_M a).2.1 ≠ (T_M b).2.1 := by decide +kernel
theorem to_M : ∀ k, k < 32 → parseFieldDescriptor (T_M k).2.2.1 = some (ty_M k) := by decide +kernel
theorem in_M : ∀ w ∈ u_ws R_M T_M 32, w ∈ bigW := by
  show ∀ w ∈ [u_lay R_M T_M 0, u_lay R_M T_M 1, u_lay R_M T_M 2, u_lay R_M T_M 3, u_lay R_M T_M 4, u_lay R_M T_M 5, u_lay R_M T_M 6, u_lay R_M T_M 7, u_lay R_M T_M 8, u_lay R_M T_M 9, u_lay R_M T_M 10, u_lay R_M T_M 11, u_lay R_M T_M 12, u_lay R_M T_M 13, u_lay R_M T_M 14, u_lay R_M T_M 15, u_lay R_M T_M 16, u_lay R_M T_M 17, u_lay R_M T_M 18, u_lay R_M T_M 19, u_lay R_M T_M 20, u_lay R_M T_M 21, u_lay R_M T_M 22, u_lay R_M T_M 23, u_lay R_M T_M 24, u_lay R_M T_M 25, u_lay R_M T_M 26, u_lay R_M T_M 27, u_lay R_M T_M 28, u_lay R_M T_M 29, u_lay R_M T_M 30, u_lay R_M T_M 31], w ∈ bigW
  exact List.forall_mem_cons.mpr ⟨bw 664 (by decide +kernel) rfl, List.forall_mem_cons.mpr ⟨bw 666 (by decide +kernel) rfl, List.forall_mem_cons.mpr ⟨bw 668 (by decide +kernel) rfl, List.forall_mem_cons.mpr ⟨bw 670 (by decide +kernel) rfl, List.forall_mem_cons.mpr ⟨bw 672 (by decide +kernel) rfl, List.forall_mem_cons.mpr ⟨bw 674 (by decide +kernel) rfl, List.forall_mem_cons.mpr ⟨bw 676 (by decide +kernel) rfl, List.forall_mem_cons.mpr ⟨bw 678 (by decide +kernel) rfl, List.forall_mem_cons.mpr ⟨bw 680 (by decide +kernel) rfl, List.forall_mem_cons.mpr ⟨bw 682 (by decide +kernel) rfl, List.forall_mem_cons.mpr ⟨bw 684 (by decide +kernel) rfl, List.forall_mem_cons.mpr ⟨bw 686 (by decide +kernel) rfl, List.forall_mem_cons.mpr ⟨bw 688 (by decide +kernel) rfl, List.forall_mem_cons.mpr ⟨bw 690 (by decide +kernel) rfl, List.forall_mem_cons.mpr ⟨bw 692 (by decide +kernel) rfl, List.forall_mem_cons.mpr ⟨bw 694 (by decide +kernel) rfl, List.forall_mem_cons.mpr ⟨bw 696 (by decide +kernel) rfl, List.forall_mem_cons.mpr ⟨bw 698 (by decide +kernel) rfl, List.forall_mem_cons.mpr ⟨bw 700 (by decide +kernel) rfl, List.forall_mem_cons.mpr ⟨bw 702 (by decide +kernel) rfl, List.forall_mem_cons.mpr ⟨bw 704 (by decide +kernel) rfl, List.forall_mem_cons.mpr ⟨bw 706 (by decide +kernel) rfl, List.forall_mem_cons.mpr ⟨bw 708 (by decide +kernel) rfl, List.forall_mem_cons.mpr ⟨bw 710 (by decide +kernel) rfl, List.forall_mem_cons.mpr ⟨bw 712 (by decide +kernel) rfl, List.forall_mem_cons.mpr ⟨bw 714 (by decide +kernel) rfl, List.forall_mem_cons.mpr ⟨bw 716 (by decide +kernel) rfl, List.forall_mem_cons.mpr ⟨bw 718 (by decide +kernel) rfl, List.forall_mem_cons.mpr ⟨bw 720 (by decide +kernel) rfl, List.forall_mem_cons.mpr ⟨bw 722 (by decide +kernel) rfl, List.forall_mem_cons.mpr ⟨bw 724 (by decide +kernel) rfl, List.forall_mem_cons.mpr ⟨bw 726 (by decide +kernel) rfl, fun _ h => absurd h List.not_mem_nil⟩⟩⟩⟩⟩⟩⟩⟩⟩⟩⟩⟩⟩⟩⟩⟩⟩⟩⟩⟩⟩⟩⟩⟩⟩⟩⟩⟩⟩⟩⟩⟩
theorem cls_in {ci N : Nat} {C : String} {T : u_T} (h : classes[ci]? = some (C, T, N)) : ∀ w ∈ u_ws C T N, w ∈ bigW := by
  have key : ∀ q ∈ classes, ∀ w ∈ u_ws q.1 q.2.1 q.2.2, w ∈ bigW := List.forall_mem_cons.mpr ⟨in_G, List.forall_mem_cons.mpr ⟨in_T, List.forall_mem_cons.mpr ⟨in_R, List.forall_mem_cons.mpr ⟨in_N, List.forall_mem_cons.mpr ⟨in_W, List.forall_mem_cons.mpr ⟨in_Y, List.forall_mem_cons.mpr ⟨in_X, List.forall_mem_cons.mpr ⟨in_M, fun _ h => absurd h List.not_mem_nil⟩⟩⟩⟩⟩⟩⟩⟩
  exact key _ (List.mem_of_getElem? h)
theorem cls_ty {ci N : Nat} {C : String} {T : u_T} (h : classes[ci]? = some (C, T, N)) : ∃ ty0 : Nat → FieldType, ∀ k, k < N → parseFieldDescriptor (T k).2.2.1 = some (ty0 k) := by
  have key : ∀ q ∈ classes, ∃ ty0 : Nat → FieldType, ∀ k, k < q.2.2 → parseFieldDescriptor (q.2.1 k).2.2.1 = some (ty0 k) := List.forall_mem_cons.mpr ⟨⟨_, to_G⟩, List.forall_mem_cons.mpr ⟨⟨_, to_T⟩, List.forall_mem_cons.mpr ⟨⟨_, to_R⟩, List.forall_mem_cons.mpr ⟨⟨_, to_N⟩, List.forall_mem_cons.mpr ⟨⟨_, to_W⟩, List.forall_mem_cons.mpr ⟨⟨_, to_Y⟩, List.forall_mem_cons.mpr ⟨⟨_, to_X⟩, List.forall_mem_cons.mpr ⟨⟨_, to_M⟩, fun _ h => absurd h List.not_mem_nil⟩⟩⟩⟩⟩⟩⟩⟩
  exact key _ (List.mem_of_getElem? h)
theorem cls_nm {ci N : Nat} {C : String} {T : u_T} (h : classes[ci]? = some (C, T, N)) : ∀ a, a < N → ∀ b, b < N → a ≠ b → (T a).2.1 ≠ (T b).2.1 := by
  have key : ∀ q ∈ classes, ∀ a, a < q.2.2 → ∀ b, b < q.2.2 → a ≠ b → (q.2.1 a).2.1 ≠ (q.2.1 b).2.1 := List.forall_mem_cons.mpr ⟨nm_G, List.forall_mem_cons.mpr ⟨nm_T, List.forall_mem_cons.mpr ⟨nm_R, List.forall_mem_cons.mpr ⟨nm_N, List.forall_mem_cons.mpr ⟨nm_W, List.forall_mem_cons.mpr ⟨nm_Y, List.forall_mem_cons.mpr ⟨nm_X, List.forall_mem_cons.mpr ⟨nm_M, fun _ h => absurd h List.not_mem_nil⟩⟩⟩⟩⟩⟩⟩⟩
  exact key _ (List.mem_of_getElem? h)
end
section
/-! THE JUDGEMENT OVER ONE FIXED WORLD, first half: what the world is, what a frame is; own work, over the kit's rows -/
abbrev vG : Type := (Nat → ClassId) × (Nat → Nat → Nat) × (Nat → Nat) × (Nat → ClassId)
abbrev gad (G : vG) : Nat → Nat := G.2.2.1
abbrev gdA (G : vG) : Nat → ClassId := G.2.2.2
abbrev gD (G : vG) : va_G := (G.1, G.2.1)
abbrev RV : Type := Int ⊕ Nat
abbrev RW : Type := Nat → Int → Int
abbrev RK : Type := (Nat × Nat) ⊕ ((Nat × List (Option Nat)) ⊕ (Nat × List Nat))
def rv (G : vG) (v : RV) : Value := match v with
  | .inl z => .int (Int32.ofInt z)
  | .inr k => .ref (gad G k)
theorem rv_cat (G : vG) (v : RV) : (rv G v).category = 1 := by cases v <;> rfl
def upw (w : RW) (k : Nat) (i : Int) (z : Int) : RW := fun k' i' => if k' = k ∧ i' = i then z else w k' i'
theorem upw_s (w : RW) (k : Nat) (i z : Int) : upw w k i z k i = z := by simp [upw]
theorem upw_k {w : RW} {k k' : Nat} {i i' z : Int} (h : k' ≠ k) : upw w k i z k' i' = w k' i' := by simp [upw, h]
theorem upw_i {w : RW} {k k' : Nat} {i i' z : Int} (h : i' ≠ i) : upw w k i z k' i' = w k' i' := by simp [upw, h]
def cpw (w : RW) (ks kd : Nat) (sp dp n : Int) : RW := fun k i => if k = kd ∧ dp ≤ i ∧ i < dp + n then w ks (sp + (i - dp)) else w k i
def inR (z : Int) : Prop := -2147483648 ≤ z ∧ z < 2147483648
def rgw (w : RW) : Prop := ∀ k i, inR (w k i)
def rgv (v : RV) : Prop := match v with
  | .inl z => inR z
  | .inr _ => True
def rgs (st : List RV) : Prop := ∀ v ∈ st, rgv v
def rgl (L : List (Option RV)) : Prop := ∀ x, some x ∈ L → rgv x
theorem rgs_nil : rgs [] := fun _ h => absurd h List.not_mem_nil
theorem rgs_cons {v : RV} {st : List RV} : rgs (v :: st) ↔ rgv v ∧ rgs st := List.forall_mem_cons
theorem rgs_int {z : Int} {st : List RV} : rgs (.inl z :: st) ↔ inR z ∧ rgs st := List.forall_mem_cons
theorem rgs_ref {k : Nat} {st : List RV} : rgs (.inr k :: st) ↔ rgs st := ⟨fun h => (rgs_cons.mp h).2, fun h => rgs_cons.mpr ⟨trivial, h⟩⟩
theorem rgl_set {L : List (Option RV)} {i : Nat} {v : RV} (h : rgl L) (hv : rgv v) : rgl (L.set i (some v)) := by
  intro x hx
  rcases List.mem_or_eq_of_mem_set hx with h1 | h1
  · exact h x h1
  · rw [Option.some.inj h1]; exact hv
theorem rgl_at {L : List (Option RV)} {i : Nat} {v : RV} (h : rgl L) (hv : L[i]? = some (some v)) : rgv v := h v (List.mem_of_getElem? hv)
theorem rgw_upw {w : RW} {k : Nat} {i z : Int} (h : rgw w) (hz : inR z) : rgw (upw w k i z) := by
  intro k' i'
  unfold upw
  split
  · exact hz
  · exact h k' i'
theorem rgw_cpw {w : RW} {ks kd : Nat} {sp dp n : Int} (h : rgw w) : rgw (cpw w ks kd sp dp n) := by
  intro k' i'
  unfold cpw
  split
  · exact h _ _
  · exact h k' i'
/-- the cells' values -/
def fvs (G : vG) (w : RW) (k : Nat) (fs : List (Option Nat)) : List Value := fs.zipIdx.map (fun q => match q.1 with
  | none => .int (Int32.ofInt (w k (q.2 : Int)))
  | some t => .ref (gad G t))
def ce (G : vG) (w : RW) (k : Nat) (K : RK) : va_E := match K with
  | .inl (t, n) => .inl (gdA G t, n, .inl (fun j => Int32.ofInt (w k (j : Int))))
  | .inr (.inl (c, fs)) => .inr (c, fvs G w k fs)
  | .inr (.inr (t, l)) => .inl (gdA G t, l.length, .inr (.inr (.inr (.inr (fun j => (l[j]?).map (gad G))))))
def gWof (sh : List RK) (G : vG) (w : RW) : va_W := sh.zipIdx.map (fun q => (gad G q.2, ce G w q.2 q.1))
theorem gW_at {sh : List RK} {k : Nat} {K : RK} (G : vG) (w : RW) (h : sh[k]? = some K) : (gWof sh G w)[k]? = some (gad G k, ce G w k K) := by
  simp [gWof, List.getElem?_map, List.getElem?_zipIdx, h]
theorem gW_of {sh : List RK} {k : Nat} {G : vG} {w : RW} {q : Nat × va_E} (h : (gWof sh G w)[k]? = some q) : k < sh.length ∧ q.1 = gad G k := by
  simp only [gWof, List.getElem?_map, List.getElem?_zipIdx, Option.map_map, Option.map_eq_some_iff] at h
  obtain ⟨K, h1, h2⟩ := h
  refine ⟨(List.getElem?_eq_some_iff.mp h1).1, ?_⟩
  rw [← h2]
  simp
theorem ce_congr {G : vG} {w w' : RW} {k : Nat} {K : RK} (h : ∀ i, w' k i = w k i) : ce G w' k K = ce G w k K := by
  rcases K with ⟨t, n⟩ | ⟨c, fs⟩ | ⟨t, l⟩
  · simp only [ce, h]
  · simp only [ce, fvs, h]
  · rfl
theorem gW_set {sh : List RK} {k : Nat} {K : RK} {G : vG} {w w' : RW} {e : va_E} (h : sh[k]? = some K) (he : e = ce G w' k K) (ho : ∀ k', k' ≠ k → ∀ i, w' k' i = w k' i) : (gWof sh G w).set k (gad G k, e) = gWof sh G w' := by
  apply List.ext_getElem?
  intro i
  by_cases hi : i = k
  · subst hi
    rw [List.getElem?_set_self (by simp [gWof]; exact (List.getElem?_eq_some_iff.mp h).1), gW_at G w' h, he]
  · rw [List.getElem?_set_ne (Ne.symm hi)]
    cases hK : sh[i]? with
    | none =>
      have hl : sh.length ≤ i := by simpa using hK
      rw [List.getElem?_eq_none (by simp [gWof]; exact hl), List.getElem?_eq_none (by simp [gWof]; exact hl)]
    | some K' => rw [gW_at G w hK, gW_at G w' hK, ce_congr (ho i hi)]
theorem gW_D {sh : List RK} {G : vG} {A : Nat → Prop} (hI : ∀ i j, i < sh.length → j < sh.length → gad G i = gad G j → i = j) (hA : ∀ k, k < sh.length → A (gad G k)) (w : RW) : va_D A (gWof sh G w) := by
  refine ⟨fun i j p q hi hj e => ?_, fun k q hk => ?_⟩
  · obtain ⟨h1, h2⟩ := gW_of hi
    obtain ⟨h3, h4⟩ := gW_of hj
    exact hI i j h1 h3 (by rw [← h2, ← h4]; exact e)
  · obtain ⟨h1, h2⟩ := gW_of hk
    rw [h2]
    exact hA k h1
/-- the locals -/
def gL (G : vG) (L : List (Option RV)) : List (Nat × Value) := L.zipIdx.filterMap (fun q => q.1.map (fun v => (q.2, rv G v)))
theorem gL_mem {G : vG} {L : List (Option RV)} {q : Nat × Value} : q ∈ gL G L ↔ ∃ x, L[q.1]? = some (some x) ∧ q.2 = rv G x := by
  obtain ⟨i, v⟩ := q
  simp only [gL, List.mem_filterMap, Option.map_eq_some_iff]
  constructor
  · rintro ⟨⟨o, j⟩, h1, x, h2, h3⟩
    have h4 := List.mem_zipIdx_iff_getElem?.mp h1
    simp only [Prod.mk.injEq] at h3
    obtain ⟨rfl, rfl⟩ := h3
    exact ⟨x, by rw [h4]; exact congrArg some h2, rfl⟩
  · rintro ⟨x, h1, h2⟩
    exact ⟨(some x, i), List.mem_zipIdx_iff_getElem?.mpr h1, x, rfl, by rw [h2]⟩
theorem gL_at {G : vG} {ls : Array Slot} {nL : Nat} {L : List (Option RV)} {i : Nat} {x : RV} (h : lv_has ls nL (gL G L)) (hx : L[i]? = some (some x)) : ls[i]? = some (.val (rv G x)) := h.2.2 (i, rv G x) (gL_mem.mpr ⟨x, hx, rfl⟩)
theorem gL_set {G : vG} {ls : Array Slot} {nL i : Nat} {L : List (Option RV)} {x : RV} (h : lv_has ls nL ((i, rv G x) :: (gL G L).filter (fun q => !(q.1 == i) && !(q.1 + 1 == i && q.2.category == 2)))) : lv_has ls nL (gL G (L.set i (some x))) := by
  refine ⟨h.1, h.2.1, fun q hq => ?_⟩
  obtain ⟨y, h1, h2⟩ := gL_mem.mp hq
  by_cases hi : q.1 = i
  · refine h.2.2 q (List.mem_cons.mpr (Or.inl ?_))
    rw [hi] at h1
    rw [List.getElem?_set] at h1
    simp only [if_true] at h1
    split at h1
    · simp only [Option.some.injEq] at h1
      rw [← h1] at h2
      exact Prod.ext hi h2
    · simp at h1
  · refine h.2.2 q (List.mem_cons.mpr (Or.inr (List.mem_filter.mpr ⟨gL_mem.mpr ⟨y, ?_, h2⟩, ?_⟩)))
    · rw [List.getElem?_set_ne (Ne.symm hi)] at h1
      exact h1
    · rw [h2, rv_cat]
      simp [hi]
theorem gL_entry {G : vG} (as : List RV) {n : Nat} (h : as.length ≤ n) (m : MethodId) : ∃ ls, entryFrame m (as.map (rv G)).toArray n = F0 m 0 ls [] ∧ lv_has ls n (gL G (as.map some ++ List.replicate (n - as.length) none)) := by
  have hsl : ∀ as : List RV, lg_sl (as.map (rv G)) = as.map (fun x => Slot.val (rv G x)) := by
    intro as
    induction as with
    | nil => rfl
    | cons a t ih =>
      show (if (rv G a).category = 2 then _ else _) ++ lg_sl (t.map (rv G)) = _
      rw [rv_cat, ih]
      rfl
  have hlen : (lg_sl (as.map (rv G))).length = as.length := by rw [hsl]; simp
  have hl := lv_entry (as.map (rv G)) (n := n) (by rw [hlen]; exact h)
  rw [lg_entry_eq]
  refine ⟨_, rfl, hl.1, hl.2.1, fun q hq => ?_⟩
  obtain ⟨x, h1, h2⟩ := gL_mem.mp hq
  obtain ⟨i, v⟩ := q
  simp only at h1 h2
  subst h2
  have hi : i < as.length := by
    apply Decidable.byContradiction
    intro hc
    rw [List.getElem?_append_right (by simpa using hc)] at h1
    rw [List.getElem?_replicate] at h1
    split at h1 <;> simp at h1
  rw [List.getElem?_append_left (by simpa using hi)] at h1
  rw [hsl]
  simp only [List.getElem?_map] at h1
  have h3 : as[i]? = some x := by
    cases hz : as[i]? with
    | none => rw [hz] at h1; simp at h1
    | some y => rw [hz] at h1; simpa using h1
  have h5 : (as.map (fun x => Slot.val (rv G x)) ++ List.replicate (n - (as.map (fun x => Slot.val (rv G x))).length) Slot.unset)[i]? = some (Slot.val (rv G x)) := by
    rw [List.getElem?_append_left (by simpa using hi), List.getElem?_map, h3]
    rfl
  rw [List.getElem?_toArray]
  exact h5
/-- the numbers -/
theorem iR_t {z : Int} (h : inR z) : (Int32.ofInt z).toInt = z := Int32.toInt_ofInt_of_le (by have := h.1; omega) (by have := h.2; omega)
theorem iR_lt {a b : Int} (ha : inR a) (hb : inR b) : Int32.ofInt a < Int32.ofInt b ↔ a < b := by rw [Int32.lt_iff_toInt_lt, iR_t ha, iR_t hb]
theorem iR_le {a b : Int} (ha : inR a) (hb : inR b) : Int32.ofInt a ≤ Int32.ofInt b ↔ a ≤ b := by rw [Int32.le_iff_toInt_le, iR_t ha, iR_t hb]
theorem iR_eq {a b : Int} (ha : inR a) (hb : inR b) : Int32.ofInt a = Int32.ofInt b ↔ a = b := by rw [← Int32.toInt_inj, iR_t ha, iR_t hb]
theorem iR_0 : inR 0 := by unfold inR; omega
theorem iR_z : Int32.ofInt 0 = 0 := rfl
theorem iR_n {z : Int} (h0 : 0 ≤ z) : Int32.ofInt z = nI z.toNat := by
  obtain ⟨n, rfl⟩ := Int.eq_ofNat_of_zero_le h0
  rw [Int32.ofInt_eq_ofNat]
  rfl
theorem iR_of (x : Int32) : ∃ z : Int, inR z ∧ x = Int32.ofInt z := ⟨x.toInt, ⟨by have := Int32.le_toInt x; simpa using this, by have := Int32.toInt_lt x; simpa using this⟩, (Int32.ofInt_toInt x).symm⟩
theorem iR_in {z : Int} {n : Nat} (h : inR z) (h0 : 0 ≤ z) (h1 : z < n) : vp_in (Int32.ofInt z) n := vp_in_iff.mpr (by rw [iR_t h]; exact ⟨h0, h1⟩)
theorem iR_cl {z : Int} (h : inR z) : (Int32.ofInt z).toNatClampNeg = z.toNat := by
  show (Int32.ofInt z).toInt.toNat = _
  rw [iR_t h]
theorem iR_div {a b : Int} (ha : inR a) (hb : inR b) (h0 : 0 ≤ a) (h1 : 0 < b) : Int32.ofInt a / Int32.ofInt b = Int32.ofInt (a / b) := by
  rw [iR_n h0, iR_n (show (0 : Int) ≤ b by omega), pk_div (by have := ha.2; omega) (by omega) (by have := hb.2; omega), iR_n (Int.ediv_nonneg h0 (by omega))]
  congr 1
  obtain ⟨m, rfl⟩ := Int.eq_ofNat_of_zero_le h0
  obtain ⟨n, rfl⟩ := Int.eq_ofNat_of_zero_le (show (0 : Int) ≤ b by omega)
  rfl
theorem iR_rem {a b : Int} (ha : inR a) (hb : inR b) (h0 : 0 ≤ a) (h1 : 0 < b) : Int32.ofInt a - Int32.ofInt a / Int32.ofInt b * Int32.ofInt b = Int32.ofInt (a % b) := by
  rw [iR_div ha hb h0 h1, ← Int32.ofInt_mul, ← Int32.ofInt_sub]
  congr 1
  have := Int.emod_add_mul_ediv a b
  rw [Int.mul_comm] at this
  omega
theorem iR_div_in {a b : Int} (ha : inR a) (h0 : 0 ≤ a) (h1 : 0 < b) : inR (a / b) := by
  have h2 := Int.ediv_nonneg h0 (show (0 : Int) ≤ b by omega)
  have h3 := Int.ediv_le_self b h0
  have := ha.2
  exact ⟨by omega, by omega⟩
theorem iR_rem_in {a b : Int} (hb : inR b) (h1 : 0 < b) : inR (a % b) := by
  have h2 := Int.emod_nonneg a (show b ≠ 0 by omega)
  have h3 := Int.emod_lt_of_pos a h1
  have := hb.2
  exact ⟨by omega, by omega⟩
def shp : List RK := [.inr (.inl (6, [some 1, some 32, some 63, some 73, some 76])), .inr (.inl (5, [some 2, some 6, some 13, none, none, none, none, none])), .inr (.inl (0, [none, none, some 3, some 4, some 5])), .inl (0, 64), .inl (0, 384), .inl (0, 384), .inr (.inr (2, [7, 8, 9, 10, 11, 12])), .inr (.inl (1, [none, none, none])), .inr (.inl (1, [none, none, none])), .inr (.inl (1, [none, none, none])), .inr (.inl (1, [none, none, none])), .inr (.inl (1, [none, none, none])), .inr (.inl (1, [none, none, none])), .inr (.inr (3, [14, 15, 16, 17, 18, 19])), .inr (.inl (3, [some 20, none, none, none, none, none, some 26, none, none, none])), .inr (.inl (3, [some 21, none, none, none, none, none, some 27, none, none, none])), .inr (.inl (3, [some 22, none, none, none, none, none, some 28, none, none, none])), .inr (.inl (3, [some 23, none, none, none, none, none, some 29, none, none, none])), .inr (.inl (3, [some 24, none, none, none, none, none, some 30, none, none, none])), .inr (.inl (3, [some 25, none, none, none, none, none, some 31, none, none, none])), .inl (0, 96), .inl (0, 96), .inl (0, 96), .inl (0, 96), .inl (0, 96), .inl (0, 96), .inl (0, 6), .inl (0, 6), .inl (0, 6), .inl (0, 6), .inl (0, 6), .inl (0, 6), .inr (.inl (5, [some 33, some 37, some 44, none, none, none, none, none])), .inr (.inl (0, [none, none, some 34, some 35, some 36])), .inl (0, 64), .inl (0, 384), .inl (0, 384), .inr (.inr (2, [38, 39, 40, 41, 42, 43])), .inr (.inl (1, [none, none, none])), .inr (.inl (1, [none, none, none])), .inr (.inl (1, [none, none, none])), .inr (.inl (1, [none, none, none])), .inr (.inl (1, [none, none, none])), .inr (.inl (1, [none, none, none])), .inr (.inr (3, [45, 46, 47, 48, 49, 50])), .inr (.inl (3, [some 51, none, none, none, none, none, some 57, none, none, none])), .inr (.inl (3, [some 52, none, none, none, none, none, some 58, none, none, none])), .inr (.inl (3, [some 53, none, none, none, none, none, some 59, none, none, none])), .inr (.inl (3, [some 54, none, none, none, none, none, some 60, none, none, none])), .inr (.inl (3, [some 55, none, none, none, none, none, some 61, none, none, none])), .inr (.inl (3, [some 56, none, none, none, none, none, some 62, none, none, none])), .inl (0, 96), .inl (0, 96), .inl (0, 96), .inl (0, 96), .inl (0, 96), .inl (0, 96), .inl (0, 6), .inl (0, 6), .inl (0, 6), .inl (0, 6), .inl (0, 6), .inl (0, 6), .inr (.inl (4, [some 64, none, some 71, some 72, none, none])), .inr (.inr (4, [65, 66, 67, 68, 69, 70])), .inl (0, 256), .inl (0, 256), .inl (0, 256), .inl (0, 256), .inl (0, 256), .inl (0, 256), .inl (0, 256), .inl (0, 256), .inr (.inl (2, [some 74, some 75, none])), .inl (0, 257), .inl (0, 64), .inl (0, 6), .inr (.inl (7, [none, none, some 78, some 79, none, some 80, some 81, some 82, some 83, some 84, none, some 85, some 86, some 87, some 88, some 89, some 90, some 91, some 92, some 93, some 94, none, some 95, none, none, none, some 96, some 97, some 98, some 99, some 100, some 101])), .inl (1, 288), .inl (0, 288), .inl (0, 6), .inl (0, 6), .inl (0, 6), .inl (1, 6), .inl (0, 3456), .inl (0, 1800), .inl (0, 6), .inl (0, 6), .inl (0, 6), .inl (0, 6), .inl (0, 6), .inl (1, 6), .inl (0, 36), .inl (0, 6), .inl (0, 6), .inl (0, 600), .inl (1, 288), .inl (0, 288), .inl (0, 1800), .inl (0, 78), .inl (0, 18), .inl (0, 5)]
theorem shp_len : shp.length = 102 := rfl
/-! THE JUDGEMENT, second half: frames, rows. It stands behind the names (classes, shp, tyl, bigW, nestW, hostN, stt, snm, cls_in, cls_ty, cls_nm) -/
abbrev gW (G : vG) (w : RW) : va_W := gWof shp G w
def gT (G : vG) : List (ClassId × FieldType) := tyl.zipIdx.map (fun q => (gdA G q.2, q.1))
theorem gT_at {t : Nat} {ty : FieldType} (G : vG) (h : tyl[t]? = some ty) : (gT G)[t]? = some (gdA G t, ty) := by
  simp [gT, List.getElem?_map, List.getElem?_zipIdx, h]
def gZ (G : vG) (A : Nat → Prop) (U : State) (H : Heap) : Prop := ∀ i, i < 3 → va_Z R_spot (snm i) "[I" (.ref (gad G (900 + i))) A U H ∧ va_T .int (gad G (900 + i)) 6 (fun j => .int (Int32.ofInt (stt i (j : Int)))) A U H
def gE (G : vG) (A : Nat → Prop) (U : State) : Prop := va_K (gD G) classes (gT G) U ∧ (∀ w ∈ nestW, va_Nw w U) ∧ (∀ i j, i < shp.length → j < shp.length → gad G i = gad G j → i = j) ∧ gZ G A U U.heap
def gA (G : vG) : Nat → Prop := fun q => ∃ k, k < shp.length ∧ q = gad G k
def rmD (d : Nat) : Room := { frames := d, cells := 0, slots := 0, locals := 40 * d }
abbrev vX : Type := Program × Launch × Env × Room × State × MethodId × Array Value × List Frame × Method × Code × (Nat → Prop) × Nat × Nat
abbrev xp (X : vX) : Program := X.1
abbrev xl (X : vX) : Launch := X.2.1
abbrev xe (X : vX) : Env := X.2.2.1
abbrev xR (X : vX) : Room := X.2.2.2.1
abbrev xs (X : vX) : State := X.2.2.2.2.1
abbrev xm (X : vX) : MethodId := X.2.2.2.2.2.1
abbrev xa (X : vX) : Array Value := X.2.2.2.2.2.2.1
abbrev xb (X : vX) : List Frame := X.2.2.2.2.2.2.2.1
abbrev xh (X : vX) : Method := X.2.2.2.2.2.2.2.2.1
abbrev xc (X : vX) : Code := X.2.2.2.2.2.2.2.2.2.1
abbrev xA (X : vX) : Nat → Prop := X.2.2.2.2.2.2.2.2.2.2.1
abbrev xk (X : vX) : Nat := X.2.2.2.2.2.2.2.2.2.2.2.1
abbrev xn (X : vX) : Nat := X.2.2.2.2.2.2.2.2.2.2.2.2
def FX (G : vG) (X : vX) (cc : ByteArray) (own : String) (nL d : Nat) : Prop :=
  CallFix (xp X) (xm X) (xc X) cc nL (xs X) (xa X) bigW own ∧ gE G (xA X) (xs X) ∧ (∀ k, k < shp.length → xA X (gad G k)) ∧ d ≤ (xR X).frames ∧ 40 * d ≤ (xR X).locals ∧ xk X ≤ (xR X).cells ∧ xn X ≤ (xR X).slots
def WV (G : vG) (X : vX) (Q : State → Prop) (H : Heap) (locs : List Loc) (pc : Nat) (ls : Array Slot) (st : List RV) : Prop :=
  W (xp X) (xl X) (xe X) (xR X) (xs X) (xm X) (xa X) (xb X) (xh X) (xc X) H locs (xk X) (xn X) Q (F0 (xm X) pc ls (st.map (rv G)))
def V (G : vG) (X : vX) (nL : Nat) (Q : State → Prop) (pc : Nat) (L : List (Option RV)) (st : List RV) (w : RW) : Prop :=
  ∀ (H : Heap) (locs : List Loc) (ls : Array Slot), va_P (gD G) classes (gW G w) H → va_S (xA X) (xs X).heap H locs → lv_has ls nL (gL G L) → rgw w → rgl L → rgs st → WV G X Q H locs pc ls st
section VK
variable {G : vG} {X : vX} {cc : ByteArray} {own : String} {nL d pc : Nat} {Q : State → Prop} {L : List (Option RV)} {st : List RV} {w : RW}
theorem V_go {pc' : Nat} {st' : List RV} (k : V G X nL Q pc' L st' w) (h : ∀ (H : Heap) (locs : List Loc) (ls : Array Slot), rgs st → lv_has ls nL (gL G L) → WV G X Q H locs pc' ls st' → WV G X Q H locs pc ls st) (hr : rgl L → rgs st → rgs st') : V G X nL Q pc L st w :=
  fun H locs ls hP hS hl hw h1 h2 => h H locs ls h2 hl (k H locs ls hP hS hl hw h1 (hr h1 h2))
/-- what the numbers at hand are -/
theorem V_w (k : rgw w → V G X nL Q pc L st w) : V G X nL Q pc L st w := fun H locs ls hP hS hl hw => k hw H locs ls hP hS hl hw
theorem V_top {z : Int} (k : inR z → V G X nL Q pc L (.inl z :: st) w) : V G X nL Q pc L (.inl z :: st) w := fun H locs ls hP hS hl hw h1 h2 => k (rgs_int.mp h2).1 H locs ls hP hS hl hw h1 h2
theorem V_loc {z : Int} (i : Nat) (hi : L[i]? = some (some (.inl z))) (k : inR z → V G X nL Q pc L st w) : V G X nL Q pc L st w := fun H locs ls hP hS hl hw h1 h2 => k (rgl_at h1 hi) H locs ls hP hS hl hw h1 h2
theorem V_eq {st' : List RV} {L' : List (Option RV)} {w' : RW} (e1 : L = L') (e2 : st = st') (e3 : w = w') (k : V G X nL Q pc L' st' w') : V G X nL Q pc L st w := by subst e1; subst e2; subst e3; exact k
-- constants, locals, the stack
theorem V_iconst (F : FX G X cc own nL d) {n : Int} (hd : decode cc pc = .ok (.iconst n, 1)) (hn : -1 ≤ n ∧ n ≤ 5) (k : V G X nL Q (pc + 1) L (.inl n :: st) w) : V G X nL Q pc L st w :=
  V_go k (fun _ _ _ _ _ k => lv_iconst F.1.1 F.1.2.1 hd rfl k) (fun _ h => rgs_int.mpr ⟨⟨by omega, by omega⟩, h⟩)
theorem V_bipush (F : FX G X cc own nL d) {n : Int} (hd : decode cc pc = .ok (.bipush n, 2)) (hn : (-128 ≤ n ∧ n ≤ 127) ∧ (Int8.ofInt n).toInt32 = Int32.ofInt n) (k : V G X nL Q (pc + 2) L (.inl n :: st) w) : V G X nL Q pc L st w :=
  V_go k (fun _ _ _ _ _ k => lv_bipush F.1.1 F.1.2.1 hd hn.2 k) (fun _ h => rgs_int.mpr ⟨⟨by omega, by omega⟩, h⟩)
theorem V_sipush (F : FX G X cc own nL d) {n : Int} (hd : decode cc pc = .ok (.sipush n, 3)) (hn : (-32768 ≤ n ∧ n ≤ 32767) ∧ (Int16.ofInt n).toInt32 = Int32.ofInt n) (k : V G X nL Q (pc + 3) L (.inl n :: st) w) : V G X nL Q pc L st w :=
  V_go k (fun _ _ _ _ _ k => lv_sipush F.1.1 F.1.2.1 hd hn.2 k) (fun _ h => rgs_int.mpr ⟨⟨by omega, by omega⟩, h⟩)
theorem V_ldc (F : FX G X cc own nL d) {n : Int} {index : Nat} (hd : decode cc pc = .ok (.ldc index, 2)) (hc : Cond.constant own index (Int32.ofInt n) ∈ bigW) (hn : inR n) (k : V G X nL Q (pc + 2) L (.inl n :: st) w) : V G X nL Q pc L st w :=
  V_go k (fun _ _ _ _ _ k => lv_ldc F.1.1 F.1.2.1 F.1.2.2.2.1 (F.1.2.2.2.2 _ hc) hd k) (fun _ h => rgs_int.mpr ⟨hn, h⟩)
theorem V_iload_n (F : FX G X cc own nL d) {j : Fin 4} {i : Nat} {z : Int} (hd : decode cc pc = .ok (.iload_n j, 1)) (hi : (j : Nat) = i) (hz : L[i]? = some (some (.inl z))) (k : V G X nL Q (pc + 1) L (.inl z :: st) w) : V G X nL Q pc L st w :=
  V_go k (fun _ _ _ _ hl k => lv_iload_n F.1.1 F.1.2.1 hd hi (gL_at hl hz) k) (fun h1 h => rgs_int.mpr ⟨rgl_at h1 hz, h⟩)
theorem V_iload (F : FX G X cc own nL d) {i : Nat} {z : Int} (hd : decode cc pc = .ok (.iload i, 2)) (hz : L[i]? = some (some (.inl z))) (k : V G X nL Q (pc + 2) L (.inl z :: st) w) : V G X nL Q pc L st w :=
  V_go k (fun _ _ _ _ hl k => lv_iload F.1.1 F.1.2.1 hd (gL_at hl hz) k) (fun h1 h => rgs_int.mpr ⟨rgl_at h1 hz, h⟩)
theorem V_aload_n (F : FX G X cc own nL d) {j : Fin 4} {i : Nat} {z : Nat} (hd : decode cc pc = .ok (.aload_n j, 1)) (hi : (j : Nat) = i) (hz : L[i]? = some (some (.inr z))) (k : V G X nL Q (pc + 1) L (.inr z :: st) w) : V G X nL Q pc L st w :=
  V_go k (fun _ _ _ _ hl k => lv_aload_n F.1.1 F.1.2.1 hd hi (gL_at hl hz) k) (fun _ h => rgs_ref.mpr h)
theorem V_aload (F : FX G X cc own nL d) {i : Nat} {z : Nat} (hd : decode cc pc = .ok (.aload i, 2)) (hz : L[i]? = some (some (.inr z))) (k : V G X nL Q (pc + 2) L (.inr z :: st) w) : V G X nL Q pc L st w :=
  V_go k (fun _ _ _ _ hl k => lv_aload F.1.1 F.1.2.1 hd (gL_at hl hz) k) (fun _ h => rgs_ref.mpr h)
theorem V_istore_n (F : FX G X cc own nL d) {j : Fin 4} {i : Nat} {z : Int} {L' : List (Option RV)} (hd : decode cc pc = .ok (.istore_n j, 1)) (hi : (j : Nat) = i) (hn : i < nL) (hL : L.set i (some (.inl z)) = L') (k : V G X nL Q (pc + 1) L' st w) : V G X nL Q pc L (.inl z :: st) w := by
  subst hL
  exact fun H locs ls hP hS hl hw h1 h2 => lv_istore_n F.1.1 F.1.2.1 hd hi hl hn rfl fun ls' hl' => k H locs ls' hP hS (gL_set (x := .inl z) hl') hw (rgl_set h1 (rgs_cons.mp h2).1) (rgs_cons.mp h2).2
theorem V_istore (F : FX G X cc own nL d) {i : Nat} {z : Int} {L' : List (Option RV)} (hd : decode cc pc = .ok (.istore i, 2)) (hn : i < nL) (hL : L.set i (some (.inl z)) = L') (k : V G X nL Q (pc + 2) L' st w) : V G X nL Q pc L (.inl z :: st) w := by
  subst hL
  exact fun H locs ls hP hS hl hw h1 h2 => lv_istore F.1.1 F.1.2.1 hd hl hn rfl fun ls' hl' => k H locs ls' hP hS (gL_set (x := .inl z) hl') hw (rgl_set h1 (rgs_cons.mp h2).1) (rgs_cons.mp h2).2
theorem V_astore_n (F : FX G X cc own nL d) {j : Fin 4} {i : Nat} {z : Nat} {L' : List (Option RV)} (hd : decode cc pc = .ok (.astore_n j, 1)) (hi : (j : Nat) = i) (hn : i < nL) (hL : L.set i (some (.inr z)) = L') (k : V G X nL Q (pc + 1) L' st w) : V G X nL Q pc L (.inr z :: st) w := by
  subst hL
  exact fun H locs ls hP hS hl hw h1 h2 => lv_astore_n F.1.1 F.1.2.1 hd hi hl hn rfl fun ls' hl' => k H locs ls' hP hS (gL_set (x := .inr z) hl') hw (rgl_set h1 trivial) (rgs_cons.mp h2).2
theorem V_astore (F : FX G X cc own nL d) {i : Nat} {z : Nat} {L' : List (Option RV)} (hd : decode cc pc = .ok (.astore i, 2)) (hn : i < nL) (hL : L.set i (some (.inr z)) = L') (k : V G X nL Q (pc + 2) L' st w) : V G X nL Q pc L (.inr z :: st) w := by
  subst hL
  exact fun H locs ls hP hS hl hw h1 h2 => lv_astore F.1.1 F.1.2.1 hd hl hn rfl fun ls' hl' => k H locs ls' hP hS (gL_set (x := .inr z) hl') hw (rgl_set h1 trivial) (rgs_cons.mp h2).2
theorem V_iinc (F : FX G X cc own nL d) {i : Nat} {n z : Int} {L' : List (Option RV)} (hd : decode cc pc = .ok (.iinc i n, 3)) (hn : i < nL) (hz : L[i]? = some (some (.inl z))) (hr : -2147483648 ≤ z + n ∧ z + n < 2147483648) (hL : L.set i (some (.inl (z + n))) = L') (k : V G X nL Q (pc + 3) L' st w) : V G X nL Q pc L st w := by
  subst hL
  intro H locs ls hP hS hl hw h1 h2
  obtain ⟨j, hj⟩ := List.getElem?_of_mem (gL_mem.mpr ⟨_, hz, rfl⟩ : ((i, rv G (.inl z)) : Nat × Value) ∈ gL G L)
  refine lv_iinc F.1.1 F.1.2.1 hd hl hj (v := Int32.ofInt (z + n)) (by rw [Int32.ofInt_add]) hn rfl fun ls' hl' => k H locs ls' hP hS (gL_set (x := .inl (z + n)) hl') hw (rgl_set h1 hr) h2
theorem V_dup (F : FX G X cc own nL d) {v : RV} (hd : decode cc pc = .ok (.dup, 1)) (k : V G X nL Q (pc + 1) L (v :: v :: st) w) : V G X nL Q pc L (v :: st) w :=
  V_go k (fun _ _ _ _ _ k => lv_dup F.1.1 F.1.2.1 hd (rv_cat G v) k) (fun _ h => rgs_cons.mpr ⟨(rgs_cons.mp h).1, h⟩)
theorem V_dup2 (F : FX G X cc own nL d) {v u : RV} (hd : decode cc pc = .ok (.dup2, 1)) (k : V G X nL Q (pc + 1) L (v :: u :: v :: u :: st) w) : V G X nL Q pc L (v :: u :: st) w :=
  V_go k (fun _ _ _ _ _ k => lv_dup2_11 F.1.1 F.1.2.1 hd (rv_cat G v) (rv_cat G u) k) (fun _ h => rgs_cons.mpr ⟨(rgs_cons.mp h).1, rgs_cons.mpr ⟨(rgs_cons.mp (rgs_cons.mp h).2).1, h⟩⟩)
theorem V_pop (F : FX G X cc own nL d) {v : RV} (hd : decode cc pc = .ok (.pop, 1)) (k : V G X nL Q (pc + 1) L st w) : V G X nL Q pc L (v :: st) w :=
  V_go k (fun _ _ _ _ _ k => lv_pop F.1.1 F.1.2.1 hd (rv_cat G v) k) (fun _ h => (rgs_cons.mp h).2)
theorem V_dup_x1 (F : FX G X cc own nL d) {v u : RV} (hd : decode cc pc = .ok (.dup_x1, 1)) (k : V G X nL Q (pc + 1) L (v :: u :: v :: st) w) : V G X nL Q pc L (v :: u :: st) w :=
  V_go k (fun _ _ _ _ _ k => lv_dup_x1 F.1.1 F.1.2.1 hd (rv_cat G v) (rv_cat G u) k) (fun _ h => rgs_cons.mpr ⟨(rgs_cons.mp h).1, rgs_cons.mpr ⟨(rgs_cons.mp (rgs_cons.mp h).2).1, rgs_cons.mpr ⟨(rgs_cons.mp h).1, (rgs_cons.mp (rgs_cons.mp h).2).2⟩⟩⟩)
-- arithmetic
theorem V_iadd (F : FX G X cc own nL d) {a b : Int} (hd : decode cc pc = .ok (.iadd, 1)) (hr : -2147483648 ≤ a + b ∧ a + b < 2147483648) (k : V G X nL Q (pc + 1) L (.inl (a + b) :: st) w) : V G X nL Q pc L (.inl b :: .inl a :: st) w :=
  V_go k (fun _ _ _ _ _ k => lv_iadd F.1.1 F.1.2.1 hd (by rw [← Int32.ofInt_add]; exact k)) (fun _ h => rgs_int.mpr ⟨hr, (rgs_cons.mp (rgs_cons.mp h).2).2⟩)
theorem V_isub (F : FX G X cc own nL d) {a b : Int} (hd : decode cc pc = .ok (.isub, 1)) (hr : -2147483648 ≤ a - b ∧ a - b < 2147483648) (k : V G X nL Q (pc + 1) L (.inl (a - b) :: st) w) : V G X nL Q pc L (.inl b :: .inl a :: st) w :=
  V_go k (fun _ _ _ _ _ k => lv_isub F.1.1 F.1.2.1 hd (by rw [← Int32.ofInt_sub]; exact k)) (fun _ h => rgs_int.mpr ⟨hr, (rgs_cons.mp (rgs_cons.mp h).2).2⟩)
theorem V_imul (F : FX G X cc own nL d) {a b : Int} (hd : decode cc pc = .ok (.imul, 1)) (hr : -2147483648 ≤ a * b ∧ a * b < 2147483648) (k : V G X nL Q (pc + 1) L (.inl (a * b) :: st) w) : V G X nL Q pc L (.inl b :: .inl a :: st) w :=
  V_go k (fun _ _ _ _ _ k => lv_imul F.1.1 F.1.2.1 hd (by rw [← Int32.ofInt_mul]; exact k)) (fun _ h => rgs_int.mpr ⟨hr, (rgs_cons.mp (rgs_cons.mp h).2).2⟩)
theorem V_idiv (F : FX G X cc own nL d) {a b : Int} (hd : decode cc pc = .ok (.idiv, 1)) (h0 : 0 ≤ a ∧ 0 < b) (k : V G X nL Q (pc + 1) L (.inl (a / b) :: st) w) : V G X nL Q pc L (.inl b :: .inl a :: st) w :=
  V_go k (fun _ _ _ h _ k => by
    have hb := (rgs_int.mp h).1
    have ha := (rgs_int.mp (rgs_int.mp h).2).1
    refine lv_idiv F.1.1 F.1.2.1 hd (fun e => ?_) (by rw [iR_div ha hb h0.1 h0.2]; exact k)
    have := (iR_eq hb iR_0).mp (e.trans iR_z.symm)
    omega) (fun _ h => rgs_int.mpr ⟨iR_div_in (rgs_int.mp (rgs_int.mp h).2).1 h0.1 h0.2, (rgs_cons.mp (rgs_cons.mp h).2).2⟩)
theorem V_irem (F : FX G X cc own nL d) {a b : Int} (hd : decode cc pc = .ok (.irem, 1)) (h0 : 0 ≤ a ∧ 0 < b) (k : V G X nL Q (pc + 1) L (.inl (a % b) :: st) w) : V G X nL Q pc L (.inl b :: .inl a :: st) w :=
  V_go k (fun _ _ _ h _ k => by
    have hb := (rgs_int.mp h).1
    have ha := (rgs_int.mp (rgs_int.mp h).2).1
    refine lv_irem F.1.1 F.1.2.1 hd (fun e => ?_) (by rw [iR_rem ha hb h0.1 h0.2]; exact k)
    have := (iR_eq hb iR_0).mp (e.trans iR_z.symm)
    omega) (fun _ h => rgs_int.mpr ⟨iR_rem_in (rgs_int.mp h).1 h0.2, (rgs_cons.mp (rgs_cons.mp h).2).2⟩)
def iand (a b : Int) : Int := (Int32.ofInt a &&& Int32.ofInt b).toInt
def ior (a b : Int) : Int := (Int32.ofInt a ||| Int32.ofInt b).toInt
def ixor (a b : Int) : Int := (Int32.ofInt a ^^^ Int32.ofInt b).toInt
def ishl (a b : Int) : Int := (Int32.ofInt a <<< (Int32.ofInt b &&& 31)).toInt
def ishr (a b : Int) : Int := (Int32.ofInt a >>> (Int32.ofInt b &&& 31)).toInt
theorem iR_toInt (x : Int32) : inR x.toInt := ⟨by have := Int32.le_toInt x; simpa using this, by have := Int32.toInt_lt x; simpa using this⟩
theorem V_iand (F : FX G X cc own nL d) {a b : Int} (r : Int) (hd : decode cc pc = .ok (.iand, 1)) (e : iand a b = r) (k : V G X nL Q (pc + 1) L (.inl r :: st) w) : V G X nL Q pc L (.inl b :: .inl a :: st) w :=
  V_go k (fun _ _ _ _ _ k => lv_iand F.1.1 F.1.2.1 hd (by rw [← e, iand] at k; rw [← Int32.ofInt_toInt (Int32.ofInt a &&& Int32.ofInt b)]; exact k)) (fun _ h => rgs_int.mpr ⟨by rw [← e]; exact iR_toInt _, (rgs_cons.mp (rgs_cons.mp h).2).2⟩)
theorem V_ior (F : FX G X cc own nL d) {a b : Int} (r : Int) (hd : decode cc pc = .ok (.ior, 1)) (e : ior a b = r) (k : V G X nL Q (pc + 1) L (.inl r :: st) w) : V G X nL Q pc L (.inl b :: .inl a :: st) w :=
  V_go k (fun _ _ _ _ _ k => lv_ior F.1.1 F.1.2.1 hd (by rw [← e, ior] at k; rw [← Int32.ofInt_toInt (Int32.ofInt a ||| Int32.ofInt b)]; exact k)) (fun _ h => rgs_int.mpr ⟨by rw [← e]; exact iR_toInt _, (rgs_cons.mp (rgs_cons.mp h).2).2⟩)
theorem V_ixor (F : FX G X cc own nL d) {a b : Int} (r : Int) (hd : decode cc pc = .ok (.ixor, 1)) (e : ixor a b = r) (k : V G X nL Q (pc + 1) L (.inl r :: st) w) : V G X nL Q pc L (.inl b :: .inl a :: st) w :=
  V_go k (fun _ _ _ _ _ k => lv_ixor F.1.1 F.1.2.1 hd (by rw [← e, ixor] at k; rw [← Int32.ofInt_toInt (Int32.ofInt a ^^^ Int32.ofInt b)]; exact k)) (fun _ h => rgs_int.mpr ⟨by rw [← e]; exact iR_toInt _, (rgs_cons.mp (rgs_cons.mp h).2).2⟩)
theorem V_ishl (F : FX G X cc own nL d) {a b : Int} (r : Int) (hd : decode cc pc = .ok (.ishl, 1)) (e : ishl a b = r) (k : V G X nL Q (pc + 1) L (.inl r :: st) w) : V G X nL Q pc L (.inl b :: .inl a :: st) w :=
  V_go k (fun _ _ _ _ _ k => lv_ishl F.1.1 F.1.2.1 hd (by rw [← e, ishl] at k; rw [← Int32.ofInt_toInt (Int32.ofInt a <<< (Int32.ofInt b &&& 31))]; exact k)) (fun _ h => rgs_int.mpr ⟨by rw [← e]; exact iR_toInt _, (rgs_cons.mp (rgs_cons.mp h).2).2⟩)
theorem V_ishr (F : FX G X cc own nL d) {a b : Int} (r : Int) (hd : decode cc pc = .ok (.ishr, 1)) (e : ishr a b = r) (k : V G X nL Q (pc + 1) L (.inl r :: st) w) : V G X nL Q pc L (.inl b :: .inl a :: st) w :=
  V_go k (fun _ _ _ _ _ k => lv_ishr F.1.1 F.1.2.1 hd (by rw [← e, ishr] at k; rw [← Int32.ofInt_toInt (Int32.ofInt a >>> (Int32.ofInt b &&& 31))]; exact k)) (fun _ h => rgs_int.mpr ⟨by rw [← e]; exact iR_toInt _, (rgs_cons.mp (rgs_cons.mp h).2).2⟩)
-- branches
theorem V_goto (F : FX G X cc own nL d) {off : Int} (tgt : Nat) (hd : decode cc pc = .ok (.goto off, 3)) (ht : (pc : Int) + off = (tgt : Int)) (k : V G X nL Q tgt L st w) : V G X nL Q pc L st w :=
  V_go k (fun _ _ _ _ _ k => lv_goto F.1.1 F.1.2.1 hd ht k) (fun _ h => h)
theorem V_if_eq (F : FX G X cc own nL d) {a off : Int} (tgt : Nat) (hd : decode cc pc = .ok (.ifCond .eq off, 3)) (ht : (pc : Int) + off = (tgt : Int)) (kt : a = 0 → V G X nL Q tgt L st w) (kf : ¬ a = 0 → V G X nL Q (pc + 3) L st w) : V G X nL Q pc L (.inl a :: st) w := by
  intro H locs ls hP hS hl hw h1 h2
  obtain ⟨ha, h3⟩ := rgs_int.mp h2
  have E := (iR_eq ha iR_0)
  rw [iR_z] at E
  exact lv_if_eq F.1.1 F.1.2.1 hd ht (fun q => kt (E.mp q) H locs ls hP hS hl hw h1 h3) (fun q => kf (fun z => q (E.mpr z)) H locs ls hP hS hl hw h1 h3)
theorem V_if_ne (F : FX G X cc own nL d) {a off : Int} (tgt : Nat) (hd : decode cc pc = .ok (.ifCond .ne off, 3)) (ht : (pc : Int) + off = (tgt : Int)) (kt : ¬ a = 0 → V G X nL Q tgt L st w) (kf : a = 0 → V G X nL Q (pc + 3) L st w) : V G X nL Q pc L (.inl a :: st) w := by
  intro H locs ls hP hS hl hw h1 h2
  obtain ⟨ha, h3⟩ := rgs_int.mp h2
  have E := (iR_eq ha iR_0)
  rw [iR_z] at E
  exact lv_if_ne F.1.1 F.1.2.1 hd ht (fun q => kt (fun z => q (E.mpr z)) H locs ls hP hS hl hw h1 h3) (fun q => kf (E.mp q) H locs ls hP hS hl hw h1 h3)
theorem V_if_lt (F : FX G X cc own nL d) {a off : Int} (tgt : Nat) (hd : decode cc pc = .ok (.ifCond .lt off, 3)) (ht : (pc : Int) + off = (tgt : Int)) (kt : a < 0 → V G X nL Q tgt L st w) (kf : ¬ a < 0 → V G X nL Q (pc + 3) L st w) : V G X nL Q pc L (.inl a :: st) w := by
  intro H locs ls hP hS hl hw h1 h2
  obtain ⟨ha, h3⟩ := rgs_int.mp h2
  have E := (iR_lt ha iR_0)
  rw [iR_z] at E
  exact lv_if_lt F.1.1 F.1.2.1 hd ht (fun q => kt (E.mp q) H locs ls hP hS hl hw h1 h3) (fun q => kf (fun z => q (E.mpr z)) H locs ls hP hS hl hw h1 h3)
theorem V_if_ge (F : FX G X cc own nL d) {a off : Int} (tgt : Nat) (hd : decode cc pc = .ok (.ifCond .ge off, 3)) (ht : (pc : Int) + off = (tgt : Int)) (kt : 0 ≤ a → V G X nL Q tgt L st w) (kf : ¬ 0 ≤ a → V G X nL Q (pc + 3) L st w) : V G X nL Q pc L (.inl a :: st) w := by
  intro H locs ls hP hS hl hw h1 h2
  obtain ⟨ha, h3⟩ := rgs_int.mp h2
  have E := (iR_le iR_0 ha)
  rw [iR_z] at E
  exact lv_if_ge F.1.1 F.1.2.1 hd ht (fun q => kt (E.mp q) H locs ls hP hS hl hw h1 h3) (fun q => kf (fun z => q (E.mpr z)) H locs ls hP hS hl hw h1 h3)
theorem V_if_gt (F : FX G X cc own nL d) {a off : Int} (tgt : Nat) (hd : decode cc pc = .ok (.ifCond .gt off, 3)) (ht : (pc : Int) + off = (tgt : Int)) (kt : 0 < a → V G X nL Q tgt L st w) (kf : ¬ 0 < a → V G X nL Q (pc + 3) L st w) : V G X nL Q pc L (.inl a :: st) w := by
  intro H locs ls hP hS hl hw h1 h2
  obtain ⟨ha, h3⟩ := rgs_int.mp h2
  have E := (iR_lt iR_0 ha)
  rw [iR_z] at E
  exact lv_if_gt F.1.1 F.1.2.1 hd ht (fun q => kt (E.mp q) H locs ls hP hS hl hw h1 h3) (fun q => kf (fun z => q (E.mpr z)) H locs ls hP hS hl hw h1 h3)
theorem V_if_le (F : FX G X cc own nL d) {a off : Int} (tgt : Nat) (hd : decode cc pc = .ok (.ifCond .le off, 3)) (ht : (pc : Int) + off = (tgt : Int)) (kt : a ≤ 0 → V G X nL Q tgt L st w) (kf : ¬ a ≤ 0 → V G X nL Q (pc + 3) L st w) : V G X nL Q pc L (.inl a :: st) w := by
  intro H locs ls hP hS hl hw h1 h2
  obtain ⟨ha, h3⟩ := rgs_int.mp h2
  have E := (iR_le ha iR_0)
  rw [iR_z] at E
  exact lv_if_le F.1.1 F.1.2.1 hd ht (fun q => kt (E.mp q) H locs ls hP hS hl hw h1 h3) (fun q => kf (fun z => q (E.mpr z)) H locs ls hP hS hl hw h1 h3)
theorem V_icmp_eq (F : FX G X cc own nL d) {a b off : Int} (tgt : Nat) (hd : decode cc pc = .ok (.if_icmp .eq off, 3)) (ht : (pc : Int) + off = (tgt : Int)) (kt : a = b → V G X nL Q tgt L st w) (kf : ¬ a = b → V G X nL Q (pc + 3) L st w) : V G X nL Q pc L (.inl b :: .inl a :: st) w := by
  intro H locs ls hP hS hl hw h1 h2
  obtain ⟨hb, h3⟩ := rgs_int.mp h2
  obtain ⟨ha, h4⟩ := rgs_int.mp h3
  have E := (iR_eq ha hb)
  exact lv_icmp_eq F.1.1 F.1.2.1 hd ht (fun q => kt (E.mp q) H locs ls hP hS hl hw h1 h4) (fun q => kf (fun z => q (E.mpr z)) H locs ls hP hS hl hw h1 h4)
theorem V_icmp_ne (F : FX G X cc own nL d) {a b off : Int} (tgt : Nat) (hd : decode cc pc = .ok (.if_icmp .ne off, 3)) (ht : (pc : Int) + off = (tgt : Int)) (kt : ¬ a = b → V G X nL Q tgt L st w) (kf : a = b → V G X nL Q (pc + 3) L st w) : V G X nL Q pc L (.inl b :: .inl a :: st) w := by
  intro H locs ls hP hS hl hw h1 h2
  obtain ⟨hb, h3⟩ := rgs_int.mp h2
  obtain ⟨ha, h4⟩ := rgs_int.mp h3
  have E := (iR_eq ha hb)
  exact lv_icmp_ne F.1.1 F.1.2.1 hd ht (fun q => kt (fun z => q (E.mpr z)) H locs ls hP hS hl hw h1 h4) (fun q => kf (E.mp q) H locs ls hP hS hl hw h1 h4)
theorem V_icmp_lt (F : FX G X cc own nL d) {a b off : Int} (tgt : Nat) (hd : decode cc pc = .ok (.if_icmp .lt off, 3)) (ht : (pc : Int) + off = (tgt : Int)) (kt : a < b → V G X nL Q tgt L st w) (kf : ¬ a < b → V G X nL Q (pc + 3) L st w) : V G X nL Q pc L (.inl b :: .inl a :: st) w := by
  intro H locs ls hP hS hl hw h1 h2
  obtain ⟨hb, h3⟩ := rgs_int.mp h2
  obtain ⟨ha, h4⟩ := rgs_int.mp h3
  have E := (iR_lt ha hb)
  exact lv_icmp_lt F.1.1 F.1.2.1 hd ht (fun q => kt (E.mp q) H locs ls hP hS hl hw h1 h4) (fun q => kf (fun z => q (E.mpr z)) H locs ls hP hS hl hw h1 h4)
theorem V_icmp_ge (F : FX G X cc own nL d) {a b off : Int} (tgt : Nat) (hd : decode cc pc = .ok (.if_icmp .ge off, 3)) (ht : (pc : Int) + off = (tgt : Int)) (kt : b ≤ a → V G X nL Q tgt L st w) (kf : ¬ b ≤ a → V G X nL Q (pc + 3) L st w) : V G X nL Q pc L (.inl b :: .inl a :: st) w := by
  intro H locs ls hP hS hl hw h1 h2
  obtain ⟨hb, h3⟩ := rgs_int.mp h2
  obtain ⟨ha, h4⟩ := rgs_int.mp h3
  have E := (iR_le hb ha)
  exact lv_icmp_ge F.1.1 F.1.2.1 hd ht (fun q => kt (E.mp q) H locs ls hP hS hl hw h1 h4) (fun q => kf (fun z => q (E.mpr z)) H locs ls hP hS hl hw h1 h4)
theorem V_icmp_gt (F : FX G X cc own nL d) {a b off : Int} (tgt : Nat) (hd : decode cc pc = .ok (.if_icmp .gt off, 3)) (ht : (pc : Int) + off = (tgt : Int)) (kt : b < a → V G X nL Q tgt L st w) (kf : ¬ b < a → V G X nL Q (pc + 3) L st w) : V G X nL Q pc L (.inl b :: .inl a :: st) w := by
  intro H locs ls hP hS hl hw h1 h2
  obtain ⟨hb, h3⟩ := rgs_int.mp h2
  obtain ⟨ha, h4⟩ := rgs_int.mp h3
  have E := (iR_lt hb ha)
  exact lv_icmp_gt F.1.1 F.1.2.1 hd ht (fun q => kt (E.mp q) H locs ls hP hS hl hw h1 h4) (fun q => kf (fun z => q (E.mpr z)) H locs ls hP hS hl hw h1 h4)
theorem V_icmp_le (F : FX G X cc own nL d) {a b off : Int} (tgt : Nat) (hd : decode cc pc = .ok (.if_icmp .le off, 3)) (ht : (pc : Int) + off = (tgt : Int)) (kt : a ≤ b → V G X nL Q tgt L st w) (kf : ¬ a ≤ b → V G X nL Q (pc + 3) L st w) : V G X nL Q pc L (.inl b :: .inl a :: st) w := by
  intro H locs ls hP hS hl hw h1 h2
  obtain ⟨hb, h3⟩ := rgs_int.mp h2
  obtain ⟨ha, h4⟩ := rgs_int.mp h3
  have E := (iR_le ha hb)
  exact lv_icmp_le F.1.1 F.1.2.1 hd ht (fun q => kt (E.mp q) H locs ls hP hS hl hw h1 h4) (fun q => kf (fun z => q (E.mpr z)) H locs ls hP hS hl hw h1 h4)
theorem V_tabOut (F : FX G X cc own nL d) {dflt lo hi : Int} {offs : Array Int} {len : Nat} {a : Int} (tgt : Nat) (hd : decode cc pc = .ok (.tableswitch dflt lo hi offs, len)) (h : a < lo ∨ hi < a) (ht : (pc : Int) + dflt = (tgt : Int)) (k : V G X nL Q tgt L st w) : V G X nL Q pc L (.inl a :: st) w :=
  V_go k (fun _ _ _ h2 _ k => lv_tableOut F.1.1 F.1.2.1 hd (by rw [iR_t (rgs_int.mp h2).1]; exact h) ht k) (fun _ h => (rgs_cons.mp h).2)
theorem V_tabIn (F : FX G X cc own nL d) {dflt lo hi : Int} {offs : Array Int} {len : Nat} {a off : Int} (tgt : Nat) (hd : decode cc pc = .ok (.tableswitch dflt lo hi offs, len)) (h : lo ≤ a ∧ a ≤ hi) (ho : offs[(a - lo).toNat]? = some off) (ht : (pc : Int) + off = (tgt : Int)) (k : V G X nL Q tgt L st w) : V G X nL Q pc L (.inl a :: st) w :=
  V_go k (fun _ _ _ h2 _ k => lv_tableIn F.1.1 F.1.2.1 hd (by rw [iR_t (rgs_int.mp h2).1]; omega) (by rw [iR_t (rgs_int.mp h2).1]; omega) (by rw [iR_t (rgs_int.mp h2).1]; exact ho) ht k) (fun _ h => (rgs_cons.mp h).2)
-- fields
theorem fvs_at {k j : Nat} {fs : List (Option Nat)} (h : fs[j]? = some none) : (fvs G w k fs)[j]? = some (.int (Int32.ofInt (w k (j : Int)))) := by
  simp [fvs, List.getElem?_map, List.getElem?_zipIdx, h]
theorem fvs_ar {k j t : Nat} {fs : List (Option Nat)} (h : fs[j]? = some (some t)) : (fvs G w k fs)[j]? = some (.ref (gad G t)) := by
  simp [fvs, List.getElem?_map, List.getElem?_zipIdx, h]
theorem fvs_set {k j : Nat} {z : Int} {fs : List (Option Nat)} (h : fs[j]? = some none) : (fvs G w k fs).set j (.int (Int32.ofInt z)) = fvs G (upw w k (j : Int) z) k fs := by
  have hj := (List.getElem?_eq_some_iff.mp h).1
  apply List.ext_getElem?
  intro i
  by_cases hi : i = j
  · subst hi
    rw [List.getElem?_set_self (by simp [fvs]; exact hj), fvs_at h, upw_s]
  · rw [List.getElem?_set_ne (Ne.symm hi)]
    cases hf : fs[i]? with
    | none =>
      have hl : fs.length ≤ i := by simpa using hf
      rw [List.getElem?_eq_none (by simp [fvs]; exact hl), List.getElem?_eq_none (by simp [fvs]; exact hl)]
    | some o =>
      cases o with
      | none => rw [fvs_at hf, fvs_at hf, upw_i (by omega)]
      | some t => rw [fvs_ar hf, fvs_ar hf]
theorem F_D (F : FX G X cc own nL d) (w : RW) : va_D (xA X) (gW G w) := gW_D F.2.1.2.2.1 F.2.2.1 w
theorem V_geti (F : FX G X cc own nL d) {k ci j index N : Nat} {fs : List (Option Nat)} {C : String} {T : u_T} (hd : decode cc pc = .ok (.getfield index, 3)) (hk : shp[k]? = some (.inr (.inl (ci, fs)))) (hc : classes[ci]? = some (C, T, N)) (jz : Int) (hjz : (j : Int) = jz) (hjN : j < N) (hj : fs[j]? = some none) (hl : Cond.fieldLink own index (T j).1 (T j).2.1 (T j).2.2.1 ∈ bigW) (kk : V G X nL Q (pc + 3) L (.inl (w k jz) :: st) w) : V G X nL Q pc L (.inr k :: st) w :=
  by subst hjz; exact fun H locs ls hP hS hL hw h1 h2 => va_get F.1.1 F.1.2.1 F.1.2.2.2.2 (cls_in hc) F.1.2.2.2.1 F.2.1.1 hP k (gW_at G w hk) hc j hjN (F.1.2.2.2.2 _ hl) (fun _ h => h) (fvs_at hj) hd (kk H locs ls hP hS hL hw h1 (rgs_int.mpr ⟨hw _ _, (rgs_cons.mp h2).2⟩))
theorem V_getr (F : FX G X cc own nL d) {k ci j t index N : Nat} {fs : List (Option Nat)} {C : String} {T : u_T} (hd : decode cc pc = .ok (.getfield index, 3)) (hk : shp[k]? = some (.inr (.inl (ci, fs)))) (hc : classes[ci]? = some (C, T, N)) (hjN : j < N) (hj : fs[j]? = some (some t)) (hl : Cond.fieldLink own index (T j).1 (T j).2.1 (T j).2.2.1 ∈ bigW) (kk : V G X nL Q (pc + 3) L (.inr t :: st) w) : V G X nL Q pc L (.inr k :: st) w :=
  fun H locs ls hP hS hL hw h1 h2 => va_get F.1.1 F.1.2.1 F.1.2.2.2.2 (cls_in hc) F.1.2.2.2.1 F.2.1.1 hP k (gW_at G w hk) hc j hjN (F.1.2.2.2.2 _ hl) (fun _ h => h) (fvs_ar hj) hd (kk H locs ls hP hS hL hw h1 (rgs_ref.mpr (rgs_cons.mp h2).2))
theorem V_getiN (F : FX G X cc own nL d) {k ci j index N : Nat} {fs : List (Option Nat)} {C : String} {T : u_T} (hd : decode cc pc = .ok (.getfield index, 3)) (hk : shp[k]? = some (.inr (.inl (ci, fs)))) (hc : classes[ci]? = some (C, T, N)) (jz : Int) (hjz : (j : Int) = jz) (hjN : j < N) (hj : fs[j]? = some none) (hl : Cond.fieldLinkNest own index (T j).1 (T j).2.1 (T j).2.2.1 hostN ∈ nestW) (kk : V G X nL Q (pc + 3) L (.inl (w k jz) :: st) w) : V G X nL Q pc L (.inr k :: st) w :=
  by subst hjz; exact fun H locs ls hP hS hL hw h1 h2 => va_getN F.1.1 F.1.2.1 F.1.2.2.2.2 (cls_in hc) F.1.2.2.2.1 F.2.1.1 hP k (gW_at G w hk) hc j hjN (va_Nw.use rfl (F.2.1.2.1 _ hl)) (fun _ h => h) (fvs_at hj) hd (kk H locs ls hP hS hL hw h1 (rgs_int.mpr ⟨hw _ _, (rgs_cons.mp h2).2⟩))
theorem V_getrN (F : FX G X cc own nL d) {k ci j t index N : Nat} {fs : List (Option Nat)} {C : String} {T : u_T} (hd : decode cc pc = .ok (.getfield index, 3)) (hk : shp[k]? = some (.inr (.inl (ci, fs)))) (hc : classes[ci]? = some (C, T, N)) (hjN : j < N) (hj : fs[j]? = some (some t)) (hl : Cond.fieldLinkNest own index (T j).1 (T j).2.1 (T j).2.2.1 hostN ∈ nestW) (kk : V G X nL Q (pc + 3) L (.inr t :: st) w) : V G X nL Q pc L (.inr k :: st) w :=
  fun H locs ls hP hS hL hw h1 h2 => va_getN F.1.1 F.1.2.1 F.1.2.2.2.2 (cls_in hc) F.1.2.2.2.1 F.2.1.1 hP k (gW_at G w hk) hc j hjN (va_Nw.use rfl (F.2.1.2.1 _ hl)) (fun _ h => h) (fvs_ar hj) hd (kk H locs ls hP hS hL hw h1 (rgs_ref.mpr (rgs_cons.mp h2).2))
theorem nar_z {z : Int} (h : z = 0 ∨ z = 1) : narrow .boolean (.int (Int32.ofInt z)) = .int (Int32.ofInt z) ∧ fits .boolean (.int (Int32.ofInt z)) = true ∧ vp_nar .boolean (Int32.ofInt z) = Int32.ofInt z := by
  rcases h with rfl | rfl <;> exact ⟨by decide +kernel, by decide +kernel, by decide +kernel⟩
theorem V_puti (F : FX G X cc own nL d) {k ci j index N : Nat} {z : Int} {fs : List (Option Nat)} {C : String} {T : u_T} (hd : decode cc pc = .ok (.putfield index, 3)) (hk : shp[k]? = some (.inr (.inl (ci, fs)))) (hc : classes[ci]? = some (C, T, N)) (jz : Int) (hjz : (j : Int) = jz) (hjN : j < N) (hj : fs[j]? = some none) (hf : (T j).2.2.2 = false) (hI : (T j).2.2.1 = "I") (hl : Cond.fieldLink own index (T j).1 (T j).2.1 (T j).2.2.1 ∈ bigW) (kk : V G X nL Q (pc + 3) L st (upw w k jz z)) : V G X nL Q pc L (.inl z :: .inr k :: st) w := by
  subst hjz
  intro H locs ls hP hS hL hw h1 h2
  obtain ⟨ty0, hty⟩ := cls_ty hc
  refine va_put F.1.1 F.1.2.1 F.1.2.2.2.2 (cls_in hc) ty0 hty (cls_nm hc) F.1.2.2.2.1 F.2.1.1 hP (F_D F w) hS k (gW_at G w hk) hc j hjN (F.1.2.2.2.2 _ hl) (fun _ h => h) hf (ty := .int) (by rw [hI]; decide +kernel) rfl rfl (by simp [fvs]; exact (List.getElem?_eq_some_iff.mp hj).1) hd (fun H1 locs1 hP1 _ hS1 => ?_)
  have hP1 : va_P (gD G) classes (List.set (gW G w) k (gad G k, Sum.inr (ci, (fvs G w k fs).set j (Value.int (Int32.ofInt z))))) H1 := hP1
  rw [fvs_set hj, gW_set (e := Sum.inr (ci, fvs G (upw w k (j : Int) z) k fs)) (w' := upw w k (j : Int) z) hk rfl (fun k' hk' i => upw_k hk')] at hP1
  exact kk H1 locs1 ls hP1 hS1 hL (rgw_upw hw (rgs_int.mp h2).1) h1 (rgs_cons.mp (rgs_cons.mp h2).2).2
theorem V_putiN (F : FX G X cc own nL d) {k ci j index N : Nat} {z : Int} {fs : List (Option Nat)} {C : String} {T : u_T} (hd : decode cc pc = .ok (.putfield index, 3)) (hk : shp[k]? = some (.inr (.inl (ci, fs)))) (hc : classes[ci]? = some (C, T, N)) (jz : Int) (hjz : (j : Int) = jz) (hjN : j < N) (hj : fs[j]? = some none) (hf : (T j).2.2.2 = false) (hI : (T j).2.2.1 = "I") (hl : Cond.fieldLinkNest own index (T j).1 (T j).2.1 (T j).2.2.1 hostN ∈ nestW) (kk : V G X nL Q (pc + 3) L st (upw w k jz z)) : V G X nL Q pc L (.inl z :: .inr k :: st) w := by
  subst hjz
  intro H locs ls hP hS hL hw h1 h2
  obtain ⟨ty0, hty⟩ := cls_ty hc
  refine va_putN F.1.1 F.1.2.1 F.1.2.2.2.2 (cls_in hc) ty0 hty (cls_nm hc) F.1.2.2.2.1 F.2.1.1 hP (F_D F w) hS k (gW_at G w hk) hc j hjN (va_Nw.use rfl (F.2.1.2.1 _ hl)) (fun _ h => h) hf (ty := .int) (by rw [hI]; decide +kernel) rfl rfl (by simp [fvs]; exact (List.getElem?_eq_some_iff.mp hj).1) hd (fun H1 locs1 hP1 _ hS1 => ?_)
  have hP1 : va_P (gD G) classes (List.set (gW G w) k (gad G k, Sum.inr (ci, (fvs G w k fs).set j (Value.int (Int32.ofInt z))))) H1 := hP1
  rw [fvs_set hj, gW_set (e := Sum.inr (ci, fvs G (upw w k (j : Int) z) k fs)) (w' := upw w k (j : Int) z) hk rfl (fun k' hk' i => upw_k hk')] at hP1
  exact kk H1 locs1 ls hP1 hS1 hL (rgw_upw hw (rgs_int.mp h2).1) h1 (rgs_cons.mp (rgs_cons.mp h2).2).2
theorem V_putz (F : FX G X cc own nL d) {k ci j index N : Nat} {z : Int} {fs : List (Option Nat)} {C : String} {T : u_T} (hd : decode cc pc = .ok (.putfield index, 3)) (hk : shp[k]? = some (.inr (.inl (ci, fs)))) (hc : classes[ci]? = some (C, T, N)) (jz : Int) (hjz : (j : Int) = jz) (hjN : j < N) (hj : fs[j]? = some none) (hf : (T j).2.2.2 = false) (hI : (T j).2.2.1 = "Z") (hz : z = 0 ∨ z = 1) (hl : Cond.fieldLink own index (T j).1 (T j).2.1 (T j).2.2.1 ∈ bigW) (kk : V G X nL Q (pc + 3) L st (upw w k jz z)) : V G X nL Q pc L (.inl z :: .inr k :: st) w := by
  subst hjz
  intro H locs ls hP hS hL hw h1 h2
  obtain ⟨ty0, hty⟩ := cls_ty hc
  refine va_put F.1.1 F.1.2.1 F.1.2.2.2.2 (cls_in hc) ty0 hty (cls_nm hc) F.1.2.2.2.1 F.2.1.1 hP (F_D F w) hS k (gW_at G w hk) hc j hjN (F.1.2.2.2.2 _ hl) (fun _ h => h) hf (ty := .boolean) (by rw [hI]; decide +kernel) (nar_z hz).1 (nar_z hz).2.1 (by simp [fvs]; exact (List.getElem?_eq_some_iff.mp hj).1) hd (fun H1 locs1 hP1 _ hS1 => ?_)
  have hP1 : va_P (gD G) classes (List.set (gW G w) k (gad G k, Sum.inr (ci, (fvs G w k fs).set j (Value.int (Int32.ofInt z))))) H1 := hP1
  rw [fvs_set hj, gW_set (e := Sum.inr (ci, fvs G (upw w k (j : Int) z) k fs)) (w' := upw w k (j : Int) z) hk rfl (fun k' hk' i => upw_k hk')] at hP1
  exact kk H1 locs1 ls hP1 hS1 hL (rgw_upw hw (rgs_int.mp h2).1) h1 (rgs_cons.mp (rgs_cons.mp h2).2).2
theorem V_putzN (F : FX G X cc own nL d) {k ci j index N : Nat} {z : Int} {fs : List (Option Nat)} {C : String} {T : u_T} (hd : decode cc pc = .ok (.putfield index, 3)) (hk : shp[k]? = some (.inr (.inl (ci, fs)))) (hc : classes[ci]? = some (C, T, N)) (jz : Int) (hjz : (j : Int) = jz) (hjN : j < N) (hj : fs[j]? = some none) (hf : (T j).2.2.2 = false) (hI : (T j).2.2.1 = "Z") (hz : z = 0 ∨ z = 1) (hl : Cond.fieldLinkNest own index (T j).1 (T j).2.1 (T j).2.2.1 hostN ∈ nestW) (kk : V G X nL Q (pc + 3) L st (upw w k jz z)) : V G X nL Q pc L (.inl z :: .inr k :: st) w := by
  subst hjz
  intro H locs ls hP hS hL hw h1 h2
  obtain ⟨ty0, hty⟩ := cls_ty hc
  refine va_putN F.1.1 F.1.2.1 F.1.2.2.2.2 (cls_in hc) ty0 hty (cls_nm hc) F.1.2.2.2.1 F.2.1.1 hP (F_D F w) hS k (gW_at G w hk) hc j hjN (va_Nw.use rfl (F.2.1.2.1 _ hl)) (fun _ h => h) hf (ty := .boolean) (by rw [hI]; decide +kernel) (nar_z hz).1 (nar_z hz).2.1 (by simp [fvs]; exact (List.getElem?_eq_some_iff.mp hj).1) hd (fun H1 locs1 hP1 _ hS1 => ?_)
  have hP1 : va_P (gD G) classes (List.set (gW G w) k (gad G k, Sum.inr (ci, (fvs G w k fs).set j (Value.int (Int32.ofInt z))))) H1 := hP1
  rw [fvs_set hj, gW_set (e := Sum.inr (ci, fvs G (upw w k (j : Int) z) k fs)) (w' := upw w k (j : Int) z) hk rfl (fun k' hk' i => upw_k hk')] at hP1
  exact kk H1 locs1 ls hP1 hS1 hL (rgw_upw hw (rgs_int.mp h2).1) h1 (rgs_cons.mp (rgs_cons.mp h2).2).2
-- arrays
theorem ce_ii {k t n : Nat} {i z : Int} (h0 : 0 ≤ i) : (Sum.inl (gdA G t, n, Sum.inl (upd (fun j : Nat => Int32.ofInt (w k (j : Int))) i.toNat (Int32.ofInt z))) : va_E) = ce G (upw w k i z) k (.inl (t, n)) := by
  show _ = Sum.inl (gdA G t, n, Sum.inl _)
  refine congrArg (fun f : Nat → Int32 => (Sum.inl (gdA G t, n, Sum.inl f) : va_E)) ?_
  funext j
  by_cases hj : j = i.toNat
  · subst hj
    rw [pk_us, Int.toNat_of_nonneg h0, upw_s]
  · rw [pk_un hj, upw_i (by omega)]
theorem V_iald (F : FX G X cc own nL d) {k t n : Nat} {i : Int} (hd : decode cc pc = .ok (.iaload, 1)) (hk : shp[k]? = some (.inl (t, n))) (ht : tyl[t]? = some .int) (hi : 0 ≤ i ∧ i < (n : Int)) (kk : V G X nL Q (pc + 1) L (.inl (w k i) :: st) w) : V G X nL Q pc L (.inl i :: .inr k :: st) w := by
  intro H locs ls hP hS hL hw h1 h2
  have hz := (rgs_int.mp h2).1
  refine va_iald F.1.1 F.1.2.1 F.2.1.1 hP k t (gW_at G w hk) (gT_at G ht) (iR_in hz hi.1 hi.2) hd ?_
  rw [iR_cl hz, Int.toNat_of_nonneg hi.1]
  exact kk H locs ls hP hS hL hw h1 (rgs_int.mpr ⟨hw _ _, (rgs_cons.mp (rgs_cons.mp h2).2).2⟩)
theorem V_zald (F : FX G X cc own nL d) {k t n : Nat} {i : Int} (hd : decode cc pc = .ok (.baload, 1)) (hk : shp[k]? = some (.inl (t, n))) (ht : tyl[t]? = some .boolean) (hi : 0 ≤ i ∧ i < (n : Int)) (kk : V G X nL Q (pc + 1) L (.inl (w k i) :: st) w) : V G X nL Q pc L (.inl i :: .inr k :: st) w := by
  intro H locs ls hP hS hL hw h1 h2
  have hz := (rgs_int.mp h2).1
  refine va_zald F.1.1 F.1.2.1 F.2.1.1 hP k t (gW_at G w hk) (gT_at G ht) (iR_in hz hi.1 hi.2) hd ?_
  rw [iR_cl hz, Int.toNat_of_nonneg hi.1]
  exact kk H locs ls hP hS hL hw h1 (rgs_int.mpr ⟨hw _ _, (rgs_cons.mp (rgs_cons.mp h2).2).2⟩)
theorem V_iast (F : FX G X cc own nL d) {k t n : Nat} {i z : Int} (hd : decode cc pc = .ok (.iastore, 1)) (hk : shp[k]? = some (.inl (t, n))) (ht : tyl[t]? = some .int) (hi : 0 ≤ i ∧ i < (n : Int)) (kk : V G X nL Q (pc + 1) L st (upw w k i z)) : V G X nL Q pc L (.inl z :: .inl i :: .inr k :: st) w := by
  intro H locs ls hP hS hL hw h1 h2
  obtain ⟨h3, h4⟩ := rgs_int.mp h2
  obtain ⟨h5, h6⟩ := rgs_int.mp h4
  refine va_iast F.1.1 F.1.2.1 F.2.1.1 hP (F_D F w) hS k t (gW_at G w hk) (gT_at G ht) (iR_in h5 hi.1 hi.2) hd (fun H1 locs1 hP1 _ hS1 => ?_)
  rw [iR_cl h5, ce_ii hi.1, gW_set (w' := upw w k i z) hk rfl (fun k' hk' i => upw_k hk')] at hP1
  exact kk H1 locs1 ls hP1 hS1 hL (rgw_upw hw h3) h1 (rgs_cons.mp h6).2
theorem V_zast (F : FX G X cc own nL d) {k t n : Nat} {i z : Int} (hd : decode cc pc = .ok (.bastore, 1)) (hk : shp[k]? = some (.inl (t, n))) (ht : tyl[t]? = some .boolean) (hi : 0 ≤ i ∧ i < (n : Int)) (hz : z = 0 ∨ z = 1) (kk : V G X nL Q (pc + 1) L st (upw w k i z)) : V G X nL Q pc L (.inl z :: .inl i :: .inr k :: st) w := by
  intro H locs ls hP hS hL hw h1 h2
  obtain ⟨h3, h4⟩ := rgs_int.mp h2
  obtain ⟨h5, h6⟩ := rgs_int.mp h4
  refine va_zast F.1.1 F.1.2.1 F.2.1.1 hP (F_D F w) hS k t (gW_at G w hk) (gT_at G ht) (iR_in h5 hi.1 hi.2) hd (fun H1 locs1 hP1 _ hS1 => ?_)
  rw [(nar_z hz).2.2, iR_cl h5, ce_ii hi.1, gW_set (w' := upw w k i z) hk rfl (fun k' hk' i => upw_k hk')] at hP1
  exact kk H1 locs1 ls hP1 hS1 hL (rgw_upw hw h3) h1 (rgs_cons.mp h6).2
theorem V_aald (F : FX G X cc own nL d) {k t u : Nat} {l : List Nat} {C : String} {i : Int} (hd : decode cc pc = .ok (.aaload, 1)) (hk : shp[k]? = some (.inr (.inr (t, l)))) (ht : tyl[t]? = some (.object C)) (h0 : 0 ≤ i) (hi : l[i.toNat]? = some u) (kk : V G X nL Q (pc + 1) L (.inr u :: st) w) : V G X nL Q pc L (.inl i :: .inr k :: st) w := by
  intro H locs ls hP hS hL hw h1 h2
  have hz := (rgs_int.mp h2).1
  have hlt := (List.getElem?_eq_some_iff.mp hi).1
  refine va_aldq F.1.1 F.1.2.1 F.2.1.1 hP k t (gW_at G w hk) (gT_at G ht) (iR_in hz h0 (by omega)) hd ?_
  rw [iR_cl hz]
  show W _ _ _ _ _ _ _ _ _ _ _ _ _ _ _ (F0 _ _ _ (va_rf (l[i.toNat]?.map (gad G)) :: _))
  rw [hi]
  exact kk H locs ls hP hS hL hw h1 (rgs_ref.mpr (rgs_cons.mp (rgs_cons.mp h2).2).2)
theorem V_aaldA (F : FX G X cc own nL d) {k t u : Nat} {l : List Nat} {ty : FieldType} {i : Int} (hd : decode cc pc = .ok (.aaload, 1)) (hk : shp[k]? = some (.inr (.inr (t, l)))) (ht : tyl[t]? = some (.array ty)) (h0 : 0 ≤ i) (hi : l[i.toNat]? = some u) (kk : V G X nL Q (pc + 1) L (.inr u :: st) w) : V G X nL Q pc L (.inl i :: .inr k :: st) w := by
  intro H locs ls hP hS hL hw h1 h2
  have hz := (rgs_int.mp h2).1
  have hlt := (List.getElem?_eq_some_iff.mp hi).1
  have hin := iR_in (n := l.length) hz h0 (by omega)
  have hc : (Int32.ofInt i).toNatClampNeg = i.toNat := iR_cl hz
  refine W.aald (v := va_rf (l[i.toNat]?.map (gad G))) (ty := .array ty) F.1.1 F.1.2.1 (hP k _ (gW_at G w hk)) ((F.2.1.1.2 t _ (gT_at G ht)).1 l.length (fun j => va_rf (l[j]?.map (gad G)))) rfl (fun q => by cases q) (by show ¬ (_ ∨ (arrV _ _ _).slots.size ≤ _); rw [arrV_size]; exact hin) (by show (arrV _ _ _).slots[_]? = _; rw [hc, arrV_read _ _ hlt]) rfl rfl hd ?_
  rw [hi]
  exact kk H locs ls hP hS hL hw h1 (rgs_ref.mpr (rgs_cons.mp (rgs_cons.mp h2).2).2)
theorem V_alen (F : FX G X cc own nL d) {k t n : Nat} {ty : FieldType} (hd : decode cc pc = .ok (.arraylength, 1)) (hk : shp[k]? = some (.inl (t, n))) (ht : tyl[t]? = some ty) (hn : n < 2147483648) (kk : V G X nL Q (pc + 1) L (.inl (n : Int) :: st) w) : V G X nL Q pc L (.inr k :: st) w := by
  intro H locs ls hP hS hL hw h1 h2
  refine va_alen F.1.1 F.1.2.1 F.2.1.1 hP k t (gW_at G w hk) (gT_at G ht) (v := Int32.ofInt (n : Int)) (by rw [Int32.ofInt_eq_ofNat]) hd ?_
  exact kk H locs ls hP hS hL hw h1 (rgs_int.mpr ⟨⟨by omega, by omega⟩, (rgs_cons.mp h2).2⟩)
-- static tables
theorem V_gets (F : FX G X cc own nL d) (i : Nat) {index : Nat} (hd : decode cc pc = .ok (.getstatic index, 3)) (hi : i < 3) (hl : Cond.fieldLink own index R_spot (snm i) "[I" ∈ bigW) (kk : V G X nL Q (pc + 3) L (.inr (900 + i) :: st) w) : V G X nL Q pc L st w :=
  fun H locs ls hP hS hL hw h1 h2 => va_gets F.1.1 F.1.2.1 (F.2.1.2.2.2 i hi).1 hS F.1.2.2.2.1 (F.1.2.2.2.2 _ hl) (fun _ h => h) hd (kk H locs ls hP hS hL hw h1 (rgs_ref.mpr h2))
theorem V_getsN (F : FX G X cc own nL d) (i : Nat) {index : Nat} (hd : decode cc pc = .ok (.getstatic index, 3)) (hi : i < 3) (hl : Cond.fieldLinkNest own index R_spot (snm i) "[I" hostN ∈ nestW) (kk : V G X nL Q (pc + 3) L (.inr (900 + i) :: st) w) : V G X nL Q pc L st w :=
  fun H locs ls hP hS hL hw h1 h2 => va_getsN F.1.1 F.1.2.1 (F.2.1.2.2.2 i hi).1 hS F.1.2.2.2.1 (va_Nw.use rfl (F.2.1.2.1 _ hl)) (fun _ h => h) hd (kk H locs ls hP hS hL hw h1 (rgs_ref.mpr h2))
theorem V_sald (F : FX G X cc own nL d) {i : Nat} {z : Int} (hd : decode cc pc = .ok (.iaload, 1)) (hi : i < 3) (hz : 0 ≤ z ∧ z < 6) (hr : inR (stt i z)) (kk : V G X nL Q (pc + 1) L (.inl (stt i z) :: st) w) : V G X nL Q pc L (.inl z :: .inr (900 + i) :: st) w := by
  intro H locs ls hP hS hL hw h1 h2
  have h3 := (rgs_int.mp h2).1
  refine va_ti F.1.1 F.1.2.1 (F.2.1.2.2.2 i hi).2 hS (iR_in h3 hz.1 (by omega)) (v := .int (Int32.ofInt (stt i z))) (by rw [iR_cl h3, Int.toNat_of_nonneg hz.1]) hd ?_
  exact kk H locs ls hP hS hL hw h1 (rgs_int.mpr ⟨hr, (rgs_cons.mp (rgs_cons.mp h2).2).2⟩)
-- Math.min, Math.max, System.arraycopy
theorem cat_sum (st : List RV) : ((st.map (rv G)).map fun v => v.category).sum = st.length := by
  induction st with
  | nil => rfl
  | cons v t ih => simp only [List.map_cons, List.sum_cons, ih, rv_cat, List.length_cons]; omega
theorem V_mmin (F : FX G X cc own nL d) {a b : Int} {index : Nat} (hd : decode cc pc = .ok (.invokestatic index, 3)) (hd1 : 1 ≤ d) (hst : st.length ≤ 8) (hl : Cond.methodLink own index Lib.Math.min.name ∈ bigW) (h1 : Cond.static Lib.Math.min.name ∈ bigW) (h2 : Cond.initialized "java/lang/Math" ∈ bigW) (h3 : Cond.code Lib.Math.min.name Lib.Math.min.code 2 (some .int) ∈ bigW) (kk : V G X nL Q (pc + 3) L (.inl (if b < a then b else a) :: st) w) : V G X nL Q pc L (.inl b :: .inl a :: st) w := by
  intro H locs ls hP hS hL hw g1 g2
  obtain ⟨hb, g3⟩ := rgs_int.mp g2
  obtain ⟨ha, g4⟩ := rgs_int.mp g3
  refine va_mmin F.1.1 F.1.2.1 (F.1.2.2.1.trans hL.1.symm) F.1.2.2.2.1 (F.1.2.2.2.2 _ hl) (F.1.2.2.2.2 _ h1) (F.1.2.2.2.2 _ h2) (F.1.2.2.2.2 _ h3) (by have := F.2.2.2.1; omega) (by rw [cat_sum]; have := F.2.2.2.2.1; omega) F.2.2.2.2.2.1 F.2.2.2.2.2.2 hd ?_
  have e : (if Int32.ofInt b < Int32.ofInt a then Int32.ofInt b else Int32.ofInt a) = Int32.ofInt (if b < a then b else a) := by
    by_cases h : b < a
    · rw [if_pos ((iR_lt hb ha).mpr h), if_pos h]
    · rw [if_neg (fun z => h ((iR_lt hb ha).mp z)), if_neg h]
  rw [e]
  exact kk H locs ls hP hS hL hw g1 (rgs_int.mpr ⟨by split <;> assumption, g4⟩)
theorem V_mmax (F : FX G X cc own nL d) {a b : Int} {index : Nat} (hd : decode cc pc = .ok (.invokestatic index, 3)) (hd1 : 1 ≤ d) (hst : st.length ≤ 8) (hl : Cond.methodLink own index Lib.Math.max.name ∈ bigW) (h1 : Cond.static Lib.Math.max.name ∈ bigW) (h2 : Cond.initialized "java/lang/Math" ∈ bigW) (h3 : Cond.code Lib.Math.max.name Lib.Math.max.code 2 (some .int) ∈ bigW) (kk : V G X nL Q (pc + 3) L (.inl (if a < b then b else a) :: st) w) : V G X nL Q pc L (.inl b :: .inl a :: st) w := by
  intro H locs ls hP hS hL hw g1 g2
  obtain ⟨hb, g3⟩ := rgs_int.mp g2
  obtain ⟨ha, g4⟩ := rgs_int.mp g3
  refine va_mmax F.1.1 F.1.2.1 (F.1.2.2.1.trans hL.1.symm) F.1.2.2.2.1 (F.1.2.2.2.2 _ hl) (F.1.2.2.2.2 _ h1) (F.1.2.2.2.2 _ h2) (F.1.2.2.2.2 _ h3) (by have := F.2.2.2.1; omega) (by rw [cat_sum]; have := F.2.2.2.2.1; omega) F.2.2.2.2.2.1 F.2.2.2.2.2.2 hd ?_
  have e : (if Int32.ofInt a < Int32.ofInt b then Int32.ofInt b else Int32.ofInt a) = Int32.ofInt (if a < b then b else a) := by
    by_cases h : a < b
    · rw [if_pos ((iR_lt ha hb).mpr h), if_pos h]
    · rw [if_neg (fun z => h ((iR_lt ha hb).mp z)), if_neg h]
  rw [e]
  exact kk H locs ls hP hS hL hw g1 (rgs_int.mpr ⟨by split <;> assumption, g4⟩)
theorem acw (F : FX G X cc own nL d) (hd1 : 1 ≤ d) {n : Nat} (hn : n ≤ 8) : n + (nativeFrameWords "java/lang/System" "arraycopy" 5 + 11) ≤ (xR X).locals := by
  have e : nativeFrameWords "java/lang/System" "arraycopy" 5 + 11 ≤ 32 := by decide +kernel
  have := F.2.2.2.2.1
  omega
theorem V_acopy (F : FX G X cc own nL d) {ks kd t ns nd index : Nat} {sp dp n : Int} (hd : decode cc pc = .ok (.invokestatic index, 3)) (hd1 : 1 ≤ d) (hst : st.length ≤ 8) (hks : shp[ks]? = some (.inl (t, ns))) (hkd : shp[kd]? = some (.inl (t, nd))) (ht : tyl[t]? = some .int) (hn : 0 ≤ sp ∧ 0 ≤ dp ∧ 0 ≤ n ∧ sp + n ≤ (ns : Int) ∧ dp + n ≤ (nd : Int)) (hl : Cond.methodLink own index arraycopyName ∈ bigW) (h1 : Cond.native arraycopyName ∈ bigW) (h2 : Cond.static arraycopyName ∈ bigW) (h3 : Cond.initialized "java/lang/System" ∈ bigW) (kk : V G X nL Q (pc + 3) L st (cpw w ks kd sp dp n)) : V G X nL Q pc L (.inl n :: .inl dp :: .inr kd :: .inl sp :: .inr ks :: st) w := by
  intro H locs ls hP hS hL hw g1 g2
  obtain ⟨i1, g3⟩ := rgs_int.mp g2
  obtain ⟨i2, g4⟩ := rgs_int.mp g3
  obtain ⟨i3, g5⟩ := rgs_int.mp (rgs_ref.mp g4)
  have g6 := rgs_ref.mp g5
  refine va_copyi F.1.1 F.1.2.1 (F.1.2.2.1.trans hL.1.symm) F.1.2.2.2.1 (F.1.2.2.2.2 _ hl) (F.1.2.2.2.2 _ h1) (F.1.2.2.2.2 _ h2) (F.1.2.2.2.2 _ h3) F.2.1.1 hP (F_D F w) hS ks kd t t (gW_at G w hks) (gW_at G w hkd) (gT_at G ht) (gT_at G ht) rfl (fun q => ?_) (fun q => ?_) (fun q => ?_) ?_ ?_ (fun _ _ => rfl) (by have := F.2.2.2.1; omega) (acw F hd1 (by rw [cat_sum]; exact hst)) hd (fun H1 locs1 hP1 _ hS1 => ?_)
  · have := (iR_lt i3 iR_0).mp q; omega
  · have := (iR_lt i2 iR_0).mp q; omega
  · have := (iR_lt i1 iR_0).mp q; omega
  · rw [iR_cl i3, iR_cl i1]; omega
  · rw [iR_cl i2, iR_cl i1]; omega
  · rw [iR_cl i1, iR_cl i2, iR_cl i3] at hP1
    rw [gW_set (w' := cpw w ks kd sp dp n) hkd ?_ (fun k' hk' i => by simp [cpw, hk'])] at hP1
    · exact kk H1 locs1 ls hP1 hS1 hL (rgw_cpw hw) g1 g6
    · show _ = Sum.inl (gdA G t, nd, Sum.inl _)
      refine congrArg (fun f : Nat → Int32 => (Sum.inl (gdA G t, nd, Sum.inl f) : va_E)) ?_
      funext j
      unfold va_cpy cpw
      by_cases h : dp.toNat ≤ j ∧ j < dp.toNat + n.toNat
      · rw [if_pos h, if_pos ⟨rfl, by omega, by omega⟩]
        have e1 : ((sp.toNat + (j - dp.toNat) : Nat) : Int) = sp + ((j : Int) - dp) := by omega
        show Int32.ofInt (w ks ((sp.toNat + (j - dp.toNat) : Nat) : Int)) = _
        rw [e1]
      · rw [if_neg h, if_neg (fun q => h ⟨by omega, by omega⟩)]
-- ends
def RetI (G : vG) (X : vX) (cc : ByteArray) (nL : Nat) (Q : State → Prop) (Post : Int → RW → Prop) : Prop := ∀ (pc : Nat) (L : List (Option RV)) (z : Int) (w : RW), decode cc pc = .ok (.ireturn, 1) → Post z w → V G X nL Q pc L [.inl z] w
def RetZ (G : vG) (X : vX) (cc : ByteArray) (nL : Nat) (Q : State → Prop) (Post : Int → RW → Prop) : Prop := ∀ (pc : Nat) (L : List (Option RV)) (z : Int) (w : RW), decode cc pc = .ok (.ireturn, 1) → (z = 0 ∨ z = 1) → Post z w → V G X nL Q pc L [.inl z] w
def RetV (G : vG) (X : vX) (cc : ByteArray) (nL : Nat) (Q : State → Prop) (Post : RW → Prop) : Prop := ∀ (pc : Nat) (L : List (Option RV)) (w : RW), decode cc pc = .ok (.return_, 1) → Post w → V G X nL Q pc L [] w
end VK
/-- contracts: an int, a boolean (rt), or nothing comes back -/
def CTi (G : vG) (l : Launch) (y : MethodName) (bs : ByteArray) (nL : Nat) (rt : FieldType) (d : Nat) (as : List RV) (w : RW) (Post : Int → RW → Prop) : Prop :=
  Met l y (.code y bs nL (some rt) :: bigW) (rmD d) (va_Pc (as.map (rv G)) (fun U => va_P (gD G) classes (gW G w) U.heap ∧ gE G (gA G) U ∧ rgw w ∧ rgs as)) (va_Qi (fun r u => ∃ z, inR z ∧ r = Int32.ofInt z ∧ Post z u ∧ rgw u) (fun u t => va_P (gD G) classes (gW G u) t.heap) (gA G)) 0 0 (gA G)
def CTv (G : vG) (l : Launch) (y : MethodName) (bs : ByteArray) (nL : Nat) (d : Nat) (as : List RV) (w : RW) (Post : RW → Prop) : Prop :=
  Met l y (.code y bs nL none :: bigW) (rmD d) (va_Pc (as.map (rv G)) (fun U => va_P (gD G) classes (gW G w) U.heap ∧ gE G (gA G) U ∧ rgw w ∧ rgs as)) (va_Qv (fun u => Post u ∧ rgw u) (fun u t => va_P (gD G) classes (gW G u) t.heap) (gA G)) 0 0 (gA G)
theorem FX.of {G : vG} {l : Launch} {y : MethodName} {bs : ByteArray} {nL d : Nat} {ret : Option FieldType} {p : Program} {e : Env} {s s₁ : State} {m : MethodId} {args : Array Value} {below : List Frame} {meth : Method} {c : Code} (B : BodyLoose p l y (headSpec (.code y bs nL ret :: bigW) (rmD d)) bs nL ret e s m args below meth c s₁) (hml : c.maxLocals = nL) (hE : gE G (gA G) s) :
    FX G (p, l, e, (headSpec (.code y bs nL ret :: bigW) (rmD d)).room, s, m, args, below, meth, c, gA G, 0, 0) bs y.cls nL d := by
  have hts := atoms_spec (ws := .code y bs nL ret :: bigW) B.pre
  exact ⟨⟨B.exec, B.bytes, hml, findClass_of_methodNamed B.named, fun w hw => hts w (List.mem_cons_of_mem _ hw)⟩, hE, fun k hk => ⟨k, hk, rfl⟩, Nat.le_refl d, Nat.le_refl (40 * d), Nat.le_refl 0, Nat.le_refl 0⟩
theorem CTi.int {G : vG} {l : Launch} {y : MethodName} {bs : ByteArray} {nL d : Nat} {as : List RV} {w : RW} {Post : Int → RW → Prop} (hy : plainName y.cls = true) (hn : as.length ≤ nL)
    (body : ∀ (X : vX) (Q : State → Prop), FX G X bs y.cls nL d → xl X = l → RetI G X bs nL Q Post → V G X nL Q 0 (as.map some ++ List.replicate (nL - as.length) none) [] w) : CTi G l y bs nL .int d as w Post := by
  refine Met.ofW (cc := bs) (maxL := nL) (ret := some .int) hy rfl ?_
  intro p e s m args below meth c s₁ B hml hv
  obtain ⟨rfl, hP, hE, hw, ha⟩ := hv
  have hr := B.returns
  have hlocks := B.notSynchronized
  obtain ⟨ls, e1, hl⟩ := gL_entry (G := G) as hn m
  rw [e1]
  refine body _ _ (FX.of B hml hE) rfl ?_ s.heap [] ls hP va_S.rf hl hw ?_ rgs_nil
  · intro pc L z w' hd hq H locs ls' hP' hS' hl' hw' h1 h2
    exact W.iret (v := Int32.ofInt z) B.exec B.bytes hr (fun t ht hW => ⟨⟨Int32.ofInt z, w', rfl, ⟨z, (rgs_int.mp h2).1, rfl, hq, hw'⟩, (show va_P (gD G) classes (gW G w') t.heap by rw [ht]; exact hP')⟩, hS'.F ht⟩) hS'.2.2 hd
  · intro x hx
    rcases List.mem_append.mp hx with h | h
    · obtain ⟨q, h3, h4⟩ := List.mem_map.mp h
      rw [← Option.some.inj h4]; exact ha q h3
    · have := List.eq_of_mem_replicate h
      simp at this
theorem CTi.bool {G : vG} {l : Launch} {y : MethodName} {bs : ByteArray} {nL d : Nat} {as : List RV} {w : RW} {Post : Int → RW → Prop} (hy : plainName y.cls = true) (hn : as.length ≤ nL)
    (body : ∀ (X : vX) (Q : State → Prop), FX G X bs y.cls nL d → xl X = l → RetZ G X bs nL Q Post → V G X nL Q 0 (as.map some ++ List.replicate (nL - as.length) none) [] w) : CTi G l y bs nL .boolean d as w Post := by
  refine Met.ofW (cc := bs) (maxL := nL) (ret := some .boolean) hy rfl ?_
  intro p e s m args below meth c s₁ B hml hv
  obtain ⟨rfl, hP, hE, hw, ha⟩ := hv
  have hr := B.returns
  have hlocks := B.notSynchronized
  obtain ⟨ls, e1, hl⟩ := gL_entry (G := G) as hn m
  rw [e1]
  refine body _ _ (FX.of B hml hE) rfl ?_ s.heap [] ls hP va_S.rf hl hw ?_ rgs_nil
  · intro pc L z w' hd hz hq H locs ls' hP' hS' hl' hw' h1 h2
    exact W.zret (v := Int32.ofInt z) B.exec B.bytes hr (nar_z hz).1 (fun t ht hW => ⟨⟨Int32.ofInt z, w', rfl, ⟨z, (rgs_int.mp h2).1, rfl, hq, hw'⟩, (show va_P (gD G) classes (gW G w') t.heap by rw [ht]; exact hP')⟩, hS'.F ht⟩) hS'.2.2 hd
  · intro x hx
    rcases List.mem_append.mp hx with h | h
    · obtain ⟨q, h3, h4⟩ := List.mem_map.mp h
      rw [← Option.some.inj h4]; exact ha q h3
    · have := List.eq_of_mem_replicate h
      simp at this
theorem CTv.intro {G : vG} {l : Launch} {y : MethodName} {bs : ByteArray} {nL d : Nat} {as : List RV} {w : RW} {Post : RW → Prop} (hy : plainName y.cls = true) (hn : as.length ≤ nL)
    (body : ∀ (X : vX) (Q : State → Prop), FX G X bs y.cls nL d → xl X = l → RetV G X bs nL Q Post → V G X nL Q 0 (as.map some ++ List.replicate (nL - as.length) none) [] w) : CTv G l y bs nL d as w Post := by
  refine Met.ofW (cc := bs) (maxL := nL) (ret := none) hy rfl ?_
  intro p e s m args below meth c s₁ B hml hv
  obtain ⟨rfl, hP, hE, hw, ha⟩ := hv
  have hr := B.returns
  have hlocks := B.notSynchronized
  obtain ⟨ls, e1, hl⟩ := gL_entry (G := G) as hn m
  rw [e1]
  refine body _ _ (FX.of B hml hE) rfl ?_ s.heap [] ls hP va_S.rf hl hw ?_ rgs_nil
  · intro pc L w' hd hq H locs ls' hP' hS' hl' hw' h1 h2
    exact W.vret B.exec B.bytes hr (fun t ht hW => ⟨⟨w', rfl, ⟨hq, hw'⟩, (show va_P (gD G) classes (gW G w') t.heap by rw [ht]; exact hP')⟩, hS'.F ht⟩) hS'.2.2 hd
  · intro x hx
    rcases List.mem_append.mp hx with h | h
    · obtain ⟨q, h3, h4⟩ := List.mem_map.mp h
      rw [← Option.some.inj h4]; exact ha q h3
    · have := List.eq_of_mem_replicate h
      simp at this
/-! calls -/
def MI (y : MethodName) (bs : ByteArray) (nM : Nat) (ret : Option FieldType) (n : Nat) : Prop := Cond.code y bs nM ret ∈ bigW ∧ Cond.initialized y.cls ∈ bigW ∧ (y.cls ≠ "java/lang/invoke/MethodHandle" ∧ y.cls ≠ "java/lang/invoke/VarHandle") ∧ (parseMethodDescriptor y.desc).map (fun d => d.parameters.length) = some n ∧ nM ≤ 21
def MV (y : MethodName) : Prop := Cond.instanceMethod y ∈ bigW ∧ Cond.selects y.cls y y ∈ bigW
theorem gE_like {G : vG} {A B : Nat → Prop} {s U : State} {H : Heap} {locs : List Loc} (h : gE G A s) (hW : s.WarmedH U.vm) (hU : U.heap = H) (hS : va_S A s.heap H locs) (hAB : ∀ q, B q → A q) : gE G B U := by
  refine ⟨va_K.moved hW.alike h.1, fun w hw => nest_warm hw hW (h.2.1 w hw), h.2.2.1, fun i hi => ?_⟩
  obtain ⟨h1, h2⟩ := h.2.2.2 i hi
  rw [hU]
  exact ⟨((h1.moved hW.alike).kept (fun a h3 h4 => hS.2.1 a h3 h4)).narrow hAB, ((h2.moved hW.alike).kept (fun a h3 h4 => hS.2.1 a h3 h4)).narrow hAB⟩
theorem gE_blind {G : vG} {w : RW} {as : List RV} : FrameBlind (va_Pc (as.map (rv G)) (fun U => va_P (gD G) classes (gW G w) U.heap ∧ gE G (gA G) U ∧ rgw w ∧ rgs as)) := by
  intro a U g mk q
  obtain ⟨q1, q2, q3, q4, q5⟩ := q
  refine ⟨q1, q2, ⟨va_K.moved (u := U) (U := U.calling g mk a) (Vm.Alike.refl U.vm) q3.1, fun w hw => va_Nw.same (nest_tab hw) (rfl : U.vm = (U.calling g mk a).vm) (q3.2.1 w hw), q3.2.2.1, fun i hi => ?_⟩, q4, q5⟩
  obtain ⟨h1, h2⟩ := q3.2.2.2 i hi
  exact ⟨va_Z.moved (u := U) (U := U.calling g mk a) (Vm.Alike.refl U.vm) h1, va_T.moved (u := U) (U := U.calling g mk a) (Vm.Alike.refl U.vm) h2⟩
theorem big_good {y : MethodName} {bs : ByteArray} {nM : Nat} {ret : Option FieldType} (h : Cond.code y bs nM ret ∈ bigW) : GoodIn bigW (.code y bs nM ret :: bigW) := by
  intro w hw
  rcases List.mem_cons.mp hw with rfl | h1
  · exact ⟨h, big_ok _ h⟩
  · exact ⟨h1, big_ok _ h1⟩
theorem cb_of {G : vG} {X : vX} {cc : ByteArray} {own : String} {nL d d' : Nat} {y : MethodName} {bs : ByteArray} {nM n index : Nat} {ret : Option FieldType} (F : FX G X cc own nL d) (mi : MI y bs nM ret n) (hd' : d' + 1 ≤ d) (hl : Cond.methodLink own index y ∈ bigW) : CallB (xR X) (xs X) (xa X) own index y bs nM ret (.code y bs nM ret :: bigW) (rmD d') 0 0 n := by
  obtain ⟨m1, m2, m3, m4, m5⟩ := mi
  refine ⟨rfl, rfl, ?_, ?_, pay_in F.1.2.2.2.2 (big_good m1), List.mem_cons_self, F.1.2.2.2.2 _ m1, F.1.2.2.2.2 _ m2, m3, fun sig h => ?_, F.1.2.2.2.2 _ hl⟩
  · have := F.2.2.2.1
    show d' + 1 ≤ _
    omega
  · have := F.2.2.2.2.1
    show 8 + (nM + 11) + 40 * d' ≤ _
    omega
  · rw [h] at m4
    exact (Option.some.inj m4).symm
theorem rgs_args {As rest st : List RV} {b : RV} (h : rgs st) (e : st = As.reverse ++ b :: rest) : rgs (b :: As) := by
  intro v hv
  apply h
  rw [e]
  rcases List.mem_cons.mp hv with rfl | h1
  · exact List.mem_append_right _ List.mem_cons_self
  · exact List.mem_append_left _ (List.mem_reverse.mpr h1)
theorem rgs_argS {As rest st : List RV} (h : rgs st) (e : st = As.reverse ++ rest) : rgs As := by
  intro v hv
  apply h
  rw [e]
  exact List.mem_append_left _ (List.mem_reverse.mpr hv)
theorem rgs_rest {As rest st : List RV} (h : rgs st) (e : st = As ++ rest) : rgs rest := fun v hv => h v (by rw [e]; exact List.mem_append_right _ hv)
section VC
variable {G : vG} {X : vX} {cc : ByteArray} {own : String} {nL d pc : Nat} {Q : State → Prop} {L : List (Option RV)} {st : List RV} {w : RW}
theorem V_callVi (F : FX G X cc own nL d) {y : MethodName} {bs : ByteArray} {nM d' b ci N index : Nat} {rt : FieldType} {fs : List (Option Nat)} {T : u_T} {As rest : List RV} {Post' : Int → RW → Prop} (hd : decode cc pc = .ok (.invokevirtual index, 3)) (hl : Cond.methodLink own index y ∈ bigW) (mi : MI y bs nM (some rt) As.length) (mv : MV y) (hM : CTi G (xl X) y bs nM rt d' (.inr b :: As) w Post') (hd' : d' + 1 ≤ d) (hk : shp[b]? = some (.inr (.inl (ci, fs)))) (hc : classes[ci]? = some (y.cls, T, N)) (hst : st = As.reverse ++ .inr b :: rest) (hrest : rest.length ≤ 8)
    (kk : ∀ r u, Post' r u → V G X nL Q (pc + 3) L (.inl r :: rest) u) : V G X nL Q pc L st w := by
  intro H locs ls hP hS hL hw h1 h2
  have hre : (st.map (rv G)) = (As.map (rv G)).reverse ++ .ref (gad G b) :: rest.map (rv G) := by rw [hst, List.map_append, List.map_reverse]; rfl
  refine va_calli (va_runV (C := y.cls) (b := gad G b) (As := As.map (rv G)) (rest := rest.map (rv G)) F.1 hM ⟨cb_of F mi hd' hl, F.1.2.2.2.2 _ mv.1, F.1.2.2.2.2 _ mv.2⟩ ⟨gE_blind, va_recv F.2.1.1 hP hc (gW_at G w hk), fun U hU hW => ⟨rfl, by rw [hU]; exact hP, gE_like F.2.1 hW hU hS (fun q hq => by obtain ⟨k, hk', rfl⟩ := hq; exact F.2.2.1 k hk'), hw, rgs_args h2 hst⟩⟩ rfl (by simp) hL.1 hre (lv_room (by rw [cat_sum]; exact hrest)) hd ⟨F.2.2.2.2.2.1, F.2.2.2.2.2.2⟩) hS (fun q _ hq => by obtain ⟨k, hk', rfl⟩ := hq; exact F.2.2.1 k hk') (fun q hq => by obtain ⟨k, hk', rfl⟩ := hq; exact F.2.2.1 k hk') (fun r u t H1 locs1 ht hvm hp hB _ _ hS1 => ?_)
  obtain ⟨z, hz, rfl, hpz, hwu⟩ := hp
  rw [ht] at hB
  have h3 := rgs_cons.mp (rgs_rest h2 hst)
  exact kk z u hpz H1 locs1 ls hB hS1 hL hwu h1 (rgs_int.mpr ⟨hz, h3.2⟩)
theorem V_callVv (F : FX G X cc own nL d) {y : MethodName} {bs : ByteArray} {nM d' b ci N index : Nat} {fs : List (Option Nat)} {T : u_T} {As rest : List RV} {Post' : RW → Prop} (hd : decode cc pc = .ok (.invokevirtual index, 3)) (hl : Cond.methodLink own index y ∈ bigW) (mi : MI y bs nM none As.length) (mv : MV y) (hM : CTv G (xl X) y bs nM d' (.inr b :: As) w Post') (hd' : d' + 1 ≤ d) (hk : shp[b]? = some (.inr (.inl (ci, fs)))) (hc : classes[ci]? = some (y.cls, T, N)) (hst : st = As.reverse ++ .inr b :: rest) (hrest : rest.length ≤ 8)
    (kk : ∀ u, Post' u → V G X nL Q (pc + 3) L rest u) : V G X nL Q pc L st w := by
  intro H locs ls hP hS hL hw h1 h2
  have hre : (st.map (rv G)) = (As.map (rv G)).reverse ++ .ref (gad G b) :: rest.map (rv G) := by rw [hst, List.map_append, List.map_reverse]; rfl
  refine va_callv (va_runV (C := y.cls) (b := gad G b) (As := As.map (rv G)) (rest := rest.map (rv G)) F.1 hM ⟨cb_of F mi hd' hl, F.1.2.2.2.2 _ mv.1, F.1.2.2.2.2 _ mv.2⟩ ⟨gE_blind, va_recv F.2.1.1 hP hc (gW_at G w hk), fun U hU hW => ⟨rfl, by rw [hU]; exact hP, gE_like F.2.1 hW hU hS (fun q hq => by obtain ⟨k, hk', rfl⟩ := hq; exact F.2.2.1 k hk'), hw, rgs_args h2 hst⟩⟩ rfl (by simp) hL.1 hre (lv_room (by rw [cat_sum]; exact hrest)) hd ⟨F.2.2.2.2.2.1, F.2.2.2.2.2.2⟩) hS (fun q _ hq => by obtain ⟨k, hk', rfl⟩ := hq; exact F.2.2.1 k hk') (fun q hq => by obtain ⟨k, hk', rfl⟩ := hq; exact F.2.2.1 k hk') (fun u t H1 locs1 ht hvm hp hB _ _ hS1 => ?_)
  rw [ht] at hB
  have h3 := rgs_cons.mp (rgs_rest h2 hst)
  exact kk u hp.1 H1 locs1 ls hB hS1 hL hp.2 h1 h3.2
theorem V_callSi (F : FX G X cc own nL d) {y : MethodName} {bs : ByteArray} {nM d' index : Nat} {rt : FieldType} {As rest : List RV} {Post' : Int → RW → Prop} (hd : decode cc pc = .ok (.invokestatic index, 3)) (hl : Cond.methodLink own index y ∈ bigW) (mi : MI y bs nM (some rt) As.length) (ms : Cond.static y ∈ bigW) (hM : CTi G (xl X) y bs nM rt d' As w Post') (hd' : d' + 1 ≤ d) (hst : st = As.reverse ++ rest) (hrest : rest.length ≤ 8)
    (kk : ∀ r u, Post' r u → V G X nL Q (pc + 3) L (.inl r :: rest) u) : V G X nL Q pc L st w := by
  intro H locs ls hP hS hL hw h1 h2
  have hre : (st.map (rv G)) = (As.map (rv G)).reverse ++ rest.map (rv G) := by rw [hst, List.map_append, List.map_reverse]
  refine va_calli (va_runS (As := As.map (rv G)) (rest := rest.map (rv G)) F.1 hM ⟨cb_of F mi hd' hl, F.1.2.2.2.2 _ ms⟩ ⟨gE_blind, fun U hU hW => ⟨rfl, by rw [hU]; exact hP, gE_like F.2.1 hW hU hS (fun q hq => by obtain ⟨k, hk', rfl⟩ := hq; exact F.2.2.1 k hk'), hw, rgs_argS h2 hst⟩⟩ rfl (by simp) hL.1 hre (lv_room (by rw [cat_sum]; exact hrest)) hd ⟨F.2.2.2.2.2.1, F.2.2.2.2.2.2⟩) hS (fun q _ hq => by obtain ⟨k, hk', rfl⟩ := hq; exact F.2.2.1 k hk') (fun q hq => by obtain ⟨k, hk', rfl⟩ := hq; exact F.2.2.1 k hk') (fun r u t H1 locs1 ht hvm hp hB _ _ hS1 => ?_)
  obtain ⟨z, hz, rfl, hpz, hwu⟩ := hp
  rw [ht] at hB
  exact kk z u hpz H1 locs1 ls hB hS1 hL hwu h1 (rgs_int.mpr ⟨hz, rgs_rest h2 hst⟩)
theorem V_callSv (F : FX G X cc own nL d) {y : MethodName} {bs : ByteArray} {nM d' index : Nat} {As rest : List RV} {Post' : RW → Prop} (hd : decode cc pc = .ok (.invokestatic index, 3)) (hl : Cond.methodLink own index y ∈ bigW) (mi : MI y bs nM none As.length) (ms : Cond.static y ∈ bigW) (hM : CTv G (xl X) y bs nM d' As w Post') (hd' : d' + 1 ≤ d) (hst : st = As.reverse ++ rest) (hrest : rest.length ≤ 8)
    (kk : ∀ u, Post' u → V G X nL Q (pc + 3) L rest u) : V G X nL Q pc L st w := by
  intro H locs ls hP hS hL hw h1 h2
  have hre : (st.map (rv G)) = (As.map (rv G)).reverse ++ rest.map (rv G) := by rw [hst, List.map_append, List.map_reverse]
  refine va_callv (va_runS (As := As.map (rv G)) (rest := rest.map (rv G)) F.1 hM ⟨cb_of F mi hd' hl, F.1.2.2.2.2 _ ms⟩ ⟨gE_blind, fun U hU hW => ⟨rfl, by rw [hU]; exact hP, gE_like F.2.1 hW hU hS (fun q hq => by obtain ⟨k, hk', rfl⟩ := hq; exact F.2.2.1 k hk'), hw, rgs_argS h2 hst⟩⟩ rfl (by simp) hL.1 hre (lv_room (by rw [cat_sum]; exact hrest)) hd ⟨F.2.2.2.2.2.1, F.2.2.2.2.2.2⟩) hS (fun q _ hq => by obtain ⟨k, hk', rfl⟩ := hq; exact F.2.2.1 k hk') (fun q hq => by obtain ⟨k, hk', rfl⟩ := hq; exact F.2.2.1 k hk') (fun u t H1 locs1 ht hvm hp hB _ _ hS1 => ?_)
  rw [ht] at hB
  exact kk u hp.1 H1 locs1 ls hB hS1 hL hp.2 h1 (rgs_rest h2 hst)
end VC
noncomputable def bz (P : Prop) : Int := @ite _ P (Classical.propDecidable P) 1 0
theorem bz_t {P : Prop} (h : P) : bz P = 1 := by unfold bz; exact @if_pos P (Classical.propDecidable P) h Int 1 0
theorem bz_f {P : Prop} (h : ¬ P) : bz P = 0 := by unfold bz; exact @if_neg P (Classical.propDecidable P) h Int 1 0
theorem bz_01 (P : Prop) : bz P = 0 ∨ bz P = 1 := by
  by_cases h : P
  · exact Or.inr (bz_t h)
  · exact Or.inl (bz_f h)
theorem bz_eq0 {P : Prop} : bz P = 0 ↔ ¬ P := ⟨fun h q => by rw [bz_t q] at h; omega, bz_f⟩
theorem bz_ne0 {P : Prop} : ¬ bz P = 0 ↔ P := ⟨fun h => Classical.byContradiction (fun q => h (bz_f q)), fun h q => by rw [bz_t h] at q; omega⟩
theorem bz_eq1 {P : Prop} : bz P = 1 ↔ P := ⟨fun h => Classical.byContradiction (fun q => by rw [bz_f q] at h; omega), bz_t⟩
theorem bz_c {P Q : Prop} (h : P ↔ Q) : bz P = bz Q := by
  by_cases q : P
  · rw [bz_t q, bz_t (h.mp q)]
  · rw [bz_f q, bz_f (fun z => q (h.mpr z))]
theorem stt_rng (i : Nat) (z : Int) : 0 ≤ stt i z ∧ stt i z < 64 := by
  unfold stt
  have key : ∀ l ∈ sttL, ∀ x ∈ l, (0 : Int) ≤ x ∧ x < 64 := by decide
  rw [List.getD_eq_getElem?_getD, List.getD_eq_getElem?_getD]
  cases h : sttL[i]? with
  | none => simp
  | some l =>
    cases h2 : l[z.toNat]? with
    | none => simp [h2]
    | some x => simpa [h2] using key l (List.mem_of_getElem? h) x (List.mem_of_getElem? h2)
theorem stt_in (i : Nat) (z : Int) : inR (stt i z) := by
  have := stt_rng i z
  exact ⟨by omega, by omega⟩
noncomputable def cif (P : Prop) (a b : Int) : Int := @ite _ P (Classical.propDecidable P) a b
theorem cif_t {P : Prop} {a b : Int} (h : P) : cif P a b = a := by unfold cif; exact @if_pos P (Classical.propDecidable P) h Int a b
theorem cif_f {P : Prop} {a b : Int} (h : ¬ P) : cif P a b = b := by unfold cif; exact @if_neg P (Classical.propDecidable P) h Int a b
theorem cif_c {P R : Prop} {a b c d : Int} (h : P ↔ R) (ha : P → a = c) (hb : ¬ P → b = d) : cif P a b = cif R c d := by
  by_cases q : P
  · rw [cif_t q, cif_t (h.mp q), ha q]
  · rw [cif_f q, cif_f (fun z => q (h.mpr z)), hb q]
end
section
/-! WAYS: what two tables of sums to a goal have in common; pure. ed q k: the k-th way on from q: nothing, or (none: the goal; some b: node b) and what it costs -/
abbrev ED : Type := Int → Int → Option (Option Int × Int)
def okE (n : Int) (ed : ED) : Prop := ∀ q k t c, ed q k = some (t, c) → 1 ≤ c ∧ c ≤ 15 ∧ ∀ b, t = some b → 0 ≤ b ∧ b < n
/-- every sum is borne out by one way on -/
def gJu (F n : Int) (ed : ED) (f : Int → Int) : Prop := ∀ q : Int, 0 ≤ q → q < n → f q < F → ∃ k t c, (0 ≤ k ∧ k < 6) ∧ ed q k = some (t, c) ∧ ((t = none ∧ c ≤ f q) ∨ ∃ b, t = some b ∧ f b < F ∧ c + f b ≤ f q)
/-- no way on is better -/
def gRl (F n : Int) (ed : ED) (f : Int → Int) : Prop := ∀ (q k : Int) (t : Option Int) (c : Int), 0 ≤ q → q < n → 0 ≤ k → k < 6 → ed q k = some (t, c) → (t = none → f q ≤ c) ∧ ∀ b, t = some b → f b < F → f q ≤ c + f b
def gPos (n : Int) (f : Int → Int) : Prop := ∀ q : Int, 0 ≤ q → q < n → 0 ≤ f q
theorem g_le {F1 F2 n : Int} {ed : ED} {f g : Int → Int} (hE : okE n ed) (hf : gJu F1 n ed f) (hg : gRl F2 n ed g) (h0 : gPos n f) (hF : ∀ q : Int, 0 ≤ q → q < n → f q < F1 → f q < F2) : ∀ (m : Nat) (q : Int), 0 ≤ q → q < n → (f q).toNat < m → f q < F1 → g q ≤ f q := by
  intro m
  induction m with
  | zero => intro q _ _ h; omega
  | succ m ih =>
    intro q hq hn hm hq1
    obtain ⟨k, t, c, ⟨hk0, hk⟩, he, h⟩ := hf q hq hn hq1
    obtain ⟨c1, -, hb⟩ := hE q k t c he
    obtain ⟨r1, r2⟩ := hg q k t c hq hn hk0 hk he
    rcases h with ⟨ht, hc⟩ | ⟨b, ht, hb1, hb2⟩
    · have := r1 ht; omega
    · obtain ⟨hb3, hb4⟩ := hb b ht
      have p1 := h0 b hb3 hb4
      have p2 := h0 q hq hn
      have h2 := ih b hb3 hb4 (by omega) hb1
      have h3 := hF b hb3 hb4 hb1
      have h4 := r2 b ht (by omega)
      omega
/-- how many nodes have less -/
def gRk (n : Nat) (f : Int → Int) (v : Int) : Nat := ((List.range n).filter (fun (i : Nat) => decide (f (i : Int) < v))).length
theorem gRk_le (n : Nat) (f : Int → Int) (v : Int) : gRk n f v ≤ n := by
  unfold gRk
  exact Nat.le_trans (List.length_filter_le _ _) (by simp)
theorem g_filter_lt {α : Type} (p q : α → Bool) (l : List α) (h : ∀ x, p x = true → q x = true) {a : α} (ha : a ∈ l) (h1 : q a = true) (h2 : p a = false) : (l.filter p).length < (l.filter q).length := by
  induction l with
  | nil => exact absurd ha List.not_mem_nil
  | cons b t ih =>
    have hle : ∀ t : List α, (t.filter p).length ≤ (t.filter q).length := by
      intro t
      induction t with
      | nil => simp
      | cons c t ih2 =>
        by_cases hp : p c = true
        · simp [hp, h c hp]; omega
        · by_cases hq : q c = true
          · simp [hp, hq]; omega
          · simp [hp, hq]; omega
    rcases List.mem_cons.mp ha with rfl | ha'
    · have := hle t
      simp [h1, h2]; omega
    · have := ih ha'
      by_cases hp : p b = true
      · simp [hp, h b hp]; omega
      · by_cases hq : q b = true
        · simp [hp, hq]; omega
        · simp [hp, hq]; omega
theorem g_filter_le2 {α : Type} (p q : α → Bool) (l : List α) (h : ∀ x ∈ l, p x = true → q x = true) : (l.filter p).length ≤ (l.filter q).length := by
  induction l with
  | nil => simp
  | cons c t ih =>
    have ih2 := ih (fun x hx => h x (List.mem_cons_of_mem _ hx))
    by_cases hp : p c = true
    · simp [hp, h c List.mem_cons_self hp]; omega
    · by_cases hq : q c = true
      · simp [hp, hq]; omega
      · simp [hp, hq]; omega
theorem g_filter_lt2 {α : Type} (p q : α → Bool) (l : List α) (h : ∀ x ∈ l, p x = true → q x = true) {a : α} (ha : a ∈ l) (h1 : q a = true) (h2 : p a = false) : (l.filter p).length < (l.filter q).length := by
  induction l with
  | nil => exact absurd ha List.not_mem_nil
  | cons b t ih =>
    have hle := g_filter_le2 p q t (fun x hx => h x (List.mem_cons_of_mem _ hx))
    rcases List.mem_cons.mp ha with rfl | ha'
    · simp [h1, h2]; omega
    · have := ih (fun x hx => h x (List.mem_cons_of_mem _ hx)) ha'
      by_cases hp : p b = true
      · simp [hp, h b List.mem_cons_self hp]; omega
      · by_cases hq : q b = true
        · simp [hp, hq]; omega
        · simp [hp, hq]; omega
theorem gRk_lt {n : Nat} {f : Int → Int} {b v : Int} (hb : 0 ≤ b) (hn : b < n) (h : f b < v) : gRk n f (f b) < gRk n f v := by
  unfold gRk
  refine g_filter_lt _ _ _ (fun x hx => ?_) (a := b.toNat) (by simp; omega) ?_ ?_
  · simp only [decide_eq_true_eq] at hx ⊢; omega
  · simp only [decide_eq_true_eq]; rw [Int.toNat_of_nonneg hb]; exact h
  · simp only [decide_eq_false_iff_not]; rw [Int.toNat_of_nonneg hb]; omega
/-- sums that are borne out exactly are small -/
theorem g_small {F : Int} {n : Nat} {ed : ED} {f : Int → Int} (hE : okE n ed) (hf : gJu F n ed f) (hr : gRl F n ed f) (h0 : gPos n f) : ∀ (m : Nat) (q : Int), 0 ≤ q → q < n → (f q).toNat < m → f q < F → f q ≤ 15 * ((gRk n f (f q) : Int) + 1) := by
  intro m
  induction m with
  | zero => intro q _ _ h; omega
  | succ m ih =>
    intro q hq hn hm hq1
    obtain ⟨k, t, c, ⟨hk0, hk⟩, he, h⟩ := hf q hq hn hq1
    obtain ⟨c1, c2, hb⟩ := hE q k t c he
    obtain ⟨r1, r2⟩ := hr q k t c hq hn hk0 hk he
    rcases h with ⟨ht, hc⟩ | ⟨b, ht, hb1, hb2⟩
    · have := r1 ht; omega
    · obtain ⟨hb3, hb4⟩ := hb b ht
      have p1 := h0 b hb3 hb4
      have h2 := ih b hb3 hb4 (by omega) hb1
      have h3 := gRk_lt (n := n) (f := f) hb3 hb4 (show f b < f q by omega)
      have h4 := r2 b ht hb1
      omega
/-- two tables over one graph agree -/
theorem g_same {F1 F2 : Int} {n : Nat} {ed : ED} {f g : Int → Int} (hE : okE n ed) (h1 : gJu F1 n ed f) (h2 : gRl F1 n ed f) (h3 : gPos n f) (h4 : gJu F2 n ed g) (h5 : gRl F2 n ed g) (h6 : gPos n g) (hF1 : 15 * ((n : Int) + 1) < F1) (hF2 : 15 * ((n : Int) + 1) < F2) {q : Int} (hq : 0 ≤ q) (hn : q < n) : (f q < F1 ↔ g q < F2) ∧ (f q < F1 → f q = g q) := by
  have sf : ∀ q, 0 ≤ q → q < (n : Int) → f q < F1 → f q ≤ 15 * ((n : Int) + 1) := fun q a b c => by
    have := g_small hE h1 h2 h3 ((f q).toNat + 1) q a b (by omega) c
    have := gRk_le n f (f q)
    omega
  have sg : ∀ q, 0 ≤ q → q < (n : Int) → g q < F2 → g q ≤ 15 * ((n : Int) + 1) := fun q a b c => by
    have := g_small hE h4 h5 h6 ((g q).toNat + 1) q a b (by omega) c
    have := gRk_le n g (g q)
    omega
  have e1 : f q < F1 → g q ≤ f q := fun c => g_le hE h1 h5 h3 (fun q a b c => by have := sf q a b c; omega) ((f q).toNat + 1) q hq hn (by omega) c
  have e2 : g q < F2 → f q ≤ g q := fun c => g_le hE h4 h2 h6 (fun q a b c => by have := sg q a b c; omega) ((g q).toNat + 1) q hq hn (by omega) c
  refine ⟨⟨fun c => ?_, fun c => ?_⟩, fun c => ?_⟩
  · have := e1 c; have := sf q hq hn c; omega
  · have := e2 c; have := sg q hq hn c; omega
  · have a1 := e1 c
    have a2 := sf q hq hn c
    have a3 := e2 (by omega)
    omega
/-! the true sums -/
def gR (ed : ED) : Nat → Int → Int → Prop
  | 0, _, _ => False
  | j + 1, q, v => ∃ k t c, (0 ≤ k ∧ k < 6) ∧ ed q k = some (t, c) ∧ ((t = none ∧ v = c) ∨ ∃ b, t = some b ∧ gR ed j b (v - c))
def gReach (ed : ED) (q v : Int) : Prop := ∃ j, gR ed j q v
def isD (ed : ED) (q v : Int) : Prop := gReach ed q v ∧ ∀ u, gReach ed q u → v ≤ u
theorem gR_pos {n : Int} {ed : ED} (hE : okE n ed) : ∀ (j : Nat) (q v : Int), gR ed j q v → 1 ≤ v := by
  intro j
  induction j with
  | zero => intro q v h; exact absurd h (by simp [gR])
  | succ j ih =>
    intro q v h
    obtain ⟨k, t, c, -, he, h⟩ := h
    have c1 := (hE q k t c he).1
    rcases h with ⟨-, rfl⟩ | ⟨b, -, hb⟩
    · exact c1
    · have := ih b _ hb; omega
theorem isD_of {n : Int} {ed : ED} (hE : okE n ed) {q v : Int} (h : gReach ed q v) : ∃ d, isD ed q d ∧ d ≤ v := by
  have hpos : ∀ u, gReach ed q u → 1 ≤ u := fun u ⟨j, hj⟩ => gR_pos hE j q u hj
  have hv := hpos v h
  obtain ⟨m, hm, hl⟩ := pk_least (fun m : Nat => gReach ed q (m : Int)) ⟨v.toNat, by rw [Int.toNat_of_nonneg (by omega)]; exact h⟩
  have hmin : ∀ u, gReach ed q u → (m : Int) ≤ u := fun u hu => by
    have hu1 := hpos u hu
    apply Decidable.byContradiction
    intro hc
    exact hl u.toNat (by omega) (by rw [Int.toNat_of_nonneg (by omega)]; exact hu)
  exact ⟨m, ⟨hm, hmin⟩, hmin v h⟩
theorem gReach_edge {ed : ED} {q k c b v : Int} (hk : 0 ≤ k ∧ k < 6) (he : ed q k = some (some b, c)) (h : gReach ed b v) : gReach ed q (c + v) := by
  obtain ⟨j, hj⟩ := h
  exact ⟨j + 1, k, some b, c, hk, he, Or.inr ⟨b, rfl, by rw [show c + v - c = v by omega]; exact hj⟩⟩
theorem gReach_goal {ed : ED} {q k c : Int} (hk : 0 ≤ k ∧ k < 6) (he : ed q k = some (none, c)) : gReach ed q c := ⟨1, k, none, c, hk, he, Or.inl ⟨rfl, rfl⟩⟩
theorem isD_edge {n : Int} {ed : ED} (hE : okE n ed) {q d : Int} (h : isD ed q d) : ∃ k t c, (0 ≤ k ∧ k < 6) ∧ ed q k = some (t, c) ∧ ((t = none ∧ d = c) ∨ ∃ b d', t = some b ∧ isD ed b d' ∧ d = c + d') := by
  obtain ⟨⟨j, hj⟩, hmin⟩ := h
  cases j with
  | zero => exact absurd hj (by simp [gR])
  | succ j =>
    obtain ⟨k, t, c, hk, he, h⟩ := hj
    refine ⟨k, t, c, hk, he, ?_⟩
    rcases h with ⟨ht, hd⟩ | ⟨b, ht, hb⟩
    · exact Or.inl ⟨ht, hd⟩
    · obtain ⟨d', hd', hle⟩ := isD_of hE ⟨j, hb⟩
      subst ht
      have := hmin _ (gReach_edge hk he hd'.1)
      exact Or.inr ⟨b, d', rfl, hd', by omega⟩
theorem isD_uniq {ed : ED} {q d e : Int} (h1 : isD ed q d) (h2 : isD ed q e) : d = e := by
  have := h1.2 e h2.1
  have := h2.2 d h1.1
  omega
/-- what is borne out is never below the true sum -/
theorem gJu_reach {F n : Int} {ed : ED} {f : Int → Int} (hE : okE n ed) (hf : gJu F n ed f) (h0 : gPos n f) : ∀ (m : Nat) (q : Int), 0 ≤ q → q < n → (f q).toNat < m → f q < F → ∃ v, gReach ed q v ∧ v ≤ f q := by
  intro m
  induction m with
  | zero => intro q _ _ h; omega
  | succ m ih =>
    intro q hq hn hm hq1
    obtain ⟨k, t, c, hk, he, h⟩ := hf q hq hn hq1
    obtain ⟨c1, -, hb⟩ := hE q k t c he
    rcases h with ⟨rfl, hc⟩ | ⟨b, rfl, hb1, hb2⟩
    · exact ⟨c, gReach_goal hk he, hc⟩
    · obtain ⟨hb3, hb4⟩ := hb b rfl
      have p1 := h0 b hb3 hb4
      obtain ⟨v, h5, h6⟩ := ih b hb3 hb4 (by omega) hb1
      exact ⟨c + v, gReach_edge hk he h5, by omega⟩
theorem gJu_ge {F n : Int} {ed : ED} {f : Int → Int} (hE : okE n ed) (hf : gJu F n ed f) (h0 : gPos n f) {q d : Int} (hq : 0 ≤ q) (hn : q < n) (h : f q < F) (hd : isD ed q d) : d ≤ f q := by
  obtain ⟨v, h1, h2⟩ := gJu_reach hE hf h0 ((f q).toNat + 1) q hq hn (by omega) h
  have := hd.2 v h1
  omega
/-- all final: no way on is better -/
theorem gRl_of_fin {F n : Int} {ed : ED} {f : Int → Int} (hE : okE n ed) (hf : gJu F n ed f) (h0 : gPos n f) (hfin : ∀ (q d : Int), 0 ≤ q → q < n → isD ed q d → f q ≤ d) : gRl F n ed f := by
  intro q k t c hq hn hk0 hk he
  refine ⟨fun ht => ?_, fun b ht hb => ?_⟩
  · subst ht
    obtain ⟨d, hd, hle⟩ := isD_of hE (gReach_goal ⟨hk0, hk⟩ he)
    have := hfin q d hq hn hd
    omega
  · subst ht
    obtain ⟨-, -, hbn⟩ := hE q k (some b) c he
    obtain ⟨hb1, hb2⟩ := hbn b rfl
    obtain ⟨v, h1, h2⟩ := gJu_reach hE hf h0 ((f b).toNat + 1) b hb1 hb2 (by omega) hb
    obtain ⟨d, hd, hle⟩ := isD_of hE (gReach_edge ⟨hk0, hk⟩ he h1)
    have := hfin q d hq hn hd
    omega
/-! sweeps: each makes one more node final -/
noncomputable def nfB (ed : ED) (f : Int → Int) (i : Nat) : Bool := @decide (∃ d, isD ed (i : Int) d ∧ d < f (i : Int)) (Classical.propDecidable _)
theorem nfB_iff {ed : ED} {f : Int → Int} {i : Nat} : nfB ed f i = true ↔ ∃ d, isD ed (i : Int) d ∧ d < f (i : Int) := @decide_eq_true_iff _ (Classical.propDecidable _)
theorem nfB_not {ed : ED} {f : Int → Int} {i : Nat} : nfB ed f i = false ↔ ¬ ∃ d, isD ed (i : Int) d ∧ d < f (i : Int) := by
  rw [← nfB_iff]
  cases nfB ed f i <;> simp
noncomputable def nfN (n : Nat) (ed : ED) (f : Int → Int) : Nat := ((List.range n).filter (nfB ed f)).length
theorem nfN_le (n : Nat) (ed : ED) (f : Int → Int) : nfN n ed f ≤ n := Nat.le_trans (List.length_filter_le _ _) (by simp)
theorem nfN_0 {n : Nat} {ed : ED} {f : Int → Int} (h : nfN n ed f = 0) {q d : Int} (hq : 0 ≤ q) (hn : q < n) (hd : isD ed q d) : f q ≤ d := by
  have h1 := List.length_eq_zero_iff.mp h
  have h2 : nfB ed f q.toNat = false := by
    have := List.filter_eq_nil_iff.mp h1 q.toNat (by simp; omega)
    simpa using this
  have h3 := nfB_not.mp h2
  rw [Int.toNat_of_nonneg hq] at h3
  apply Decidable.byContradiction
  intro hc
  exact h3 ⟨d, hd, by omega⟩
theorem g_sweep {F : Int} {n : Nat} {ed : ED} {f0 f1 : Int → Int} (hE : okE n ed) (hF : ∀ q : Int, 0 ≤ q → q < n → f0 q ≤ F) (hle : ∀ q : Int, 0 ≤ q → q < n → f1 q ≤ f0 q)
    (hj : ∀ (q k : Int) (t : Option Int) (c : Int), 0 ≤ q → q < n → 0 ≤ k → k < 6 → ed q k = some (t, c) → (t = none → f1 q ≤ c) ∧ ∀ b, t = some b → f0 b < F → f1 q ≤ c + f0 b) (h : 0 < nfN n ed f0) : nfN n ed f1 < nfN n ed f0 := by
  have hex : ∃ m : Nat, ∃ q : Int, (0 ≤ q ∧ q < n) ∧ isD ed q (m : Int) ∧ (m : Int) < f0 q := by
    unfold nfN at h
    obtain ⟨i, hi⟩ := List.exists_mem_of_length_pos h
    obtain ⟨h1, h2⟩ := List.mem_filter.mp hi
    obtain ⟨d, hd, hlt⟩ := nfB_iff.mp h2
    obtain ⟨j, hj⟩ := hd.1
    have hp := gR_pos hE j _ _ hj
    refine ⟨d.toNat, (i : Int), ⟨by omega, by have := List.mem_range.mp h1; omega⟩, ?_, ?_⟩
    · rw [Int.toNat_of_nonneg (by omega)]; exact hd
    · rw [Int.toNat_of_nonneg (by omega)]; exact hlt
  obtain ⟨m, ⟨q, ⟨hq, hn⟩, hd, hlt⟩, hmin⟩ := pk_least _ hex
  have hfin : f1 q ≤ m := by
    obtain ⟨k, t, c, hk, he, h⟩ := isD_edge hE hd
    obtain ⟨c1, -, hb⟩ := hE q k t c he
    obtain ⟨r1, r2⟩ := hj q k t c hq hn hk.1 hk.2 he
    rcases h with ⟨ht, hc⟩ | ⟨b, d', ht, hd', hc⟩
    · have := r1 ht; omega
    · obtain ⟨hb1, hb2⟩ := hb b ht
      obtain ⟨j, hjj⟩ := hd'.1
      have hp := gR_pos hE j _ _ hjj
      have h2 : f0 b ≤ d' := by
        apply Decidable.byContradiction
        intro hc2
        exact hmin d'.toNat (by omega) ⟨b, ⟨hb1, hb2⟩, by rw [Int.toNat_of_nonneg (by omega)]; exact hd', by rw [Int.toNat_of_nonneg (by omega)]; omega⟩
      have h3 := hF q hq hn
      have h4 := r2 b ht (by omega)
      omega
  unfold nfN
  refine g_filter_lt2 _ _ _ (fun x hx hp => ?_) (a := q.toNat) (by simp; omega) ?_ ?_
  · obtain ⟨d, h1, h2⟩ := nfB_iff.mp hp
    have hx' := List.mem_range.mp hx
    have := hle (x : Int) (by omega) (by omega)
    exact nfB_iff.mpr ⟨d, h1, by omega⟩
  · apply nfB_iff.mpr
    rw [Int.toNat_of_nonneg hq]
    exact ⟨m, hd, hlt⟩
  · apply nfB_not.mpr
    rw [Int.toNat_of_nonneg hq]
    rintro ⟨d, h1, h2⟩
    have := isD_uniq h1 hd
    omega
/-! a queue: each taken node that is final is settled for good -/
noncomputable def usB (ed : ED) (f : Int → Int) (Qs : List Int) (i : Nat) : Bool := @decide (∃ d, isD ed (i : Int) d ∧ (d < f (i : Int) ∨ (i : Int) ∈ Qs)) (Classical.propDecidable _)
theorem usB_iff {ed : ED} {f : Int → Int} {Qs : List Int} {i : Nat} : usB ed f Qs i = true ↔ ∃ d, isD ed (i : Int) d ∧ (d < f (i : Int) ∨ (i : Int) ∈ Qs) := @decide_eq_true_iff _ (Classical.propDecidable _)
theorem usB_not {ed : ED} {f : Int → Int} {Qs : List Int} {i : Nat} : usB ed f Qs i = false ↔ ¬ ∃ d, isD ed (i : Int) d ∧ (d < f (i : Int) ∨ (i : Int) ∈ Qs) := by
  rw [← usB_iff]
  cases usB ed f Qs i <;> simp
noncomputable def usN (n : Nat) (ed : ED) (f : Int → Int) (Qs : List Int) : Nat := ((List.range n).filter (usB ed f Qs)).length
theorem usN_le (n : Nat) (ed : ED) (f : Int → Int) (Qs : List Int) : usN n ed f Qs ≤ n := Nat.le_trans (List.length_filter_le _ _) (by simp)
/-- sums, and nodes that wait: ways into nodes that don't wait are relaxed -/
def gQ (F : Int) (n : Nat) (ed : ED) (f : Int → Int) (Qs : List Int) : Prop := gJu F n ed f ∧ gPos n f ∧ (∀ q : Int, 0 ≤ q → q < n → f q ≤ F) ∧ (∀ x ∈ Qs, (0 ≤ x ∧ x < (n : Int)) ∧ f x < F) ∧ Qs.length ≤ n ∧
  ∀ (q k : Int) (t : Option Int) (c : Int), 0 ≤ q → q < n → 0 ≤ k → k < 6 → ed q k = some (t, c) → (t = none → f q ≤ c) ∧ ∀ b, t = some b → b ∉ Qs → f b < F → f q ≤ c + f b
def gPot (n : Nat) (ed : ED) (f : Int → Int) (Qs : List Int) (B : Int) : Prop := Qs = [] ∨ ∃ (u p : Nat) (q0 d : Int), (n : Int) * u + p + 1 ≤ B ∧ usN n ed f Qs ≤ u + 1 ∧ Qs[p]? = some q0 ∧ isD ed q0 d ∧ f q0 ≤ d
theorem gQ_first {F : Int} {n : Nat} {ed : ED} {f : Int → Int} {Qs : List Int} (hE : okE n ed) (h : gQ F n ed f Qs) (hne : Qs ≠ []) : ∃ (p : Nat) (q0 d : Int), Qs[p]? = some q0 ∧ isD ed q0 d ∧ f q0 ≤ d ∧ 0 < usN n ed f Qs := by
  obtain ⟨h1, h2, h3, h4, h5, h6⟩ := h
  have hex : ∃ m : Nat, ∃ q : Int, (0 ≤ q ∧ q < n) ∧ isD ed q (m : Int) ∧ ((m : Int) < f q ∨ q ∈ Qs) := by
    obtain ⟨x, hx⟩ := List.exists_mem_of_ne_nil Qs hne
    obtain ⟨⟨hx1, hx2⟩, hx3⟩ := h4 x hx
    obtain ⟨v, hv, -⟩ := gJu_reach hE h1 h2 ((f x).toNat + 1) x hx1 hx2 (by omega) hx3
    obtain ⟨d, hd, -⟩ := isD_of hE hv
    obtain ⟨j, hj⟩ := hd.1
    have hp := gR_pos hE j _ _ hj
    exact ⟨d.toNat, x, ⟨hx1, hx2⟩, by rw [Int.toNat_of_nonneg (by omega)]; exact hd, Or.inr hx⟩
  obtain ⟨m, ⟨q, ⟨hq, hn⟩, hd, hlt⟩, hmin⟩ := pk_least _ hex
  have hfin : f q ≤ m := by
    obtain ⟨k, t, c, hk, he, h⟩ := isD_edge hE hd
    obtain ⟨c1, -, hb⟩ := hE q k t c he
    obtain ⟨r1, r2⟩ := h6 q k t c hq hn hk.1 hk.2 he
    rcases h with ⟨ht, hc⟩ | ⟨b, d', ht, hd', hc⟩
    · have := r1 ht; omega
    · obtain ⟨hb1, hb2⟩ := hb b ht
      obtain ⟨j, hjj⟩ := hd'.1
      have hp := gR_pos hE j _ _ hjj
      have hns : ¬ (d' < f b ∨ b ∈ Qs) := fun hc2 => hmin d'.toNat (by omega) ⟨b, ⟨hb1, hb2⟩, by rw [Int.toNat_of_nonneg (by omega)]; exact hd', by rw [Int.toNat_of_nonneg (by omega)]; exact hc2⟩
      by_cases hff : f q ≤ m
      · exact hff
      · have h7 := h3 q hq hn
        have h8 := r2 b ht (fun z => hns (Or.inr z)) (by have : ¬ d' < f b := fun z => hns (Or.inl z)
                                                         omega)
        have : ¬ d' < f b := fun z => hns (Or.inl z)
        omega
  have hin : q ∈ Qs := by
    rcases hlt with h | h
    · omega
    · exact h
  obtain ⟨p, hp⟩ := List.getElem?_of_mem hin
  refine ⟨p, q, m, hp, hd, hfin, ?_⟩
  unfold usN
  apply List.length_pos_of_mem (a := q.toNat)
  apply List.mem_filter.mpr
  refine ⟨by simp; omega, usB_iff.mpr ?_⟩
  rw [Int.toNat_of_nonneg hq]
  exact ⟨m, hd, Or.inr hin⟩
theorem gPot_start {F : Int} {n : Nat} {ed : ED} {f : Int → Int} {Qs : List Int} (hE : okE n ed) (h : gQ F n ed f Qs) : gPot n ed f Qs ((n : Int) * usN n ed f Qs) := by
  by_cases hne : Qs = []
  · exact Or.inl hne
  · obtain ⟨p, q0, d, h1, h2, h3, h4⟩ := gQ_first hE h hne
    have hp := (List.getElem?_eq_some_iff.mp h1).1
    have := h.2.2.2.2.1
    refine Or.inr ⟨usN n ed f Qs - 1, p, q0, d, ?_, by omega, h1, h2, h3⟩
    have e : (n : Int) * (usN n ed f Qs : Int) = (n : Int) * ((usN n ed f Qs - 1 : Nat) : Int) + n := by
      have : ((usN n ed f Qs : Nat) : Int) = ((usN n ed f Qs - 1 : Nat) : Int) + 1 := by omega
      rw [this, Int.mul_add, Int.mul_one]
    omega
theorem gQ_take {F : Int} {n : Nat} {ed : ED} {f f' : Int → Int} {Qs' new : List Int} {e B : Int} (hE : okE n ed) (h : gQ F n ed f (e :: Qs')) (hp : gPot n ed f (e :: Qs') B) (hnd : (e :: Qs').Nodup)
    (hle : ∀ q : Int, 0 ≤ q → q < n → f' q ≤ f q) (hJ : gJu F n ed f') (h0 : gPos n f') (hnew : ∀ x ∈ new, (0 ≤ x ∧ x < (n : Int)) ∧ f' x < f x) (hch : ∀ q : Int, 0 ≤ q → q < n → f' q < f q → q ∈ Qs' ++ new) (hlen : (Qs' ++ new).length ≤ n)
    (hrel : ∀ (q k c : Int), 0 ≤ q → q < n → 0 ≤ k → k < 6 → ed q k = some (some e, c) → f' q ≤ c + f e) : gQ F n ed f' (Qs' ++ new) ∧ gPot n ed f' (Qs' ++ new) (B - 1) := by
  obtain ⟨h1, h2, h3, h4, h5, h6⟩ := h
  have hQ' : gQ F n ed f' (Qs' ++ new) := by
    refine ⟨hJ, h0, fun q a b => by have := hle q a b; have := h3 q a b; omega, fun x hx => ?_, hlen, fun q k t c hq hn hk0 hk he => ?_⟩
    · rcases List.mem_append.mp hx with hx | hx
      · obtain ⟨a, b⟩ := h4 x (List.mem_cons_of_mem _ hx)
        have := hle x a.1 a.2
        exact ⟨a, by omega⟩
      · obtain ⟨a, b⟩ := hnew x hx
        have := h3 x a.1 a.2
        exact ⟨a, by omega⟩
    · obtain ⟨r1, r2⟩ := h6 q k t c hq hn hk0 hk he
      have hl := hle q hq hn
      refine ⟨fun ht => by have := r1 ht; omega, fun b ht hb hbF => ?_⟩
      obtain ⟨-, -, hbb⟩ := hE q k t c he
      obtain ⟨b1, b2⟩ := hbb b ht
      have hsame : ¬ f' b < f b := fun z => hb (hch b b1 b2 z)
      by_cases hbe : b = e
      · subst hbe
        subst ht
        have := hrel q k c hq hn hk0 hk he
        omega
      · have := r2 b ht (fun z => by
          rcases List.mem_cons.mp z with z | z
          · exact hbe z
          · exact hb (List.mem_append_left _ z)) (by have := hle b b1 b2; omega)
        have := hle b b1 b2
        omega
  refine ⟨hQ', ?_⟩
  have hmono : ∀ x ∈ List.range n, usB ed f' (Qs' ++ new) x = true → usB ed f (e :: Qs') x = true := by
    intro x hx hp
    obtain ⟨d, hd, hor⟩ := usB_iff.mp hp
    have hx' := List.mem_range.mp hx
    refine usB_iff.mpr ⟨d, hd, ?_⟩
    have hl := hle (x : Int) (by omega) (by omega)
    rcases hor with h | h
    · exact Or.inl (by omega)
    · rcases List.mem_append.mp h with h | h
      · exact Or.inr (List.mem_cons_of_mem _ h)
      · obtain ⟨a, b⟩ := hnew _ h
        by_cases hf : f' (x : Int) < F
        · have := gJu_ge hE hJ h0 a.1 a.2 hf hd
          exact Or.inl (by omega)
        · have := h3 (x : Int) a.1 a.2
          omega
  by_cases hne : Qs' ++ new = []
  · exact Or.inl hne
  rcases hp with hp | ⟨u, p, q0, d, hB, hU, hq0, hd, hfd⟩
  · exact absurd hp (by simp)
  cases p with
  | zero =>
    have hqe : e = q0 := by simpa using hq0
    subst hqe
    obtain ⟨⟨e1, e2⟩, e3⟩ := h4 e List.mem_cons_self
    have hge := gJu_ge hE h1 h2 e1 e2 e3 hd
    have hle' := hle e e1 e2
    have hge' := gJu_ge hE hJ h0 e1 e2 (by omega) hd
    have hout : e ∉ Qs' ++ new := by
      intro z
      rcases List.mem_append.mp z with z | z
      · exact (List.nodup_cons.mp hnd).1 z
      · have := (hnew e z).2; omega
    have hlt : usN n ed f' (Qs' ++ new) < usN n ed f (e :: Qs') := by
      unfold usN
      refine g_filter_lt2 _ _ _ hmono (a := e.toNat) (by simp; omega) ?_ ?_
      · apply usB_iff.mpr
        rw [Int.toNat_of_nonneg e1]
        exact ⟨d, hd, Or.inr List.mem_cons_self⟩
      · apply usB_not.mpr
        rw [Int.toNat_of_nonneg e1]
        rintro ⟨d2, g1, g2⟩
        have := isD_uniq g1 hd
        rcases g2 with g2 | g2
        · omega
        · exact hout g2
    obtain ⟨p', q1, d1, g1, g2, g3, g4⟩ := gQ_first hE hQ' hne
    have hp' := (List.getElem?_eq_some_iff.mp g1).1
    refine Or.inr ⟨u - 1, p', q1, d1, ?_, by omega, g1, g2, g3⟩
    have hu : ((u - 1 : Nat) : Int) = (u : Int) - 1 := by omega
    rw [hu, Int.mul_sub, Int.mul_one]
    omega
  | succ p =>
    have hq1 : Qs'[p]? = some q0 := by simpa using hq0
    have hp1 := (List.getElem?_eq_some_iff.mp hq1).1
    have hmem := List.mem_of_getElem? hq1
    obtain ⟨⟨e1, e2⟩, e3⟩ := h4 q0 (List.mem_cons_of_mem _ hmem)
    refine Or.inr ⟨u, p, q0, d, by omega, ?_, by rw [List.getElem?_append_left hp1]; exact hq1, hd, by have := hle q0 e1 e2; omega⟩
    have : usN n ed f' (Qs' ++ new) ≤ usN n ed f (e :: Qs') := by
      unfold usN
      exact g_filter_le2 _ _ _ hmono
    omega
/-- nobody waits: the sums are right -/
theorem gQ_end {F : Int} {n : Nat} {ed : ED} {f : Int → Int} (h : gQ F n ed f []) : gRl F n ed f := by
  intro q k t c hq hn hk0 hk he
  obtain ⟨r1, r2⟩ := h.2.2.2.2.2 q k t c hq hn hk0 hk he
  exact ⟨r1, fun b ht hb => r2 b ht (by simp) hb⟩
end
section
theorem dS_tile_0 : decode cS_tile 0 = .ok (.iload_n 0, 1) := by decide +kernel
theorem dS_tile_1 : decode cS_tile 1 = .ok (.bipush 8, 2) := by decide +kernel
theorem dS_tile_3 : decode cS_tile 3 = .ok (.iload_n 1, 1) := by decide +kernel
theorem dS_tile_4 : decode cS_tile 4 = .ok (.imul, 1) := by decide +kernel
theorem dS_tile_5 : decode cS_tile 5 = .ok (.iadd, 1) := by decide +kernel
theorem dS_tile_6 : decode cS_tile 6 = .ok (.ireturn, 1) := by decide +kernel
theorem dS_place_0 : decode cS_place 0 = .ok (.iload_n 0, 1) := by decide +kernel
theorem dS_place_1 : decode cS_place 1 = .ok (.bipush 64, 2) := by decide +kernel
theorem dS_place_3 : decode cS_place 3 = .ok (.iload_n 1, 1) := by decide +kernel
theorem dS_place_4 : decode cS_place 4 = .ok (.imul, 1) := by decide +kernel
theorem dS_place_5 : decode cS_place 5 = .ok (.iadd, 1) := by decide +kernel
theorem dS_place_6 : decode cS_place 6 = .ok (.ireturn, 1) := by decide +kernel
theorem dS_run_0 : decode cS_run 0 = .ok (.iload_n 0, 1) := by decide +kernel
theorem dS_run_1 : decode cS_run 1 = .ok (.sipush 512, 3) := by decide +kernel
theorem dS_run_4 : decode cS_run 4 = .ok (.iload_n 1, 1) := by decide +kernel
theorem dS_run_5 : decode cS_run 5 = .ok (.imul, 1) := by decide +kernel
theorem dS_run_6 : decode cS_run 6 = .ok (.iadd, 1) := by decide +kernel
theorem dS_run_7 : decode cS_run 7 = .ok (.ireturn, 1) := by decide +kernel
theorem dS_exit_0 : decode cS_exit 0 = .ok (.iload_n 0, 1) := by decide +kernel
theorem dS_exit_1 : decode cS_exit 1 = .ok (.bipush 64, 2) := by decide +kernel
theorem dS_exit_3 : decode cS_exit 3 = .ok (.iload_n 1, 1) := by decide +kernel
theorem dS_exit_4 : decode cS_exit 4 = .ok (.imul, 1) := by decide +kernel
theorem dS_exit_5 : decode cS_exit 5 = .ok (.iadd, 1) := by decide +kernel
theorem dS_exit_6 : decode cS_exit 6 = .ok (.ireturn, 1) := by decide +kernel
theorem dS_tileOf_0 : decode cS_tileOf 0 = .ok (.iload_n 0, 1) := by decide +kernel
theorem dS_tileOf_1 : decode cS_tileOf 1 = .ok (.bipush 63, 2) := by decide +kernel
theorem dS_tileOf_3 : decode cS_tileOf 3 = .ok (.iand, 1) := by decide +kernel
theorem dS_tileOf_4 : decode cS_tileOf 4 = .ok (.ireturn, 1) := by decide +kernel
theorem dS_placeOf_0 : decode cS_placeOf 0 = .ok (.iload_n 0, 1) := by decide +kernel
theorem dS_placeOf_1 : decode cS_placeOf 1 = .ok (.sipush 511, 3) := by decide +kernel
theorem dS_placeOf_4 : decode cS_placeOf 4 = .ok (.iand, 1) := by decide +kernel
theorem dS_placeOf_5 : decode cS_placeOf 5 = .ok (.ireturn, 1) := by decide +kernel
theorem dS_pieceOf_0 : decode cS_pieceOf 0 = .ok (.iload_n 0, 1) := by decide +kernel
theorem dS_pieceOf_1 : decode cS_pieceOf 1 = .ok (.sipush 511, 3) := by decide +kernel
theorem dS_pieceOf_4 : decode cS_pieceOf 4 = .ok (.iand, 1) := by decide +kernel
theorem dS_pieceOf_5 : decode cS_pieceOf 5 = .ok (.bipush 64, 2) := by decide +kernel
theorem dS_pieceOf_7 : decode cS_pieceOf 7 = .ok (.idiv, 1) := by decide +kernel
theorem dS_pieceOf_8 : decode cS_pieceOf 8 = .ok (.ireturn, 1) := by decide +kernel
theorem dS_edgeOf_0 : decode cS_edgeOf 0 = .ok (.iload_n 0, 1) := by decide +kernel
theorem dS_edgeOf_1 : decode cS_edgeOf 1 = .ok (.sipush 512, 3) := by decide +kernel
theorem dS_edgeOf_4 : decode cS_edgeOf 4 = .ok (.idiv, 1) := by decide +kernel
theorem dS_edgeOf_5 : decode cS_edgeOf 5 = .ok (.ireturn, 1) := by decide +kernel
theorem dS_opposite_0 : decode cS_opposite 0 = .ok (.iload_n 0, 1) := by decide +kernel
theorem dS_opposite_1 : decode cS_opposite 1 = .ok (.iconst 2, 1) := by decide +kernel
theorem dS_opposite_2 : decode cS_opposite 2 = .ok (.ixor, 1) := by decide +kernel
theorem dS_opposite_3 : decode cS_opposite 3 = .ok (.ireturn, 1) := by decide +kernel
theorem dS_hasEdge_0 : decode cS_hasEdge 0 = .ok (.getstatic 9, 3) := by decide +kernel
theorem dS_hasEdge_3 : decode cS_hasEdge 3 = .ok (.iload_n 0, 1) := by decide +kernel
theorem dS_hasEdge_4 : decode cS_hasEdge 4 = .ok (.iaload, 1) := by decide +kernel
theorem dS_hasEdge_5 : decode cS_hasEdge 5 = .ok (.iload_n 1, 1) := by decide +kernel
theorem dS_hasEdge_6 : decode cS_hasEdge 6 = .ok (.if_icmp .eq 12, 3) := by decide +kernel
theorem dS_hasEdge_9 : decode cS_hasEdge 9 = .ok (.getstatic 15, 3) := by decide +kernel
theorem dS_hasEdge_12 : decode cS_hasEdge 12 = .ok (.iload_n 0, 1) := by decide +kernel
theorem dS_hasEdge_13 : decode cS_hasEdge 13 = .ok (.iaload, 1) := by decide +kernel
theorem dS_hasEdge_14 : decode cS_hasEdge 14 = .ok (.iload_n 1, 1) := by decide +kernel
theorem dS_hasEdge_15 : decode cS_hasEdge 15 = .ok (.if_icmp .ne 7, 3) := by decide +kernel
theorem dS_hasEdge_18 : decode cS_hasEdge 18 = .ok (.iconst 1, 1) := by decide +kernel
theorem dS_hasEdge_19 : decode cS_hasEdge 19 = .ok (.goto 4, 3) := by decide +kernel
theorem dS_hasEdge_22 : decode cS_hasEdge 22 = .ok (.iconst 0, 1) := by decide +kernel
theorem dS_hasEdge_23 : decode cS_hasEdge 23 = .ok (.ireturn, 1) := by decide +kernel
theorem dS_otherEdge_0 : decode cS_otherEdge 0 = .ok (.getstatic 9, 3) := by decide +kernel
theorem dS_otherEdge_3 : decode cS_otherEdge 3 = .ok (.iload_n 0, 1) := by decide +kernel
theorem dS_otherEdge_4 : decode cS_otherEdge 4 = .ok (.iaload, 1) := by decide +kernel
theorem dS_otherEdge_5 : decode cS_otherEdge 5 = .ok (.getstatic 15, 3) := by decide +kernel
theorem dS_otherEdge_8 : decode cS_otherEdge 8 = .ok (.iload_n 0, 1) := by decide +kernel
theorem dS_otherEdge_9 : decode cS_otherEdge 9 = .ok (.iaload, 1) := by decide +kernel
theorem dS_otherEdge_10 : decode cS_otherEdge 10 = .ok (.iadd, 1) := by decide +kernel
theorem dS_otherEdge_11 : decode cS_otherEdge 11 = .ok (.iload_n 1, 1) := by decide +kernel
theorem dS_otherEdge_12 : decode cS_otherEdge 12 = .ok (.isub, 1) := by decide +kernel
theorem dS_otherEdge_13 : decode cS_otherEdge 13 = .ok (.ireturn, 1) := by decide +kernel
theorem dS_entryOf_0 : decode cS_entryOf 0 = .ok (.iload_n 0, 1) := by decide +kernel
theorem dS_entryOf_1 : decode cS_entryOf 1 = .ok (.invokestatic 18, 3) := by decide +kernel
theorem dS_entryOf_4 : decode cS_entryOf 4 = .ok (.iload_n 0, 1) := by decide +kernel
theorem dS_entryOf_5 : decode cS_entryOf 5 = .ok (.invokestatic 22, 3) := by decide +kernel
theorem dS_entryOf_8 : decode cS_entryOf 8 = .ok (.invokestatic 25, 3) := by decide +kernel
theorem dS_entryOf_11 : decode cS_entryOf 11 = .ok (.ireturn, 1) := by decide +kernel
theorem lfS_9 : Cond.fieldLink R_S 9 "RailYard$Spot" "FIRST_EDGE" "[I" ∈ bigW := bw 308 (by decide +kernel) rfl
theorem lfS_15 : Cond.fieldLink R_S 15 "RailYard$Spot" "SECOND_EDGE" "[I" ∈ bigW := bw 310 (by decide +kernel) rfl
theorem lmS_18 : Cond.methodLink R_S 18 yS_pieceOf ∈ bigW := bw 357 (by decide +kernel) rfl
theorem lmS_22 : Cond.methodLink R_S 22 yS_edgeOf ∈ bigW := bw 360 (by decide +kernel) rfl
theorem lmS_25 : Cond.methodLink R_S 25 yS_otherEdge ∈ bigW := bw 361 (by decide +kernel) rfl
theorem miS_pieceOf : MI yS_pieceOf cS_pieceOf 1 (some .int) 1 := ⟨bw 359 (by decide +kernel) rfl, bw 49 (by decide +kernel) rfl, ⟨by decide +kernel, by decide +kernel⟩, by decide +kernel, by decide⟩
theorem msS_pieceOf : Cond.static yS_pieceOf ∈ bigW := bw 358 (by decide +kernel) rfl
theorem miS_edgeOf : MI yS_edgeOf cS_edgeOf 1 (some .int) 1 := ⟨bw 324 (by decide +kernel) rfl, bw 49 (by decide +kernel) rfl, ⟨by decide +kernel, by decide +kernel⟩, by decide +kernel, by decide⟩
theorem msS_edgeOf : Cond.static yS_edgeOf ∈ bigW := bw 323 (by decide +kernel) rfl
theorem miS_otherEdge : MI yS_otherEdge cS_otherEdge 2 (some .int) 2 := ⟨bw 363 (by decide +kernel) rfl, bw 49 (by decide +kernel) rfl, ⟨by decide +kernel, by decide +kernel⟩, by decide +kernel, by decide⟩
theorem msS_otherEdge : Cond.static yS_otherEdge ∈ bigW := bw 362 (by decide +kernel) rfl
/-! bits as numbers -/
theorem nb_and (a b : Nat) : nI a &&& nI b = nI (a &&& b) := by
  apply Int32.toBitVec_inj.1
  show BitVec.ofNat 32 a &&& BitVec.ofNat 32 b = BitVec.ofNat 32 (a &&& b)
  apply BitVec.eq_of_getLsbD_eq
  intro i hi
  simp [hi]
theorem nb_or (a b : Nat) : nI a ||| nI b = nI (a ||| b) := by
  apply Int32.toBitVec_inj.1
  show BitVec.ofNat 32 a ||| BitVec.ofNat 32 b = BitVec.ofNat 32 (a ||| b)
  apply BitVec.eq_of_getLsbD_eq
  intro i hi
  simp [hi]
theorem nb_xor (a b : Nat) : nI a ^^^ nI b = nI (a ^^^ b) := by
  apply Int32.toBitVec_inj.1
  show BitVec.ofNat 32 a ^^^ BitVec.ofNat 32 b = BitVec.ofNat 32 (a ^^^ b)
  apply BitVec.eq_of_getLsbD_eq
  intro i hi
  simp [hi]
theorem iand_nn {a b : Int} (ha : 0 ≤ a) (hb : 0 ≤ b) (ha2 : a < 2147483648) : iand a b = ((a.toNat &&& b.toNat : Nat) : Int) := by
  unfold iand
  rw [iR_n ha, iR_n hb, nb_and]
  have := @Nat.and_le_left a.toNat b.toNat
  exact nI_toInt (by omega)
theorem ior_nn {a b : Int} (ha : 0 ≤ a) (hb : 0 ≤ b) (ha2 : a < 2147483648) (hb2 : b < 2147483648) : ior a b = ((a.toNat ||| b.toNat : Nat) : Int) := by
  unfold ior
  rw [iR_n ha, iR_n hb, nb_or]
  exact nI_toInt (Nat.or_lt_two_pow (n := 31) (by omega) (by omega))
theorem ixor_nn {a b : Int} (ha : 0 ≤ a) (hb : 0 ≤ b) (ha2 : a < 2147483648) (hb2 : b < 2147483648) : ixor a b = ((a.toNat ^^^ b.toNat : Nat) : Int) := by
  unfold ixor
  rw [iR_n ha, iR_n hb, nb_xor]
  exact nI_toInt (Nat.xor_lt_two_pow (n := 31) (by omega) (by omega))
theorem iand_63 {a : Int} (h : 0 ≤ a ∧ a < 2147483648) : iand a 63 = a % 64 := by
  rw [iand_nn h.1 (by decide) h.2]
  show ((a.toNat &&& (2 ^ 6 - 1) : Nat) : Int) = _
  rw [Nat.and_two_pow_sub_one_eq_mod]
  omega
theorem iand_511 {a : Int} (h : 0 ≤ a ∧ a < 2147483648) : iand a 511 = a % 512 := by
  rw [iand_nn h.1 (by decide) h.2]
  show ((a.toNat &&& (2 ^ 9 - 1) : Nat) : Int) = _
  rw [Nat.and_two_pow_sub_one_eq_mod]
  omega
theorem iand_1 {a : Int} (h : 0 ≤ a ∧ a < 2147483648) : iand a 1 = a % 2 := by
  rw [iand_nn h.1 (by decide) h.2]
  show ((a.toNat &&& (2 ^ 1 - 1) : Nat) : Int) = _
  rw [Nat.and_two_pow_sub_one_eq_mod]
  omega
theorem ixor_2 {a : Int} (h : 0 ≤ a ∧ a < 4) : ixor a 2 = (a + 2) % 4 := by
  rcases (show a = 0 ∨ a = 1 ∨ a = 2 ∨ a = 3 by omega) with rfl | rfl | rfl | rfl <;> decide +kernel
def p2 (n : Int) : Int := ((2 ^ n.toNat : Nat) : Int)
theorem ishl_nat : ∀ n, n < 31 → ishl 1 ((n : Nat) : Int) = ((2 ^ n : Nat) : Int) := by decide +kernel
theorem ishl_1 {n : Int} (h : 0 ≤ n ∧ n < 31) : ishl 1 n = p2 n := by
  have := ishl_nat n.toNat (by omega)
  rw [Int.toNat_of_nonneg h.1] at this
  exact this
theorem sm_nat : ∀ n, n < 32 → ((nI n &&& 31).toBitVec.smod 32).toNat = n := by decide +kernel
theorem ishr_nn {a n : Int} (ha : 0 ≤ a ∧ a < 2147483648) (hn : 0 ≤ n ∧ n < 32) : ishr a n = ((a.toNat / 2 ^ n.toNat : Nat) : Int) := by
  unfold ishr
  rw [iR_n ha.1, iR_n hn.1, pk_shrN (by omega) _ n.toNat (sm_nat n.toNat (by omega))]
  have := Nat.div_le_self a.toNat (2 ^ n.toNat)
  exact nI_toInt (by omega)
/-- bit n of a -/
def tb (a n : Int) : Prop := a.toNat.testBit n.toNat = true
theorem bit_1 {a n : Int} (ha : 0 ≤ a ∧ a < 2147483648) (hn : 0 ≤ n ∧ n < 32) : iand (ishr a n) 1 = bz (tb a n) := by
  rw [ishr_nn ha hn, iand_1 ⟨Int.natCast_nonneg _, by
    have := Nat.div_le_self a.toNat (2 ^ n.toNat)
    omega⟩]
  unfold tb
  rw [Nat.testBit_eq_decide_div_mod_eq, decide_eq_true_eq]
  generalize a.toNat / 2 ^ n.toNat = z
  by_cases h : z % 2 = 1
  · rw [bz_t h]; omega
  · rw [bz_f h]; omega

theorem ctS_tile {G : vG} {l : Launch} {w : RW} {x y : Int} (h : -1000 ≤ x ∧ x ≤ 1000 ∧ -1000 ≤ y ∧ y ≤ 1000) : CTi G l yS_tile cS_tile 2 .int 0 [.inl x, .inl y] w (fun r u => r = x + 8 * y ∧ w = u) := by
  refine CTi.int (by decide) (Nat.le_of_ble_eq_true rfl) ?_
  intro X Q F hX hR
  subst hX
  show V G X 2 Q 0 [some (.inl x), some (.inl y)] [] w
  refine V_iload_n (i := 0) F dS_tile_0 rfl rfl ?_
  refine V_bipush F dS_tile_1 (by decide) ?_
  refine V_iload_n (i := 1) F dS_tile_3 rfl rfl ?_
  refine V_imul F dS_tile_4 (by omega) ?_
  refine V_iadd F dS_tile_5 (by omega) ?_
  exact hR _ _ _ _ dS_tile_6 (⟨rfl, rfl⟩)
theorem ctS_place {G : vG} {l : Launch} {w : RW} {x y : Int} (h : -1000 ≤ x ∧ x ≤ 1000 ∧ -1000 ≤ y ∧ y ≤ 1000) : CTi G l yS_place cS_place 2 .int 0 [.inl x, .inl y] w (fun r u => r = x + 64 * y ∧ w = u) := by
  refine CTi.int (by decide) (Nat.le_of_ble_eq_true rfl) ?_
  intro X Q F hX hR
  subst hX
  show V G X 2 Q 0 [some (.inl x), some (.inl y)] [] w
  refine V_iload_n (i := 0) F dS_place_0 rfl rfl ?_
  refine V_bipush F dS_place_1 (by decide) ?_
  refine V_iload_n (i := 1) F dS_place_3 rfl rfl ?_
  refine V_imul F dS_place_4 (by omega) ?_
  refine V_iadd F dS_place_5 (by omega) ?_
  exact hR _ _ _ _ dS_place_6 (⟨rfl, rfl⟩)
theorem ctS_run {G : vG} {l : Launch} {w : RW} {x y : Int} (h : -1000 ≤ x ∧ x ≤ 1000 ∧ -1000 ≤ y ∧ y ≤ 1000) : CTi G l yS_run cS_run 2 .int 0 [.inl x, .inl y] w (fun r u => r = x + 512 * y ∧ w = u) := by
  refine CTi.int (by decide) (Nat.le_of_ble_eq_true rfl) ?_
  intro X Q F hX hR
  subst hX
  show V G X 2 Q 0 [some (.inl x), some (.inl y)] [] w
  refine V_iload_n (i := 0) F dS_run_0 rfl rfl ?_
  refine V_sipush F dS_run_1 (by decide) ?_
  refine V_iload_n (i := 1) F dS_run_4 rfl rfl ?_
  refine V_imul F dS_run_5 (by omega) ?_
  refine V_iadd F dS_run_6 (by omega) ?_
  exact hR _ _ _ _ dS_run_7 (⟨rfl, rfl⟩)
theorem ctS_exit {G : vG} {l : Launch} {w : RW} {x y : Int} (h : -1000 ≤ x ∧ x ≤ 1000 ∧ -1000 ≤ y ∧ y ≤ 1000) : CTi G l yS_exit cS_exit 2 .int 0 [.inl x, .inl y] w (fun r u => r = x + 64 * y ∧ w = u) := by
  refine CTi.int (by decide) (Nat.le_of_ble_eq_true rfl) ?_
  intro X Q F hX hR
  subst hX
  show V G X 2 Q 0 [some (.inl x), some (.inl y)] [] w
  refine V_iload_n (i := 0) F dS_exit_0 rfl rfl ?_
  refine V_bipush F dS_exit_1 (by decide) ?_
  refine V_iload_n (i := 1) F dS_exit_3 rfl rfl ?_
  refine V_imul F dS_exit_4 (by omega) ?_
  refine V_iadd F dS_exit_5 (by omega) ?_
  exact hR _ _ _ _ dS_exit_6 (⟨rfl, rfl⟩)
theorem ctS_tileOf {G : vG} {l : Launch} {w : RW} {x : Int} (h : 0 ≤ x ∧ x < 100000) : CTi G l yS_tileOf cS_tileOf 1 .int 0 [.inl x] w (fun r u => r = x % 64 ∧ w = u) := by
  refine CTi.int (by decide) (Nat.le_of_ble_eq_true rfl) ?_
  intro X Q F hX hR
  subst hX
  show V G X 1 Q 0 [some (.inl x)] [] w
  refine V_iload_n (i := 0) F dS_tileOf_0 rfl rfl ?_
  refine V_bipush F dS_tileOf_1 (by decide) ?_
  refine V_iand F _ dS_tileOf_3 (iand_63 (by omega)) ?_
  exact hR _ _ _ _ dS_tileOf_4 (⟨rfl, rfl⟩)
theorem ctS_placeOf {G : vG} {l : Launch} {w : RW} {x : Int} (h : 0 ≤ x ∧ x < 100000) : CTi G l yS_placeOf cS_placeOf 1 .int 0 [.inl x] w (fun r u => r = x % 512 ∧ w = u) := by
  refine CTi.int (by decide) (Nat.le_of_ble_eq_true rfl) ?_
  intro X Q F hX hR
  subst hX
  show V G X 1 Q 0 [some (.inl x)] [] w
  refine V_iload_n (i := 0) F dS_placeOf_0 rfl rfl ?_
  refine V_sipush F dS_placeOf_1 (by decide) ?_
  refine V_iand F _ dS_placeOf_4 (iand_511 (by omega)) ?_
  exact hR _ _ _ _ dS_placeOf_5 (⟨rfl, rfl⟩)
theorem ctS_pieceOf {G : vG} {l : Launch} {w : RW} {x : Int} (h : 0 ≤ x ∧ x < 100000) : CTi G l yS_pieceOf cS_pieceOf 1 .int 0 [.inl x] w (fun r u => r = x % 512 / 64 ∧ w = u) := by
  refine CTi.int (by decide) (Nat.le_of_ble_eq_true rfl) ?_
  intro X Q F hX hR
  subst hX
  show V G X 1 Q 0 [some (.inl x)] [] w
  refine V_iload_n (i := 0) F dS_pieceOf_0 rfl rfl ?_
  refine V_sipush F dS_pieceOf_1 (by decide) ?_
  refine V_iand F _ dS_pieceOf_4 (iand_511 (by omega)) ?_
  refine V_bipush F dS_pieceOf_5 (by decide) ?_
  refine V_idiv F dS_pieceOf_7 (by omega) ?_
  exact hR _ _ _ _ dS_pieceOf_8 (⟨rfl, rfl⟩)
theorem ctS_edgeOf {G : vG} {l : Launch} {w : RW} {x : Int} (h : 0 ≤ x ∧ x < 100000) : CTi G l yS_edgeOf cS_edgeOf 1 .int 0 [.inl x] w (fun r u => r = x / 512 ∧ w = u) := by
  refine CTi.int (by decide) (Nat.le_of_ble_eq_true rfl) ?_
  intro X Q F hX hR
  subst hX
  show V G X 1 Q 0 [some (.inl x)] [] w
  refine V_iload_n (i := 0) F dS_edgeOf_0 rfl rfl ?_
  refine V_sipush F dS_edgeOf_1 (by decide) ?_
  refine V_idiv F dS_edgeOf_4 (by omega) ?_
  exact hR _ _ _ _ dS_edgeOf_5 (⟨rfl, rfl⟩)
theorem ctS_opposite {G : vG} {l : Launch} {w : RW} {x : Int} (h : 0 ≤ x ∧ x < 4) : CTi G l yS_opposite cS_opposite 1 .int 0 [.inl x] w (fun r u => r = (x + 2) % 4 ∧ w = u) := by
  refine CTi.int (by decide) (Nat.le_of_ble_eq_true rfl) ?_
  intro X Q F hX hR
  subst hX
  show V G X 1 Q 0 [some (.inl x)] [] w
  refine V_iload_n (i := 0) F dS_opposite_0 rfl rfl ?_
  refine V_iconst F dS_opposite_1 (by decide) ?_
  refine V_ixor F _ dS_opposite_2 (ixor_2 h) ?_
  exact hR _ _ _ _ dS_opposite_3 (⟨rfl, rfl⟩)
def hsE (p e : Int) : Prop := stt 0 p = e ∨ stt 1 p = e
theorem ctS_hasEdge {G : vG} {l : Launch} {w : RW} {p e : Int} (h : 0 ≤ p ∧ p < 6) : CTi G l yS_hasEdge cS_hasEdge 2 .boolean 0 [.inl p, .inl e] w (fun r u => r = bz (hsE p e) ∧ w = u) := by
  refine CTi.bool (by decide) (Nat.le_of_ble_eq_true rfl) ?_
  intro X Q F hX hR
  subst hX
  show V G X 2 Q 0 [some (.inl p), some (.inl e)] [] w
  refine V_gets F 0 dS_hasEdge_0 (by decide) lfS_9 ?_
  refine V_iload_n (i := 0) F dS_hasEdge_3 rfl rfl ?_
  first
    | refine V_sald F dS_hasEdge_4 (by decide) (by omega) (stt_in _ _) ?_
    | refine V_iald F dS_hasEdge_4 (by first | rfl | assumption) rfl (by omega) ?_
  refine V_iload_n (i := 1) F dS_hasEdge_5 rfl rfl ?_
  refine V_icmp_eq F 18 dS_hasEdge_6 (by decide) (fun h6 => ?_) (fun h6 => ?_)
  · refine V_iconst F dS_hasEdge_18 (by decide) ?_
    refine V_goto F 23 dS_hasEdge_19 (by decide) ?_
    exact hR _ _ _ _ dS_hasEdge_23 (by first | exact Or.inl rfl | exact Or.inr rfl | exact bz_01 _ | assumption) (by first | exact ⟨(bz_t (by unfold hsE; omega)).symm, rfl⟩ | exact ⟨(bz_f (by unfold hsE; omega)).symm, rfl⟩)
  · refine V_gets F 1 dS_hasEdge_9 (by decide) lfS_15 ?_
    refine V_iload_n (i := 0) F dS_hasEdge_12 rfl rfl ?_
    first
      | refine V_sald F dS_hasEdge_13 (by decide) (by omega) (stt_in _ _) ?_
      | refine V_iald F dS_hasEdge_13 (by first | rfl | assumption) rfl (by omega) ?_
    refine V_iload_n (i := 1) F dS_hasEdge_14 rfl rfl ?_
    refine V_icmp_ne F 22 dS_hasEdge_15 (by decide) (fun h15 => ?_) (fun h15 => ?_)
    · refine V_iconst F dS_hasEdge_22 (by decide) ?_
      exact hR _ _ _ _ dS_hasEdge_23 (by first | exact Or.inl rfl | exact Or.inr rfl | exact bz_01 _ | assumption) (by first | exact ⟨(bz_t (by unfold hsE; omega)).symm, rfl⟩ | exact ⟨(bz_f (by unfold hsE; omega)).symm, rfl⟩)
    · refine V_iconst F dS_hasEdge_18 (by decide) ?_
      refine V_goto F 23 dS_hasEdge_19 (by decide) ?_
      exact hR _ _ _ _ dS_hasEdge_23 (by first | exact Or.inl rfl | exact Or.inr rfl | exact bz_01 _ | assumption) (by first | exact ⟨(bz_t (by unfold hsE; omega)).symm, rfl⟩ | exact ⟨(bz_f (by unfold hsE; omega)).symm, rfl⟩)
def otE (p e : Int) : Int := stt 0 p + stt 1 p - e
theorem ctS_otherEdge {G : vG} {l : Launch} {w : RW} {p e : Int} (h : 0 ≤ p ∧ p < 6) (he : -1000 ≤ e ∧ e ≤ 1000) : CTi G l yS_otherEdge cS_otherEdge 2 .int 0 [.inl p, .inl e] w (fun r u => r = otE p e ∧ w = u) := by
  refine CTi.int (by decide) (Nat.le_of_ble_eq_true rfl) ?_
  intro X Q F hX hR
  subst hX
  show V G X 2 Q 0 [some (.inl p), some (.inl e)] [] w
  have s0 := stt_rng 0 p
  have s1 := stt_rng 1 p
  refine V_gets F 0 dS_otherEdge_0 (by decide) lfS_9 ?_
  refine V_iload_n (i := 0) F dS_otherEdge_3 rfl rfl ?_
  first
    | refine V_sald F dS_otherEdge_4 (by decide) (by omega) (stt_in _ _) ?_
    | refine V_iald F dS_otherEdge_4 (by first | rfl | assumption) rfl (by omega) ?_
  refine V_gets F 1 dS_otherEdge_5 (by decide) lfS_15 ?_
  refine V_iload_n (i := 0) F dS_otherEdge_8 rfl rfl ?_
  first
    | refine V_sald F dS_otherEdge_9 (by decide) (by omega) (stt_in _ _) ?_
    | refine V_iald F dS_otherEdge_9 (by first | rfl | assumption) rfl (by omega) ?_
  refine V_iadd F dS_otherEdge_10 (by omega) ?_
  refine V_iload_n (i := 1) F dS_otherEdge_11 rfl rfl ?_
  refine V_isub F dS_otherEdge_12 (by omega) ?_
  exact hR _ _ _ _ dS_otherEdge_13 (⟨rfl, rfl⟩)
theorem ctS_entryOf {G : vG} {l : Launch} {w : RW} {x : Int} (h : 0 ≤ x ∧ x < 100000) (h2 : x % 512 / 64 < 6) : CTi G l yS_entryOf cS_entryOf 1 .int 1 [.inl x] w (fun r u => r = otE (x % 512 / 64) (x / 512) ∧ w = u) := by
  refine CTi.int (by decide) (Nat.le_of_ble_eq_true rfl) ?_
  intro X Q F hX hR
  subst hX
  show V G X 1 Q 0 [some (.inl x)] [] w
  refine V_iload_n (i := 0) F dS_entryOf_0 rfl rfl ?_
  refine V_callSi F dS_entryOf_1 lmS_18 miS_pieceOf msS_pieceOf (ctS_pieceOf (by omega)) (by decide) rfl (Nat.le_of_ble_eq_true rfl) (fun r u hr => ?_)
  obtain ⟨rfl, rfl⟩ := hr
  refine V_iload_n (i := 0) F dS_entryOf_4 rfl rfl ?_
  refine V_callSi F dS_entryOf_5 lmS_22 miS_edgeOf msS_edgeOf (ctS_edgeOf (by omega)) (by decide) rfl (Nat.le_of_ble_eq_true rfl) (fun r u hr => ?_)
  obtain ⟨rfl, rfl⟩ := hr
  refine V_callSi F dS_entryOf_8 lmS_25 miS_otherEdge msS_otherEdge (ctS_otherEdge (by omega) (by omega)) (by decide) rfl (Nat.le_of_ble_eq_true rfl) (fun r u hr => ?_)
  obtain ⟨rfl, rfl⟩ := hr
  exact hR _ _ _ _ dS_entryOf_11 (⟨rfl, rfl⟩)
end
section
theorem dG_hasTile_0 : decode cG_hasTile 0 = .ok (.iload_n 1, 1) := by decide +kernel
theorem dG_hasTile_1 : decode cG_hasTile 1 = .ok (.ifCond .lt 27, 3) := by decide +kernel
theorem dG_hasTile_4 : decode cG_hasTile 4 = .ok (.iload_n 1, 1) := by decide +kernel
theorem dG_hasTile_5 : decode cG_hasTile 5 = .ok (.aload_n 0, 1) := by decide +kernel
theorem dG_hasTile_6 : decode cG_hasTile 6 = .ok (.getfield 21, 3) := by decide +kernel
theorem dG_hasTile_9 : decode cG_hasTile 9 = .ok (.if_icmp .ge 19, 3) := by decide +kernel
theorem dG_hasTile_12 : decode cG_hasTile 12 = .ok (.iload_n 2, 1) := by decide +kernel
theorem dG_hasTile_13 : decode cG_hasTile 13 = .ok (.ifCond .lt 15, 3) := by decide +kernel
theorem dG_hasTile_16 : decode cG_hasTile 16 = .ok (.iload_n 2, 1) := by decide +kernel
theorem dG_hasTile_17 : decode cG_hasTile 17 = .ok (.aload_n 0, 1) := by decide +kernel
theorem dG_hasTile_18 : decode cG_hasTile 18 = .ok (.getfield 25, 3) := by decide +kernel
theorem dG_hasTile_21 : decode cG_hasTile 21 = .ok (.if_icmp .ge 7, 3) := by decide +kernel
theorem dG_hasTile_24 : decode cG_hasTile 24 = .ok (.iconst 1, 1) := by decide +kernel
theorem dG_hasTile_25 : decode cG_hasTile 25 = .ok (.goto 4, 3) := by decide +kernel
theorem dG_hasTile_28 : decode cG_hasTile 28 = .ok (.iconst 0, 1) := by decide +kernel
theorem dG_hasTile_29 : decode cG_hasTile 29 = .ok (.ireturn, 1) := by decide +kernel
theorem dG_hasPiece_0 : decode cG_hasPiece 0 = .ok (.aload_n 0, 1) := by decide +kernel
theorem dG_hasPiece_1 : decode cG_hasPiece 1 = .ok (.getfield 9, 3) := by decide +kernel
theorem dG_hasPiece_4 : decode cG_hasPiece 4 = .ok (.iload_n 1, 1) := by decide +kernel
theorem dG_hasPiece_5 : decode cG_hasPiece 5 = .ok (.iaload, 1) := by decide +kernel
theorem dG_hasPiece_6 : decode cG_hasPiece 6 = .ok (.iload_n 2, 1) := by decide +kernel
theorem dG_hasPiece_7 : decode cG_hasPiece 7 = .ok (.ishr, 1) := by decide +kernel
theorem dG_hasPiece_8 : decode cG_hasPiece 8 = .ok (.iconst 1, 1) := by decide +kernel
theorem dG_hasPiece_9 : decode cG_hasPiece 9 = .ok (.iand, 1) := by decide +kernel
theorem dG_hasPiece_10 : decode cG_hasPiece 10 = .ok (.ifCond .eq 7, 3) := by decide +kernel
theorem dG_hasPiece_13 : decode cG_hasPiece 13 = .ok (.iconst 1, 1) := by decide +kernel
theorem dG_hasPiece_14 : decode cG_hasPiece 14 = .ok (.goto 4, 3) := by decide +kernel
theorem dG_hasPiece_17 : decode cG_hasPiece 17 = .ok (.iconst 0, 1) := by decide +kernel
theorem dG_hasPiece_18 : decode cG_hasPiece 18 = .ok (.ireturn, 1) := by decide +kernel
theorem dG_hasTrack_0 : decode cG_hasTrack 0 = .ok (.aload_n 0, 1) := by decide +kernel
theorem dG_hasTrack_1 : decode cG_hasTrack 1 = .ok (.iload_n 1, 1) := by decide +kernel
theorem dG_hasTrack_2 : decode cG_hasTrack 2 = .ok (.iload_n 2, 1) := by decide +kernel
theorem dG_hasTrack_3 : decode cG_hasTrack 3 = .ok (.invokevirtual 40, 3) := by decide +kernel
theorem dG_hasTrack_6 : decode cG_hasTrack 6 = .ok (.ifCond .eq 30, 3) := by decide +kernel
theorem dG_hasTrack_9 : decode cG_hasTrack 9 = .ok (.iload_n 3, 1) := by decide +kernel
theorem dG_hasTrack_10 : decode cG_hasTrack 10 = .ok (.ifCond .lt 26, 3) := by decide +kernel
theorem dG_hasTrack_13 : decode cG_hasTrack 13 = .ok (.iload_n 3, 1) := by decide +kernel
theorem dG_hasTrack_14 : decode cG_hasTrack 14 = .ok (.bipush 6, 2) := by decide +kernel
theorem dG_hasTrack_16 : decode cG_hasTrack 16 = .ok (.if_icmp .ge 20, 3) := by decide +kernel
theorem dG_hasTrack_19 : decode cG_hasTrack 19 = .ok (.aload_n 0, 1) := by decide +kernel
theorem dG_hasTrack_20 : decode cG_hasTrack 20 = .ok (.iload_n 1, 1) := by decide +kernel
theorem dG_hasTrack_21 : decode cG_hasTrack 21 = .ok (.iload_n 2, 1) := by decide +kernel
theorem dG_hasTrack_22 : decode cG_hasTrack 22 = .ok (.invokestatic 44, 3) := by decide +kernel
theorem dG_hasTrack_25 : decode cG_hasTrack 25 = .ok (.iload_n 3, 1) := by decide +kernel
theorem dG_hasTrack_26 : decode cG_hasTrack 26 = .ok (.invokevirtual 50, 3) := by decide +kernel
theorem dG_hasTrack_29 : decode cG_hasTrack 29 = .ok (.ifCond .eq 7, 3) := by decide +kernel
theorem dG_hasTrack_32 : decode cG_hasTrack 32 = .ok (.iconst 1, 1) := by decide +kernel
theorem dG_hasTrack_33 : decode cG_hasTrack 33 = .ok (.goto 4, 3) := by decide +kernel
theorem dG_hasTrack_36 : decode cG_hasTrack 36 = .ok (.iconst 0, 1) := by decide +kernel
theorem dG_hasTrack_37 : decode cG_hasTrack 37 = .ok (.ireturn, 1) := by decide +kernel
theorem dG_meets_0 : decode cG_meets 0 = .ok (.aload_n 0, 1) := by decide +kernel
theorem dG_meets_1 : decode cG_meets 1 = .ok (.iload_n 1, 1) := by decide +kernel
theorem dG_meets_2 : decode cG_meets 2 = .ok (.iload_n 2, 1) := by decide +kernel
theorem dG_meets_3 : decode cG_meets 3 = .ok (.invokevirtual 50, 3) := by decide +kernel
theorem dG_meets_6 : decode cG_meets 6 = .ok (.ifCond .eq 15, 3) := by decide +kernel
theorem dG_meets_9 : decode cG_meets 9 = .ok (.iload_n 2, 1) := by decide +kernel
theorem dG_meets_10 : decode cG_meets 10 = .ok (.iload_n 3, 1) := by decide +kernel
theorem dG_meets_11 : decode cG_meets 11 = .ok (.invokestatic 53, 3) := by decide +kernel
theorem dG_meets_14 : decode cG_meets 14 = .ok (.ifCond .eq 7, 3) := by decide +kernel
theorem dG_meets_17 : decode cG_meets 17 = .ok (.iconst 1, 1) := by decide +kernel
theorem dG_meets_18 : decode cG_meets 18 = .ok (.goto 4, 3) := by decide +kernel
theorem dG_meets_21 : decode cG_meets 21 = .ok (.iconst 0, 1) := by decide +kernel
theorem dG_meets_22 : decode cG_meets 22 = .ok (.ireturn, 1) := by decide +kernel
theorem dG_across_0 : decode cG_across 0 = .ok (.iload_n 1, 1) := by decide +kernel
theorem dG_across_1 : decode cG_across 1 = .ok (.bipush 8, 2) := by decide +kernel
theorem dG_across_3 : decode cG_across 3 = .ok (.irem, 1) := by decide +kernel
theorem dG_across_4 : decode cG_across 4 = .ok (.istore_n 3, 1) := by decide +kernel
theorem dG_across_5 : decode cG_across 5 = .ok (.iload_n 1, 1) := by decide +kernel
theorem dG_across_6 : decode cG_across 6 = .ok (.bipush 8, 2) := by decide +kernel
theorem dG_across_8 : decode cG_across 8 = .ok (.idiv, 1) := by decide +kernel
theorem dG_across_9 : decode cG_across 9 = .ok (.istore 4, 2) := by decide +kernel
theorem dG_across_11 : decode cG_across 11 = .ok (.iload_n 2, 1) := by decide +kernel
theorem dG_across_12 : decode cG_across 12 = .ok (.tableswitch 46 0 2 #[28, 34, 40], 28) := by decide +kernel
theorem dG_across_40 : decode cG_across 40 = .ok (.iinc 4 (-1), 3) := by decide +kernel
theorem dG_across_43 : decode cG_across 43 = .ok (.goto 18, 3) := by decide +kernel
theorem dG_across_46 : decode cG_across 46 = .ok (.iinc 3 1, 3) := by decide +kernel
theorem dG_across_49 : decode cG_across 49 = .ok (.goto 12, 3) := by decide +kernel
theorem dG_across_52 : decode cG_across 52 = .ok (.iinc 4 1, 3) := by decide +kernel
theorem dG_across_55 : decode cG_across 55 = .ok (.goto 6, 3) := by decide +kernel
theorem dG_across_58 : decode cG_across 58 = .ok (.iinc 3 (-1), 3) := by decide +kernel
theorem dG_across_61 : decode cG_across 61 = .ok (.aload_n 0, 1) := by decide +kernel
theorem dG_across_62 : decode cG_across 62 = .ok (.iload_n 3, 1) := by decide +kernel
theorem dG_across_63 : decode cG_across 63 = .ok (.iload 4, 2) := by decide +kernel
theorem dG_across_65 : decode cG_across 65 = .ok (.invokevirtual 40, 3) := by decide +kernel
theorem dG_across_68 : decode cG_across 68 = .ok (.ifCond .eq 12, 3) := by decide +kernel
theorem dG_across_71 : decode cG_across 71 = .ok (.iload_n 3, 1) := by decide +kernel
theorem dG_across_72 : decode cG_across 72 = .ok (.iload 4, 2) := by decide +kernel
theorem dG_across_74 : decode cG_across 74 = .ok (.invokestatic 44, 3) := by decide +kernel
theorem dG_across_77 : decode cG_across 77 = .ok (.goto 4, 3) := by decide +kernel
theorem dG_across_80 : decode cG_across 80 = .ok (.iconst (-1), 1) := by decide +kernel
theorem dG_across_81 : decode cG_across 81 = .ok (.ireturn, 1) := by decide +kernel
theorem dG_isHeld_0 : decode cG_isHeld 0 = .ok (.iconst 0, 1) := by decide +kernel
theorem dG_isHeld_1 : decode cG_isHeld 1 = .ok (.istore_n 2, 1) := by decide +kernel
theorem dG_isHeld_2 : decode cG_isHeld 2 = .ok (.iload_n 2, 1) := by decide +kernel
theorem dG_isHeld_3 : decode cG_isHeld 3 = .ok (.bipush 6, 2) := by decide +kernel
theorem dG_isHeld_5 : decode cG_isHeld 5 = .ok (.if_icmp .ge 25, 3) := by decide +kernel
theorem dG_isHeld_8 : decode cG_isHeld 8 = .ok (.aload_n 0, 1) := by decide +kernel
theorem dG_isHeld_9 : decode cG_isHeld 9 = .ok (.getfield 18, 3) := by decide +kernel
theorem dG_isHeld_12 : decode cG_isHeld 12 = .ok (.iload_n 1, 1) := by decide +kernel
theorem dG_isHeld_13 : decode cG_isHeld 13 = .ok (.iload_n 2, 1) := by decide +kernel
theorem dG_isHeld_14 : decode cG_isHeld 14 = .ok (.invokestatic 56, 3) := by decide +kernel
theorem dG_isHeld_17 : decode cG_isHeld 17 = .ok (.iaload, 1) := by decide +kernel
theorem dG_isHeld_18 : decode cG_isHeld 18 = .ok (.iconst (-1), 1) := by decide +kernel
theorem dG_isHeld_19 : decode cG_isHeld 19 = .ok (.if_icmp .eq 5, 3) := by decide +kernel
theorem dG_isHeld_22 : decode cG_isHeld 22 = .ok (.iconst 1, 1) := by decide +kernel
theorem dG_isHeld_23 : decode cG_isHeld 23 = .ok (.ireturn, 1) := by decide +kernel
theorem dG_isHeld_24 : decode cG_isHeld 24 = .ok (.iinc 2 1, 3) := by decide +kernel
theorem dG_isHeld_27 : decode cG_isHeld 27 = .ok (.goto (-25), 3) := by decide +kernel
theorem dG_isHeld_30 : decode cG_isHeld 30 = .ok (.iconst 0, 1) := by decide +kernel
theorem dG_isHeld_31 : decode cG_isHeld 31 = .ok (.ireturn, 1) := by decide +kernel
theorem dG_isLit_0 : decode cG_isLit 0 = .ok (.aload_n 0, 1) := by decide +kernel
theorem dG_isLit_1 : decode cG_isLit 1 = .ok (.getfield 15, 3) := by decide +kernel
theorem dG_isLit_4 : decode cG_isLit 4 = .ok (.iload_n 1, 1) := by decide +kernel
theorem dG_isLit_5 : decode cG_isLit 5 = .ok (.invokestatic 59, 3) := by decide +kernel
theorem dG_isLit_8 : decode cG_isLit 8 = .ok (.iaload, 1) := by decide +kernel
theorem dG_isLit_9 : decode cG_isLit 9 = .ok (.iload_n 1, 1) := by decide +kernel
theorem dG_isLit_10 : decode cG_isLit 10 = .ok (.invokestatic 63, 3) := by decide +kernel
theorem dG_isLit_13 : decode cG_isLit 13 = .ok (.ishr, 1) := by decide +kernel
theorem dG_isLit_14 : decode cG_isLit 14 = .ok (.iconst 1, 1) := by decide +kernel
theorem dG_isLit_15 : decode cG_isLit 15 = .ok (.iand, 1) := by decide +kernel
theorem dG_isLit_16 : decode cG_isLit 16 = .ok (.ifCond .eq 7, 3) := by decide +kernel
theorem dG_isLit_19 : decode cG_isLit 19 = .ok (.iconst 1, 1) := by decide +kernel
theorem dG_isLit_20 : decode cG_isLit 20 = .ok (.goto 4, 3) := by decide +kernel
theorem dG_isLit_23 : decode cG_isLit 23 = .ok (.iconst 0, 1) := by decide +kernel
theorem dG_isLit_24 : decode cG_isLit 24 = .ok (.ireturn, 1) := by decide +kernel
theorem dG_cost_0 : decode cG_cost 0 = .ok (.iload_n 1, 1) := by decide +kernel
theorem dG_cost_1 : decode cG_cost 1 = .ok (.invokestatic 66, 3) := by decide +kernel
theorem dG_cost_4 : decode cG_cost 4 = .ok (.iconst 2, 1) := by decide +kernel
theorem dG_cost_5 : decode cG_cost 5 = .ok (.if_icmp .ge 8, 3) := by decide +kernel
theorem dG_cost_8 : decode cG_cost 8 = .ok (.bipush 10, 2) := by decide +kernel
theorem dG_cost_10 : decode cG_cost 10 = .ok (.goto 5, 3) := by decide +kernel
theorem dG_cost_13 : decode cG_cost 13 = .ok (.bipush 7, 2) := by decide +kernel
theorem dG_cost_15 : decode cG_cost 15 = .ok (.istore_n 2, 1) := by decide +kernel
theorem dG_cost_16 : decode cG_cost 16 = .ok (.aload_n 0, 1) := by decide +kernel
theorem dG_cost_17 : decode cG_cost 17 = .ok (.getfield 15, 3) := by decide +kernel
theorem dG_cost_20 : decode cG_cost 20 = .ok (.iload_n 1, 1) := by decide +kernel
theorem dG_cost_21 : decode cG_cost 21 = .ok (.invokestatic 59, 3) := by decide +kernel
theorem dG_cost_24 : decode cG_cost 24 = .ok (.iaload, 1) := by decide +kernel
theorem dG_cost_25 : decode cG_cost 25 = .ok (.istore_n 3, 1) := by decide +kernel
theorem dG_cost_26 : decode cG_cost 26 = .ok (.iload_n 3, 1) := by decide +kernel
theorem dG_cost_27 : decode cG_cost 27 = .ok (.ifCond .ne 5, 3) := by decide +kernel
theorem dG_cost_30 : decode cG_cost 30 = .ok (.iload_n 2, 1) := by decide +kernel
theorem dG_cost_31 : decode cG_cost 31 = .ok (.ireturn, 1) := by decide +kernel
theorem dG_cost_32 : decode cG_cost 32 = .ok (.iload_n 3, 1) := by decide +kernel
theorem dG_cost_33 : decode cG_cost 33 = .ok (.iload_n 1, 1) := by decide +kernel
theorem dG_cost_34 : decode cG_cost 34 = .ok (.invokestatic 63, 3) := by decide +kernel
theorem dG_cost_37 : decode cG_cost 37 = .ok (.ishr, 1) := by decide +kernel
theorem dG_cost_38 : decode cG_cost 38 = .ok (.iconst 1, 1) := by decide +kernel
theorem dG_cost_39 : decode cG_cost 39 = .ok (.iand, 1) := by decide +kernel
theorem dG_cost_40 : decode cG_cost 40 = .ok (.ifCond .eq 9, 3) := by decide +kernel
theorem dG_cost_43 : decode cG_cost 43 = .ok (.iload_n 2, 1) := by decide +kernel
theorem dG_cost_44 : decode cG_cost 44 = .ok (.iconst 5, 1) := by decide +kernel
theorem dG_cost_45 : decode cG_cost 45 = .ok (.iadd, 1) := by decide +kernel
theorem dG_cost_46 : decode cG_cost 46 = .ok (.goto 5, 3) := by decide +kernel
theorem dG_cost_49 : decode cG_cost 49 = .ok (.ldc 69, 2) := by decide +kernel
theorem dG_cost_51 : decode cG_cost 51 = .ok (.ireturn, 1) := by decide +kernel
theorem lfG_21 : Cond.fieldLink R_G 21 "RailYard$Grid" "width" "I" ∈ bigW := bw 131 (by decide +kernel) rfl
theorem lfG_25 : Cond.fieldLink R_G 25 "RailYard$Grid" "height" "I" ∈ bigW := bw 132 (by decide +kernel) rfl
theorem lfG_9 : Cond.fieldLink R_G 9 "RailYard$Grid" "tracks" "[I" ∈ bigW := bw 133 (by decide +kernel) rfl
theorem lmG_40 : Cond.methodLink R_G 40 yG_hasTile ∈ bigW := bw 302 (by decide +kernel) rfl
theorem lmG_44 : Cond.methodLink R_G 44 yS_tile ∈ bigW := bw 303 (by decide +kernel) rfl
theorem lmG_50 : Cond.methodLink R_G 50 yG_hasPiece ∈ bigW := bw 304 (by decide +kernel) rfl
theorem lmG_53 : Cond.methodLink R_G 53 yS_hasEdge ∈ bigW := bw 378 (by decide +kernel) rfl
theorem lfG_18 : Cond.fieldLink R_G 18 "RailYard$Grid" "holders" "[I" ∈ bigW := bw 137 (by decide +kernel) rfl
theorem lmG_56 : Cond.methodLink R_G 56 yS_place ∈ bigW := bw 281 (by decide +kernel) rfl
theorem lfG_15 : Cond.fieldLink R_G 15 "RailYard$Grid" "lights" "[I" ∈ bigW := bw 135 (by decide +kernel) rfl
theorem lmG_59 : Cond.methodLink R_G 59 yS_placeOf ∈ bigW := bw 319 (by decide +kernel) rfl
theorem lmG_63 : Cond.methodLink R_G 63 yS_edgeOf ∈ bigW := bw 322 (by decide +kernel) rfl
theorem lmG_66 : Cond.methodLink R_G 66 yS_pieceOf ∈ bigW := bw 488 (by decide +kernel) rfl
theorem lcG_69 : Cond.constant R_G 69 (Int32.ofInt 1048576) ∈ bigW := bw 489 (by decide +kernel) rfl
theorem miG_hasTile : MI yG_hasTile cG_hasTile 3 (some .boolean) 2 := ⟨bw 270 (by decide +kernel) rfl, bw 44 (by decide +kernel) rfl, ⟨by decide +kernel, by decide +kernel⟩, by decide +kernel, by decide⟩
theorem mvG_hasTile : MV yG_hasTile := ⟨bw 268 (by decide +kernel) rfl, bw 269 (by decide +kernel) rfl⟩
theorem miS_tile : MI yS_tile cS_tile 2 (some .int) 2 := ⟨bw 273 (by decide +kernel) rfl, bw 49 (by decide +kernel) rfl, ⟨by decide +kernel, by decide +kernel⟩, by decide +kernel, by decide⟩
theorem msS_tile : Cond.static yS_tile ∈ bigW := bw 272 (by decide +kernel) rfl
theorem miG_hasPiece : MI yG_hasPiece cG_hasPiece 3 (some .boolean) 2 := ⟨bw 285 (by decide +kernel) rfl, bw 44 (by decide +kernel) rfl, ⟨by decide +kernel, by decide +kernel⟩, by decide +kernel, by decide⟩
theorem mvG_hasPiece : MV yG_hasPiece := ⟨bw 283 (by decide +kernel) rfl, bw 284 (by decide +kernel) rfl⟩
theorem miS_hasEdge : MI yS_hasEdge cS_hasEdge 2 (some .boolean) 2 := ⟨bw 307 (by decide +kernel) rfl, bw 49 (by decide +kernel) rfl, ⟨by decide +kernel, by decide +kernel⟩, by decide +kernel, by decide⟩
theorem msS_hasEdge : Cond.static yS_hasEdge ∈ bigW := bw 306 (by decide +kernel) rfl
theorem miS_place : MI yS_place cS_place 2 (some .int) 2 := ⟨bw 276 (by decide +kernel) rfl, bw 49 (by decide +kernel) rfl, ⟨by decide +kernel, by decide +kernel⟩, by decide +kernel, by decide⟩
theorem msS_place : Cond.static yS_place ∈ bigW := bw 275 (by decide +kernel) rfl
theorem miS_placeOf : MI yS_placeOf cS_placeOf 1 (some .int) 1 := ⟨bw 321 (by decide +kernel) rfl, bw 49 (by decide +kernel) rfl, ⟨by decide +kernel, by decide +kernel⟩, by decide +kernel, by decide⟩
theorem msS_placeOf : Cond.static yS_placeOf ∈ bigW := bw 320 (by decide +kernel) rfl
def isT (W H x y : Int) : Prop := 0 ≤ x ∧ x < W ∧ 0 ≤ y ∧ y < H
theorem ctG_hasTile {G : vG} {l : Launch} {w : RW} {x y : Int} : CTi G l yG_hasTile cG_hasTile 3 .boolean 0 [.inr 2, .inl x, .inl y] w (fun r u => r = bz (isT (w 2 0) (w 2 1) x y) ∧ w = u) := by
  refine CTi.bool (by decide) (Nat.le_of_ble_eq_true rfl) ?_
  intro X Q F hX hR
  subst hX
  show V G X 3 Q 0 [some (.inr 2), some (.inl x), some (.inl y)] [] w
  refine V_iload_n (i := 1) F dG_hasTile_0 rfl rfl ?_
  refine V_if_lt F 28 dG_hasTile_1 (by decide) (fun h1 => ?_) (fun h1 => ?_)
  · refine V_iconst F dG_hasTile_28 (by decide) ?_
    exact hR _ _ _ _ dG_hasTile_29 (by first | exact Or.inl rfl | exact Or.inr rfl | exact bz_01 _ | assumption) (by first | exact ⟨(bz_t (by unfold isT; omega)).symm, rfl⟩ | exact ⟨(bz_f (by unfold isT; omega)).symm, rfl⟩)
  · refine V_iload_n (i := 1) F dG_hasTile_4 rfl rfl ?_
    refine V_aload_n (i := 0) F dG_hasTile_5 rfl rfl ?_
    refine V_geti (ci := 0) (C := R_G) (T := T_G) (N := 5) F dG_hasTile_6 (by first | rfl | assumption) rfl (j := 0) 0 rfl (by decide) rfl lfG_21 ?_
    refine V_icmp_ge F 28 dG_hasTile_9 (by decide) (fun h9 => ?_) (fun h9 => ?_)
    · refine V_iconst F dG_hasTile_28 (by decide) ?_
      exact hR _ _ _ _ dG_hasTile_29 (by first | exact Or.inl rfl | exact Or.inr rfl | exact bz_01 _ | assumption) (by first | exact ⟨(bz_t (by unfold isT; omega)).symm, rfl⟩ | exact ⟨(bz_f (by unfold isT; omega)).symm, rfl⟩)
    · refine V_iload_n (i := 2) F dG_hasTile_12 rfl rfl ?_
      refine V_if_lt F 28 dG_hasTile_13 (by decide) (fun h13 => ?_) (fun h13 => ?_)
      · refine V_iconst F dG_hasTile_28 (by decide) ?_
        exact hR _ _ _ _ dG_hasTile_29 (by first | exact Or.inl rfl | exact Or.inr rfl | exact bz_01 _ | assumption) (by first | exact ⟨(bz_t (by unfold isT; omega)).symm, rfl⟩ | exact ⟨(bz_f (by unfold isT; omega)).symm, rfl⟩)
      · refine V_iload_n (i := 2) F dG_hasTile_16 rfl rfl ?_
        refine V_aload_n (i := 0) F dG_hasTile_17 rfl rfl ?_
        refine V_geti (ci := 0) (C := R_G) (T := T_G) (N := 5) F dG_hasTile_18 (by first | rfl | assumption) rfl (j := 1) 1 rfl (by decide) rfl lfG_25 ?_
        refine V_icmp_ge F 28 dG_hasTile_21 (by decide) (fun h21 => ?_) (fun h21 => ?_)
        · refine V_iconst F dG_hasTile_28 (by decide) ?_
          exact hR _ _ _ _ dG_hasTile_29 (by first | exact Or.inl rfl | exact Or.inr rfl | exact bz_01 _ | assumption) (by first | exact ⟨(bz_t (by unfold isT; omega)).symm, rfl⟩ | exact ⟨(bz_f (by unfold isT; omega)).symm, rfl⟩)
        · refine V_iconst F dG_hasTile_24 (by decide) ?_
          refine V_goto F 29 dG_hasTile_25 (by decide) ?_
          exact hR _ _ _ _ dG_hasTile_29 (by first | exact Or.inl rfl | exact Or.inr rfl | exact bz_01 _ | assumption) (by first | exact ⟨(bz_t (by unfold isT; omega)).symm, rfl⟩ | exact ⟨(bz_f (by unfold isT; omega)).symm, rfl⟩)
theorem ctG_hasPiece {G : vG} {l : Launch} {w : RW} {t p : Int} (ht : 0 ≤ t ∧ t < 64) (hp : 0 ≤ p ∧ p < 31) (hw : 0 ≤ w 3 t) : CTi G l yG_hasPiece cG_hasPiece 3 .boolean 0 [.inr 2, .inl t, .inl p] w (fun r u => r = bz (tb (w 3 t) p) ∧ w = u) := by
  refine CTi.bool (by decide) (Nat.le_of_ble_eq_true rfl) ?_
  intro X Q F hX hR
  subst hX
  show V G X 3 Q 0 [some (.inr 2), some (.inl t), some (.inl p)] [] w
  refine V_w (fun hg => ?_)
  have hg1 := (hg 3 t).2
  refine V_aload_n (i := 0) F dG_hasPiece_0 rfl rfl ?_
  refine V_getr (ci := 0) (C := R_G) (T := T_G) (N := 5) F dG_hasPiece_1 (by first | rfl | assumption) rfl (j := 2) (by decide) rfl lfG_9 ?_
  refine V_iload_n (i := 1) F dG_hasPiece_4 rfl rfl ?_
  first
    | refine V_sald F dG_hasPiece_5 (by decide) (by omega) (stt_in _ _) ?_
    | refine V_iald F dG_hasPiece_5 (by first | rfl | assumption) rfl (by omega) ?_
  refine V_iload_n (i := 2) F dG_hasPiece_6 rfl rfl ?_
  refine V_ishr F _ dG_hasPiece_7 rfl ?_
  refine V_iconst F dG_hasPiece_8 (by decide) ?_
  refine V_iand F _ dG_hasPiece_9 (bit_1 ⟨hw, hg1⟩ (by omega)) ?_
  refine V_if_eq F 17 dG_hasPiece_10 (by decide) (fun h10 => ?_) (fun h10 => ?_)
  · first | (replace h10 := bz_ne0.mp h10) | (replace h10 := bz_eq0.mp h10) | skip
    refine V_iconst F dG_hasPiece_17 (by decide) ?_
    exact hR _ _ _ _ dG_hasPiece_18 (by first | exact Or.inl rfl | exact Or.inr rfl | exact bz_01 _ | assumption) (by first | exact ⟨(bz_t (by assumption)).symm, rfl⟩ | exact ⟨(bz_f (by assumption)).symm, rfl⟩)
  · first | (replace h10 := bz_ne0.mp h10) | (replace h10 := bz_eq0.mp h10) | skip
    refine V_iconst F dG_hasPiece_13 (by decide) ?_
    refine V_goto F 18 dG_hasPiece_14 (by decide) ?_
    exact hR _ _ _ _ dG_hasPiece_18 (by first | exact Or.inl rfl | exact Or.inr rfl | exact bz_01 _ | assumption) (by first | exact ⟨(bz_t (by assumption)).symm, rfl⟩ | exact ⟨(bz_f (by assumption)).symm, rfl⟩)
theorem ctG_hasTrack {G : vG} {l : Launch} {w : RW} {x y p : Int} (hb : w 2 0 ≤ 8 ∧ w 2 1 ≤ 8) (hw : ∀ t, 0 ≤ t → t < 64 → 0 ≤ w 3 t) : CTi G l yG_hasTrack cG_hasTrack 4 .boolean 1 [.inr 2, .inl x, .inl y, .inl p] w (fun r u => r = bz (isT (w 2 0) (w 2 1) x y ∧ (0 ≤ p ∧ p < 6) ∧ tb (w 3 (x + 8 * y)) p) ∧ w = u) := by
  refine CTi.bool (by decide) (Nat.le_of_ble_eq_true rfl) ?_
  intro X Q F hX hR
  subst hX
  show V G X 4 Q 0 [some (.inr 2), some (.inl x), some (.inl y), some (.inl p)] [] w
  refine V_aload_n (i := 0) F dG_hasTrack_0 rfl rfl ?_
  refine V_iload_n (i := 1) F dG_hasTrack_1 rfl rfl ?_
  refine V_iload_n (i := 2) F dG_hasTrack_2 rfl rfl ?_
  refine V_callVi F dG_hasTrack_3 lmG_40 miG_hasTile mvG_hasTile (ctG_hasTile) (by decide) (by first | rfl | assumption) rfl rfl (Nat.le_of_ble_eq_true rfl) (fun r u hr => ?_)
  obtain ⟨rfl, rfl⟩ := hr
  refine V_if_eq F 36 dG_hasTrack_6 (by decide) (fun h6 => ?_) (fun h6 => ?_)
  · first | (replace h6 := bz_ne0.mp h6) | (replace h6 := bz_eq0.mp h6) | skip
    refine V_iconst F dG_hasTrack_36 (by decide) ?_
    exact hR _ _ _ _ dG_hasTrack_37 (by first | exact Or.inl rfl | exact Or.inr rfl | exact bz_01 _ | assumption) (by first | exact ⟨(bz_t ⟨h6, by omega, by assumption⟩).symm, rfl⟩ | exact ⟨(bz_f (fun q => absurd q.1 (by assumption))).symm, rfl⟩ | exact ⟨(bz_f (fun q => absurd q.2.2 (by assumption))).symm, rfl⟩ | exact ⟨(bz_f (fun q => absurd q.2.1 (by omega))).symm, rfl⟩)
  · first | (replace h6 := bz_ne0.mp h6) | (replace h6 := bz_eq0.mp h6) | skip
    refine V_iload_n (i := 3) F dG_hasTrack_9 rfl rfl ?_
    refine V_if_lt F 36 dG_hasTrack_10 (by decide) (fun h10 => ?_) (fun h10 => ?_)
    · first | (replace h10 := bz_ne0.mp h10) | (replace h10 := bz_eq0.mp h10) | skip
      refine V_iconst F dG_hasTrack_36 (by decide) ?_
      exact hR _ _ _ _ dG_hasTrack_37 (by first | exact Or.inl rfl | exact Or.inr rfl | exact bz_01 _ | assumption) (by first | exact ⟨(bz_t ⟨h6, by omega, by assumption⟩).symm, rfl⟩ | exact ⟨(bz_f (fun q => absurd q.1 (by assumption))).symm, rfl⟩ | exact ⟨(bz_f (fun q => absurd q.2.2 (by assumption))).symm, rfl⟩ | exact ⟨(bz_f (fun q => absurd q.2.1 (by omega))).symm, rfl⟩)
    · first | (replace h10 := bz_ne0.mp h10) | (replace h10 := bz_eq0.mp h10) | skip
      refine V_iload_n (i := 3) F dG_hasTrack_13 rfl rfl ?_
      refine V_bipush F dG_hasTrack_14 (by decide) ?_
      refine V_icmp_ge F 36 dG_hasTrack_16 (by decide) (fun h16 => ?_) (fun h16 => ?_)
      · first | (replace h16 := bz_ne0.mp h16) | (replace h16 := bz_eq0.mp h16) | skip
        refine V_iconst F dG_hasTrack_36 (by decide) ?_
        exact hR _ _ _ _ dG_hasTrack_37 (by first | exact Or.inl rfl | exact Or.inr rfl | exact bz_01 _ | assumption) (by first | exact ⟨(bz_t ⟨h6, by omega, by assumption⟩).symm, rfl⟩ | exact ⟨(bz_f (fun q => absurd q.1 (by assumption))).symm, rfl⟩ | exact ⟨(bz_f (fun q => absurd q.2.2 (by assumption))).symm, rfl⟩ | exact ⟨(bz_f (fun q => absurd q.2.1 (by omega))).symm, rfl⟩)
      · first | (replace h16 := bz_ne0.mp h16) | (replace h16 := bz_eq0.mp h16) | skip
        have hxy : 0 ≤ x ∧ x < w 2 0 ∧ 0 ≤ y ∧ y < w 2 1 := h6
        refine V_aload_n (i := 0) F dG_hasTrack_19 rfl rfl ?_
        refine V_iload_n (i := 1) F dG_hasTrack_20 rfl rfl ?_
        refine V_iload_n (i := 2) F dG_hasTrack_21 rfl rfl ?_
        refine V_callSi F dG_hasTrack_22 lmG_44 miS_tile msS_tile (ctS_tile (by omega)) (by decide) rfl (Nat.le_of_ble_eq_true rfl) (fun r u hr => ?_)
        obtain ⟨rfl, rfl⟩ := hr
        refine V_iload_n (i := 3) F dG_hasTrack_25 rfl rfl ?_
        refine V_callVi F dG_hasTrack_26 lmG_50 miG_hasPiece mvG_hasPiece (ctG_hasPiece (by omega) (by omega) (hw _ (by omega) (by omega))) (by decide) (by first | rfl | assumption) rfl rfl (Nat.le_of_ble_eq_true rfl) (fun r u hr => ?_)
        obtain ⟨rfl, rfl⟩ := hr
        refine V_if_eq F 36 dG_hasTrack_29 (by decide) (fun h29 => ?_) (fun h29 => ?_)
        · first | (replace h29 := bz_ne0.mp h29) | (replace h29 := bz_eq0.mp h29) | skip
          refine V_iconst F dG_hasTrack_36 (by decide) ?_
          exact hR _ _ _ _ dG_hasTrack_37 (by first | exact Or.inl rfl | exact Or.inr rfl | exact bz_01 _ | assumption) (by first | exact ⟨(bz_t ⟨h6, by omega, by assumption⟩).symm, rfl⟩ | exact ⟨(bz_f (fun q => absurd q.1 (by assumption))).symm, rfl⟩ | exact ⟨(bz_f (fun q => absurd q.2.2 (by assumption))).symm, rfl⟩ | exact ⟨(bz_f (fun q => absurd q.2.1 (by omega))).symm, rfl⟩)
        · first | (replace h29 := bz_ne0.mp h29) | (replace h29 := bz_eq0.mp h29) | skip
          refine V_iconst F dG_hasTrack_32 (by decide) ?_
          refine V_goto F 37 dG_hasTrack_33 (by decide) ?_
          exact hR _ _ _ _ dG_hasTrack_37 (by first | exact Or.inl rfl | exact Or.inr rfl | exact bz_01 _ | assumption) (by first | exact ⟨(bz_t ⟨h6, by omega, by assumption⟩).symm, rfl⟩ | exact ⟨(bz_f (fun q => absurd q.1 (by assumption))).symm, rfl⟩ | exact ⟨(bz_f (fun q => absurd q.2.2 (by assumption))).symm, rfl⟩ | exact ⟨(bz_f (fun q => absurd q.2.1 (by omega))).symm, rfl⟩)
theorem ctG_meets {G : vG} {l : Launch} {w : RW} {t p e : Int} (ht : 0 ≤ t ∧ t < 64) (hp : 0 ≤ p ∧ p < 6) (hw : 0 ≤ w 3 t) : CTi G l yG_meets cG_meets 4 .boolean 1 [.inr 2, .inl t, .inl p, .inl e] w (fun r u => r = bz (tb (w 3 t) p ∧ hsE p e) ∧ w = u) := by
  refine CTi.bool (by decide) (Nat.le_of_ble_eq_true rfl) ?_
  intro X Q F hX hR
  subst hX
  show V G X 4 Q 0 [some (.inr 2), some (.inl t), some (.inl p), some (.inl e)] [] w
  refine V_aload_n (i := 0) F dG_meets_0 rfl rfl ?_
  refine V_iload_n (i := 1) F dG_meets_1 rfl rfl ?_
  refine V_iload_n (i := 2) F dG_meets_2 rfl rfl ?_
  refine V_callVi F dG_meets_3 lmG_50 miG_hasPiece mvG_hasPiece (ctG_hasPiece ht (by omega) hw) (by decide) (by first | rfl | assumption) rfl rfl (Nat.le_of_ble_eq_true rfl) (fun r u hr => ?_)
  obtain ⟨rfl, rfl⟩ := hr
  refine V_if_eq F 21 dG_meets_6 (by decide) (fun h6 => ?_) (fun h6 => ?_)
  · first | (replace h6 := bz_ne0.mp h6) | (replace h6 := bz_eq0.mp h6) | skip
    refine V_iconst F dG_meets_21 (by decide) ?_
    exact hR _ _ _ _ dG_meets_22 (by first | exact Or.inl rfl | exact Or.inr rfl | exact bz_01 _ | assumption) (by first | exact ⟨(bz_t ⟨by assumption, by assumption⟩).symm, rfl⟩ | exact ⟨(bz_f (fun q => absurd q.1 (by assumption))).symm, rfl⟩ | exact ⟨(bz_f (fun q => absurd q.2 (by assumption))).symm, rfl⟩)
  · first | (replace h6 := bz_ne0.mp h6) | (replace h6 := bz_eq0.mp h6) | skip
    refine V_iload_n (i := 2) F dG_meets_9 rfl rfl ?_
    refine V_iload_n (i := 3) F dG_meets_10 rfl rfl ?_
    refine V_callSi F dG_meets_11 lmG_53 miS_hasEdge msS_hasEdge (ctS_hasEdge hp) (by decide) rfl (Nat.le_of_ble_eq_true rfl) (fun r u hr => ?_)
    obtain ⟨rfl, rfl⟩ := hr
    refine V_if_eq F 21 dG_meets_14 (by decide) (fun h14 => ?_) (fun h14 => ?_)
    · first | (replace h14 := bz_ne0.mp h14) | (replace h14 := bz_eq0.mp h14) | skip
      refine V_iconst F dG_meets_21 (by decide) ?_
      exact hR _ _ _ _ dG_meets_22 (by first | exact Or.inl rfl | exact Or.inr rfl | exact bz_01 _ | assumption) (by first | exact ⟨(bz_t ⟨by assumption, by assumption⟩).symm, rfl⟩ | exact ⟨(bz_f (fun q => absurd q.1 (by assumption))).symm, rfl⟩ | exact ⟨(bz_f (fun q => absurd q.2 (by assumption))).symm, rfl⟩)
    · first | (replace h14 := bz_ne0.mp h14) | (replace h14 := bz_eq0.mp h14) | skip
      refine V_iconst F dG_meets_17 (by decide) ?_
      refine V_goto F 22 dG_meets_18 (by decide) ?_
      exact hR _ _ _ _ dG_meets_22 (by first | exact Or.inl rfl | exact Or.inr rfl | exact bz_01 _ | assumption) (by first | exact ⟨(bz_t ⟨by assumption, by assumption⟩).symm, rfl⟩ | exact ⟨(bz_f (fun q => absurd q.1 (by assumption))).symm, rfl⟩ | exact ⟨(bz_f (fun q => absurd q.2 (by assumption))).symm, rfl⟩)
def acX (t e : Int) : Int := if e = 1 then t % 8 + 1 else if e = 3 then t % 8 + -1 else t % 8
def acY (t e : Int) : Int := if e = 2 then t / 8 + 1 else if e = 0 then t / 8 + -1 else t / 8
noncomputable def acr (W H t e : Int) : Int := cif (isT W H (acX t e) (acY t e)) (acX t e + 8 * acY t e) (-1)
theorem ctG_across {G : vG} {l : Launch} {w : RW} {t e : Int} (ht : 0 ≤ t ∧ t < 64) (he : 0 ≤ e ∧ e < 4) : CTi G l yG_across cG_across 5 .int 1 [.inr 2, .inl t, .inl e] w (fun r u => r = acr (w 2 0) (w 2 1) t e ∧ w = u) := by
  refine CTi.int (by decide) (Nat.le_of_ble_eq_true rfl) ?_
  intro X Q F hX hR
  subst hX
  show V G X 5 Q 0 [some (.inr 2), some (.inl t), some (.inl e), none, none] [] w
  refine V_iload_n (i := 1) F dG_across_0 rfl rfl ?_
  refine V_bipush F dG_across_1 (by decide) ?_
  refine V_irem F dG_across_3 (by omega) ?_
  refine V_istore_n (i := 3) F dG_across_4 rfl (by decide) (by simp only [List.set_cons_zero, List.set_cons_succ]; exact rfl) ?_
  refine V_iload_n (i := 1) F dG_across_5 rfl rfl ?_
  refine V_bipush F dG_across_6 (by decide) ?_
  refine V_idiv F dG_across_8 (by omega) ?_
  refine V_istore F dG_across_9 (by decide) (by simp only [List.set_cons_zero, List.set_cons_succ]; exact rfl) ?_
  refine V_iload_n (i := 2) F dG_across_11 rfl rfl ?_
  rcases (show e = 0 ∨ e = 1 ∨ e = 2 ∨ e = 3 by omega) with rfl | rfl | rfl | rfl
  · refine V_tabIn F 40 dG_across_12 (by decide) rfl (by decide) ?_
    refine V_iinc F dG_across_40 (by decide) rfl (by omega) (by simp only [List.set_cons_zero, List.set_cons_succ]; exact rfl) ?_
    refine V_goto F 61 dG_across_43 (by decide) ?_
    refine V_aload_n (i := 0) F dG_across_61 rfl rfl ?_
    refine V_iload_n (i := 3) F dG_across_62 rfl rfl ?_
    refine V_iload F dG_across_63 rfl ?_
    refine V_callVi F dG_across_65 lmG_40 miG_hasTile mvG_hasTile (ctG_hasTile) (by decide) (by first | rfl | assumption) rfl rfl (Nat.le_of_ble_eq_true rfl) (fun r u hr => ?_)
    obtain ⟨rfl, rfl⟩ := hr
    refine V_if_eq F 80 dG_across_68 (by decide) (fun h68 => ?_) (fun h68 => ?_)
    · first | (replace h68 := bz_ne0.mp h68) | (replace h68 := bz_eq0.mp h68) | skip
      refine V_iconst F dG_across_80 (by decide) ?_
      exact hR _ _ _ _ dG_across_81 (by first | exact ⟨(cif_t (P := isT (w 2 0) (w 2 1) (acX t 0) (acY t 0)) h68).symm, rfl⟩ | exact ⟨(cif_f (P := isT (w 2 0) (w 2 1) (acX t 0) (acY t 0)) h68).symm, rfl⟩)
    · first | (replace h68 := bz_ne0.mp h68) | (replace h68 := bz_eq0.mp h68) | skip
      refine V_iload_n (i := 3) F dG_across_71 rfl rfl ?_
      refine V_iload F dG_across_72 rfl ?_
      refine V_callSi F dG_across_74 lmG_44 miS_tile msS_tile (ctS_tile (by omega)) (by decide) rfl (Nat.le_of_ble_eq_true rfl) (fun r u hr => ?_)
      obtain ⟨rfl, rfl⟩ := hr
      refine V_goto F 81 dG_across_77 (by decide) ?_
      exact hR _ _ _ _ dG_across_81 (by first | exact ⟨(cif_t (P := isT (w 2 0) (w 2 1) (acX t 0) (acY t 0)) h68).symm, rfl⟩ | exact ⟨(cif_f (P := isT (w 2 0) (w 2 1) (acX t 0) (acY t 0)) h68).symm, rfl⟩)
  · refine V_tabIn F 46 dG_across_12 (by decide) rfl (by decide) ?_
    refine V_iinc F dG_across_46 (by decide) rfl (by omega) (by simp only [List.set_cons_zero, List.set_cons_succ]; exact rfl) ?_
    refine V_goto F 61 dG_across_49 (by decide) ?_
    refine V_aload_n (i := 0) F dG_across_61 rfl rfl ?_
    refine V_iload_n (i := 3) F dG_across_62 rfl rfl ?_
    refine V_iload F dG_across_63 rfl ?_
    refine V_callVi F dG_across_65 lmG_40 miG_hasTile mvG_hasTile (ctG_hasTile) (by decide) (by first | rfl | assumption) rfl rfl (Nat.le_of_ble_eq_true rfl) (fun r u hr => ?_)
    obtain ⟨rfl, rfl⟩ := hr
    refine V_if_eq F 80 dG_across_68 (by decide) (fun h68 => ?_) (fun h68 => ?_)
    · first | (replace h68 := bz_ne0.mp h68) | (replace h68 := bz_eq0.mp h68) | skip
      refine V_iconst F dG_across_80 (by decide) ?_
      exact hR _ _ _ _ dG_across_81 (by first | exact ⟨(cif_t (P := isT (w 2 0) (w 2 1) (acX t 1) (acY t 1)) h68).symm, rfl⟩ | exact ⟨(cif_f (P := isT (w 2 0) (w 2 1) (acX t 1) (acY t 1)) h68).symm, rfl⟩)
    · first | (replace h68 := bz_ne0.mp h68) | (replace h68 := bz_eq0.mp h68) | skip
      refine V_iload_n (i := 3) F dG_across_71 rfl rfl ?_
      refine V_iload F dG_across_72 rfl ?_
      refine V_callSi F dG_across_74 lmG_44 miS_tile msS_tile (ctS_tile (by omega)) (by decide) rfl (Nat.le_of_ble_eq_true rfl) (fun r u hr => ?_)
      obtain ⟨rfl, rfl⟩ := hr
      refine V_goto F 81 dG_across_77 (by decide) ?_
      exact hR _ _ _ _ dG_across_81 (by first | exact ⟨(cif_t (P := isT (w 2 0) (w 2 1) (acX t 1) (acY t 1)) h68).symm, rfl⟩ | exact ⟨(cif_f (P := isT (w 2 0) (w 2 1) (acX t 1) (acY t 1)) h68).symm, rfl⟩)
  · refine V_tabIn F 52 dG_across_12 (by decide) rfl (by decide) ?_
    refine V_iinc F dG_across_52 (by decide) rfl (by omega) (by simp only [List.set_cons_zero, List.set_cons_succ]; exact rfl) ?_
    refine V_goto F 61 dG_across_55 (by decide) ?_
    refine V_aload_n (i := 0) F dG_across_61 rfl rfl ?_
    refine V_iload_n (i := 3) F dG_across_62 rfl rfl ?_
    refine V_iload F dG_across_63 rfl ?_
    refine V_callVi F dG_across_65 lmG_40 miG_hasTile mvG_hasTile (ctG_hasTile) (by decide) (by first | rfl | assumption) rfl rfl (Nat.le_of_ble_eq_true rfl) (fun r u hr => ?_)
    obtain ⟨rfl, rfl⟩ := hr
    refine V_if_eq F 80 dG_across_68 (by decide) (fun h68 => ?_) (fun h68 => ?_)
    · first | (replace h68 := bz_ne0.mp h68) | (replace h68 := bz_eq0.mp h68) | skip
      refine V_iconst F dG_across_80 (by decide) ?_
      exact hR _ _ _ _ dG_across_81 (by first | exact ⟨(cif_t (P := isT (w 2 0) (w 2 1) (acX t 2) (acY t 2)) h68).symm, rfl⟩ | exact ⟨(cif_f (P := isT (w 2 0) (w 2 1) (acX t 2) (acY t 2)) h68).symm, rfl⟩)
    · first | (replace h68 := bz_ne0.mp h68) | (replace h68 := bz_eq0.mp h68) | skip
      refine V_iload_n (i := 3) F dG_across_71 rfl rfl ?_
      refine V_iload F dG_across_72 rfl ?_
      refine V_callSi F dG_across_74 lmG_44 miS_tile msS_tile (ctS_tile (by omega)) (by decide) rfl (Nat.le_of_ble_eq_true rfl) (fun r u hr => ?_)
      obtain ⟨rfl, rfl⟩ := hr
      refine V_goto F 81 dG_across_77 (by decide) ?_
      exact hR _ _ _ _ dG_across_81 (by first | exact ⟨(cif_t (P := isT (w 2 0) (w 2 1) (acX t 2) (acY t 2)) h68).symm, rfl⟩ | exact ⟨(cif_f (P := isT (w 2 0) (w 2 1) (acX t 2) (acY t 2)) h68).symm, rfl⟩)
  · refine V_tabOut F 58 dG_across_12 (by decide) (by decide) ?_
    refine V_iinc F dG_across_58 (by decide) rfl (by omega) (by simp only [List.set_cons_zero, List.set_cons_succ]; exact rfl) ?_
    refine V_aload_n (i := 0) F dG_across_61 rfl rfl ?_
    refine V_iload_n (i := 3) F dG_across_62 rfl rfl ?_
    refine V_iload F dG_across_63 rfl ?_
    refine V_callVi F dG_across_65 lmG_40 miG_hasTile mvG_hasTile (ctG_hasTile) (by decide) (by first | rfl | assumption) rfl rfl (Nat.le_of_ble_eq_true rfl) (fun r u hr => ?_)
    obtain ⟨rfl, rfl⟩ := hr
    refine V_if_eq F 80 dG_across_68 (by decide) (fun h68 => ?_) (fun h68 => ?_)
    · first | (replace h68 := bz_ne0.mp h68) | (replace h68 := bz_eq0.mp h68) | skip
      refine V_iconst F dG_across_80 (by decide) ?_
      exact hR _ _ _ _ dG_across_81 (by first | exact ⟨(cif_t (P := isT (w 2 0) (w 2 1) (acX t 3) (acY t 3)) h68).symm, rfl⟩ | exact ⟨(cif_f (P := isT (w 2 0) (w 2 1) (acX t 3) (acY t 3)) h68).symm, rfl⟩)
    · first | (replace h68 := bz_ne0.mp h68) | (replace h68 := bz_eq0.mp h68) | skip
      refine V_iload_n (i := 3) F dG_across_71 rfl rfl ?_
      refine V_iload F dG_across_72 rfl ?_
      refine V_callSi F dG_across_74 lmG_44 miS_tile msS_tile (ctS_tile (by omega)) (by decide) rfl (Nat.le_of_ble_eq_true rfl) (fun r u hr => ?_)
      obtain ⟨rfl, rfl⟩ := hr
      refine V_goto F 81 dG_across_77 (by decide) ?_
      exact hR _ _ _ _ dG_across_81 (by first | exact ⟨(cif_t (P := isT (w 2 0) (w 2 1) (acX t 3) (acY t 3)) h68).symm, rfl⟩ | exact ⟨(cif_f (P := isT (w 2 0) (w 2 1) (acX t 3) (acY t 3)) h68).symm, rfl⟩)
def hdT (w : RW) (t : Int) : Prop := ∃ j, 0 ≤ j ∧ j < 6 ∧ ¬ w 5 (t + 64 * j) = -1
theorem lpG_isHeld {G : vG} {X : vX} {Q : State → Prop} {w : RW} {t : Int} (ht : 0 ≤ t ∧ t < 64) (F : FX G X cG_isHeld yG_isHeld.cls 3 1) (hR : RetZ G X cG_isHeld 3 Q (fun r u => r = bz (hdT w t) ∧ w = u)) : ∀ (m : Nat) (i : Int), 0 ≤ i → i ≤ 6 → 6 - i < m → (∀ j, 0 ≤ j → j < i → w 5 (t + 64 * j) = -1) → V G X 3 Q 2 [some (.inr 2), some (.inl t), some (.inl i)] [] w := by
  intro m
  induction m with
  | zero => intro i h1 h2 h3; omega
  | succ m ih =>
    intro i h1 h2 h3 hn
    refine V_iload_n (i := 2) F dG_isHeld_2 rfl rfl ?_
    refine V_bipush F dG_isHeld_3 (by decide) ?_
    refine V_icmp_ge F 30 dG_isHeld_5 (by decide) (fun h5 => ?_) (fun h5 => ?_)
    · refine V_iconst F dG_isHeld_30 (by decide) ?_
      exact hR _ _ _ _ dG_isHeld_31 (by first | exact Or.inl rfl | exact Or.inr rfl | exact bz_01 _ | assumption) (by first | exact ⟨(bz_t ⟨i, by omega, by omega, by assumption⟩).symm, rfl⟩ | exact ⟨(bz_f (fun q => by obtain ⟨j, h1, h2, h3⟩ := q; exact h3 (hn j h1 (by omega)))).symm, rfl⟩)
    · refine V_aload_n (i := 0) F dG_isHeld_8 rfl rfl ?_
      refine V_getr (ci := 0) (C := R_G) (T := T_G) (N := 5) F dG_isHeld_9 (by first | rfl | assumption) rfl (j := 4) (by decide) rfl lfG_18 ?_
      refine V_iload_n (i := 1) F dG_isHeld_12 rfl rfl ?_
      refine V_iload_n (i := 2) F dG_isHeld_13 rfl rfl ?_
      refine V_callSi F dG_isHeld_14 lmG_56 miS_place msS_place (ctS_place (by omega)) (by decide) rfl (Nat.le_of_ble_eq_true rfl) (fun r u hr => ?_)
      obtain ⟨rfl, rfl⟩ := hr
      first
        | refine V_sald F dG_isHeld_17 (by decide) (by omega) (stt_in _ _) ?_
        | refine V_iald F dG_isHeld_17 (by first | rfl | assumption) rfl (by omega) ?_
      refine V_iconst F dG_isHeld_18 (by decide) ?_
      refine V_icmp_eq F 24 dG_isHeld_19 (by decide) (fun h19 => ?_) (fun h19 => ?_)
      · refine V_iinc F dG_isHeld_24 (by decide) rfl (by omega) (by simp only [List.set_cons_zero, List.set_cons_succ]; exact rfl) ?_
        refine V_goto F 2 dG_isHeld_27 (by decide) ?_
        exact ih (i + 1) (by omega) (by omega) (by omega) (fun j h1 h2 => by
          by_cases hj : j = i
          · rw [hj]; omega
          · exact hn j h1 (by omega))
      · refine V_iconst F dG_isHeld_22 (by decide) ?_
        exact hR _ _ _ _ dG_isHeld_23 (by first | exact Or.inl rfl | exact Or.inr rfl | exact bz_01 _ | assumption) (by first | exact ⟨(bz_t ⟨i, by omega, by omega, by assumption⟩).symm, rfl⟩ | exact ⟨(bz_f (fun q => by obtain ⟨j, h1, h2, h3⟩ := q; exact h3 (hn j h1 (by omega)))).symm, rfl⟩)
theorem ctG_isHeld {G : vG} {l : Launch} {w : RW} {t : Int} (ht : 0 ≤ t ∧ t < 64) : CTi G l yG_isHeld cG_isHeld 3 .boolean 1 [.inr 2, .inl t] w (fun r u => r = bz (hdT w t) ∧ w = u) := by
  refine CTi.bool (by decide) (Nat.le_of_ble_eq_true rfl) ?_
  intro X Q F hX hR
  subst hX
  show V G X 3 Q 0 [some (.inr 2), some (.inl t), none] [] w
  refine V_iconst F dG_isHeld_0 (by decide) ?_
  refine V_istore_n (i := 2) F dG_isHeld_1 rfl (by decide) (by simp only [List.set_cons_zero, List.set_cons_succ]; exact rfl) ?_
  exact lpG_isHeld ht F hR 7 0 (by omega) (by omega) (by omega) (fun j h1 h2 => by omega)
theorem ctG_isLit {G : vG} {l : Launch} {w : RW} {x : Int} (h : 0 ≤ x ∧ x < 2048) (h2 : x % 512 < 384) (hw : 0 ≤ w 4 (x % 512)) : CTi G l yG_isLit cG_isLit 2 .boolean 1 [.inr 2, .inl x] w (fun r u => r = bz (tb (w 4 (x % 512)) (x / 512)) ∧ w = u) := by
  refine CTi.bool (by decide) (Nat.le_of_ble_eq_true rfl) ?_
  intro X Q F hX hR
  subst hX
  show V G X 2 Q 0 [some (.inr 2), some (.inl x)] [] w
  refine V_w (fun hg => ?_)
  have hg1 := (hg 4 (x % 512)).2
  refine V_aload_n (i := 0) F dG_isLit_0 rfl rfl ?_
  refine V_getr (ci := 0) (C := R_G) (T := T_G) (N := 5) F dG_isLit_1 (by first | rfl | assumption) rfl (j := 3) (by decide) rfl lfG_15 ?_
  refine V_iload_n (i := 1) F dG_isLit_4 rfl rfl ?_
  refine V_callSi F dG_isLit_5 lmG_59 miS_placeOf msS_placeOf (ctS_placeOf (by omega)) (by decide) rfl (Nat.le_of_ble_eq_true rfl) (fun r u hr => ?_)
  obtain ⟨rfl, rfl⟩ := hr
  first
    | refine V_sald F dG_isLit_8 (by decide) (by omega) (stt_in _ _) ?_
    | refine V_iald F dG_isLit_8 (by first | rfl | assumption) rfl (by omega) ?_
  refine V_iload_n (i := 1) F dG_isLit_9 rfl rfl ?_
  refine V_callSi F dG_isLit_10 lmG_63 miS_edgeOf msS_edgeOf (ctS_edgeOf (by omega)) (by decide) rfl (Nat.le_of_ble_eq_true rfl) (fun r u hr => ?_)
  obtain ⟨rfl, rfl⟩ := hr
  refine V_ishr F _ dG_isLit_13 rfl ?_
  refine V_iconst F dG_isLit_14 (by decide) ?_
  refine V_iand F _ dG_isLit_15 (bit_1 ⟨hw, hg1⟩ (by omega)) ?_
  refine V_if_eq F 23 dG_isLit_16 (by decide) (fun h16 => ?_) (fun h16 => ?_)
  · first | (replace h16 := bz_ne0.mp h16) | (replace h16 := bz_eq0.mp h16) | skip
    refine V_iconst F dG_isLit_23 (by decide) ?_
    exact hR _ _ _ _ dG_isLit_24 (by first | exact Or.inl rfl | exact Or.inr rfl | exact bz_01 _ | assumption) (by first | exact ⟨(bz_t (by assumption)).symm, rfl⟩ | exact ⟨(bz_f (by assumption)).symm, rfl⟩)
  · first | (replace h16 := bz_ne0.mp h16) | (replace h16 := bz_eq0.mp h16) | skip
    refine V_iconst F dG_isLit_19 (by decide) ?_
    refine V_goto F 24 dG_isLit_20 (by decide) ?_
    exact hR _ _ _ _ dG_isLit_24 (by first | exact Or.inl rfl | exact Or.inr rfl | exact bz_01 _ | assumption) (by first | exact ⟨(bz_t (by assumption)).symm, rfl⟩ | exact ⟨(bz_f (by assumption)).symm, rfl⟩)
noncomputable def gco (lit x : Int) : Int := if lit = 0 then (if x % 512 / 64 < 2 then 10 else 7) else cif (tb lit (x / 512)) ((if x % 512 / 64 < 2 then 10 else 7) + 5) 1048576
theorem ctG_cost {G : vG} {l : Launch} {w : RW} {x : Int} (h : 0 ≤ x ∧ x < 2048) (h2 : x % 512 < 384) (hw : 0 ≤ w 4 (x % 512)) : CTi G l yG_cost cG_cost 4 .int 1 [.inr 2, .inl x] w (fun r u => r = gco (w 4 (x % 512)) x ∧ w = u) := by
  refine CTi.int (by decide) (Nat.le_of_ble_eq_true rfl) ?_
  intro X Q F hX hR
  subst hX
  show V G X 4 Q 0 [some (.inr 2), some (.inl x), none, none] [] w
  refine V_w (fun hg => ?_)
  have hg1 := (hg 4 (x % 512)).2
  refine V_iload_n (i := 1) F dG_cost_0 rfl rfl ?_
  refine V_callSi F dG_cost_1 lmG_66 miS_pieceOf msS_pieceOf (ctS_pieceOf (by omega)) (by decide) rfl (Nat.le_of_ble_eq_true rfl) (fun r u hr => ?_)
  obtain ⟨rfl, rfl⟩ := hr
  refine V_iconst F dG_cost_4 (by decide) ?_
  refine V_icmp_ge F 13 dG_cost_5 (by decide) (fun h5 => ?_) (fun h5 => ?_)
  · first | (replace h5 := bz_ne0.mp h5) | (replace h5 := bz_eq0.mp h5) | skip
    refine V_bipush F dG_cost_13 (by decide) ?_
    refine V_istore_n (i := 2) F dG_cost_15 rfl (by decide) (by simp only [List.set_cons_zero, List.set_cons_succ]; exact rfl) ?_
    refine V_aload_n (i := 0) F dG_cost_16 rfl rfl ?_
    refine V_getr (ci := 0) (C := R_G) (T := T_G) (N := 5) F dG_cost_17 (by first | rfl | assumption) rfl (j := 3) (by decide) rfl lfG_15 ?_
    refine V_iload_n (i := 1) F dG_cost_20 rfl rfl ?_
    refine V_callSi F dG_cost_21 lmG_59 miS_placeOf msS_placeOf (ctS_placeOf (by omega)) (by decide) rfl (Nat.le_of_ble_eq_true rfl) (fun r u hr => ?_)
    obtain ⟨rfl, rfl⟩ := hr
    first
      | refine V_sald F dG_cost_24 (by decide) (by omega) (stt_in _ _) ?_
      | refine V_iald F dG_cost_24 (by first | rfl | assumption) rfl (by omega) ?_
    refine V_istore_n (i := 3) F dG_cost_25 rfl (by decide) (by simp only [List.set_cons_zero, List.set_cons_succ]; exact rfl) ?_
    refine V_iload_n (i := 3) F dG_cost_26 rfl rfl ?_
    refine V_if_ne F 32 dG_cost_27 (by decide) (fun h27 => ?_) (fun h27 => ?_)
    · first | (replace h27 := bz_ne0.mp h27) | (replace h27 := bz_eq0.mp h27) | skip
      refine V_iload_n (i := 3) F dG_cost_32 rfl rfl ?_
      refine V_iload_n (i := 1) F dG_cost_33 rfl rfl ?_
      refine V_callSi F dG_cost_34 lmG_63 miS_edgeOf msS_edgeOf (ctS_edgeOf (by omega)) (by decide) rfl (Nat.le_of_ble_eq_true rfl) (fun r u hr => ?_)
      obtain ⟨rfl, rfl⟩ := hr
      refine V_ishr F _ dG_cost_37 rfl ?_
      refine V_iconst F dG_cost_38 (by decide) ?_
      refine V_iand F _ dG_cost_39 (bit_1 ⟨hw, hg1⟩ (by omega)) ?_
      refine V_if_eq F 49 dG_cost_40 (by decide) (fun h40 => ?_) (fun h40 => ?_)
      · first | (replace h40 := bz_ne0.mp h40) | (replace h40 := bz_eq0.mp h40) | skip
        refine V_ldc F dG_cost_49 lcG_69 ⟨by decide, by decide⟩ ?_
        exact hR _ _ _ _ dG_cost_51 (by refine ⟨?_, rfl⟩; unfold gco; first | (rw [if_pos h27]; split <;> omega) | (rw [if_neg h27, cif_t h40]; split <;> omega) | (rw [if_neg h27, cif_f h40]))
      · first | (replace h40 := bz_ne0.mp h40) | (replace h40 := bz_eq0.mp h40) | skip
        refine V_iload_n (i := 2) F dG_cost_43 rfl rfl ?_
        refine V_iconst F dG_cost_44 (by decide) ?_
        refine V_iadd F dG_cost_45 (by omega) ?_
        refine V_goto F 51 dG_cost_46 (by decide) ?_
        exact hR _ _ _ _ dG_cost_51 (by refine ⟨?_, rfl⟩; unfold gco; first | (rw [if_pos h27]; split <;> omega) | (rw [if_neg h27, cif_t h40]; split <;> omega) | (rw [if_neg h27, cif_f h40]))
    · first | (replace h27 := bz_ne0.mp h27) | (replace h27 := bz_eq0.mp h27) | skip
      refine V_iload_n (i := 2) F dG_cost_30 rfl rfl ?_
      exact hR _ _ _ _ dG_cost_31 (by refine ⟨?_, rfl⟩; unfold gco; first | (rw [if_pos h27]; split <;> omega) | (rw [if_neg h27, cif_t h40]; split <;> omega) | (rw [if_neg h27, cif_f h40]))
  · first | (replace h5 := bz_ne0.mp h5) | (replace h5 := bz_eq0.mp h5) | skip
    refine V_bipush F dG_cost_8 (by decide) ?_
    refine V_goto F 15 dG_cost_10 (by decide) ?_
    refine V_istore_n (i := 2) F dG_cost_15 rfl (by decide) (by simp only [List.set_cons_zero, List.set_cons_succ]; exact rfl) ?_
    refine V_aload_n (i := 0) F dG_cost_16 rfl rfl ?_
    refine V_getr (ci := 0) (C := R_G) (T := T_G) (N := 5) F dG_cost_17 (by first | rfl | assumption) rfl (j := 3) (by decide) rfl lfG_15 ?_
    refine V_iload_n (i := 1) F dG_cost_20 rfl rfl ?_
    refine V_callSi F dG_cost_21 lmG_59 miS_placeOf msS_placeOf (ctS_placeOf (by omega)) (by decide) rfl (Nat.le_of_ble_eq_true rfl) (fun r u hr => ?_)
    obtain ⟨rfl, rfl⟩ := hr
    first
      | refine V_sald F dG_cost_24 (by decide) (by omega) (stt_in _ _) ?_
      | refine V_iald F dG_cost_24 (by first | rfl | assumption) rfl (by omega) ?_
    refine V_istore_n (i := 3) F dG_cost_25 rfl (by decide) (by simp only [List.set_cons_zero, List.set_cons_succ]; exact rfl) ?_
    refine V_iload_n (i := 3) F dG_cost_26 rfl rfl ?_
    refine V_if_ne F 32 dG_cost_27 (by decide) (fun h27 => ?_) (fun h27 => ?_)
    · first | (replace h27 := bz_ne0.mp h27) | (replace h27 := bz_eq0.mp h27) | skip
      refine V_iload_n (i := 3) F dG_cost_32 rfl rfl ?_
      refine V_iload_n (i := 1) F dG_cost_33 rfl rfl ?_
      refine V_callSi F dG_cost_34 lmG_63 miS_edgeOf msS_edgeOf (ctS_edgeOf (by omega)) (by decide) rfl (Nat.le_of_ble_eq_true rfl) (fun r u hr => ?_)
      obtain ⟨rfl, rfl⟩ := hr
      refine V_ishr F _ dG_cost_37 rfl ?_
      refine V_iconst F dG_cost_38 (by decide) ?_
      refine V_iand F _ dG_cost_39 (bit_1 ⟨hw, hg1⟩ (by omega)) ?_
      refine V_if_eq F 49 dG_cost_40 (by decide) (fun h40 => ?_) (fun h40 => ?_)
      · first | (replace h40 := bz_ne0.mp h40) | (replace h40 := bz_eq0.mp h40) | skip
        refine V_ldc F dG_cost_49 lcG_69 ⟨by decide, by decide⟩ ?_
        exact hR _ _ _ _ dG_cost_51 (by refine ⟨?_, rfl⟩; unfold gco; first | (rw [if_pos h27]; split <;> omega) | (rw [if_neg h27, cif_t h40]; split <;> omega) | (rw [if_neg h27, cif_f h40]))
      · first | (replace h40 := bz_ne0.mp h40) | (replace h40 := bz_eq0.mp h40) | skip
        refine V_iload_n (i := 2) F dG_cost_43 rfl rfl ?_
        refine V_iconst F dG_cost_44 (by decide) ?_
        refine V_iadd F dG_cost_45 (by omega) ?_
        refine V_goto F 51 dG_cost_46 (by decide) ?_
        exact hR _ _ _ _ dG_cost_51 (by refine ⟨?_, rfl⟩; unfold gco; first | (rw [if_pos h27]; split <;> omega) | (rw [if_neg h27, cif_t h40]; split <;> omega) | (rw [if_neg h27, cif_f h40]))
    · first | (replace h27 := bz_ne0.mp h27) | (replace h27 := bz_eq0.mp h27) | skip
      refine V_iload_n (i := 2) F dG_cost_30 rfl rfl ?_
      exact hR _ _ _ _ dG_cost_31 (by refine ⟨?_, rfl⟩; unfold gco; first | (rw [if_pos h27]; split <;> omega) | (rw [if_neg h27, cif_t h40]; split <;> omega) | (rw [if_neg h27, cif_f h40]))
end
section
theorem dY_isStation_0 : decode cY_isStation 0 = .ok (.iload_n 1, 1) := by decide +kernel
theorem dY_isStation_1 : decode cY_isStation 1 = .ok (.ifCond .lt 15, 3) := by decide +kernel
theorem dY_isStation_4 : decode cY_isStation 4 = .ok (.iload_n 1, 1) := by decide +kernel
theorem dY_isStation_5 : decode cY_isStation 5 = .ok (.aload_n 0, 1) := by decide +kernel
theorem dY_isStation_6 : decode cY_isStation 6 = .ok (.getfield 38, 3) := by decide +kernel
theorem dY_isStation_9 : decode cY_isStation 9 = .ok (.if_icmp .ge 7, 3) := by decide +kernel
theorem dY_isStation_12 : decode cY_isStation 12 = .ok (.iconst 1, 1) := by decide +kernel
theorem dY_isStation_13 : decode cY_isStation 13 = .ok (.goto 4, 3) := by decide +kernel
theorem dY_isStation_16 : decode cY_isStation 16 = .ok (.iconst 0, 1) := by decide +kernel
theorem dY_isStation_17 : decode cY_isStation 17 = .ok (.ireturn, 1) := by decide +kernel
theorem dY_hasTrain_0 : decode cY_hasTrain 0 = .ok (.iload_n 1, 1) := by decide +kernel
theorem dY_hasTrain_1 : decode cY_hasTrain 1 = .ok (.ifCond .lt 15, 3) := by decide +kernel
theorem dY_hasTrain_4 : decode cY_hasTrain 4 = .ok (.iload_n 1, 1) := by decide +kernel
theorem dY_hasTrain_5 : decode cY_hasTrain 5 = .ok (.aload_n 0, 1) := by decide +kernel
theorem dY_hasTrain_6 : decode cY_hasTrain 6 = .ok (.getfield 45, 3) := by decide +kernel
theorem dY_hasTrain_9 : decode cY_hasTrain 9 = .ok (.if_icmp .ge 7, 3) := by decide +kernel
theorem dY_hasTrain_12 : decode cY_hasTrain 12 = .ok (.iconst 1, 1) := by decide +kernel
theorem dY_hasTrain_13 : decode cY_hasTrain 13 = .ok (.goto 4, 3) := by decide +kernel
theorem dY_hasTrain_16 : decode cY_hasTrain 16 = .ok (.iconst 0, 1) := by decide +kernel
theorem dY_hasTrain_17 : decode cY_hasTrain 17 = .ok (.ireturn, 1) := by decide +kernel
theorem dY_stationOn_0 : decode cY_stationOn 0 = .ok (.iconst 0, 1) := by decide +kernel
theorem dY_stationOn_1 : decode cY_stationOn 1 = .ok (.istore_n 2, 1) := by decide +kernel
theorem dY_stationOn_2 : decode cY_stationOn 2 = .ok (.iload_n 2, 1) := by decide +kernel
theorem dY_stationOn_3 : decode cY_stationOn 3 = .ok (.aload_n 0, 1) := by decide +kernel
theorem dY_stationOn_4 : decode cY_stationOn 4 = .ok (.getfield 38, 3) := by decide +kernel
theorem dY_stationOn_7 : decode cY_stationOn 7 = .ok (.if_icmp .ge 24, 3) := by decide +kernel
theorem dY_stationOn_10 : decode cY_stationOn 10 = .ok (.aload_n 0, 1) := by decide +kernel
theorem dY_stationOn_11 : decode cY_stationOn 11 = .ok (.getfield 11, 3) := by decide +kernel
theorem dY_stationOn_14 : decode cY_stationOn 14 = .ok (.iload_n 2, 1) := by decide +kernel
theorem dY_stationOn_15 : decode cY_stationOn 15 = .ok (.aaload, 1) := by decide +kernel
theorem dY_stationOn_16 : decode cY_stationOn 16 = .ok (.getfield 60, 3) := by decide +kernel
theorem dY_stationOn_19 : decode cY_stationOn 19 = .ok (.iload_n 1, 1) := by decide +kernel
theorem dY_stationOn_20 : decode cY_stationOn 20 = .ok (.if_icmp .ne 5, 3) := by decide +kernel
theorem dY_stationOn_23 : decode cY_stationOn 23 = .ok (.iload_n 2, 1) := by decide +kernel
theorem dY_stationOn_24 : decode cY_stationOn 24 = .ok (.ireturn, 1) := by decide +kernel
theorem dY_stationOn_25 : decode cY_stationOn 25 = .ok (.iinc 2 1, 3) := by decide +kernel
theorem dY_stationOn_28 : decode cY_stationOn 28 = .ok (.goto (-26), 3) := by decide +kernel
theorem dY_stationOn_31 : decode cY_stationOn 31 = .ok (.iconst (-1), 1) := by decide +kernel
theorem dY_stationOn_32 : decode cY_stationOn 32 = .ok (.ireturn, 1) := by decide +kernel
theorem dY_hasStation_0 : decode cY_hasStation 0 = .ok (.aload_n 0, 1) := by decide +kernel
theorem dY_hasStation_1 : decode cY_hasStation 1 = .ok (.iload_n 1, 1) := by decide +kernel
theorem dY_hasStation_2 : decode cY_hasStation 2 = .ok (.iconst 0, 1) := by decide +kernel
theorem dY_hasStation_3 : decode cY_hasStation 3 = .ok (.invokestatic 63, 3) := by decide +kernel
theorem dY_hasStation_6 : decode cY_hasStation 6 = .ok (.invokevirtual 68, 3) := by decide +kernel
theorem dY_hasStation_9 : decode cY_hasStation 9 = .ok (.iconst (-1), 1) := by decide +kernel
theorem dY_hasStation_10 : decode cY_hasStation 10 = .ok (.if_icmp .ne 16, 3) := by decide +kernel
theorem dY_hasStation_13 : decode cY_hasStation 13 = .ok (.aload_n 0, 1) := by decide +kernel
theorem dY_hasStation_14 : decode cY_hasStation 14 = .ok (.iload_n 1, 1) := by decide +kernel
theorem dY_hasStation_15 : decode cY_hasStation 15 = .ok (.iconst 1, 1) := by decide +kernel
theorem dY_hasStation_16 : decode cY_hasStation 16 = .ok (.invokestatic 63, 3) := by decide +kernel
theorem dY_hasStation_19 : decode cY_hasStation 19 = .ok (.invokevirtual 68, 3) := by decide +kernel
theorem dY_hasStation_22 : decode cY_hasStation 22 = .ok (.iconst (-1), 1) := by decide +kernel
theorem dY_hasStation_23 : decode cY_hasStation 23 = .ok (.if_icmp .eq 7, 3) := by decide +kernel
theorem dY_hasStation_26 : decode cY_hasStation 26 = .ok (.iconst 1, 1) := by decide +kernel
theorem dY_hasStation_27 : decode cY_hasStation 27 = .ok (.goto 4, 3) := by decide +kernel
theorem dY_hasStation_30 : decode cY_hasStation 30 = .ok (.iconst 0, 1) := by decide +kernel
theorem dY_hasStation_31 : decode cY_hasStation 31 = .ok (.ireturn, 1) := by decide +kernel
theorem dT_open_0 : decode cT_open 0 = .ok (.aload_n 0, 1) := by decide +kernel
theorem dT_open_1 : decode cT_open 1 = .ok (.iload_n 1, 1) := by decide +kernel
theorem dT_open_2 : decode cT_open 2 = .ok (.putfield 9, 3) := by decide +kernel
theorem dT_open_5 : decode cT_open 5 = .ok (.aload_n 0, 1) := by decide +kernel
theorem dT_open_6 : decode cT_open 6 = .ok (.iload_n 2, 1) := by decide +kernel
theorem dT_open_7 : decode cT_open 7 = .ok (.putfield 15, 3) := by decide +kernel
theorem dT_open_10 : decode cT_open 10 = .ok (.aload_n 0, 1) := by decide +kernel
theorem dT_open_11 : decode cT_open 11 = .ok (.iconst 0, 1) := by decide +kernel
theorem dT_open_12 : decode cT_open 12 = .ok (.putfield 18, 3) := by decide +kernel
theorem dT_open_15 : decode cT_open 15 = .ok (.return_, 1) := by decide +kernel
theorem dT_grow_0 : decode cT_grow 0 = .ok (.aload_n 0, 1) := by decide +kernel
theorem dT_grow_1 : decode cT_grow 1 = .ok (.getfield 15, 3) := by decide +kernel
theorem dT_grow_4 : decode cT_grow 4 = .ok (.sipush 500, 3) := by decide +kernel
theorem dT_grow_7 : decode cT_grow 7 = .ok (.aload_n 0, 1) := by decide +kernel
theorem dT_grow_8 : decode cT_grow 8 = .ok (.getfield 18, 3) := by decide +kernel
theorem dT_grow_11 : decode cT_grow 11 = .ok (.isub, 1) := by decide +kernel
theorem dT_grow_12 : decode cT_grow 12 = .ok (.invokestatic 21, 3) := by decide +kernel
theorem dT_grow_15 : decode cT_grow 15 = .ok (.istore_n 1, 1) := by decide +kernel
theorem dT_grow_16 : decode cT_grow 16 = .ok (.aload_n 0, 1) := by decide +kernel
theorem dT_grow_17 : decode cT_grow 17 = .ok (.dup, 1) := by decide +kernel
theorem dT_grow_18 : decode cT_grow 18 = .ok (.getfield 18, 3) := by decide +kernel
theorem dT_grow_21 : decode cT_grow 21 = .ok (.iload_n 1, 1) := by decide +kernel
theorem dT_grow_22 : decode cT_grow 22 = .ok (.iadd, 1) := by decide +kernel
theorem dT_grow_23 : decode cT_grow 23 = .ok (.putfield 18, 3) := by decide +kernel
theorem dT_grow_26 : decode cT_grow 26 = .ok (.iload_n 1, 1) := by decide +kernel
theorem dT_grow_27 : decode cT_grow 27 = .ok (.ireturn, 1) := by decide +kernel
theorem dT_take_0 : decode cT_take 0 = .ok (.aload_n 0, 1) := by decide +kernel
theorem dT_take_1 : decode cT_take 1 = .ok (.getfield 18, 3) := by decide +kernel
theorem dT_take_4 : decode cT_take 4 = .ok (.iload_n 1, 1) := by decide +kernel
theorem dT_take_5 : decode cT_take 5 = .ok (.invokestatic 21, 3) := by decide +kernel
theorem dT_take_8 : decode cT_take 8 = .ok (.istore_n 2, 1) := by decide +kernel
theorem dT_take_9 : decode cT_take 9 = .ok (.aload_n 0, 1) := by decide +kernel
theorem dT_take_10 : decode cT_take 10 = .ok (.dup, 1) := by decide +kernel
theorem dT_take_11 : decode cT_take 11 = .ok (.getfield 18, 3) := by decide +kernel
theorem dT_take_14 : decode cT_take 14 = .ok (.iload_n 2, 1) := by decide +kernel
theorem dT_take_15 : decode cT_take 15 = .ok (.isub, 1) := by decide +kernel
theorem dT_take_16 : decode cT_take 16 = .ok (.putfield 18, 3) := by decide +kernel
theorem dT_take_19 : decode cT_take 19 = .ok (.iload_n 2, 1) := by decide +kernel
theorem dT_take_20 : decode cT_take 20 = .ok (.ireturn, 1) := by decide +kernel
theorem dT_copyFrom_0 : decode cT_copyFrom 0 = .ok (.aload_n 0, 1) := by decide +kernel
theorem dT_copyFrom_1 : decode cT_copyFrom 1 = .ok (.aload_n 1, 1) := by decide +kernel
theorem dT_copyFrom_2 : decode cT_copyFrom 2 = .ok (.getfield 9, 3) := by decide +kernel
theorem dT_copyFrom_5 : decode cT_copyFrom 5 = .ok (.putfield 9, 3) := by decide +kernel
theorem dT_copyFrom_8 : decode cT_copyFrom 8 = .ok (.aload_n 0, 1) := by decide +kernel
theorem dT_copyFrom_9 : decode cT_copyFrom 9 = .ok (.aload_n 1, 1) := by decide +kernel
theorem dT_copyFrom_10 : decode cT_copyFrom 10 = .ok (.getfield 15, 3) := by decide +kernel
theorem dT_copyFrom_13 : decode cT_copyFrom 13 = .ok (.putfield 15, 3) := by decide +kernel
theorem dT_copyFrom_16 : decode cT_copyFrom 16 = .ok (.aload_n 0, 1) := by decide +kernel
theorem dT_copyFrom_17 : decode cT_copyFrom 17 = .ok (.aload_n 1, 1) := by decide +kernel
theorem dT_copyFrom_18 : decode cT_copyFrom 18 = .ok (.getfield 18, 3) := by decide +kernel
theorem dT_copyFrom_21 : decode cT_copyFrom 21 = .ok (.putfield 18, 3) := by decide +kernel
theorem dT_copyFrom_24 : decode cT_copyFrom 24 = .ok (.return_, 1) := by decide +kernel
theorem dN_ahead_0 : decode cN_ahead 0 = .ok (.aload_n 0, 1) := by decide +kernel
theorem dN_ahead_1 : decode cN_ahead 1 = .ok (.getfield 27, 3) := by decide +kernel
theorem dN_ahead_4 : decode cN_ahead 4 = .ok (.aload_n 0, 1) := by decide +kernel
theorem dN_ahead_5 : decode cN_ahead 5 = .ok (.getfield 24, 3) := by decide +kernel
theorem dN_ahead_8 : decode cN_ahead 8 = .ok (.isub, 1) := by decide +kernel
theorem dN_ahead_9 : decode cN_ahead 9 = .ok (.ireturn, 1) := by decide +kernel
theorem dN_last_0 : decode cN_last 0 = .ok (.aload_n 0, 1) := by decide +kernel
theorem dN_last_1 : decode cN_last 1 = .ok (.getfield 9, 3) := by decide +kernel
theorem dN_last_4 : decode cN_last 4 = .ok (.aload_n 0, 1) := by decide +kernel
theorem dN_last_5 : decode cN_last 5 = .ok (.getfield 27, 3) := by decide +kernel
theorem dN_last_8 : decode cN_last 8 = .ok (.iconst 1, 1) := by decide +kernel
theorem dN_last_9 : decode cN_last 9 = .ok (.isub, 1) := by decide +kernel
theorem dN_last_10 : decode cN_last 10 = .ok (.iaload, 1) := by decide +kernel
theorem dN_last_11 : decode cN_last 11 = .ok (.ireturn, 1) := by decide +kernel
theorem dN_goesFor_0 : decode cN_goesFor 0 = .ok (.aload_n 0, 1) := by decide +kernel
theorem dN_goesFor_1 : decode cN_goesFor 1 = .ok (.getfield 38, 3) := by decide +kernel
theorem dN_goesFor_4 : decode cN_goesFor 4 = .ok (.ifCond .le 15, 3) := by decide +kernel
theorem dN_goesFor_7 : decode cN_goesFor 7 = .ok (.aload_n 0, 1) := by decide +kernel
theorem dN_goesFor_8 : decode cN_goesFor 8 = .ok (.getfield 15, 3) := by decide +kernel
theorem dN_goesFor_11 : decode cN_goesFor 11 = .ok (.aload_n 0, 1) := by decide +kernel
theorem dN_goesFor_12 : decode cN_goesFor 12 = .ok (.getfield 41, 3) := by decide +kernel
theorem dN_goesFor_15 : decode cN_goesFor 15 = .ok (.iaload, 1) := by decide +kernel
theorem dN_goesFor_16 : decode cN_goesFor 16 = .ok (.goto 4, 3) := by decide +kernel
theorem dN_goesFor_19 : decode cN_goesFor 19 = .ok (.iconst (-1), 1) := by decide +kernel
theorem dN_goesFor_20 : decode cN_goesFor 20 = .ok (.ireturn, 1) := by decide +kernel
theorem dN_takeNextOrder_0 : decode cN_takeNextOrder 0 = .ok (.aload_n 0, 1) := by decide +kernel
theorem dN_takeNextOrder_1 : decode cN_takeNextOrder 1 = .ok (.aload_n 0, 1) := by decide +kernel
theorem dN_takeNextOrder_2 : decode cN_takeNextOrder 2 = .ok (.getfield 41, 3) := by decide +kernel
theorem dN_takeNextOrder_5 : decode cN_takeNextOrder 5 = .ok (.iconst 1, 1) := by decide +kernel
theorem dN_takeNextOrder_6 : decode cN_takeNextOrder 6 = .ok (.iadd, 1) := by decide +kernel
theorem dN_takeNextOrder_7 : decode cN_takeNextOrder 7 = .ok (.aload_n 0, 1) := by decide +kernel
theorem dN_takeNextOrder_8 : decode cN_takeNextOrder 8 = .ok (.getfield 38, 3) := by decide +kernel
theorem dN_takeNextOrder_11 : decode cN_takeNextOrder 11 = .ok (.if_icmp .ge 12, 3) := by decide +kernel
theorem dN_takeNextOrder_14 : decode cN_takeNextOrder 14 = .ok (.aload_n 0, 1) := by decide +kernel
theorem dN_takeNextOrder_15 : decode cN_takeNextOrder 15 = .ok (.getfield 41, 3) := by decide +kernel
theorem dN_takeNextOrder_18 : decode cN_takeNextOrder 18 = .ok (.iconst 1, 1) := by decide +kernel
theorem dN_takeNextOrder_19 : decode cN_takeNextOrder 19 = .ok (.iadd, 1) := by decide +kernel
theorem dN_takeNextOrder_20 : decode cN_takeNextOrder 20 = .ok (.goto 4, 3) := by decide +kernel
theorem dN_takeNextOrder_23 : decode cN_takeNextOrder 23 = .ok (.iconst 0, 1) := by decide +kernel
theorem dN_takeNextOrder_24 : decode cN_takeNextOrder 24 = .ok (.putfield 41, 3) := by decide +kernel
theorem dN_takeNextOrder_27 : decode cN_takeNextOrder 27 = .ok (.return_, 1) := by decide +kernel
theorem dN_nextSpeed_0 : decode cN_nextSpeed 0 = .ok (.aload_n 0, 1) := by decide +kernel
theorem dN_nextSpeed_1 : decode cN_nextSpeed 1 = .ok (.getfield 29, 3) := by decide +kernel
theorem dN_nextSpeed_4 : decode cN_nextSpeed 4 = .ok (.iconst 1, 1) := by decide +kernel
theorem dN_nextSpeed_5 : decode cN_nextSpeed 5 = .ok (.iadd, 1) := by decide +kernel
theorem dN_nextSpeed_6 : decode cN_nextSpeed 6 = .ok (.iconst 3, 1) := by decide +kernel
theorem dN_nextSpeed_7 : decode cN_nextSpeed 7 = .ok (.invokestatic 54, 3) := by decide +kernel
theorem dN_nextSpeed_10 : decode cN_nextSpeed 10 = .ok (.istore_n 1, 1) := by decide +kernel
theorem dN_nextSpeed_11 : decode cN_nextSpeed 11 = .ok (.iload_n 1, 1) := by decide +kernel
theorem dN_nextSpeed_12 : decode cN_nextSpeed 12 = .ok (.ifCond .le 23, 3) := by decide +kernel
theorem dN_nextSpeed_15 : decode cN_nextSpeed 15 = .ok (.iload_n 1, 1) := by decide +kernel
theorem dN_nextSpeed_16 : decode cN_nextSpeed 16 = .ok (.iload_n 1, 1) := by decide +kernel
theorem dN_nextSpeed_17 : decode cN_nextSpeed 17 = .ok (.iconst 1, 1) := by decide +kernel
theorem dN_nextSpeed_18 : decode cN_nextSpeed 18 = .ok (.iadd, 1) := by decide +kernel
theorem dN_nextSpeed_19 : decode cN_nextSpeed 19 = .ok (.imul, 1) := by decide +kernel
theorem dN_nextSpeed_20 : decode cN_nextSpeed 20 = .ok (.iconst 2, 1) := by decide +kernel
theorem dN_nextSpeed_21 : decode cN_nextSpeed 21 = .ok (.idiv, 1) := by decide +kernel
theorem dN_nextSpeed_22 : decode cN_nextSpeed 22 = .ok (.aload_n 0, 1) := by decide +kernel
theorem dN_nextSpeed_23 : decode cN_nextSpeed 23 = .ok (.invokevirtual 60, 3) := by decide +kernel
theorem dN_nextSpeed_26 : decode cN_nextSpeed 26 = .ok (.if_icmp .le 9, 3) := by decide +kernel
theorem dN_nextSpeed_29 : decode cN_nextSpeed 29 = .ok (.iinc 1 (-1), 3) := by decide +kernel
theorem dN_nextSpeed_32 : decode cN_nextSpeed 32 = .ok (.goto (-21), 3) := by decide +kernel
theorem dN_nextSpeed_35 : decode cN_nextSpeed 35 = .ok (.iload_n 1, 1) := by decide +kernel
theorem dN_nextSpeed_36 : decode cN_nextSpeed 36 = .ok (.ireturn, 1) := by decide +kernel
theorem dN_moveOn_0 : decode cN_moveOn 0 = .ok (.aload_n 0, 1) := by decide +kernel
theorem dN_moveOn_1 : decode cN_moveOn 1 = .ok (.dup, 1) := by decide +kernel
theorem dN_moveOn_2 : decode cN_moveOn 2 = .ok (.getfield 27, 3) := by decide +kernel
theorem dN_moveOn_5 : decode cN_moveOn 5 = .ok (.iconst 1, 1) := by decide +kernel
theorem dN_moveOn_6 : decode cN_moveOn 6 = .ok (.isub, 1) := by decide +kernel
theorem dN_moveOn_7 : decode cN_moveOn 7 = .ok (.putfield 27, 3) := by decide +kernel
theorem dN_moveOn_10 : decode cN_moveOn 10 = .ok (.aload_n 0, 1) := by decide +kernel
theorem dN_moveOn_11 : decode cN_moveOn 11 = .ok (.getfield 9, 3) := by decide +kernel
theorem dN_moveOn_14 : decode cN_moveOn 14 = .ok (.iconst 1, 1) := by decide +kernel
theorem dN_moveOn_15 : decode cN_moveOn 15 = .ok (.aload_n 0, 1) := by decide +kernel
theorem dN_moveOn_16 : decode cN_moveOn 16 = .ok (.getfield 9, 3) := by decide +kernel
theorem dN_moveOn_19 : decode cN_moveOn 19 = .ok (.iconst 0, 1) := by decide +kernel
theorem dN_moveOn_20 : decode cN_moveOn 20 = .ok (.aload_n 0, 1) := by decide +kernel
theorem dN_moveOn_21 : decode cN_moveOn 21 = .ok (.getfield 27, 3) := by decide +kernel
theorem dN_moveOn_24 : decode cN_moveOn 24 = .ok (.invokestatic 48, 3) := by decide +kernel
theorem dN_moveOn_27 : decode cN_moveOn 27 = .ok (.aload_n 0, 1) := by decide +kernel
theorem dN_moveOn_28 : decode cN_moveOn 28 = .ok (.iconst 0, 1) := by decide +kernel
theorem dN_moveOn_29 : decode cN_moveOn 29 = .ok (.putfield 44, 3) := by decide +kernel
theorem dN_moveOn_32 : decode cN_moveOn 32 = .ok (.return_, 1) := by decide +kernel
theorem dW_forget_0 : decode cW_forget 0 = .ok (.aload_n 0, 1) := by decide +kernel
theorem dW_forget_1 : decode cW_forget 1 = .ok (.iconst 0, 1) := by decide +kernel
theorem dW_forget_2 : decode cW_forget 2 = .ok (.putfield 23, 3) := by decide +kernel
theorem dW_forget_5 : decode cW_forget 5 = .ok (.return_, 1) := by decide +kernel
theorem lfY_38 : Cond.fieldLink R_Y 38 "RailYard$Yard" "stationCount" "I" ∈ bigW := bw 220 (by decide +kernel) rfl
theorem lfY_45 : Cond.fieldLink R_Y 45 "RailYard$Yard" "trainCount" "I" ∈ bigW := bw 222 (by decide +kernel) rfl
theorem lfY_11 : Cond.fieldLink R_Y 11 "RailYard$Yard" "stations" "[LRailYard$Station;" ∈ bigW := bw 216 (by decide +kernel) rfl
theorem lfY_60 : Cond.fieldLinkNest R_Y 60 "RailYard$Station" "place" "I" hostN ∈ nestW := nw 157 (by decide +kernel) rfl
theorem lmY_63 : Cond.methodLink R_Y 63 yS_place ∈ bigW := bw 333 (by decide +kernel) rfl
theorem lmY_68 : Cond.methodLink R_Y 68 yY_stationOn ∈ bigW := bw 334 (by decide +kernel) rfl
theorem lfT_9 : Cond.fieldLink R_T 9 "RailYard$Station" "place" "I" ∈ bigW := bw 156 (by decide +kernel) rfl
theorem lfT_15 : Cond.fieldLink R_T 15 "RailYard$Station" "rate" "I" ∈ bigW := bw 159 (by decide +kernel) rfl
theorem lfT_18 : Cond.fieldLink R_T 18 "RailYard$Station" "cargo" "I" ∈ bigW := bw 160 (by decide +kernel) rfl
theorem lmT_21 : Cond.methodLink R_T 21 Lib.Math.min.name ∈ bigW := bw 438 (by decide +kernel) rfl
theorem lw_mmin1 : Cond.static Lib.Math.min.name ∈ bigW := bw 107 (by decide +kernel) rfl
theorem lw_mmin2 : Cond.initialized "java/lang/Math" ∈ bigW := bw 42 (by decide +kernel) rfl
theorem lw_mmin3 : Cond.code Lib.Math.min.name Lib.Math.min.code 2 (some .int) ∈ bigW := bw 108 (by decide +kernel) rfl
theorem lfN_27 : Cond.fieldLink R_N 27 "RailYard$Train" "count" "I" ∈ bigW := bw 176 (by decide +kernel) rfl
theorem lfN_24 : Cond.fieldLink R_N 24 "RailYard$Train" "length" "I" ∈ bigW := bw 178 (by decide +kernel) rfl
theorem lfN_9 : Cond.fieldLink R_N 9 "RailYard$Train" "runs" "[I" ∈ bigW := bw 174 (by decide +kernel) rfl
theorem lfN_38 : Cond.fieldLink R_N 38 "RailYard$Train" "orderCount" "I" ∈ bigW := bw 188 (by decide +kernel) rfl
theorem lfN_15 : Cond.fieldLink R_N 15 "RailYard$Train" "orders" "[I" ∈ bigW := bw 186 (by decide +kernel) rfl
theorem lfN_41 : Cond.fieldLink R_N 41 "RailYard$Train" "turn" "I" ∈ bigW := bw 190 (by decide +kernel) rfl
theorem lmN_60 : Cond.methodLink R_N 60 yN_ahead ∈ bigW := bw 530 (by decide +kernel) rfl
theorem lfN_29 : Cond.fieldLink R_N 29 "RailYard$Train" "speed" "I" ∈ bigW := bw 180 (by decide +kernel) rfl
theorem lmN_54 : Cond.methodLink R_N 54 Lib.Math.min.name ∈ bigW := bw 529 (by decide +kernel) rfl
theorem lmN_48 : Cond.methodLink R_N 48 arraycopyName ∈ bigW := bw 535 (by decide +kernel) rfl
theorem lw_ac1 : Cond.native arraycopyName ∈ bigW := bw 537 (by decide +kernel) rfl
theorem lw_ac2 : Cond.static arraycopyName ∈ bigW := bw 536 (by decide +kernel) rfl
theorem lw_ac3 : Cond.initialized "java/lang/System" ∈ bigW := bw 50 (by decide +kernel) rfl
theorem lfN_44 : Cond.fieldLink R_N 44 "RailYard$Train" "hasLoaded" "Z" ∈ bigW := bw 191 (by decide +kernel) rfl
theorem lfW_23 : Cond.fieldLink R_W 23 "RailYard$Ways" "known" "I" ∈ bigW := bw 68 (by decide +kernel) rfl
theorem miY_stationOn : MI yY_stationOn cY_stationOn 3 (some .int) 1 := ⟨bw 289 (by decide +kernel) rfl, bw 43 (by decide +kernel) rfl, ⟨by decide +kernel, by decide +kernel⟩, by decide +kernel, by decide⟩
theorem mvY_stationOn : MV yY_stationOn := ⟨bw 287 (by decide +kernel) rfl, bw 288 (by decide +kernel) rfl⟩
theorem miN_ahead : MI yN_ahead cN_ahead 1 (some .int) 0 := ⟨bw 417 (by decide +kernel) rfl, bw 47 (by decide +kernel) rfl, ⟨by decide +kernel, by decide +kernel⟩, by decide +kernel, by decide⟩
theorem mvN_ahead : MV yN_ahead := ⟨bw 415 (by decide +kernel) rfl, bw 416 (by decide +kernel) rfl⟩
theorem st7_at {i : Int} (h : 0 ≤ i ∧ i < 6) : [7, 8, 9, 10, 11, 12][i.toNat]? = some (7 + i.toNat) := by
  rcases (show i = 0 ∨ i = 1 ∨ i = 2 ∨ i = 3 ∨ i = 4 ∨ i = 5 by omega) with rfl | rfl | rfl | rfl | rfl | rfl <;> rfl
theorem st7_sh {i : Int} (h : 0 ≤ i ∧ i < 6) : shp[7 + i.toNat]? = some (.inr (.inl (1, [none, none, none]))) := by
  rcases (show i = 0 ∨ i = 1 ∨ i = 2 ∨ i = 3 ∨ i = 4 ∨ i = 5 by omega) with rfl | rfl | rfl | rfl | rfl | rfl <;> rfl
theorem st38_at {i : Int} (h : 0 ≤ i ∧ i < 6) : [38, 39, 40, 41, 42, 43][i.toNat]? = some (38 + i.toNat) := by
  rcases (show i = 0 ∨ i = 1 ∨ i = 2 ∨ i = 3 ∨ i = 4 ∨ i = 5 by omega) with rfl | rfl | rfl | rfl | rfl | rfl <;> rfl
theorem st38_sh {i : Int} (h : 0 ≤ i ∧ i < 6) : shp[38 + i.toNat]? = some (.inr (.inl (1, [none, none, none]))) := by
  rcases (show i = 0 ∨ i = 1 ∨ i = 2 ∨ i = 3 ∨ i = 4 ∨ i = 5 by omega) with rfl | rfl | rfl | rfl | rfl | rfl <;> rfl
theorem tr14_at {i : Int} (h : 0 ≤ i ∧ i < 6) : [14, 15, 16, 17, 18, 19][i.toNat]? = some (14 + i.toNat) := by
  rcases (show i = 0 ∨ i = 1 ∨ i = 2 ∨ i = 3 ∨ i = 4 ∨ i = 5 by omega) with rfl | rfl | rfl | rfl | rfl | rfl <;> rfl
theorem tr14_sh {i : Int} (h : 0 ≤ i ∧ i < 6) : shp[14 + i.toNat]? = some (.inr (.inl (3, [some (20 + i.toNat), none, none, none, none, none, some (26 + i.toNat), none, none, none]))) := by
  rcases (show i = 0 ∨ i = 1 ∨ i = 2 ∨ i = 3 ∨ i = 4 ∨ i = 5 by omega) with rfl | rfl | rfl | rfl | rfl | rfl <;> rfl
theorem tr45_at {i : Int} (h : 0 ≤ i ∧ i < 6) : [45, 46, 47, 48, 49, 50][i.toNat]? = some (45 + i.toNat) := by
  rcases (show i = 0 ∨ i = 1 ∨ i = 2 ∨ i = 3 ∨ i = 4 ∨ i = 5 by omega) with rfl | rfl | rfl | rfl | rfl | rfl <;> rfl
theorem tr45_sh {i : Int} (h : 0 ≤ i ∧ i < 6) : shp[45 + i.toNat]? = some (.inr (.inl (3, [some (51 + i.toNat), none, none, none, none, none, some (57 + i.toNat), none, none, none]))) := by
  rcases (show i = 0 ∨ i = 1 ∨ i = 2 ∨ i = 3 ∨ i = 4 ∨ i = 5 by omega) with rfl | rfl | rfl | rfl | rfl | rfl <;> rfl
theorem ls65_at {i : Int} (h : 0 ≤ i ∧ i < 6) : [65, 66, 67, 68, 69, 70][i.toNat]? = some (65 + i.toNat) := by
  rcases (show i = 0 ∨ i = 1 ∨ i = 2 ∨ i = 3 ∨ i = 4 ∨ i = 5 by omega) with rfl | rfl | rfl | rfl | rfl | rfl <;> rfl
theorem ls65_sh {i : Int} (h : 0 ≤ i ∧ i < 6) : shp[65 + i.toNat]? = some (.inl (0, 256)) := by
  rcases (show i = 0 ∨ i = 1 ∨ i = 2 ∨ i = 3 ∨ i = 4 ∨ i = 5 by omega) with rfl | rfl | rfl | rfl | rfl | rfl <;> rfl
theorem rn20_sh {i : Int} (h : 0 ≤ i ∧ i < 6) : shp[20 + i.toNat]? = some (.inl (0, 96)) := by
  rcases (show i = 0 ∨ i = 1 ∨ i = 2 ∨ i = 3 ∨ i = 4 ∨ i = 5 by omega) with rfl | rfl | rfl | rfl | rfl | rfl <;> rfl
theorem od26_sh {i : Int} (h : 0 ≤ i ∧ i < 6) : shp[26 + i.toNat]? = some (.inl (0, 6)) := by
  rcases (show i = 0 ∨ i = 1 ∨ i = 2 ∨ i = 3 ∨ i = 4 ∨ i = 5 by omega) with rfl | rfl | rfl | rfl | rfl | rfl <;> rfl
theorem rn51_sh {i : Int} (h : 0 ≤ i ∧ i < 6) : shp[51 + i.toNat]? = some (.inl (0, 96)) := by
  rcases (show i = 0 ∨ i = 1 ∨ i = 2 ∨ i = 3 ∨ i = 4 ∨ i = 5 by omega) with rfl | rfl | rfl | rfl | rfl | rfl <;> rfl
theorem od57_sh {i : Int} (h : 0 ≤ i ∧ i < 6) : shp[57 + i.toNat]? = some (.inl (0, 6)) := by
  rcases (show i = 0 ∨ i = 1 ∨ i = 2 ∨ i = 3 ∨ i = 4 ∨ i = 5 by omega) with rfl | rfl | rfl | rfl | rfl | rfl <;> rfl

theorem ctY_isStation {G : vG} {l : Launch} {w : RW} {s : Int} : CTi G l yY_isStation cY_isStation 2 .boolean 0 [.inr 1, .inl s] w (fun r u => r = bz (0 ≤ s ∧ s < w 1 3) ∧ w = u) := by
  refine CTi.bool (by decide) (Nat.le_of_ble_eq_true rfl) ?_
  intro X Q F hX hR
  subst hX
  show V G X 2 Q 0 [some (.inr 1), some (.inl s)] [] w
  refine V_iload_n (i := 1) F dY_isStation_0 rfl rfl ?_
  refine V_if_lt F 16 dY_isStation_1 (by decide) (fun h1 => ?_) (fun h1 => ?_)
  · refine V_iconst F dY_isStation_16 (by decide) ?_
    exact hR _ _ _ _ dY_isStation_17 (by first | exact Or.inl rfl | exact Or.inr rfl | exact bz_01 _ | assumption) (by first | exact ⟨(bz_t (by omega)).symm, rfl⟩ | exact ⟨(bz_f (by omega)).symm, rfl⟩)
  · refine V_iload_n (i := 1) F dY_isStation_4 rfl rfl ?_
    refine V_aload_n (i := 0) F dY_isStation_5 rfl rfl ?_
    refine V_geti (ci := 5) (C := R_Y) (T := T_Y) (N := 8) F dY_isStation_6 (by first | rfl | assumption) rfl (j := 3) 3 rfl (by decide) rfl lfY_38 ?_
    refine V_icmp_ge F 16 dY_isStation_9 (by decide) (fun h9 => ?_) (fun h9 => ?_)
    · refine V_iconst F dY_isStation_16 (by decide) ?_
      exact hR _ _ _ _ dY_isStation_17 (by first | exact Or.inl rfl | exact Or.inr rfl | exact bz_01 _ | assumption) (by first | exact ⟨(bz_t (by omega)).symm, rfl⟩ | exact ⟨(bz_f (by omega)).symm, rfl⟩)
    · refine V_iconst F dY_isStation_12 (by decide) ?_
      refine V_goto F 17 dY_isStation_13 (by decide) ?_
      exact hR _ _ _ _ dY_isStation_17 (by first | exact Or.inl rfl | exact Or.inr rfl | exact bz_01 _ | assumption) (by first | exact ⟨(bz_t (by omega)).symm, rfl⟩ | exact ⟨(bz_f (by omega)).symm, rfl⟩)
theorem ctY_hasTrain {G : vG} {l : Launch} {w : RW} {t : Int} : CTi G l yY_hasTrain cY_hasTrain 2 .boolean 0 [.inr 1, .inl t] w (fun r u => r = bz (0 ≤ t ∧ t < w 1 4) ∧ w = u) := by
  refine CTi.bool (by decide) (Nat.le_of_ble_eq_true rfl) ?_
  intro X Q F hX hR
  subst hX
  show V G X 2 Q 0 [some (.inr 1), some (.inl t)] [] w
  refine V_iload_n (i := 1) F dY_hasTrain_0 rfl rfl ?_
  refine V_if_lt F 16 dY_hasTrain_1 (by decide) (fun h1 => ?_) (fun h1 => ?_)
  · refine V_iconst F dY_hasTrain_16 (by decide) ?_
    exact hR _ _ _ _ dY_hasTrain_17 (by first | exact Or.inl rfl | exact Or.inr rfl | exact bz_01 _ | assumption) (by first | exact ⟨(bz_t (by omega)).symm, rfl⟩ | exact ⟨(bz_f (by omega)).symm, rfl⟩)
  · refine V_iload_n (i := 1) F dY_hasTrain_4 rfl rfl ?_
    refine V_aload_n (i := 0) F dY_hasTrain_5 rfl rfl ?_
    refine V_geti (ci := 5) (C := R_Y) (T := T_Y) (N := 8) F dY_hasTrain_6 (by first | rfl | assumption) rfl (j := 4) 4 rfl (by decide) rfl lfY_45 ?_
    refine V_icmp_ge F 16 dY_hasTrain_9 (by decide) (fun h9 => ?_) (fun h9 => ?_)
    · refine V_iconst F dY_hasTrain_16 (by decide) ?_
      exact hR _ _ _ _ dY_hasTrain_17 (by first | exact Or.inl rfl | exact Or.inr rfl | exact bz_01 _ | assumption) (by first | exact ⟨(bz_t (by omega)).symm, rfl⟩ | exact ⟨(bz_f (by omega)).symm, rfl⟩)
    · refine V_iconst F dY_hasTrain_12 (by decide) ?_
      refine V_goto F 17 dY_hasTrain_13 (by decide) ?_
      exact hR _ _ _ _ dY_hasTrain_17 (by first | exact Or.inl rfl | exact Or.inr rfl | exact bz_01 _ | assumption) (by first | exact ⟨(bz_t (by omega)).symm, rfl⟩ | exact ⟨(bz_f (by omega)).symm, rfl⟩)
/-- a station stands on place p -/
def onS (w : RW) (p : Int) : Prop := ∃ s, 0 ≤ s ∧ s < w 1 3 ∧ w (7 + s.toNat) 0 = p
theorem lpY_stationOn {G : vG} {X : vX} {Q : State → Prop} {w : RW} {p : Int} (hc : w 1 3 ≤ 6) (F : FX G X cY_stationOn yY_stationOn.cls 3 0) (hR : RetI G X cY_stationOn 3 Q (fun r u => (r = -1 ↔ ¬ onS w p) ∧ w = u)) : ∀ (m : Nat) (i : Int), 0 ≤ i → i ≤ 6 → 6 - i < m → (∀ j, 0 ≤ j → j < i → ¬ w (7 + j.toNat) 0 = p) → V G X 3 Q 2 [some (.inr 1), some (.inl p), some (.inl i)] [] w := by
  intro m
  induction m with
  | zero => intro i h1 h2 h3; omega
  | succ m ih =>
    intro i h1 h2 h3 hn
    refine V_iload_n (i := 2) F dY_stationOn_2 rfl rfl ?_
    refine V_aload_n (i := 0) F dY_stationOn_3 rfl rfl ?_
    refine V_geti (ci := 5) (C := R_Y) (T := T_Y) (N := 8) F dY_stationOn_4 (by first | rfl | assumption) rfl (j := 3) 3 rfl (by decide) rfl lfY_38 ?_
    refine V_icmp_ge F 31 dY_stationOn_7 (by decide) (fun h7 => ?_) (fun h7 => ?_)
    · refine V_iconst F dY_stationOn_31 (by decide) ?_
      exact hR _ _ _ _ dY_stationOn_32 (by first | exact ⟨⟨fun q => by omega, fun q => absurd ⟨i, by omega, by omega, by assumption⟩ q⟩, rfl⟩ | exact ⟨⟨fun _ q => by obtain ⟨j, h1, h2, h3⟩ := q; exact hn j h1 (by omega) h3, fun _ => rfl⟩, rfl⟩)
    · have a1 := st7_at (i := i) (by omega)
      have a2 := st7_sh (i := i) (by omega)
      refine V_aload_n (i := 0) F dY_stationOn_10 rfl rfl ?_
      refine V_getr (ci := 5) (C := R_Y) (T := T_Y) (N := 8) F dY_stationOn_11 (by first | rfl | assumption) rfl (j := 1) (by decide) rfl lfY_11 ?_
      refine V_iload_n (i := 2) F dY_stationOn_14 rfl rfl ?_
      first
        | refine V_aald F dY_stationOn_15 (by first | rfl | assumption) rfl (by omega) (by first | rfl | assumption) ?_
        | refine V_aaldA F dY_stationOn_15 (by first | rfl | assumption) rfl (by omega) (by first | rfl | assumption) ?_
      refine V_getiN (ci := 1) (C := R_T) (T := T_T) (N := 3) F dY_stationOn_16 (by first | rfl | assumption) rfl (j := 0) 0 rfl (by decide) rfl lfY_60 ?_
      refine V_iload_n (i := 1) F dY_stationOn_19 rfl rfl ?_
      refine V_icmp_ne F 25 dY_stationOn_20 (by decide) (fun h20 => ?_) (fun h20 => ?_)
      · refine V_iinc F dY_stationOn_25 (by decide) rfl (by omega) (by simp only [List.set_cons_zero, List.set_cons_succ]; exact rfl) ?_
        refine V_goto F 2 dY_stationOn_28 (by decide) ?_
        exact ih (i + 1) (by omega) (by omega) (by omega) (fun j h1 h2 => by
          by_cases hj : j = i
          · rw [hj]; assumption
          · exact hn j h1 (by omega))
      · refine V_iload_n (i := 2) F dY_stationOn_23 rfl rfl ?_
        exact hR _ _ _ _ dY_stationOn_24 (by first | exact ⟨⟨fun q => by omega, fun q => absurd ⟨i, by omega, by omega, by assumption⟩ q⟩, rfl⟩ | exact ⟨⟨fun _ q => by obtain ⟨j, h1, h2, h3⟩ := q; exact hn j h1 (by omega) h3, fun _ => rfl⟩, rfl⟩)
theorem ctY_stationOn {G : vG} {l : Launch} {w : RW} {p : Int} (hc : w 1 3 ≤ 6) : CTi G l yY_stationOn cY_stationOn 3 .int 0 [.inr 1, .inl p] w (fun r u => (r = -1 ↔ ¬ onS w p) ∧ w = u) := by
  refine CTi.int (by decide) (Nat.le_of_ble_eq_true rfl) ?_
  intro X Q F hX hR
  subst hX
  show V G X 3 Q 0 [some (.inr 1), some (.inl p), none] [] w
  refine V_iconst F dY_stationOn_0 (by decide) ?_
  refine V_istore_n (i := 2) F dY_stationOn_1 rfl (by decide) (by simp only [List.set_cons_zero, List.set_cons_succ]; exact rfl) ?_
  exact lpY_stationOn hc F hR 7 0 (by omega) (by omega) (by omega) (fun j h1 h2 => by omega)
theorem ctY_hasStation {G : vG} {l : Launch} {w : RW} {t : Int} (hc : w 1 3 ≤ 6) (ht : 0 ≤ t ∧ t < 64) : CTi G l yY_hasStation cY_hasStation 2 .boolean 1 [.inr 1, .inl t] w (fun r u => r = bz (onS w t ∨ onS w (t + 64)) ∧ w = u) := by
  refine CTi.bool (by decide) (Nat.le_of_ble_eq_true rfl) ?_
  intro X Q F hX hR
  subst hX
  show V G X 2 Q 0 [some (.inr 1), some (.inl t)] [] w
  refine V_aload_n (i := 0) F dY_hasStation_0 rfl rfl ?_
  refine V_iload_n (i := 1) F dY_hasStation_1 rfl rfl ?_
  refine V_iconst F dY_hasStation_2 (by decide) ?_
  refine V_callSi F dY_hasStation_3 lmY_63 miS_place msS_place (ctS_place (by omega)) (by decide) rfl (Nat.le_of_ble_eq_true rfl) (fun r u hr => ?_)
  obtain ⟨rfl, rfl⟩ := hr
  refine V_callVi F dY_hasStation_6 lmY_68 miY_stationOn mvY_stationOn (ctY_stationOn hc) (by decide) (by first | rfl | assumption) rfl rfl (Nat.le_of_ble_eq_true rfl) (fun r u hr => ?_)
  obtain ⟨hr1, rfl⟩ := hr
  rw [show t + 64 * 0 = t by omega] at hr1
  refine V_iconst F dY_hasStation_9 (by decide) ?_
  refine V_icmp_ne F 26 dY_hasStation_10 (by decide) (fun h10 => ?_) (fun h10 => ?_)
  · refine V_iconst F dY_hasStation_26 (by decide) ?_
    refine V_goto F 31 dY_hasStation_27 (by decide) ?_
    exact hR _ _ _ _ dY_hasStation_31 (by first | exact Or.inl rfl | exact Or.inr rfl | exact bz_01 _ | assumption) (by first | exact ⟨(bz_t (Or.inl (Classical.byContradiction (fun q => h10 (hr1.mpr q))))).symm, rfl⟩ | exact ⟨(bz_t (Or.inr (Classical.byContradiction (fun q => h23 (hr2.mpr q))))).symm, rfl⟩ | exact ⟨(bz_f (fun q => q.elim (hr1.mp h10) (hr2.mp h23))).symm, rfl⟩)
  · refine V_aload_n (i := 0) F dY_hasStation_13 rfl rfl ?_
    refine V_iload_n (i := 1) F dY_hasStation_14 rfl rfl ?_
    refine V_iconst F dY_hasStation_15 (by decide) ?_
    refine V_callSi F dY_hasStation_16 lmY_63 miS_place msS_place (ctS_place (by omega)) (by decide) rfl (Nat.le_of_ble_eq_true rfl) (fun r u hr => ?_)
    obtain ⟨rfl, rfl⟩ := hr
    refine V_callVi F dY_hasStation_19 lmY_68 miY_stationOn mvY_stationOn (ctY_stationOn hc) (by decide) (by first | rfl | assumption) rfl rfl (Nat.le_of_ble_eq_true rfl) (fun r u hr => ?_)
    obtain ⟨hr2, rfl⟩ := hr
    rw [show t + 64 * 1 = t + 64 by omega] at hr2
    refine V_iconst F dY_hasStation_22 (by decide) ?_
    refine V_icmp_eq F 30 dY_hasStation_23 (by decide) (fun h23 => ?_) (fun h23 => ?_)
    · refine V_iconst F dY_hasStation_30 (by decide) ?_
      exact hR _ _ _ _ dY_hasStation_31 (by first | exact Or.inl rfl | exact Or.inr rfl | exact bz_01 _ | assumption) (by first | exact ⟨(bz_t (Or.inl (Classical.byContradiction (fun q => h10 (hr1.mpr q))))).symm, rfl⟩ | exact ⟨(bz_t (Or.inr (Classical.byContradiction (fun q => h23 (hr2.mpr q))))).symm, rfl⟩ | exact ⟨(bz_f (fun q => q.elim (hr1.mp h10) (hr2.mp h23))).symm, rfl⟩)
    · refine V_iconst F dY_hasStation_26 (by decide) ?_
      refine V_goto F 31 dY_hasStation_27 (by decide) ?_
      exact hR _ _ _ _ dY_hasStation_31 (by first | exact Or.inl rfl | exact Or.inr rfl | exact bz_01 _ | assumption) (by first | exact ⟨(bz_t (Or.inl (Classical.byContradiction (fun q => h10 (hr1.mpr q))))).symm, rfl⟩ | exact ⟨(bz_t (Or.inr (Classical.byContradiction (fun q => h23 (hr2.mpr q))))).symm, rfl⟩ | exact ⟨(bz_f (fun q => q.elim (hr1.mp h10) (hr2.mp h23))).symm, rfl⟩)
theorem ctT_open {G : vG} {l : Launch} {w : RW} {k : Nat} (hk : shp[k]? = some (.inr (.inl (1, [none, none, none])))) {p c : Int} : CTv G l yT_open cT_open 3 0 [.inr k, .inl p, .inl c] w (fun u => upw (upw (upw w k 0 p) k 1 c) k 2 0 = u) := by
  refine CTv.intro (by decide) (Nat.le_of_ble_eq_true rfl) ?_
  intro X Q F hX hR
  subst hX
  show V G X 3 Q 0 [some (.inr k), some (.inl p), some (.inl c)] [] w
  refine V_aload_n (i := 0) F dT_open_0 rfl rfl ?_
  refine V_iload_n (i := 1) F dT_open_1 rfl rfl ?_
  refine V_puti (ci := 1) (C := R_T) (T := T_T) (N := 3) F dT_open_2 (by first | rfl | assumption) rfl (j := 0) 0 rfl (by decide) rfl rfl rfl lfT_9 ?_
  refine V_aload_n (i := 0) F dT_open_5 rfl rfl ?_
  refine V_iload_n (i := 2) F dT_open_6 rfl rfl ?_
  refine V_puti (ci := 1) (C := R_T) (T := T_T) (N := 3) F dT_open_7 (by first | rfl | assumption) rfl (j := 1) 1 rfl (by decide) rfl rfl rfl lfT_15 ?_
  refine V_aload_n (i := 0) F dT_open_10 rfl rfl ?_
  refine V_iconst F dT_open_11 (by decide) ?_
  refine V_puti (ci := 1) (C := R_T) (T := T_T) (N := 3) F dT_open_12 (by first | rfl | assumption) rfl (j := 2) 2 rfl (by decide) rfl rfl rfl lfT_18 ?_
  exact hR _ _ _ dT_open_15 (rfl)
theorem ctT_grow {G : vG} {l : Launch} {w : RW} {k : Nat} (hk : shp[k]? = some (.inr (.inl (1, [none, none, none])))) (h : 0 ≤ w k 2 ∧ w k 2 ≤ 500 ∧ 0 ≤ w k 1 ∧ w k 1 ≤ 50) : CTi G l yT_grow cT_grow 2 .int 1 [.inr k] w (fun r u => r = (if 500 - w k 2 < w k 1 then 500 - w k 2 else w k 1) ∧ upw w k 2 (w k 2 + (if 500 - w k 2 < w k 1 then 500 - w k 2 else w k 1)) = u) := by
  refine CTi.int (by decide) (Nat.le_of_ble_eq_true rfl) ?_
  intro X Q F hX hR
  subst hX
  show V G X 2 Q 0 [some (.inr k), none] [] w
  refine V_aload_n (i := 0) F dT_grow_0 rfl rfl ?_
  refine V_geti (ci := 1) (C := R_T) (T := T_T) (N := 3) F dT_grow_1 (by first | rfl | assumption) rfl (j := 1) 1 rfl (by decide) rfl lfT_15 ?_
  refine V_sipush F dT_grow_4 (by decide) ?_
  refine V_aload_n (i := 0) F dT_grow_7 rfl rfl ?_
  refine V_geti (ci := 1) (C := R_T) (T := T_T) (N := 3) F dT_grow_8 (by first | rfl | assumption) rfl (j := 2) 2 rfl (by decide) rfl lfT_18 ?_
  refine V_isub F dT_grow_11 (by omega) ?_
  refine V_mmin F dT_grow_12 (by decide) (Nat.le_of_ble_eq_true rfl) lmT_21 lw_mmin1 lw_mmin2 lw_mmin3 ?_
  refine V_istore_n (i := 1) F dT_grow_15 rfl (by decide) (by simp only [List.set_cons_zero, List.set_cons_succ]; exact rfl) ?_
  refine V_aload_n (i := 0) F dT_grow_16 rfl rfl ?_
  refine V_dup F dT_grow_17 ?_
  refine V_geti (ci := 1) (C := R_T) (T := T_T) (N := 3) F dT_grow_18 (by first | rfl | assumption) rfl (j := 2) 2 rfl (by decide) rfl lfT_18 ?_
  refine V_iload_n (i := 1) F dT_grow_21 rfl rfl ?_
  have hsp : 0 ≤ (if 500 - w k 2 < w k 1 then 500 - w k 2 else w k 1) ∧ (if 500 - w k 2 < w k 1 then 500 - w k 2 else w k 1) ≤ 500 := by split <;> omega
  refine V_iadd F dT_grow_22 (by omega) ?_
  refine V_puti (ci := 1) (C := R_T) (T := T_T) (N := 3) F dT_grow_23 (by first | rfl | assumption) rfl (j := 2) 2 rfl (by decide) rfl rfl rfl lfT_18 ?_
  refine V_iload_n (i := 1) F dT_grow_26 rfl rfl ?_
  exact hR _ _ _ _ dT_grow_27 (⟨rfl, rfl⟩)
theorem ctT_take {G : vG} {l : Launch} {w : RW} {k : Nat} (hk : shp[k]? = some (.inr (.inl (1, [none, none, none])))) {z : Int} (h : 0 ≤ w k 2 ∧ w k 2 ≤ 500 ∧ 0 ≤ z ∧ z ≤ 100) : CTi G l yT_take cT_take 3 .int 1 [.inr k, .inl z] w (fun r u => r = (if z < w k 2 then z else w k 2) ∧ upw w k 2 (w k 2 - (if z < w k 2 then z else w k 2)) = u) := by
  refine CTi.int (by decide) (Nat.le_of_ble_eq_true rfl) ?_
  intro X Q F hX hR
  subst hX
  show V G X 3 Q 0 [some (.inr k), some (.inl z), none] [] w
  refine V_aload_n (i := 0) F dT_take_0 rfl rfl ?_
  refine V_geti (ci := 1) (C := R_T) (T := T_T) (N := 3) F dT_take_1 (by first | rfl | assumption) rfl (j := 2) 2 rfl (by decide) rfl lfT_18 ?_
  refine V_iload_n (i := 1) F dT_take_4 rfl rfl ?_
  refine V_mmin F dT_take_5 (by decide) (Nat.le_of_ble_eq_true rfl) lmT_21 lw_mmin1 lw_mmin2 lw_mmin3 ?_
  refine V_istore_n (i := 2) F dT_take_8 rfl (by decide) (by simp only [List.set_cons_zero, List.set_cons_succ]; exact rfl) ?_
  refine V_aload_n (i := 0) F dT_take_9 rfl rfl ?_
  refine V_dup F dT_take_10 ?_
  refine V_geti (ci := 1) (C := R_T) (T := T_T) (N := 3) F dT_take_11 (by first | rfl | assumption) rfl (j := 2) 2 rfl (by decide) rfl lfT_18 ?_
  refine V_iload_n (i := 2) F dT_take_14 rfl rfl ?_
  have hsp : 0 ≤ (if z < w k 2 then z else w k 2) ∧ (if z < w k 2 then z else w k 2) ≤ 500 := by split <;> omega
  refine V_isub F dT_take_15 (by omega) ?_
  refine V_puti (ci := 1) (C := R_T) (T := T_T) (N := 3) F dT_take_16 (by first | rfl | assumption) rfl (j := 2) 2 rfl (by decide) rfl rfl rfl lfT_18 ?_
  refine V_iload_n (i := 2) F dT_take_19 rfl rfl ?_
  exact hR _ _ _ _ dT_take_20 (⟨rfl, rfl⟩)
theorem ctT_copyFrom {G : vG} {l : Launch} {w : RW} {k o : Nat} (hk : shp[k]? = some (.inr (.inl (1, [none, none, none])))) (ho : shp[o]? = some (.inr (.inl (1, [none, none, none])))) (hne : o ≠ k) : CTv G l yT_copyFrom cT_copyFrom 2 0 [.inr k, .inr o] w (fun u => (∀ j, j ≠ k → u j = w j) ∧ u k 0 = w o 0 ∧ u k 1 = w o 1 ∧ u k 2 = w o 2) := by
  refine CTv.intro (by decide) (Nat.le_of_ble_eq_true rfl) ?_
  intro X Q F hX hR
  subst hX
  show V G X 2 Q 0 [some (.inr k), some (.inr o)] [] w
  refine V_aload_n (i := 0) F dT_copyFrom_0 rfl rfl ?_
  refine V_aload_n (i := 1) F dT_copyFrom_1 rfl rfl ?_
  refine V_geti (ci := 1) (C := R_T) (T := T_T) (N := 3) F dT_copyFrom_2 (by first | rfl | assumption) rfl (j := 0) 0 rfl (by decide) rfl lfT_9 ?_
  refine V_puti (ci := 1) (C := R_T) (T := T_T) (N := 3) F dT_copyFrom_5 (by first | rfl | assumption) rfl (j := 0) 0 rfl (by decide) rfl rfl rfl lfT_9 ?_
  refine V_aload_n (i := 0) F dT_copyFrom_8 rfl rfl ?_
  refine V_aload_n (i := 1) F dT_copyFrom_9 rfl rfl ?_
  refine V_geti (ci := 1) (C := R_T) (T := T_T) (N := 3) F dT_copyFrom_10 (by first | rfl | assumption) rfl (j := 1) 1 rfl (by decide) rfl lfT_15 ?_
  refine V_puti (ci := 1) (C := R_T) (T := T_T) (N := 3) F dT_copyFrom_13 (by first | rfl | assumption) rfl (j := 1) 1 rfl (by decide) rfl rfl rfl lfT_15 ?_
  refine V_aload_n (i := 0) F dT_copyFrom_16 rfl rfl ?_
  refine V_aload_n (i := 1) F dT_copyFrom_17 rfl rfl ?_
  refine V_geti (ci := 1) (C := R_T) (T := T_T) (N := 3) F dT_copyFrom_18 (by first | rfl | assumption) rfl (j := 2) 2 rfl (by decide) rfl lfT_18 ?_
  refine V_puti (ci := 1) (C := R_T) (T := T_T) (N := 3) F dT_copyFrom_21 (by first | rfl | assumption) rfl (j := 2) 2 rfl (by decide) rfl rfl rfl lfT_18 ?_
  exact hR _ _ _ dT_copyFrom_24 (⟨fun j hj => by funext i; simp [upw, hj], by simp [upw, hne], by simp [upw, hne], by simp [upw, hne]⟩)
theorem ctN_ahead {G : vG} {l : Launch} {w : RW} {k r o : Nat} (hk : shp[k]? = some (.inr (.inl (3, [some r, none, none, none, none, none, some o, none, none, none])))) (hr : shp[r]? = some (.inl (0, 96))) (ho : shp[o]? = some (.inl (0, 6))) (h : 0 ≤ w k 1 ∧ w k 1 ≤ 96 ∧ 0 ≤ w k 2 ∧ w k 2 ≤ 96) : CTi G l yN_ahead cN_ahead 1 .int 0 [.inr k] w (fun z u => z = w k 1 - w k 2 ∧ w = u) := by
  refine CTi.int (by decide) (Nat.le_of_ble_eq_true rfl) ?_
  intro X Q F hX hR
  subst hX
  show V G X 1 Q 0 [some (.inr k)] [] w
  refine V_aload_n (i := 0) F dN_ahead_0 rfl rfl ?_
  refine V_geti (ci := 3) (C := R_N) (T := T_N) (N := 10) F dN_ahead_1 (by first | rfl | assumption) rfl (j := 1) 1 rfl (by decide) rfl lfN_27 ?_
  refine V_aload_n (i := 0) F dN_ahead_4 rfl rfl ?_
  refine V_geti (ci := 3) (C := R_N) (T := T_N) (N := 10) F dN_ahead_5 (by first | rfl | assumption) rfl (j := 2) 2 rfl (by decide) rfl lfN_24 ?_
  refine V_isub F dN_ahead_8 (by omega) ?_
  exact hR _ _ _ _ dN_ahead_9 (⟨rfl, rfl⟩)
theorem ctN_last {G : vG} {l : Launch} {w : RW} {k r o : Nat} (hk : shp[k]? = some (.inr (.inl (3, [some r, none, none, none, none, none, some o, none, none, none])))) (hr : shp[r]? = some (.inl (0, 96))) (ho : shp[o]? = some (.inl (0, 6))) (h : 1 ≤ w k 1 ∧ w k 1 ≤ 96) : CTi G l yN_last cN_last 1 .int 0 [.inr k] w (fun z u => z = w r (w k 1 - 1) ∧ w = u) := by
  refine CTi.int (by decide) (Nat.le_of_ble_eq_true rfl) ?_
  intro X Q F hX hR
  subst hX
  show V G X 1 Q 0 [some (.inr k)] [] w
  refine V_aload_n (i := 0) F dN_last_0 rfl rfl ?_
  refine V_getr (ci := 3) (C := R_N) (T := T_N) (N := 10) F dN_last_1 (by first | rfl | assumption) rfl (j := 0) (by decide) rfl lfN_9 ?_
  refine V_aload_n (i := 0) F dN_last_4 rfl rfl ?_
  refine V_geti (ci := 3) (C := R_N) (T := T_N) (N := 10) F dN_last_5 (by first | rfl | assumption) rfl (j := 1) 1 rfl (by decide) rfl lfN_27 ?_
  refine V_iconst F dN_last_8 (by decide) ?_
  refine V_isub F dN_last_9 (by omega) ?_
  first
    | refine V_sald F dN_last_10 (by decide) (by omega) (stt_in _ _) ?_
    | refine V_iald F dN_last_10 (by first | rfl | assumption) rfl (by omega) ?_
  exact hR _ _ _ _ dN_last_11 (⟨rfl, rfl⟩)
theorem ctN_goesFor {G : vG} {l : Launch} {w : RW} {k r o : Nat} (hk : shp[k]? = some (.inr (.inl (3, [some r, none, none, none, none, none, some o, none, none, none])))) (hr : shp[r]? = some (.inl (0, 96))) (ho : shp[o]? = some (.inl (0, 6))) (h : 0 < w k 7 → 0 ≤ w k 8 ∧ w k 8 < 6) : CTi G l yN_goesFor cN_goesFor 1 .int 0 [.inr k] w (fun z u => z = (if 0 < w k 7 then w o (w k 8) else -1) ∧ w = u) := by
  refine CTi.int (by decide) (Nat.le_of_ble_eq_true rfl) ?_
  intro X Q F hX hR
  subst hX
  show V G X 1 Q 0 [some (.inr k)] [] w
  refine V_aload_n (i := 0) F dN_goesFor_0 rfl rfl ?_
  refine V_geti (ci := 3) (C := R_N) (T := T_N) (N := 10) F dN_goesFor_1 (by first | rfl | assumption) rfl (j := 7) 7 rfl (by decide) rfl lfN_38 ?_
  refine V_if_le F 19 dN_goesFor_4 (by decide) (fun h4 => ?_) (fun h4 => ?_)
  · refine V_iconst F dN_goesFor_19 (by decide) ?_
    exact hR _ _ _ _ dN_goesFor_20 (by first | exact ⟨(if_pos (by omega)).symm, rfl⟩ | exact ⟨(if_neg (by omega)).symm, rfl⟩)
  · have hh := h (by omega)
    refine V_aload_n (i := 0) F dN_goesFor_7 rfl rfl ?_
    refine V_getr (ci := 3) (C := R_N) (T := T_N) (N := 10) F dN_goesFor_8 (by first | rfl | assumption) rfl (j := 6) (by decide) rfl lfN_15 ?_
    refine V_aload_n (i := 0) F dN_goesFor_11 rfl rfl ?_
    refine V_geti (ci := 3) (C := R_N) (T := T_N) (N := 10) F dN_goesFor_12 (by first | rfl | assumption) rfl (j := 8) 8 rfl (by decide) rfl lfN_41 ?_
    first
      | refine V_sald F dN_goesFor_15 (by decide) (by omega) (stt_in _ _) ?_
      | refine V_iald F dN_goesFor_15 (by first | rfl | assumption) rfl (by omega) ?_
    refine V_goto F 20 dN_goesFor_16 (by decide) ?_
    exact hR _ _ _ _ dN_goesFor_20 (by first | exact ⟨(if_pos (by omega)).symm, rfl⟩ | exact ⟨(if_neg (by omega)).symm, rfl⟩)
theorem ctN_takeNextOrder {G : vG} {l : Launch} {w : RW} {k r o : Nat} (hk : shp[k]? = some (.inr (.inl (3, [some r, none, none, none, none, none, some o, none, none, none])))) (hr : shp[r]? = some (.inl (0, 96))) (ho : shp[o]? = some (.inl (0, 6))) (h : 0 ≤ w k 8 ∧ w k 8 < 6) : CTv G l yN_takeNextOrder cN_takeNextOrder 1 0 [.inr k] w (fun u => upw w k 8 (if w k 8 + 1 < w k 7 then w k 8 + 1 else 0) = u) := by
  refine CTv.intro (by decide) (Nat.le_of_ble_eq_true rfl) ?_
  intro X Q F hX hR
  subst hX
  show V G X 1 Q 0 [some (.inr k)] [] w
  refine V_aload_n (i := 0) F dN_takeNextOrder_0 rfl rfl ?_
  refine V_aload_n (i := 0) F dN_takeNextOrder_1 rfl rfl ?_
  refine V_geti (ci := 3) (C := R_N) (T := T_N) (N := 10) F dN_takeNextOrder_2 (by first | rfl | assumption) rfl (j := 8) 8 rfl (by decide) rfl lfN_41 ?_
  refine V_iconst F dN_takeNextOrder_5 (by decide) ?_
  refine V_iadd F dN_takeNextOrder_6 (by omega) ?_
  refine V_aload_n (i := 0) F dN_takeNextOrder_7 rfl rfl ?_
  refine V_geti (ci := 3) (C := R_N) (T := T_N) (N := 10) F dN_takeNextOrder_8 (by first | rfl | assumption) rfl (j := 7) 7 rfl (by decide) rfl lfN_38 ?_
  refine V_icmp_ge F 23 dN_takeNextOrder_11 (by decide) (fun h11 => ?_) (fun h11 => ?_)
  · refine V_iconst F dN_takeNextOrder_23 (by decide) ?_
    refine V_puti (ci := 3) (C := R_N) (T := T_N) (N := 10) F dN_takeNextOrder_24 (by first | rfl | assumption) rfl (j := 8) 8 rfl (by decide) rfl rfl rfl lfN_41 ?_
    exact hR _ _ _ dN_takeNextOrder_27 (by first | rw [if_pos (by omega)] | rw [if_neg (by omega)])
  · refine V_aload_n (i := 0) F dN_takeNextOrder_14 rfl rfl ?_
    refine V_geti (ci := 3) (C := R_N) (T := T_N) (N := 10) F dN_takeNextOrder_15 (by first | rfl | assumption) rfl (j := 8) 8 rfl (by decide) rfl lfN_41 ?_
    refine V_iconst F dN_takeNextOrder_18 (by decide) ?_
    refine V_iadd F dN_takeNextOrder_19 (by omega) ?_
    refine V_goto F 24 dN_takeNextOrder_20 (by decide) ?_
    refine V_puti (ci := 3) (C := R_N) (T := T_N) (N := 10) F dN_takeNextOrder_24 (by first | rfl | assumption) rfl (j := 8) 8 rfl (by decide) rfl rfl rfl lfN_41 ?_
    exact hR _ _ _ dN_takeNextOrder_27 (by first | rw [if_pos (by omega)] | rw [if_neg (by omega)])
/-- the greatest speed up to v that can still stop on a pieces -/
def nsp (v a : Int) : Int := if 3 ≤ v ∧ 6 ≤ a then 3 else if 2 ≤ v ∧ 3 ≤ a then 2 else if 1 ≤ v ∧ 1 ≤ a then 1 else 0
theorem nsp_dec {v a : Int} (h : 0 < v ∧ v ≤ 3) (h2 : a < v * (v + 1) / 2) : nsp v a = nsp (v + -1) a := by
  unfold nsp
  rcases (show v = 1 ∨ v = 2 ∨ v = 3 by omega) with rfl | rfl | rfl <;> (repeat' split) <;> omega
theorem nsp_ok {v a : Int} (h : 0 < v ∧ v ≤ 3) (h2 : v * (v + 1) / 2 ≤ a) : nsp v a = v := by
  unfold nsp
  rcases (show v = 1 ∨ v = 2 ∨ v = 3 by omega) with rfl | rfl | rfl <;> (repeat' split) <;> omega
theorem nsp_0 {a : Int} : nsp 0 a = 0 := by
  unfold nsp
  (repeat' split) <;> omega
theorem lpN_nextSpeed {G : vG} {X : vX} {Q : State → Prop} {w : RW} {k r o : Nat} (hk : shp[k]? = some (.inr (.inl (3, [some r, none, none, none, none, none, some o, none, none, none])))) (hr : shp[r]? = some (.inl (0, 96))) (ho : shp[o]? = some (.inl (0, 6))) (h : 0 ≤ w k 1 ∧ w k 1 ≤ 96 ∧ 0 ≤ w k 2 ∧ w k 2 ≤ 96) {z : Int} (F : FX G X cN_nextSpeed yN_nextSpeed.cls 2 1) (hR : RetI G X cN_nextSpeed 2 Q (fun q u => q = z ∧ w = u)) : ∀ (m : Nat) (v : Int), 0 ≤ v → v ≤ 3 → v < m → z = nsp v (w k 1 - w k 2) → V G X 2 Q 11 [some (.inr k), some (.inl v)] [] w := by
  intro m
  induction m with
  | zero => intro v h1 h2 h3; omega
  | succ m ih =>
    intro v h1 h2 h3 he
    refine V_iload_n (i := 1) F dN_nextSpeed_11 rfl rfl ?_
    refine V_if_le F 35 dN_nextSpeed_12 (by decide) (fun h12 => ?_) (fun h12 => ?_)
    · refine V_iload_n (i := 1) F dN_nextSpeed_35 rfl rfl ?_
      exact hR _ _ _ _ dN_nextSpeed_36 (by first | exact ⟨by rw [he, show v = 0 by omega, nsp_0], rfl⟩ | exact ⟨by rw [he, nsp_ok (by omega) (by omega)], rfl⟩)
    · refine V_iload_n (i := 1) F dN_nextSpeed_15 rfl rfl ?_
      refine V_iload_n (i := 1) F dN_nextSpeed_16 rfl rfl ?_
      refine V_iconst F dN_nextSpeed_17 (by decide) ?_
      refine V_iadd F dN_nextSpeed_18 (by omega) ?_
      have hq : 0 ≤ v * (v + 1) ∧ v * (v + 1) ≤ 12 := by rcases (show v = 1 ∨ v = 2 ∨ v = 3 by omega) with rfl | rfl | rfl <;> omega
      refine V_imul F dN_nextSpeed_19 (by omega) ?_
      refine V_iconst F dN_nextSpeed_20 (by decide) ?_
      refine V_idiv F dN_nextSpeed_21 (by omega) ?_
      refine V_aload_n (i := 0) F dN_nextSpeed_22 rfl rfl ?_
      refine V_callVi F dN_nextSpeed_23 lmN_60 miN_ahead mvN_ahead (ctN_ahead hk hr ho h) (by decide) (by first | rfl | assumption) rfl rfl (Nat.le_of_ble_eq_true rfl) (fun r u hr => ?_)
      obtain ⟨rfl, rfl⟩ := hr
      refine V_icmp_le F 35 dN_nextSpeed_26 (by decide) (fun h26 => ?_) (fun h26 => ?_)
      · refine V_iload_n (i := 1) F dN_nextSpeed_35 rfl rfl ?_
        exact hR _ _ _ _ dN_nextSpeed_36 (by first | exact ⟨by rw [he, show v = 0 by omega, nsp_0], rfl⟩ | exact ⟨by rw [he, nsp_ok (by omega) (by omega)], rfl⟩)
      · refine V_iinc F dN_nextSpeed_29 (by decide) rfl (by omega) (by simp only [List.set_cons_zero, List.set_cons_succ]; exact rfl) ?_
        refine V_goto F 11 dN_nextSpeed_32 (by decide) ?_
        exact ih (v + -1) (by omega) (by omega) (by omega) (by rw [he]; exact nsp_dec (by omega) (by omega))
theorem ctN_nextSpeed {G : vG} {l : Launch} {w : RW} {k r o : Nat} (hk : shp[k]? = some (.inr (.inl (3, [some r, none, none, none, none, none, some o, none, none, none])))) (hr : shp[r]? = some (.inl (0, 96))) (ho : shp[o]? = some (.inl (0, 6))) (h : 0 ≤ w k 1 ∧ w k 1 ≤ 96 ∧ 0 ≤ w k 2 ∧ w k 2 ≤ 96) (hs : 0 ≤ w k 3 ∧ w k 3 ≤ 3) : CTi G l yN_nextSpeed cN_nextSpeed 2 .int 1 [.inr k] w (fun z u => z = nsp (if 3 < w k 3 + 1 then 3 else w k 3 + 1) (w k 1 - w k 2) ∧ w = u) := by
  refine CTi.int (by decide) (Nat.le_of_ble_eq_true rfl) ?_
  intro X Q F hX hR
  subst hX
  show V G X 2 Q 0 [some (.inr k), none] [] w
  refine V_aload_n (i := 0) F dN_nextSpeed_0 rfl rfl ?_
  refine V_geti (ci := 3) (C := R_N) (T := T_N) (N := 10) F dN_nextSpeed_1 (by first | rfl | assumption) rfl (j := 3) 3 rfl (by decide) rfl lfN_29 ?_
  refine V_iconst F dN_nextSpeed_4 (by decide) ?_
  refine V_iadd F dN_nextSpeed_5 (by omega) ?_
  refine V_iconst F dN_nextSpeed_6 (by decide) ?_
  refine V_mmin F dN_nextSpeed_7 (by decide) (Nat.le_of_ble_eq_true rfl) lmN_54 lw_mmin1 lw_mmin2 lw_mmin3 ?_
  refine V_istore_n (i := 1) F dN_nextSpeed_10 rfl (by decide) (by simp only [List.set_cons_zero, List.set_cons_succ]; exact rfl) ?_
  exact lpN_nextSpeed hk hr ho h F hR 4 _ (by split <;> omega) (by split <;> omega) (by split <;> omega) rfl
theorem ctN_moveOn {G : vG} {l : Launch} {w : RW} {k r o : Nat} (hk : shp[k]? = some (.inr (.inl (3, [some r, none, none, none, none, none, some o, none, none, none])))) (hr : shp[r]? = some (.inl (0, 96))) (ho : shp[o]? = some (.inl (0, 6))) (hkr : r ≠ k) (h : 1 ≤ w k 1 ∧ w k 1 ≤ 96) : CTv G l yN_moveOn cN_moveOn 1 1 [.inr k] w (fun u => upw (cpw (upw w k 1 (w k 1 - 1)) r r 1 0 (w k 1 - 1)) k 9 0 = u) := by
  refine CTv.intro (by decide) (Nat.le_of_ble_eq_true rfl) ?_
  intro X Q F hX hR
  subst hX
  show V G X 1 Q 0 [some (.inr k)] [] w
  refine V_aload_n (i := 0) F dN_moveOn_0 rfl rfl ?_
  refine V_dup F dN_moveOn_1 ?_
  refine V_geti (ci := 3) (C := R_N) (T := T_N) (N := 10) F dN_moveOn_2 (by first | rfl | assumption) rfl (j := 1) 1 rfl (by decide) rfl lfN_27 ?_
  refine V_iconst F dN_moveOn_5 (by decide) ?_
  refine V_isub F dN_moveOn_6 (by omega) ?_
  refine V_puti (ci := 3) (C := R_N) (T := T_N) (N := 10) F dN_moveOn_7 (by first | rfl | assumption) rfl (j := 1) 1 rfl (by decide) rfl rfl rfl lfN_27 ?_
  refine V_aload_n (i := 0) F dN_moveOn_10 rfl rfl ?_
  refine V_getr (ci := 3) (C := R_N) (T := T_N) (N := 10) F dN_moveOn_11 (by first | rfl | assumption) rfl (j := 0) (by decide) rfl lfN_9 ?_
  refine V_iconst F dN_moveOn_14 (by decide) ?_
  refine V_aload_n (i := 0) F dN_moveOn_15 rfl rfl ?_
  refine V_getr (ci := 3) (C := R_N) (T := T_N) (N := 10) F dN_moveOn_16 (by first | rfl | assumption) rfl (j := 0) (by decide) rfl lfN_9 ?_
  refine V_iconst F dN_moveOn_19 (by decide) ?_
  refine V_aload_n (i := 0) F dN_moveOn_20 rfl rfl ?_
  refine V_geti (ci := 3) (C := R_N) (T := T_N) (N := 10) F dN_moveOn_21 (by first | rfl | assumption) rfl (j := 1) 1 rfl (by decide) rfl lfN_27 ?_
  rw [upw_s]
  refine V_acopy F dN_moveOn_24 (by decide) (Nat.le_of_ble_eq_true rfl) (by first | rfl | assumption) (by first | rfl | assumption) rfl (by omega) lmN_48 lw_ac1 lw_ac2 lw_ac3 ?_
  refine V_aload_n (i := 0) F dN_moveOn_27 rfl rfl ?_
  refine V_iconst F dN_moveOn_28 (by decide) ?_
  refine V_putz (ci := 3) (C := R_N) (T := T_N) (N := 10) F dN_moveOn_29 (by first | rfl | assumption) rfl (j := 9) 9 rfl (by decide) rfl rfl rfl (by first | exact Or.inl rfl | exact Or.inr rfl | exact bz_01 _ | assumption) lfN_44 ?_
  exact hR _ _ _ dN_moveOn_32 (rfl)
theorem ctW_forget {G : vG} {l : Launch} {w : RW}  : CTv G l yW_forget cW_forget 1 0 [.inr 63] w (fun u => upw w 63 1 0 = u) := by
  refine CTv.intro (by decide) (Nat.le_of_ble_eq_true rfl) ?_
  intro X Q F hX hR
  subst hX
  show V G X 1 Q 0 [some (.inr 63)] [] w
  refine V_aload_n (i := 0) F dW_forget_0 rfl rfl ?_
  refine V_iconst F dW_forget_1 (by decide) ?_
  refine V_puti (ci := 4) (C := R_W) (T := T_W) (N := 6) F dW_forget_2 (by first | rfl | assumption) rfl (j := 1) 1 rfl (by decide) rfl rfl rfl lfW_23 ?_
  exact hR _ _ _ dW_forget_5 (rfl)
end
section
theorem dM_firstEdge_0 : decode cM_firstEdge 0 = .ok (.iload_n 0, 1) := by decide +kernel
theorem dM_firstEdge_1 : decode cM_firstEdge 1 = .ok (.ifCond .ne 7, 3) := by decide +kernel
theorem dM_firstEdge_4 : decode cM_firstEdge 4 = .ok (.iconst 3, 1) := by decide +kernel
theorem dM_firstEdge_5 : decode cM_firstEdge 5 = .ok (.goto 22, 3) := by decide +kernel
theorem dM_firstEdge_8 : decode cM_firstEdge 8 = .ok (.iload_n 0, 1) := by decide +kernel
theorem dM_firstEdge_9 : decode cM_firstEdge 9 = .ok (.iconst 3, 1) := by decide +kernel
theorem dM_firstEdge_10 : decode cM_firstEdge 10 = .ok (.if_icmp .ne 7, 3) := by decide +kernel
theorem dM_firstEdge_13 : decode cM_firstEdge 13 = .ok (.iconst 2, 1) := by decide +kernel
theorem dM_firstEdge_14 : decode cM_firstEdge 14 = .ok (.goto 13, 3) := by decide +kernel
theorem dM_firstEdge_17 : decode cM_firstEdge 17 = .ok (.iload_n 0, 1) := by decide +kernel
theorem dM_firstEdge_18 : decode cM_firstEdge 18 = .ok (.iconst 5, 1) := by decide +kernel
theorem dM_firstEdge_19 : decode cM_firstEdge 19 = .ok (.if_icmp .ne 7, 3) := by decide +kernel
theorem dM_firstEdge_22 : decode cM_firstEdge 22 = .ok (.iconst 1, 1) := by decide +kernel
theorem dM_firstEdge_23 : decode cM_firstEdge 23 = .ok (.goto 4, 3) := by decide +kernel
theorem dM_firstEdge_26 : decode cM_firstEdge 26 = .ok (.iconst 0, 1) := by decide +kernel
theorem dM_firstEdge_27 : decode cM_firstEdge 27 = .ok (.ireturn, 1) := by decide +kernel
theorem dM_secondEdge_0 : decode cM_secondEdge 0 = .ok (.iload_n 0, 1) := by decide +kernel
theorem dM_secondEdge_1 : decode cM_secondEdge 1 = .ok (.ifCond .eq 8, 3) := by decide +kernel
theorem dM_secondEdge_4 : decode cM_secondEdge 4 = .ok (.iload_n 0, 1) := by decide +kernel
theorem dM_secondEdge_5 : decode cM_secondEdge 5 = .ok (.iconst 2, 1) := by decide +kernel
theorem dM_secondEdge_6 : decode cM_secondEdge 6 = .ok (.if_icmp .ne 7, 3) := by decide +kernel
theorem dM_secondEdge_9 : decode cM_secondEdge 9 = .ok (.iconst 1, 1) := by decide +kernel
theorem dM_secondEdge_10 : decode cM_secondEdge 10 = .ok (.goto 18, 3) := by decide +kernel
theorem dM_secondEdge_13 : decode cM_secondEdge 13 = .ok (.iload_n 0, 1) := by decide +kernel
theorem dM_secondEdge_14 : decode cM_secondEdge 14 = .ok (.iconst 1, 1) := by decide +kernel
theorem dM_secondEdge_15 : decode cM_secondEdge 15 = .ok (.if_icmp .eq 8, 3) := by decide +kernel
theorem dM_secondEdge_18 : decode cM_secondEdge 18 = .ok (.iload_n 0, 1) := by decide +kernel
theorem dM_secondEdge_19 : decode cM_secondEdge 19 = .ok (.iconst 5, 1) := by decide +kernel
theorem dM_secondEdge_20 : decode cM_secondEdge 20 = .ok (.if_icmp .ne 7, 3) := by decide +kernel
theorem dM_secondEdge_23 : decode cM_secondEdge 23 = .ok (.iconst 2, 1) := by decide +kernel
theorem dM_secondEdge_24 : decode cM_secondEdge 24 = .ok (.goto 4, 3) := by decide +kernel
theorem dM_secondEdge_27 : decode cM_secondEdge 27 = .ok (.iconst 3, 1) := by decide +kernel
theorem dM_secondEdge_28 : decode cM_secondEdge 28 = .ok (.ireturn, 1) := by decide +kernel
theorem dM_edgeOf_0 : decode cM_edgeOf 0 = .ok (.iload_n 0, 1) := by decide +kernel
theorem dM_edgeOf_1 : decode cM_edgeOf 1 = .ok (.iconst 2, 1) := by decide +kernel
theorem dM_edgeOf_2 : decode cM_edgeOf 2 = .ok (.idiv, 1) := by decide +kernel
theorem dM_edgeOf_3 : decode cM_edgeOf 3 = .ok (.bipush 6, 2) := by decide +kernel
theorem dM_edgeOf_5 : decode cM_edgeOf 5 = .ok (.irem, 1) := by decide +kernel
theorem dM_edgeOf_6 : decode cM_edgeOf 6 = .ok (.istore_n 1, 1) := by decide +kernel
theorem dM_edgeOf_7 : decode cM_edgeOf 7 = .ok (.iload_n 0, 1) := by decide +kernel
theorem dM_edgeOf_8 : decode cM_edgeOf 8 = .ok (.iconst 2, 1) := by decide +kernel
theorem dM_edgeOf_9 : decode cM_edgeOf 9 = .ok (.irem, 1) := by decide +kernel
theorem dM_edgeOf_10 : decode cM_edgeOf 10 = .ok (.ifCond .ne 10, 3) := by decide +kernel
theorem dM_edgeOf_13 : decode cM_edgeOf 13 = .ok (.iload_n 1, 1) := by decide +kernel
theorem dM_edgeOf_14 : decode cM_edgeOf 14 = .ok (.invokestatic 90, 3) := by decide +kernel
theorem dM_edgeOf_17 : decode cM_edgeOf 17 = .ok (.goto 7, 3) := by decide +kernel
theorem dM_edgeOf_20 : decode cM_edgeOf 20 = .ok (.iload_n 1, 1) := by decide +kernel
theorem dM_edgeOf_21 : decode cM_edgeOf 21 = .ok (.invokestatic 94, 3) := by decide +kernel
theorem dM_edgeOf_24 : decode cM_edgeOf 24 = .ok (.ireturn, 1) := by decide +kernel
theorem dM_isTile_0 : decode cM_isTile 0 = .ok (.iload_n 1, 1) := by decide +kernel
theorem dM_isTile_1 : decode cM_isTile 1 = .ok (.ifCond .lt 27, 3) := by decide +kernel
theorem dM_isTile_4 : decode cM_isTile 4 = .ok (.iload_n 1, 1) := by decide +kernel
theorem dM_isTile_5 : decode cM_isTile 5 = .ok (.aload_n 0, 1) := by decide +kernel
theorem dM_isTile_6 : decode cM_isTile 6 = .ok (.getfield 83, 3) := by decide +kernel
theorem dM_isTile_9 : decode cM_isTile 9 = .ok (.if_icmp .ge 19, 3) := by decide +kernel
theorem dM_isTile_12 : decode cM_isTile 12 = .ok (.iload_n 2, 1) := by decide +kernel
theorem dM_isTile_13 : decode cM_isTile 13 = .ok (.ifCond .lt 15, 3) := by decide +kernel
theorem dM_isTile_16 : decode cM_isTile 16 = .ok (.iload_n 2, 1) := by decide +kernel
theorem dM_isTile_17 : decode cM_isTile 17 = .ok (.aload_n 0, 1) := by decide +kernel
theorem dM_isTile_18 : decode cM_isTile 18 = .ok (.getfield 87, 3) := by decide +kernel
theorem dM_isTile_21 : decode cM_isTile 21 = .ok (.if_icmp .ge 7, 3) := by decide +kernel
theorem dM_isTile_24 : decode cM_isTile 24 = .ok (.iconst 1, 1) := by decide +kernel
theorem dM_isTile_25 : decode cM_isTile 25 = .ok (.goto 4, 3) := by decide +kernel
theorem dM_isTile_28 : decode cM_isTile 28 = .ok (.iconst 0, 1) := by decide +kernel
theorem dM_isTile_29 : decode cM_isTile 29 = .ok (.ireturn, 1) := by decide +kernel
theorem dM_isPiece_0 : decode cM_isPiece 0 = .ok (.aload_n 0, 1) := by decide +kernel
theorem dM_isPiece_1 : decode cM_isPiece 1 = .ok (.iload_n 1, 1) := by decide +kernel
theorem dM_isPiece_2 : decode cM_isPiece 2 = .ok (.iload_n 2, 1) := by decide +kernel
theorem dM_isPiece_3 : decode cM_isPiece 3 = .ok (.invokevirtual 97, 3) := by decide +kernel
theorem dM_isPiece_6 : decode cM_isPiece 6 = .ok (.ifCond .eq 35, 3) := by decide +kernel
theorem dM_isPiece_9 : decode cM_isPiece 9 = .ok (.iload_n 3, 1) := by decide +kernel
theorem dM_isPiece_10 : decode cM_isPiece 10 = .ok (.ifCond .lt 31, 3) := by decide +kernel
theorem dM_isPiece_13 : decode cM_isPiece 13 = .ok (.iload_n 3, 1) := by decide +kernel
theorem dM_isPiece_14 : decode cM_isPiece 14 = .ok (.iconst 5, 1) := by decide +kernel
theorem dM_isPiece_15 : decode cM_isPiece 15 = .ok (.if_icmp .gt 26, 3) := by decide +kernel
theorem dM_isPiece_18 : decode cM_isPiece 18 = .ok (.aload_n 0, 1) := by decide +kernel
theorem dM_isPiece_19 : decode cM_isPiece 19 = .ok (.getfield 7, 3) := by decide +kernel
theorem dM_isPiece_22 : decode cM_isPiece 22 = .ok (.bipush 6, 2) := by decide +kernel
theorem dM_isPiece_24 : decode cM_isPiece 24 = .ok (.bipush 8, 2) := by decide +kernel
theorem dM_isPiece_26 : decode cM_isPiece 26 = .ok (.iload_n 2, 1) := by decide +kernel
theorem dM_isPiece_27 : decode cM_isPiece 27 = .ok (.imul, 1) := by decide +kernel
theorem dM_isPiece_28 : decode cM_isPiece 28 = .ok (.iload_n 1, 1) := by decide +kernel
theorem dM_isPiece_29 : decode cM_isPiece 29 = .ok (.iadd, 1) := by decide +kernel
theorem dM_isPiece_30 : decode cM_isPiece 30 = .ok (.imul, 1) := by decide +kernel
theorem dM_isPiece_31 : decode cM_isPiece 31 = .ok (.iload_n 3, 1) := by decide +kernel
theorem dM_isPiece_32 : decode cM_isPiece 32 = .ok (.iadd, 1) := by decide +kernel
theorem dM_isPiece_33 : decode cM_isPiece 33 = .ok (.baload, 1) := by decide +kernel
theorem dM_isPiece_34 : decode cM_isPiece 34 = .ok (.ifCond .eq 7, 3) := by decide +kernel
theorem dM_isPiece_37 : decode cM_isPiece 37 = .ok (.iconst 1, 1) := by decide +kernel
theorem dM_isPiece_38 : decode cM_isPiece 38 = .ok (.goto 4, 3) := by decide +kernel
theorem dM_isPiece_41 : decode cM_isPiece 41 = .ok (.iconst 0, 1) := by decide +kernel
theorem dM_isPiece_42 : decode cM_isPiece 42 = .ok (.ireturn, 1) := by decide +kernel
theorem dM_toward_0 : decode cM_toward 0 = .ok (.aload_n 0, 1) := by decide +kernel
theorem dM_toward_1 : decode cM_toward 1 = .ok (.iload_n 1, 1) := by decide +kernel
theorem dM_toward_2 : decode cM_toward 2 = .ok (.iload_n 2, 1) := by decide +kernel
theorem dM_toward_3 : decode cM_toward 3 = .ok (.iload_n 3, 1) := by decide +kernel
theorem dM_toward_4 : decode cM_toward 4 = .ok (.invokevirtual 101, 3) := by decide +kernel
theorem dM_toward_7 : decode cM_toward 7 = .ok (.ifCond .eq 21, 3) := by decide +kernel
theorem dM_toward_10 : decode cM_toward 10 = .ok (.iload 4, 2) := by decide +kernel
theorem dM_toward_12 : decode cM_toward 12 = .ok (.iload_n 3, 1) := by decide +kernel
theorem dM_toward_13 : decode cM_toward 13 = .ok (.invokestatic 90, 3) := by decide +kernel
theorem dM_toward_16 : decode cM_toward 16 = .ok (.if_icmp .eq 14, 3) := by decide +kernel
theorem dM_toward_19 : decode cM_toward 19 = .ok (.iload 4, 2) := by decide +kernel
theorem dM_toward_21 : decode cM_toward 21 = .ok (.iload_n 3, 1) := by decide +kernel
theorem dM_toward_22 : decode cM_toward 22 = .ok (.invokestatic 94, 3) := by decide +kernel
theorem dM_toward_25 : decode cM_toward 25 = .ok (.if_icmp .eq 5, 3) := by decide +kernel
theorem dM_toward_28 : decode cM_toward 28 = .ok (.iconst (-1), 1) := by decide +kernel
theorem dM_toward_29 : decode cM_toward 29 = .ok (.ireturn, 1) := by decide +kernel
theorem dM_toward_30 : decode cM_toward 30 = .ok (.iconst 2, 1) := by decide +kernel
theorem dM_toward_31 : decode cM_toward 31 = .ok (.bipush 6, 2) := by decide +kernel
theorem dM_toward_33 : decode cM_toward 33 = .ok (.bipush 8, 2) := by decide +kernel
theorem dM_toward_35 : decode cM_toward 35 = .ok (.iload_n 2, 1) := by decide +kernel
theorem dM_toward_36 : decode cM_toward 36 = .ok (.imul, 1) := by decide +kernel
theorem dM_toward_37 : decode cM_toward 37 = .ok (.iload_n 1, 1) := by decide +kernel
theorem dM_toward_38 : decode cM_toward 38 = .ok (.iadd, 1) := by decide +kernel
theorem dM_toward_39 : decode cM_toward 39 = .ok (.imul, 1) := by decide +kernel
theorem dM_toward_40 : decode cM_toward 40 = .ok (.iload_n 3, 1) := by decide +kernel
theorem dM_toward_41 : decode cM_toward 41 = .ok (.iadd, 1) := by decide +kernel
theorem dM_toward_42 : decode cM_toward 42 = .ok (.imul, 1) := by decide +kernel
theorem dM_toward_43 : decode cM_toward 43 = .ok (.iload 4, 2) := by decide +kernel
theorem dM_toward_45 : decode cM_toward 45 = .ok (.iload_n 3, 1) := by decide +kernel
theorem dM_toward_46 : decode cM_toward 46 = .ok (.invokestatic 90, 3) := by decide +kernel
theorem dM_toward_49 : decode cM_toward 49 = .ok (.if_icmp .ne 7, 3) := by decide +kernel
theorem dM_toward_52 : decode cM_toward 52 = .ok (.iconst 0, 1) := by decide +kernel
theorem dM_toward_53 : decode cM_toward 53 = .ok (.goto 4, 3) := by decide +kernel
theorem dM_toward_56 : decode cM_toward 56 = .ok (.iconst 1, 1) := by decide +kernel
theorem dM_toward_57 : decode cM_toward 57 = .ok (.iadd, 1) := by decide +kernel
theorem dM_toward_58 : decode cM_toward 58 = .ok (.ireturn, 1) := by decide +kernel
theorem dM_open_0 : decode cM_open 0 = .ok (.aload_n 0, 1) := by decide +kernel
theorem dM_open_1 : decode cM_open 1 = .ok (.getfield 13, 3) := by decide +kernel
theorem dM_open_4 : decode cM_open 4 = .ok (.iload_n 1, 1) := by decide +kernel
theorem dM_open_5 : decode cM_open 5 = .ok (.iconst 2, 1) := by decide +kernel
theorem dM_open_6 : decode cM_open 6 = .ok (.idiv, 1) := by decide +kernel
theorem dM_open_7 : decode cM_open 7 = .ok (.iaload, 1) := by decide +kernel
theorem dM_open_8 : decode cM_open 8 = .ok (.istore_n 2, 1) := by decide +kernel
theorem dM_open_9 : decode cM_open 9 = .ok (.iload_n 1, 1) := by decide +kernel
theorem dM_open_10 : decode cM_open 10 = .ok (.iconst 2, 1) := by decide +kernel
theorem dM_open_11 : decode cM_open 11 = .ok (.irem, 1) := by decide +kernel
theorem dM_open_12 : decode cM_open 12 = .ok (.ifCond .ne 16, 3) := by decide +kernel
theorem dM_open_15 : decode cM_open 15 = .ok (.iload_n 2, 1) := by decide +kernel
theorem dM_open_16 : decode cM_open 16 = .ok (.iconst 2, 1) := by decide +kernel
theorem dM_open_17 : decode cM_open 17 = .ok (.if_icmp .eq 7, 3) := by decide +kernel
theorem dM_open_20 : decode cM_open 20 = .ok (.iconst 1, 1) := by decide +kernel
theorem dM_open_21 : decode cM_open 21 = .ok (.goto 17, 3) := by decide +kernel
theorem dM_open_24 : decode cM_open 24 = .ok (.iconst 0, 1) := by decide +kernel
theorem dM_open_25 : decode cM_open 25 = .ok (.goto 13, 3) := by decide +kernel
theorem dM_open_28 : decode cM_open 28 = .ok (.iload_n 2, 1) := by decide +kernel
theorem dM_open_29 : decode cM_open 29 = .ok (.iconst 1, 1) := by decide +kernel
theorem dM_open_30 : decode cM_open 30 = .ok (.if_icmp .eq 7, 3) := by decide +kernel
theorem dM_open_33 : decode cM_open 33 = .ok (.iconst 1, 1) := by decide +kernel
theorem dM_open_34 : decode cM_open 34 = .ok (.goto 4, 3) := by decide +kernel
theorem dM_open_37 : decode cM_open 37 = .ok (.iconst 0, 1) := by decide +kernel
theorem dM_open_38 : decode cM_open 38 = .ok (.ireturn, 1) := by decide +kernel
theorem dM_signalled_0 : decode cM_signalled 0 = .ok (.aload_n 0, 1) := by decide +kernel
theorem dM_signalled_1 : decode cM_signalled 1 = .ok (.getfield 13, 3) := by decide +kernel
theorem dM_signalled_4 : decode cM_signalled 4 = .ok (.iload_n 1, 1) := by decide +kernel
theorem dM_signalled_5 : decode cM_signalled 5 = .ok (.iconst 2, 1) := by decide +kernel
theorem dM_signalled_6 : decode cM_signalled 6 = .ok (.idiv, 1) := by decide +kernel
theorem dM_signalled_7 : decode cM_signalled 7 = .ok (.iaload, 1) := by decide +kernel
theorem dM_signalled_8 : decode cM_signalled 8 = .ok (.iload_n 1, 1) := by decide +kernel
theorem dM_signalled_9 : decode cM_signalled 9 = .ok (.iconst 2, 1) := by decide +kernel
theorem dM_signalled_10 : decode cM_signalled 10 = .ok (.irem, 1) := by decide +kernel
theorem dM_signalled_11 : decode cM_signalled 11 = .ok (.ishr, 1) := by decide +kernel
theorem dM_signalled_12 : decode cM_signalled 12 = .ok (.iconst 1, 1) := by decide +kernel
theorem dM_signalled_13 : decode cM_signalled 13 = .ok (.iand, 1) := by decide +kernel
theorem dM_signalled_14 : decode cM_signalled 14 = .ok (.iconst 1, 1) := by decide +kernel
theorem dM_signalled_15 : decode cM_signalled 15 = .ok (.if_icmp .ne 7, 3) := by decide +kernel
theorem dM_signalled_18 : decode cM_signalled 18 = .ok (.iconst 1, 1) := by decide +kernel
theorem dM_signalled_19 : decode cM_signalled 19 = .ok (.goto 4, 3) := by decide +kernel
theorem dM_signalled_22 : decode cM_signalled 22 = .ok (.iconst 0, 1) := by decide +kernel
theorem dM_signalled_23 : decode cM_signalled 23 = .ok (.ireturn, 1) := by decide +kernel
theorem dM_cost_0 : decode cM_cost 0 = .ok (.iload_n 1, 1) := by decide +kernel
theorem dM_cost_1 : decode cM_cost 1 = .ok (.iconst 2, 1) := by decide +kernel
theorem dM_cost_2 : decode cM_cost 2 = .ok (.idiv, 1) := by decide +kernel
theorem dM_cost_3 : decode cM_cost 3 = .ok (.bipush 6, 2) := by decide +kernel
theorem dM_cost_5 : decode cM_cost 5 = .ok (.irem, 1) := by decide +kernel
theorem dM_cost_6 : decode cM_cost 6 = .ok (.iconst 2, 1) := by decide +kernel
theorem dM_cost_7 : decode cM_cost 7 = .ok (.if_icmp .ge 8, 3) := by decide +kernel
theorem dM_cost_10 : decode cM_cost 10 = .ok (.bipush 10, 2) := by decide +kernel
theorem dM_cost_12 : decode cM_cost 12 = .ok (.goto 5, 3) := by decide +kernel
theorem dM_cost_15 : decode cM_cost 15 = .ok (.bipush 7, 2) := by decide +kernel
theorem dM_cost_17 : decode cM_cost 17 = .ok (.aload_n 0, 1) := by decide +kernel
theorem dM_cost_18 : decode cM_cost 18 = .ok (.iload_n 1, 1) := by decide +kernel
theorem dM_cost_19 : decode cM_cost 19 = .ok (.invokevirtual 105, 3) := by decide +kernel
theorem dM_cost_22 : decode cM_cost 22 = .ok (.ifCond .eq 7, 3) := by decide +kernel
theorem dM_cost_25 : decode cM_cost 25 = .ok (.iconst 5, 1) := by decide +kernel
theorem dM_cost_26 : decode cM_cost 26 = .ok (.goto 4, 3) := by decide +kernel
theorem dM_cost_29 : decode cM_cost 29 = .ok (.iconst 0, 1) := by decide +kernel
theorem dM_cost_30 : decode cM_cost 30 = .ok (.iadd, 1) := by decide +kernel
theorem dM_cost_31 : decode cM_cost 31 = .ok (.ireturn, 1) := by decide +kernel
theorem dM_across_0 : decode cM_across 0 = .ok (.iload_n 1, 1) := by decide +kernel
theorem dM_across_1 : decode cM_across 1 = .ok (.bipush 8, 2) := by decide +kernel
theorem dM_across_3 : decode cM_across 3 = .ok (.irem, 1) := by decide +kernel
theorem dM_across_4 : decode cM_across 4 = .ok (.iload_n 2, 1) := by decide +kernel
theorem dM_across_5 : decode cM_across 5 = .ok (.iconst 1, 1) := by decide +kernel
theorem dM_across_6 : decode cM_across 6 = .ok (.if_icmp .ne 7, 3) := by decide +kernel
theorem dM_across_9 : decode cM_across 9 = .ok (.iconst 1, 1) := by decide +kernel
theorem dM_across_10 : decode cM_across 10 = .ok (.goto 13, 3) := by decide +kernel
theorem dM_across_13 : decode cM_across 13 = .ok (.iload_n 2, 1) := by decide +kernel
theorem dM_across_14 : decode cM_across 14 = .ok (.iconst 3, 1) := by decide +kernel
theorem dM_across_15 : decode cM_across 15 = .ok (.if_icmp .ne 7, 3) := by decide +kernel
theorem dM_across_18 : decode cM_across 18 = .ok (.iconst (-1), 1) := by decide +kernel
theorem dM_across_19 : decode cM_across 19 = .ok (.goto 4, 3) := by decide +kernel
theorem dM_across_22 : decode cM_across 22 = .ok (.iconst 0, 1) := by decide +kernel
theorem dM_across_23 : decode cM_across 23 = .ok (.iadd, 1) := by decide +kernel
theorem dM_across_24 : decode cM_across 24 = .ok (.istore_n 3, 1) := by decide +kernel
theorem dM_across_25 : decode cM_across 25 = .ok (.iload_n 1, 1) := by decide +kernel
theorem dM_across_26 : decode cM_across 26 = .ok (.bipush 8, 2) := by decide +kernel
theorem dM_across_28 : decode cM_across 28 = .ok (.idiv, 1) := by decide +kernel
theorem dM_across_29 : decode cM_across 29 = .ok (.iload_n 2, 1) := by decide +kernel
theorem dM_across_30 : decode cM_across 30 = .ok (.iconst 2, 1) := by decide +kernel
theorem dM_across_31 : decode cM_across 31 = .ok (.if_icmp .ne 7, 3) := by decide +kernel
theorem dM_across_34 : decode cM_across 34 = .ok (.iconst 1, 1) := by decide +kernel
theorem dM_across_35 : decode cM_across 35 = .ok (.goto 12, 3) := by decide +kernel
theorem dM_across_38 : decode cM_across 38 = .ok (.iload_n 2, 1) := by decide +kernel
theorem dM_across_39 : decode cM_across 39 = .ok (.ifCond .ne 7, 3) := by decide +kernel
theorem dM_across_42 : decode cM_across 42 = .ok (.iconst (-1), 1) := by decide +kernel
theorem dM_across_43 : decode cM_across 43 = .ok (.goto 4, 3) := by decide +kernel
theorem dM_across_46 : decode cM_across 46 = .ok (.iconst 0, 1) := by decide +kernel
theorem dM_across_47 : decode cM_across 47 = .ok (.iadd, 1) := by decide +kernel
theorem dM_across_48 : decode cM_across 48 = .ok (.istore 4, 2) := by decide +kernel
theorem dM_across_50 : decode cM_across 50 = .ok (.aload_n 0, 1) := by decide +kernel
theorem dM_across_51 : decode cM_across 51 = .ok (.iload_n 3, 1) := by decide +kernel
theorem dM_across_52 : decode cM_across 52 = .ok (.iload 4, 2) := by decide +kernel
theorem dM_across_54 : decode cM_across 54 = .ok (.invokevirtual 97, 3) := by decide +kernel
theorem dM_across_57 : decode cM_across 57 = .ok (.ifCond .eq 13, 3) := by decide +kernel
theorem dM_across_60 : decode cM_across 60 = .ok (.bipush 8, 2) := by decide +kernel
theorem dM_across_62 : decode cM_across 62 = .ok (.iload 4, 2) := by decide +kernel
theorem dM_across_64 : decode cM_across 64 = .ok (.imul, 1) := by decide +kernel
theorem dM_across_65 : decode cM_across 65 = .ok (.iload_n 3, 1) := by decide +kernel
theorem dM_across_66 : decode cM_across 66 = .ok (.iadd, 1) := by decide +kernel
theorem dM_across_67 : decode cM_across 67 = .ok (.goto 4, 3) := by decide +kernel
theorem dM_across_70 : decode cM_across 70 = .ok (.iconst (-1), 1) := by decide +kernel
theorem dM_across_71 : decode cM_across 71 = .ok (.ireturn, 1) := by decide +kernel
theorem dM_behind_0 : decode cM_behind 0 = .ok (.iload_n 1, 1) := by decide +kernel
theorem dM_behind_1 : decode cM_behind 1 = .ok (.invokestatic 109, 3) := by decide +kernel
theorem dM_behind_4 : decode cM_behind 4 = .ok (.istore_n 3, 1) := by decide +kernel
theorem dM_behind_5 : decode cM_behind 5 = .ok (.aload_n 0, 1) := by decide +kernel
theorem dM_behind_6 : decode cM_behind 6 = .ok (.iload_n 1, 1) := by decide +kernel
theorem dM_behind_7 : decode cM_behind 7 = .ok (.bipush 12, 2) := by decide +kernel
theorem dM_behind_9 : decode cM_behind 9 = .ok (.idiv, 1) := by decide +kernel
theorem dM_behind_10 : decode cM_behind 10 = .ok (.iload_n 3, 1) := by decide +kernel
theorem dM_behind_11 : decode cM_behind 11 = .ok (.invokevirtual 112, 3) := by decide +kernel
theorem dM_behind_14 : decode cM_behind 14 = .ok (.istore 4, 2) := by decide +kernel
theorem dM_behind_16 : decode cM_behind 16 = .ok (.iload_n 3, 1) := by decide +kernel
theorem dM_behind_17 : decode cM_behind 17 = .ok (.iconst 2, 1) := by decide +kernel
theorem dM_behind_18 : decode cM_behind 18 = .ok (.iadd, 1) := by decide +kernel
theorem dM_behind_19 : decode cM_behind 19 = .ok (.iconst 4, 1) := by decide +kernel
theorem dM_behind_20 : decode cM_behind 20 = .ok (.irem, 1) := by decide +kernel
theorem dM_behind_21 : decode cM_behind 21 = .ok (.istore 5, 2) := by decide +kernel
theorem dM_behind_23 : decode cM_behind 23 = .ok (.iload 4, 2) := by decide +kernel
theorem dM_behind_25 : decode cM_behind 25 = .ok (.ifCond .lt 36, 3) := by decide +kernel
theorem dM_behind_28 : decode cM_behind 28 = .ok (.aload_n 0, 1) := by decide +kernel
theorem dM_behind_29 : decode cM_behind 29 = .ok (.getfield 7, 3) := by decide +kernel
theorem dM_behind_32 : decode cM_behind 32 = .ok (.bipush 6, 2) := by decide +kernel
theorem dM_behind_34 : decode cM_behind 34 = .ok (.iload 4, 2) := by decide +kernel
theorem dM_behind_36 : decode cM_behind 36 = .ok (.imul, 1) := by decide +kernel
theorem dM_behind_37 : decode cM_behind 37 = .ok (.iload_n 2, 1) := by decide +kernel
theorem dM_behind_38 : decode cM_behind 38 = .ok (.iadd, 1) := by decide +kernel
theorem dM_behind_39 : decode cM_behind 39 = .ok (.baload, 1) := by decide +kernel
theorem dM_behind_40 : decode cM_behind 40 = .ok (.ifCond .eq 21, 3) := by decide +kernel
theorem dM_behind_43 : decode cM_behind 43 = .ok (.iload 5, 2) := by decide +kernel
theorem dM_behind_45 : decode cM_behind 45 = .ok (.iload_n 2, 1) := by decide +kernel
theorem dM_behind_46 : decode cM_behind 46 = .ok (.invokestatic 90, 3) := by decide +kernel
theorem dM_behind_49 : decode cM_behind 49 = .ok (.if_icmp .eq 14, 3) := by decide +kernel
theorem dM_behind_52 : decode cM_behind 52 = .ok (.iload 5, 2) := by decide +kernel
theorem dM_behind_54 : decode cM_behind 54 = .ok (.iload_n 2, 1) := by decide +kernel
theorem dM_behind_55 : decode cM_behind 55 = .ok (.invokestatic 94, 3) := by decide +kernel
theorem dM_behind_58 : decode cM_behind 58 = .ok (.if_icmp .eq 5, 3) := by decide +kernel
theorem dM_behind_61 : decode cM_behind 61 = .ok (.iconst (-1), 1) := by decide +kernel
theorem dM_behind_62 : decode cM_behind 62 = .ok (.ireturn, 1) := by decide +kernel
theorem dM_behind_63 : decode cM_behind 63 = .ok (.iconst 2, 1) := by decide +kernel
theorem dM_behind_64 : decode cM_behind 64 = .ok (.bipush 6, 2) := by decide +kernel
theorem dM_behind_66 : decode cM_behind 66 = .ok (.iload 4, 2) := by decide +kernel
theorem dM_behind_68 : decode cM_behind 68 = .ok (.imul, 1) := by decide +kernel
theorem dM_behind_69 : decode cM_behind 69 = .ok (.iload_n 2, 1) := by decide +kernel
theorem dM_behind_70 : decode cM_behind 70 = .ok (.iadd, 1) := by decide +kernel
theorem dM_behind_71 : decode cM_behind 71 = .ok (.imul, 1) := by decide +kernel
theorem dM_behind_72 : decode cM_behind 72 = .ok (.iload 5, 2) := by decide +kernel
theorem dM_behind_74 : decode cM_behind 74 = .ok (.iload_n 2, 1) := by decide +kernel
theorem dM_behind_75 : decode cM_behind 75 = .ok (.invokestatic 90, 3) := by decide +kernel
theorem dM_behind_78 : decode cM_behind 78 = .ok (.if_icmp .ne 7, 3) := by decide +kernel
theorem dM_behind_81 : decode cM_behind 81 = .ok (.iconst 1, 1) := by decide +kernel
theorem dM_behind_82 : decode cM_behind 82 = .ok (.goto 4, 3) := by decide +kernel
theorem dM_behind_85 : decode cM_behind 85 = .ok (.iconst 0, 1) := by decide +kernel
theorem dM_behind_86 : decode cM_behind 86 = .ok (.iadd, 1) := by decide +kernel
theorem dM_behind_87 : decode cM_behind 87 = .ok (.istore 6, 2) := by decide +kernel
theorem dM_behind_89 : decode cM_behind 89 = .ok (.aload_n 0, 1) := by decide +kernel
theorem dM_behind_90 : decode cM_behind 90 = .ok (.iload 6, 2) := by decide +kernel
theorem dM_behind_92 : decode cM_behind 92 = .ok (.invokevirtual 116, 3) := by decide +kernel
theorem dM_behind_95 : decode cM_behind 95 = .ok (.ifCond .eq 8, 3) := by decide +kernel
theorem dM_behind_98 : decode cM_behind 98 = .ok (.iload 6, 2) := by decide +kernel
theorem dM_behind_100 : decode cM_behind 100 = .ok (.goto 4, 3) := by decide +kernel
theorem dM_behind_103 : decode cM_behind 103 = .ok (.iconst (-1), 1) := by decide +kernel
theorem dM_behind_104 : decode cM_behind 104 = .ok (.ireturn, 1) := by decide +kernel
theorem dM_cross_0 : decode cM_cross 0 = .ok (.iload_n 0, 1) := by decide +kernel
theorem dM_cross_1 : decode cM_cross 1 = .ok (.bipush 6, 2) := by decide +kernel
theorem dM_cross_3 : decode cM_cross 3 = .ok (.irem, 1) := by decide +kernel
theorem dM_cross_4 : decode cM_cross 4 = .ok (.istore_n 2, 1) := by decide +kernel
theorem dM_cross_5 : decode cM_cross 5 = .ok (.iload_n 1, 1) := by decide +kernel
theorem dM_cross_6 : decode cM_cross 6 = .ok (.bipush 6, 2) := by decide +kernel
theorem dM_cross_8 : decode cM_cross 8 = .ok (.irem, 1) := by decide +kernel
theorem dM_cross_9 : decode cM_cross 9 = .ok (.istore_n 3, 1) := by decide +kernel
theorem dM_cross_10 : decode cM_cross 10 = .ok (.iload_n 2, 1) := by decide +kernel
theorem dM_cross_11 : decode cM_cross 11 = .ok (.iconst 2, 1) := by decide +kernel
theorem dM_cross_12 : decode cM_cross 12 = .ok (.idiv, 1) := by decide +kernel
theorem dM_cross_13 : decode cM_cross 13 = .ok (.iload_n 3, 1) := by decide +kernel
theorem dM_cross_14 : decode cM_cross 14 = .ok (.iconst 2, 1) := by decide +kernel
theorem dM_cross_15 : decode cM_cross 15 = .ok (.idiv, 1) := by decide +kernel
theorem dM_cross_16 : decode cM_cross 16 = .ok (.if_icmp .ne 17, 3) := by decide +kernel
theorem dM_cross_19 : decode cM_cross 19 = .ok (.iload_n 2, 1) := by decide +kernel
theorem dM_cross_20 : decode cM_cross 20 = .ok (.iload_n 3, 1) := by decide +kernel
theorem dM_cross_21 : decode cM_cross 21 = .ok (.if_icmp .eq 12, 3) := by decide +kernel
theorem dM_cross_24 : decode cM_cross 24 = .ok (.iload_n 2, 1) := by decide +kernel
theorem dM_cross_25 : decode cM_cross 25 = .ok (.iconst 1, 1) := by decide +kernel
theorem dM_cross_26 : decode cM_cross 26 = .ok (.if_icmp .le 7, 3) := by decide +kernel
theorem dM_cross_29 : decode cM_cross 29 = .ok (.iconst 1, 1) := by decide +kernel
theorem dM_cross_30 : decode cM_cross 30 = .ok (.goto 4, 3) := by decide +kernel
theorem dM_cross_33 : decode cM_cross 33 = .ok (.iconst 0, 1) := by decide +kernel
theorem dM_cross_34 : decode cM_cross 34 = .ok (.istore 4, 2) := by decide +kernel
theorem dM_cross_36 : decode cM_cross 36 = .ok (.iload_n 0, 1) := by decide +kernel
theorem dM_cross_37 : decode cM_cross 37 = .ok (.bipush 6, 2) := by decide +kernel
theorem dM_cross_39 : decode cM_cross 39 = .ok (.idiv, 1) := by decide +kernel
theorem dM_cross_40 : decode cM_cross 40 = .ok (.iload_n 1, 1) := by decide +kernel
theorem dM_cross_41 : decode cM_cross 41 = .ok (.bipush 6, 2) := by decide +kernel
theorem dM_cross_43 : decode cM_cross 43 = .ok (.idiv, 1) := by decide +kernel
theorem dM_cross_44 : decode cM_cross 44 = .ok (.if_icmp .ne 12, 3) := by decide +kernel
theorem dM_cross_47 : decode cM_cross 47 = .ok (.iload 4, 2) := by decide +kernel
theorem dM_cross_49 : decode cM_cross 49 = .ok (.ifCond .ne 7, 3) := by decide +kernel
theorem dM_cross_52 : decode cM_cross 52 = .ok (.iconst 1, 1) := by decide +kernel
theorem dM_cross_53 : decode cM_cross 53 = .ok (.goto 4, 3) := by decide +kernel
theorem dM_cross_56 : decode cM_cross 56 = .ok (.iconst 0, 1) := by decide +kernel
theorem dM_cross_57 : decode cM_cross 57 = .ok (.ireturn, 1) := by decide +kernel
theorem dM_isTrain_0 : decode cM_isTrain 0 = .ok (.iload_n 1, 1) := by decide +kernel
theorem dM_isTrain_1 : decode cM_isTrain 1 = .ok (.ifCond .lt 15, 3) := by decide +kernel
theorem dM_isTrain_4 : decode cM_isTrain 4 = .ok (.iload_n 1, 1) := by decide +kernel
theorem dM_isTrain_5 : decode cM_isTrain 5 = .ok (.aload_n 0, 1) := by decide +kernel
theorem dM_isTrain_6 : decode cM_isTrain 6 = .ok (.getfield 141, 3) := by decide +kernel
theorem dM_isTrain_9 : decode cM_isTrain 9 = .ok (.if_icmp .ge 7, 3) := by decide +kernel
theorem dM_isTrain_12 : decode cM_isTrain 12 = .ok (.iconst 1, 1) := by decide +kernel
theorem dM_isTrain_13 : decode cM_isTrain 13 = .ok (.goto 4, 3) := by decide +kernel
theorem dM_isTrain_16 : decode cM_isTrain 16 = .ok (.iconst 0, 1) := by decide +kernel
theorem dM_isTrain_17 : decode cM_isTrain 17 = .ok (.ireturn, 1) := by decide +kernel
theorem dM_last_0 : decode cM_last 0 = .ok (.aload_n 0, 1) := by decide +kernel
theorem dM_last_1 : decode cM_last 1 = .ok (.getfield 32, 3) := by decide +kernel
theorem dM_last_4 : decode cM_last 4 = .ok (.sipush 300, 3) := by decide +kernel
theorem dM_last_7 : decode cM_last 7 = .ok (.iload_n 1, 1) := by decide +kernel
theorem dM_last_8 : decode cM_last 8 = .ok (.imul, 1) := by decide +kernel
theorem dM_last_9 : decode cM_last 9 = .ok (.aload_n 0, 1) := by decide +kernel
theorem dM_last_10 : decode cM_last 10 = .ok (.getfield 35, 3) := by decide +kernel
theorem dM_last_13 : decode cM_last 13 = .ok (.iload_n 1, 1) := by decide +kernel
theorem dM_last_14 : decode cM_last 14 = .ok (.iaload, 1) := by decide +kernel
theorem dM_last_15 : decode cM_last 15 = .ok (.iadd, 1) := by decide +kernel
theorem dM_last_16 : decode cM_last 16 = .ok (.iconst 1, 1) := by decide +kernel
theorem dM_last_17 : decode cM_last 17 = .ok (.isub, 1) := by decide +kernel
theorem dM_last_18 : decode cM_last 18 = .ok (.iaload, 1) := by decide +kernel
theorem dM_last_19 : decode cM_last 19 = .ok (.ireturn, 1) := by decide +kernel
theorem dM_ahead_0 : decode cM_ahead 0 = .ok (.aload_n 0, 1) := by decide +kernel
theorem dM_ahead_1 : decode cM_ahead 1 = .ok (.getfield 35, 3) := by decide +kernel
theorem dM_ahead_4 : decode cM_ahead 4 = .ok (.iload_n 1, 1) := by decide +kernel
theorem dM_ahead_5 : decode cM_ahead 5 = .ok (.iaload, 1) := by decide +kernel
theorem dM_ahead_6 : decode cM_ahead 6 = .ok (.aload_n 0, 1) := by decide +kernel
theorem dM_ahead_7 : decode cM_ahead 7 = .ok (.getfield 38, 3) := by decide +kernel
theorem dM_ahead_10 : decode cM_ahead 10 = .ok (.iload_n 1, 1) := by decide +kernel
theorem dM_ahead_11 : decode cM_ahead 11 = .ok (.iaload, 1) := by decide +kernel
theorem dM_ahead_12 : decode cM_ahead 12 = .ok (.isub, 1) := by decide +kernel
theorem dM_ahead_13 : decode cM_ahead 13 = .ok (.ireturn, 1) := by decide +kernel
theorem dM_goal_0 : decode cM_goal 0 = .ok (.aload_n 0, 1) := by decide +kernel
theorem dM_goal_1 : decode cM_goal 1 = .ok (.getfield 53, 3) := by decide +kernel
theorem dM_goal_4 : decode cM_goal 4 = .ok (.bipush 6, 2) := by decide +kernel
theorem dM_goal_6 : decode cM_goal 6 = .ok (.iload_n 1, 1) := by decide +kernel
theorem dM_goal_7 : decode cM_goal 7 = .ok (.imul, 1) := by decide +kernel
theorem dM_goal_8 : decode cM_goal 8 = .ok (.aload_n 0, 1) := by decide +kernel
theorem dM_goal_9 : decode cM_goal 9 = .ok (.getfield 59, 3) := by decide +kernel
theorem dM_goal_12 : decode cM_goal 12 = .ok (.iload_n 1, 1) := by decide +kernel
theorem dM_goal_13 : decode cM_goal 13 = .ok (.iaload, 1) := by decide +kernel
theorem dM_goal_14 : decode cM_goal 14 = .ok (.iadd, 1) := by decide +kernel
theorem dM_goal_15 : decode cM_goal 15 = .ok (.iaload, 1) := by decide +kernel
theorem dM_goal_16 : decode cM_goal 16 = .ok (.ireturn, 1) := by decide +kernel
theorem dM_due_0 : decode cM_due 0 = .ok (.aload_n 0, 1) := by decide +kernel
theorem dM_due_1 : decode cM_due 1 = .ok (.iload_n 1, 1) := by decide +kernel
theorem dM_due_2 : decode cM_due 2 = .ok (.invokevirtual 129, 3) := by decide +kernel
theorem dM_due_5 : decode cM_due 5 = .ok (.iconst 2, 1) := by decide +kernel
theorem dM_due_6 : decode cM_due 6 = .ok (.idiv, 1) := by decide +kernel
theorem dM_due_7 : decode cM_due 7 = .ok (.aload_n 0, 1) := by decide +kernel
theorem dM_due_8 : decode cM_due 8 = .ok (.getfield 17, 3) := by decide +kernel
theorem dM_due_11 : decode cM_due 11 = .ok (.aload_n 0, 1) := by decide +kernel
theorem dM_due_12 : decode cM_due 12 = .ok (.iload_n 1, 1) := by decide +kernel
theorem dM_due_13 : decode cM_due 13 = .ok (.invokevirtual 132, 3) := by decide +kernel
theorem dM_due_16 : decode cM_due 16 = .ok (.iaload, 1) := by decide +kernel
theorem dM_due_17 : decode cM_due 17 = .ok (.if_icmp .ne 24, 3) := by decide +kernel
theorem dM_due_20 : decode cM_due 20 = .ok (.aload_n 0, 1) := by decide +kernel
theorem dM_due_21 : decode cM_due 21 = .ok (.iload_n 1, 1) := by decide +kernel
theorem dM_due_22 : decode cM_due 22 = .ok (.invokevirtual 135, 3) := by decide +kernel
theorem dM_due_25 : decode cM_due 25 = .ok (.ifCond .ne 12, 3) := by decide +kernel
theorem dM_due_28 : decode cM_due 28 = .ok (.aload_n 0, 1) := by decide +kernel
theorem dM_due_29 : decode cM_due 29 = .ok (.getfield 50, 3) := by decide +kernel
theorem dM_due_32 : decode cM_due 32 = .ok (.iload_n 1, 1) := by decide +kernel
theorem dM_due_33 : decode cM_due 33 = .ok (.baload, 1) := by decide +kernel
theorem dM_due_34 : decode cM_due 34 = .ok (.ifCond .ne 7, 3) := by decide +kernel
theorem dM_due_37 : decode cM_due 37 = .ok (.iconst 1, 1) := by decide +kernel
theorem dM_due_38 : decode cM_due 38 = .ok (.goto 4, 3) := by decide +kernel
theorem dM_due_41 : decode cM_due 41 = .ok (.iconst 0, 1) := by decide +kernel
theorem dM_due_42 : decode cM_due 42 = .ok (.ireturn, 1) := by decide +kernel
theorem dM_bars_0 : decode cM_bars 0 = .ok (.iconst 0, 1) := by decide +kernel
theorem dM_bars_1 : decode cM_bars 1 = .ok (.istore_n 3, 1) := by decide +kernel
theorem dM_bars_2 : decode cM_bars 2 = .ok (.iload_n 3, 1) := by decide +kernel
theorem dM_bars_3 : decode cM_bars 3 = .ok (.aload_n 0, 1) := by decide +kernel
theorem dM_bars_4 : decode cM_bars 4 = .ok (.getfield 35, 3) := by decide +kernel
theorem dM_bars_7 : decode cM_bars 7 = .ok (.iload_n 1, 1) := by decide +kernel
theorem dM_bars_8 : decode cM_bars 8 = .ok (.iaload, 1) := by decide +kernel
theorem dM_bars_9 : decode cM_bars 9 = .ok (.if_icmp .ge 32, 3) := by decide +kernel
theorem dM_bars_12 : decode cM_bars 12 = .ok (.aload_n 0, 1) := by decide +kernel
theorem dM_bars_13 : decode cM_bars 13 = .ok (.getfield 32, 3) := by decide +kernel
theorem dM_bars_16 : decode cM_bars 16 = .ok (.sipush 300, 3) := by decide +kernel
theorem dM_bars_19 : decode cM_bars 19 = .ok (.iload_n 1, 1) := by decide +kernel
theorem dM_bars_20 : decode cM_bars 20 = .ok (.imul, 1) := by decide +kernel
theorem dM_bars_21 : decode cM_bars 21 = .ok (.iload_n 3, 1) := by decide +kernel
theorem dM_bars_22 : decode cM_bars 22 = .ok (.iadd, 1) := by decide +kernel
theorem dM_bars_23 : decode cM_bars 23 = .ok (.iaload, 1) := by decide +kernel
theorem dM_bars_24 : decode cM_bars 24 = .ok (.iconst 2, 1) := by decide +kernel
theorem dM_bars_25 : decode cM_bars 25 = .ok (.idiv, 1) := by decide +kernel
theorem dM_bars_26 : decode cM_bars 26 = .ok (.iload_n 2, 1) := by decide +kernel
theorem dM_bars_27 : decode cM_bars 27 = .ok (.invokestatic 138, 3) := by decide +kernel
theorem dM_bars_30 : decode cM_bars 30 = .ok (.ifCond .eq 5, 3) := by decide +kernel
theorem dM_bars_33 : decode cM_bars 33 = .ok (.iconst 1, 1) := by decide +kernel
theorem dM_bars_34 : decode cM_bars 34 = .ok (.ireturn, 1) := by decide +kernel
theorem dM_bars_35 : decode cM_bars 35 = .ok (.iinc 3 1, 3) := by decide +kernel
theorem dM_bars_38 : decode cM_bars 38 = .ok (.goto (-36), 3) := by decide +kernel
theorem dM_bars_41 : decode cM_bars 41 = .ok (.iconst 0, 1) := by decide +kernel
theorem dM_bars_42 : decode cM_bars 42 = .ok (.ireturn, 1) := by decide +kernel
theorem lmM_94 : Cond.methodLink R_M 94 yM_secondEdge ∈ bigW := bw 777 (by decide +kernel) rfl
theorem lmM_90 : Cond.methodLink R_M 90 yM_firstEdge ∈ bigW := bw 774 (by decide +kernel) rfl
theorem lfM_83 : Cond.fieldLink R_M 83 "RailYardModel" "width" "I" ∈ bigW := bw 632 (by decide +kernel) rfl
theorem lfM_87 : Cond.fieldLink R_M 87 "RailYardModel" "height" "I" ∈ bigW := bw 633 (by decide +kernel) rfl
theorem lmM_97 : Cond.methodLink R_M 97 yM_isTile ∈ bigW := bw 784 (by decide +kernel) rfl
theorem lfM_7 : Cond.fieldLink R_M 7 "RailYardModel" "laid" "[Z" ∈ bigW := bw 634 (by decide +kernel) rfl
theorem lmM_101 : Cond.methodLink R_M 101 yM_isPiece ∈ bigW := bw 855 (by decide +kernel) rfl
theorem lfM_13 : Cond.fieldLink R_M 13 "RailYardModel" "marks" "[I" ∈ bigW := bw 635 (by decide +kernel) rfl
theorem lmM_105 : Cond.methodLink R_M 105 yM_signalled ∈ bigW := bw 796 (by decide +kernel) rfl
theorem lmM_109 : Cond.methodLink R_M 109 yM_edgeOf ∈ bigW := bw 771 (by decide +kernel) rfl
theorem lmM_112 : Cond.methodLink R_M 112 yM_across ∈ bigW := bw 780 (by decide +kernel) rfl
theorem lmM_116 : Cond.methodLink R_M 116 yM_open ∈ bigW := bw 788 (by decide +kernel) rfl
theorem lfM_141 : Cond.fieldLink R_M 141 "RailYardModel" "trains" "I" ∈ bigW := bw 642 (by decide +kernel) rfl
theorem lfM_32 : Cond.fieldLink R_M 32 "RailYardModel" "row" "[I" ∈ bigW := bw 643 (by decide +kernel) rfl
theorem lfM_35 : Cond.fieldLink R_M 35 "RailYardModel" "many" "[I" ∈ bigW := bw 644 (by decide +kernel) rfl
theorem lfM_38 : Cond.fieldLink R_M 38 "RailYardModel" "size" "[I" ∈ bigW := bw 645 (by decide +kernel) rfl
theorem lfM_53 : Cond.fieldLink R_M 53 "RailYardModel" "orders" "[I" ∈ bigW := bw 650 (by decide +kernel) rfl
theorem lfM_59 : Cond.fieldLink R_M 59 "RailYardModel" "turn" "[I" ∈ bigW := bw 652 (by decide +kernel) rfl
theorem lmM_129 : Cond.methodLink R_M 129 yM_last ∈ bigW := bw 746 (by decide +kernel) rfl
theorem lfM_17 : Cond.fieldLink R_M 17 "RailYardModel" "spot" "[I" ∈ bigW := bw 637 (by decide +kernel) rfl
theorem lmM_132 : Cond.methodLink R_M 132 yM_goal ∈ bigW := bw 738 (by decide +kernel) rfl
theorem lmM_135 : Cond.methodLink R_M 135 yM_ahead ∈ bigW := bw 750 (by decide +kernel) rfl
theorem lfM_50 : Cond.fieldLink R_M 50 "RailYardModel" "loaded" "[Z" ∈ bigW := bw 649 (by decide +kernel) rfl
theorem lmM_138 : Cond.methodLink R_M 138 yM_cross ∈ bigW := bw 812 (by decide +kernel) rfl
theorem miM_secondEdge : MI yM_secondEdge cM_secondEdge 1 (some .int) 1 := ⟨bw 779 (by decide +kernel) rfl, bw 48 (by decide +kernel) rfl, ⟨by decide +kernel, by decide +kernel⟩, by decide +kernel, by decide⟩
theorem msM_secondEdge : Cond.static yM_secondEdge ∈ bigW := bw 778 (by decide +kernel) rfl
theorem miM_firstEdge : MI yM_firstEdge cM_firstEdge 1 (some .int) 1 := ⟨bw 776 (by decide +kernel) rfl, bw 48 (by decide +kernel) rfl, ⟨by decide +kernel, by decide +kernel⟩, by decide +kernel, by decide⟩
theorem msM_firstEdge : Cond.static yM_firstEdge ∈ bigW := bw 775 (by decide +kernel) rfl
theorem miM_isTile : MI yM_isTile cM_isTile 3 (some .boolean) 2 := ⟨bw 787 (by decide +kernel) rfl, bw 48 (by decide +kernel) rfl, ⟨by decide +kernel, by decide +kernel⟩, by decide +kernel, by decide⟩
theorem mvM_isTile : MV yM_isTile := ⟨bw 786 (by decide +kernel) rfl, bw 19 (by decide +kernel) rfl⟩
theorem miM_isPiece : MI yM_isPiece cM_isPiece 4 (some .boolean) 3 := ⟨bw 858 (by decide +kernel) rfl, bw 48 (by decide +kernel) rfl, ⟨by decide +kernel, by decide +kernel⟩, by decide +kernel, by decide⟩
theorem mvM_isPiece : MV yM_isPiece := ⟨bw 857 (by decide +kernel) rfl, bw 34 (by decide +kernel) rfl⟩
theorem miM_signalled : MI yM_signalled cM_signalled 2 (some .boolean) 1 := ⟨bw 799 (by decide +kernel) rfl, bw 48 (by decide +kernel) rfl, ⟨by decide +kernel, by decide +kernel⟩, by decide +kernel, by decide⟩
theorem mvM_signalled : MV yM_signalled := ⟨bw 798 (by decide +kernel) rfl, bw 22 (by decide +kernel) rfl⟩
theorem miM_edgeOf : MI yM_edgeOf cM_edgeOf 2 (some .int) 1 := ⟨bw 773 (by decide +kernel) rfl, bw 48 (by decide +kernel) rfl, ⟨by decide +kernel, by decide +kernel⟩, by decide +kernel, by decide⟩
theorem msM_edgeOf : Cond.static yM_edgeOf ∈ bigW := bw 772 (by decide +kernel) rfl
theorem miM_across : MI yM_across cM_across 5 (some .int) 2 := ⟨bw 783 (by decide +kernel) rfl, bw 48 (by decide +kernel) rfl, ⟨by decide +kernel, by decide +kernel⟩, by decide +kernel, by decide⟩
theorem mvM_across : MV yM_across := ⟨bw 782 (by decide +kernel) rfl, bw 18 (by decide +kernel) rfl⟩
theorem miM_open : MI yM_open cM_open 3 (some .boolean) 1 := ⟨bw 791 (by decide +kernel) rfl, bw 48 (by decide +kernel) rfl, ⟨by decide +kernel, by decide +kernel⟩, by decide +kernel, by decide⟩
theorem mvM_open : MV yM_open := ⟨bw 790 (by decide +kernel) rfl, bw 20 (by decide +kernel) rfl⟩
theorem miM_last : MI yM_last cM_last 2 (some .int) 1 := ⟨bw 749 (by decide +kernel) rfl, bw 48 (by decide +kernel) rfl, ⟨by decide +kernel, by decide +kernel⟩, by decide +kernel, by decide⟩
theorem mvM_last : MV yM_last := ⟨bw 748 (by decide +kernel) rfl, bw 12 (by decide +kernel) rfl⟩
theorem miM_goal : MI yM_goal cM_goal 2 (some .int) 1 := ⟨bw 741 (by decide +kernel) rfl, bw 48 (by decide +kernel) rfl, ⟨by decide +kernel, by decide +kernel⟩, by decide +kernel, by decide⟩
theorem mvM_goal : MV yM_goal := ⟨bw 740 (by decide +kernel) rfl, bw 10 (by decide +kernel) rfl⟩
theorem miM_ahead : MI yM_ahead cM_ahead 2 (some .int) 1 := ⟨bw 753 (by decide +kernel) rfl, bw 48 (by decide +kernel) rfl, ⟨by decide +kernel, by decide +kernel⟩, by decide +kernel, by decide⟩
theorem mvM_ahead : MV yM_ahead := ⟨bw 752 (by decide +kernel) rfl, bw 13 (by decide +kernel) rfl⟩
theorem miM_cross : MI yM_cross cM_cross 5 (some .boolean) 2 := ⟨bw 814 (by decide +kernel) rfl, bw 48 (by decide +kernel) rfl, ⟨by decide +kernel, by decide +kernel⟩, by decide +kernel, by decide⟩
theorem msM_cross : Cond.static yM_cross ∈ bigW := bw 813 (by decide +kernel) rfl
/-- the model's numbers are in their ranges -/
def mOK (w : RW) : Prop :=
  (3 ≤ w 77 0 ∧ w 77 0 ≤ 8 ∧ 3 ≤ w 77 1 ∧ w 77 1 ≤ 6) ∧
  (∀ p, 0 ≤ p → p < 288 → (w 78 p = 0 ∨ w 78 p = 1) ∧ 0 ≤ w 79 p ∧ w 79 p ≤ 3) ∧
  (0 ≤ w 77 4 ∧ w 77 4 ≤ 6 ∧ 0 ≤ w 77 10 ∧ w 77 10 ≤ 6) ∧
  (∀ s, 0 ≤ s → s < 6 → 0 ≤ w 80 s ∧ w 80 s < 288 ∧ 0 ≤ w 81 s ∧ w 81 s ≤ 50 ∧ 0 ≤ w 82 s ∧ w 82 s ≤ 500) ∧
  (∀ t, 0 ≤ t → t < 6 → 0 ≤ w 86 t ∧ w 86 t ≤ 96 ∧ 0 ≤ w 87 t ∧ w 87 t ≤ 5 ∧ w 87 t ≤ w 86 t ∧ 0 ≤ w 88 t ∧ w 88 t ≤ 3 ∧ 0 ≤ w 89 t ∧ w 89 t ≤ 2 ∧ 0 ≤ w 90 t ∧ w 90 t ≤ 100 ∧ (w 91 t = 0 ∨ w 91 t = 1) ∧ 0 ≤ w 93 t ∧ w 93 t ≤ 6 ∧ 0 ≤ w 94 t ∧ w 94 t < 6) ∧
  (∀ i, 0 ≤ i → i < 1800 → 0 ≤ w 85 i ∧ w 85 i < 576) ∧
  ∀ i, 0 ≤ i → i < 36 → 0 ≤ w 92 i ∧ w 92 i < 6
theorem ctM_firstEdge {G : vG} {l : Launch} {w : RW} {p : Int} (h : 0 ≤ p ∧ p < 6) : CTi G l yM_firstEdge cM_firstEdge 1 .int 0 [.inl p] w (fun r u => r = stt 0 p ∧ w = u) := by
  refine CTi.int (by decide) (Nat.le_of_ble_eq_true rfl) ?_
  intro X Q F hX hR
  subst hX
  show V G X 1 Q 0 [some (.inl p)] [] w
  refine V_iload_n (i := 0) F dM_firstEdge_0 rfl rfl ?_
  refine V_if_ne F 8 dM_firstEdge_1 (by decide) (fun h1 => ?_) (fun h1 => ?_)
  · refine V_iload_n (i := 0) F dM_firstEdge_8 rfl rfl ?_
    refine V_iconst F dM_firstEdge_9 (by decide) ?_
    refine V_icmp_ne F 17 dM_firstEdge_10 (by decide) (fun h10 => ?_) (fun h10 => ?_)
    · refine V_iload_n (i := 0) F dM_firstEdge_17 rfl rfl ?_
      refine V_iconst F dM_firstEdge_18 (by decide) ?_
      refine V_icmp_ne F 26 dM_firstEdge_19 (by decide) (fun h19 => ?_) (fun h19 => ?_)
      · refine V_iconst F dM_firstEdge_26 (by decide) ?_
        exact hR _ _ _ _ dM_firstEdge_27 (⟨by rcases (show p = 0 ∨ p = 1 ∨ p = 2 ∨ p = 3 ∨ p = 4 ∨ p = 5 by omega) with rfl | rfl | rfl | rfl | rfl | rfl <;> first | rfl | omega, rfl⟩)
      · refine V_iconst F dM_firstEdge_22 (by decide) ?_
        refine V_goto F 27 dM_firstEdge_23 (by decide) ?_
        exact hR _ _ _ _ dM_firstEdge_27 (⟨by rcases (show p = 0 ∨ p = 1 ∨ p = 2 ∨ p = 3 ∨ p = 4 ∨ p = 5 by omega) with rfl | rfl | rfl | rfl | rfl | rfl <;> first | rfl | omega, rfl⟩)
    · refine V_iconst F dM_firstEdge_13 (by decide) ?_
      refine V_goto F 27 dM_firstEdge_14 (by decide) ?_
      exact hR _ _ _ _ dM_firstEdge_27 (⟨by rcases (show p = 0 ∨ p = 1 ∨ p = 2 ∨ p = 3 ∨ p = 4 ∨ p = 5 by omega) with rfl | rfl | rfl | rfl | rfl | rfl <;> first | rfl | omega, rfl⟩)
  · refine V_iconst F dM_firstEdge_4 (by decide) ?_
    refine V_goto F 27 dM_firstEdge_5 (by decide) ?_
    exact hR _ _ _ _ dM_firstEdge_27 (⟨by rcases (show p = 0 ∨ p = 1 ∨ p = 2 ∨ p = 3 ∨ p = 4 ∨ p = 5 by omega) with rfl | rfl | rfl | rfl | rfl | rfl <;> first | rfl | omega, rfl⟩)
theorem ctM_secondEdge {G : vG} {l : Launch} {w : RW} {p : Int} (h : 0 ≤ p ∧ p < 6) : CTi G l yM_secondEdge cM_secondEdge 1 .int 0 [.inl p] w (fun r u => r = stt 1 p ∧ w = u) := by
  refine CTi.int (by decide) (Nat.le_of_ble_eq_true rfl) ?_
  intro X Q F hX hR
  subst hX
  show V G X 1 Q 0 [some (.inl p)] [] w
  refine V_iload_n (i := 0) F dM_secondEdge_0 rfl rfl ?_
  refine V_if_eq F 9 dM_secondEdge_1 (by decide) (fun h1 => ?_) (fun h1 => ?_)
  · refine V_iconst F dM_secondEdge_9 (by decide) ?_
    refine V_goto F 28 dM_secondEdge_10 (by decide) ?_
    exact hR _ _ _ _ dM_secondEdge_28 (⟨by rcases (show p = 0 ∨ p = 1 ∨ p = 2 ∨ p = 3 ∨ p = 4 ∨ p = 5 by omega) with rfl | rfl | rfl | rfl | rfl | rfl <;> first | rfl | omega, rfl⟩)
  · refine V_iload_n (i := 0) F dM_secondEdge_4 rfl rfl ?_
    refine V_iconst F dM_secondEdge_5 (by decide) ?_
    refine V_icmp_ne F 13 dM_secondEdge_6 (by decide) (fun h6 => ?_) (fun h6 => ?_)
    · refine V_iload_n (i := 0) F dM_secondEdge_13 rfl rfl ?_
      refine V_iconst F dM_secondEdge_14 (by decide) ?_
      refine V_icmp_eq F 23 dM_secondEdge_15 (by decide) (fun h15 => ?_) (fun h15 => ?_)
      · refine V_iconst F dM_secondEdge_23 (by decide) ?_
        refine V_goto F 28 dM_secondEdge_24 (by decide) ?_
        exact hR _ _ _ _ dM_secondEdge_28 (⟨by rcases (show p = 0 ∨ p = 1 ∨ p = 2 ∨ p = 3 ∨ p = 4 ∨ p = 5 by omega) with rfl | rfl | rfl | rfl | rfl | rfl <;> first | rfl | omega, rfl⟩)
      · refine V_iload_n (i := 0) F dM_secondEdge_18 rfl rfl ?_
        refine V_iconst F dM_secondEdge_19 (by decide) ?_
        refine V_icmp_ne F 27 dM_secondEdge_20 (by decide) (fun h20 => ?_) (fun h20 => ?_)
        · refine V_iconst F dM_secondEdge_27 (by decide) ?_
          exact hR _ _ _ _ dM_secondEdge_28 (⟨by rcases (show p = 0 ∨ p = 1 ∨ p = 2 ∨ p = 3 ∨ p = 4 ∨ p = 5 by omega) with rfl | rfl | rfl | rfl | rfl | rfl <;> first | rfl | omega, rfl⟩)
        · refine V_iconst F dM_secondEdge_23 (by decide) ?_
          refine V_goto F 28 dM_secondEdge_24 (by decide) ?_
          exact hR _ _ _ _ dM_secondEdge_28 (⟨by rcases (show p = 0 ∨ p = 1 ∨ p = 2 ∨ p = 3 ∨ p = 4 ∨ p = 5 by omega) with rfl | rfl | rfl | rfl | rfl | rfl <;> first | rfl | omega, rfl⟩)
    · refine V_iconst F dM_secondEdge_9 (by decide) ?_
      refine V_goto F 28 dM_secondEdge_10 (by decide) ?_
      exact hR _ _ _ _ dM_secondEdge_28 (⟨by rcases (show p = 0 ∨ p = 1 ∨ p = 2 ∨ p = 3 ∨ p = 4 ∨ p = 5 by omega) with rfl | rfl | rfl | rfl | rfl | rfl <;> first | rfl | omega, rfl⟩)
def eoQ (q : Int) : Int := if q % 2 = 0 then stt 0 (q / 2 % 6) else stt 1 (q / 2 % 6)
theorem stt_e {i : Nat} (hi : i < 2) {p : Int} (h : 0 ≤ p ∧ p < 6) : 0 ≤ stt i p ∧ stt i p < 4 := by
  rcases (show i = 0 ∨ i = 1 by omega) with rfl | rfl <;> rcases (show p = 0 ∨ p = 1 ∨ p = 2 ∨ p = 3 ∨ p = 4 ∨ p = 5 by omega) with rfl | rfl | rfl | rfl | rfl | rfl <;> decide
theorem eoQ_rng {q : Int} (h : 0 ≤ q) : 0 ≤ eoQ q ∧ eoQ q < 4 := by
  unfold eoQ
  split
  · exact stt_e (by omega) (by omega)
  · exact stt_e (by omega) (by omega)
theorem ctM_edgeOf {G : vG} {l : Launch} {w : RW} {q : Int} (h : 0 ≤ q ∧ q < 100000) : CTi G l yM_edgeOf cM_edgeOf 2 .int 1 [.inl q] w (fun r u => r = eoQ q ∧ w = u) := by
  refine CTi.int (by decide) (Nat.le_of_ble_eq_true rfl) ?_
  intro X Q F hX hR
  subst hX
  show V G X 2 Q 0 [some (.inl q), none] [] w
  refine V_iload_n (i := 0) F dM_edgeOf_0 rfl rfl ?_
  refine V_iconst F dM_edgeOf_1 (by decide) ?_
  refine V_idiv F dM_edgeOf_2 (by omega) ?_
  refine V_bipush F dM_edgeOf_3 (by decide) ?_
  refine V_irem F dM_edgeOf_5 (by omega) ?_
  refine V_istore_n (i := 1) F dM_edgeOf_6 rfl (by decide) (by simp only [List.set_cons_zero, List.set_cons_succ]; exact rfl) ?_
  refine V_iload_n (i := 0) F dM_edgeOf_7 rfl rfl ?_
  refine V_iconst F dM_edgeOf_8 (by decide) ?_
  refine V_irem F dM_edgeOf_9 (by omega) ?_
  refine V_if_ne F 20 dM_edgeOf_10 (by decide) (fun h10 => ?_) (fun h10 => ?_)
  · refine V_iload_n (i := 1) F dM_edgeOf_20 rfl rfl ?_
    refine V_callSi F dM_edgeOf_21 lmM_94 miM_secondEdge msM_secondEdge (ctM_secondEdge (by omega)) (by decide) rfl (Nat.le_of_ble_eq_true rfl) (fun r u hr => ?_)
    obtain ⟨rfl, rfl⟩ := hr
    exact hR _ _ _ _ dM_edgeOf_24 (by unfold eoQ; first | exact ⟨(if_pos (by omega)).symm, rfl⟩ | exact ⟨(if_neg (by omega)).symm, rfl⟩)
  · refine V_iload_n (i := 1) F dM_edgeOf_13 rfl rfl ?_
    refine V_callSi F dM_edgeOf_14 lmM_90 miM_firstEdge msM_firstEdge (ctM_firstEdge (by omega)) (by decide) rfl (Nat.le_of_ble_eq_true rfl) (fun r u hr => ?_)
    obtain ⟨rfl, rfl⟩ := hr
    refine V_goto F 24 dM_edgeOf_17 (by decide) ?_
    exact hR _ _ _ _ dM_edgeOf_24 (by unfold eoQ; first | exact ⟨(if_pos (by omega)).symm, rfl⟩ | exact ⟨(if_neg (by omega)).symm, rfl⟩)
theorem ctM_isTile {G : vG} {l : Launch} {w : RW} {x y : Int} : CTi G l yM_isTile cM_isTile 3 .boolean 0 [.inr 77, .inl x, .inl y] w (fun r u => r = bz (isT (w 77 0) (w 77 1) x y) ∧ w = u) := by
  refine CTi.bool (by decide) (Nat.le_of_ble_eq_true rfl) ?_
  intro X Q F hX hR
  subst hX
  show V G X 3 Q 0 [some (.inr 77), some (.inl x), some (.inl y)] [] w
  refine V_iload_n (i := 1) F dM_isTile_0 rfl rfl ?_
  refine V_if_lt F 28 dM_isTile_1 (by decide) (fun h1 => ?_) (fun h1 => ?_)
  · refine V_iconst F dM_isTile_28 (by decide) ?_
    exact hR _ _ _ _ dM_isTile_29 (by first | exact Or.inl rfl | exact Or.inr rfl | exact bz_01 _ | assumption) (by first | exact ⟨(bz_t (by unfold isT; omega)).symm, rfl⟩ | exact ⟨(bz_f (by unfold isT; omega)).symm, rfl⟩)
  · refine V_iload_n (i := 1) F dM_isTile_4 rfl rfl ?_
    refine V_aload_n (i := 0) F dM_isTile_5 rfl rfl ?_
    refine V_geti (ci := 7) (C := R_M) (T := T_M) (N := 32) F dM_isTile_6 (by first | rfl | assumption) rfl (j := 0) 0 rfl (by decide) rfl lfM_83 ?_
    refine V_icmp_ge F 28 dM_isTile_9 (by decide) (fun h9 => ?_) (fun h9 => ?_)
    · refine V_iconst F dM_isTile_28 (by decide) ?_
      exact hR _ _ _ _ dM_isTile_29 (by first | exact Or.inl rfl | exact Or.inr rfl | exact bz_01 _ | assumption) (by first | exact ⟨(bz_t (by unfold isT; omega)).symm, rfl⟩ | exact ⟨(bz_f (by unfold isT; omega)).symm, rfl⟩)
    · refine V_iload_n (i := 2) F dM_isTile_12 rfl rfl ?_
      refine V_if_lt F 28 dM_isTile_13 (by decide) (fun h13 => ?_) (fun h13 => ?_)
      · refine V_iconst F dM_isTile_28 (by decide) ?_
        exact hR _ _ _ _ dM_isTile_29 (by first | exact Or.inl rfl | exact Or.inr rfl | exact bz_01 _ | assumption) (by first | exact ⟨(bz_t (by unfold isT; omega)).symm, rfl⟩ | exact ⟨(bz_f (by unfold isT; omega)).symm, rfl⟩)
      · refine V_iload_n (i := 2) F dM_isTile_16 rfl rfl ?_
        refine V_aload_n (i := 0) F dM_isTile_17 rfl rfl ?_
        refine V_geti (ci := 7) (C := R_M) (T := T_M) (N := 32) F dM_isTile_18 (by first | rfl | assumption) rfl (j := 1) 1 rfl (by decide) rfl lfM_87 ?_
        refine V_icmp_ge F 28 dM_isTile_21 (by decide) (fun h21 => ?_) (fun h21 => ?_)
        · refine V_iconst F dM_isTile_28 (by decide) ?_
          exact hR _ _ _ _ dM_isTile_29 (by first | exact Or.inl rfl | exact Or.inr rfl | exact bz_01 _ | assumption) (by first | exact ⟨(bz_t (by unfold isT; omega)).symm, rfl⟩ | exact ⟨(bz_f (by unfold isT; omega)).symm, rfl⟩)
        · refine V_iconst F dM_isTile_24 (by decide) ?_
          refine V_goto F 29 dM_isTile_25 (by decide) ?_
          exact hR _ _ _ _ dM_isTile_29 (by first | exact Or.inl rfl | exact Or.inr rfl | exact bz_01 _ | assumption) (by first | exact ⟨(bz_t (by unfold isT; omega)).symm, rfl⟩ | exact ⟨(bz_f (by unfold isT; omega)).symm, rfl⟩)
def lpc (w : RW) (x y p : Int) : Prop := isT (w 77 0) (w 77 1) x y ∧ (0 ≤ p ∧ p ≤ 5) ∧ ¬ w 78 (6 * (8 * y + x) + p) = 0
theorem ctM_isPiece {G : vG} {l : Launch} {w : RW} {x y p : Int} (hm : mOK w) : CTi G l yM_isPiece cM_isPiece 4 .boolean 1 [.inr 77, .inl x, .inl y, .inl p] w (fun r u => r = bz (lpc w x y p) ∧ w = u) := by
  refine CTi.bool (by decide) (Nat.le_of_ble_eq_true rfl) ?_
  intro X Q F hX hR
  subst hX
  show V G X 4 Q 0 [some (.inr 77), some (.inl x), some (.inl y), some (.inl p)] [] w
  obtain ⟨hm1, -⟩ := hm
  refine V_aload_n (i := 0) F dM_isPiece_0 rfl rfl ?_
  refine V_iload_n (i := 1) F dM_isPiece_1 rfl rfl ?_
  refine V_iload_n (i := 2) F dM_isPiece_2 rfl rfl ?_
  refine V_callVi F dM_isPiece_3 lmM_97 miM_isTile mvM_isTile (ctM_isTile) (by decide) (by first | rfl | assumption) rfl rfl (Nat.le_of_ble_eq_true rfl) (fun r u hr => ?_)
  obtain ⟨rfl, rfl⟩ := hr
  refine V_if_eq F 41 dM_isPiece_6 (by decide) (fun h6 => ?_) (fun h6 => ?_)
  · first | (replace h6 := bz_ne0.mp h6) | (replace h6 := bz_eq0.mp h6) | skip
    refine V_iconst F dM_isPiece_41 (by decide) ?_
    exact hR _ _ _ _ dM_isPiece_42 (by first | exact Or.inl rfl | exact Or.inr rfl | exact bz_01 _ | assumption) (by first | exact ⟨(bz_t (by unfold lpc isT; unfold isT at h6; omega)).symm, rfl⟩ | exact ⟨(bz_f (by unfold lpc isT; unfold isT at h6; omega)).symm, rfl⟩)
  · first | (replace h6 := bz_ne0.mp h6) | (replace h6 := bz_eq0.mp h6) | skip
    have hh : 0 ≤ x ∧ x < w 77 0 ∧ 0 ≤ y ∧ y < w 77 1 := h6
    refine V_iload_n (i := 3) F dM_isPiece_9 rfl rfl ?_
    refine V_if_lt F 41 dM_isPiece_10 (by decide) (fun h10 => ?_) (fun h10 => ?_)
    · first | (replace h10 := bz_ne0.mp h10) | (replace h10 := bz_eq0.mp h10) | skip
      refine V_iconst F dM_isPiece_41 (by decide) ?_
      exact hR _ _ _ _ dM_isPiece_42 (by first | exact Or.inl rfl | exact Or.inr rfl | exact bz_01 _ | assumption) (by first | exact ⟨(bz_t (by unfold lpc isT; unfold isT at h6; omega)).symm, rfl⟩ | exact ⟨(bz_f (by unfold lpc isT; unfold isT at h6; omega)).symm, rfl⟩)
    · first | (replace h10 := bz_ne0.mp h10) | (replace h10 := bz_eq0.mp h10) | skip
      refine V_iload_n (i := 3) F dM_isPiece_13 rfl rfl ?_
      refine V_iconst F dM_isPiece_14 (by decide) ?_
      refine V_icmp_gt F 41 dM_isPiece_15 (by decide) (fun h15 => ?_) (fun h15 => ?_)
      · first | (replace h15 := bz_ne0.mp h15) | (replace h15 := bz_eq0.mp h15) | skip
        refine V_iconst F dM_isPiece_41 (by decide) ?_
        exact hR _ _ _ _ dM_isPiece_42 (by first | exact Or.inl rfl | exact Or.inr rfl | exact bz_01 _ | assumption) (by first | exact ⟨(bz_t (by unfold lpc isT; unfold isT at h6; omega)).symm, rfl⟩ | exact ⟨(bz_f (by unfold lpc isT; unfold isT at h6; omega)).symm, rfl⟩)
      · first | (replace h15 := bz_ne0.mp h15) | (replace h15 := bz_eq0.mp h15) | skip
        refine V_aload_n (i := 0) F dM_isPiece_18 rfl rfl ?_
        refine V_getr (ci := 7) (C := R_M) (T := T_M) (N := 32) F dM_isPiece_19 (by first | rfl | assumption) rfl (j := 2) (by decide) rfl lfM_7 ?_
        refine V_bipush F dM_isPiece_22 (by decide) ?_
        refine V_bipush F dM_isPiece_24 (by decide) ?_
        refine V_iload_n (i := 2) F dM_isPiece_26 rfl rfl ?_
        refine V_imul F dM_isPiece_27 (by omega) ?_
        refine V_iload_n (i := 1) F dM_isPiece_28 rfl rfl ?_
        refine V_iadd F dM_isPiece_29 (by omega) ?_
        refine V_imul F dM_isPiece_30 (by omega) ?_
        refine V_iload_n (i := 3) F dM_isPiece_31 rfl rfl ?_
        refine V_iadd F dM_isPiece_32 (by omega) ?_
        refine V_zald F dM_isPiece_33 (by first | rfl | assumption) rfl (by omega) ?_
        refine V_if_eq F 41 dM_isPiece_34 (by decide) (fun h34 => ?_) (fun h34 => ?_)
        · first | (replace h34 := bz_ne0.mp h34) | (replace h34 := bz_eq0.mp h34) | skip
          refine V_iconst F dM_isPiece_41 (by decide) ?_
          exact hR _ _ _ _ dM_isPiece_42 (by first | exact Or.inl rfl | exact Or.inr rfl | exact bz_01 _ | assumption) (by first | exact ⟨(bz_t (by unfold lpc isT; unfold isT at h6; omega)).symm, rfl⟩ | exact ⟨(bz_f (by unfold lpc isT; unfold isT at h6; omega)).symm, rfl⟩)
        · first | (replace h34 := bz_ne0.mp h34) | (replace h34 := bz_eq0.mp h34) | skip
          refine V_iconst F dM_isPiece_37 (by decide) ?_
          refine V_goto F 42 dM_isPiece_38 (by decide) ?_
          exact hR _ _ _ _ dM_isPiece_42 (by first | exact Or.inl rfl | exact Or.inr rfl | exact bz_01 _ | assumption) (by first | exact ⟨(bz_t (by unfold lpc isT; unfold isT at h6; omega)).symm, rfl⟩ | exact ⟨(bz_f (by unfold lpc isT; unfold isT at h6; omega)).symm, rfl⟩)
noncomputable def twd (w : RW) (x y p e : Int) : Int := cif (lpc w x y p ∧ hsE p e) (2 * (6 * (8 * y + x) + p) + (if e = stt 0 p then 0 else 1)) (-1)
theorem ctM_toward {G : vG} {l : Launch} {w : RW} {x y p e : Int} (hm : mOK w) : CTi G l yM_toward cM_toward 5 .int 2 [.inr 77, .inl x, .inl y, .inl p, .inl e] w (fun r u => r = twd w x y p e ∧ w = u) := by
  refine CTi.int (by decide) (Nat.le_of_ble_eq_true rfl) ?_
  intro X Q F hX hR
  subst hX
  show V G X 5 Q 0 [some (.inr 77), some (.inl x), some (.inl y), some (.inl p), some (.inl e)] [] w
  refine V_aload_n (i := 0) F dM_toward_0 rfl rfl ?_
  refine V_iload_n (i := 1) F dM_toward_1 rfl rfl ?_
  refine V_iload_n (i := 2) F dM_toward_2 rfl rfl ?_
  refine V_iload_n (i := 3) F dM_toward_3 rfl rfl ?_
  refine V_callVi F dM_toward_4 lmM_101 miM_isPiece mvM_isPiece (ctM_isPiece hm) (by decide) (by first | rfl | assumption) rfl rfl (Nat.le_of_ble_eq_true rfl) (fun r u hr => ?_)
  obtain ⟨rfl, rfl⟩ := hr
  refine V_if_eq F 28 dM_toward_7 (by decide) (fun h7 => ?_) (fun h7 => ?_)
  · first | (replace h7 := bz_ne0.mp h7) | (replace h7 := bz_eq0.mp h7) | skip
    refine V_iconst F dM_toward_28 (by decide) ?_
    exact hR _ _ _ _ dM_toward_29 (by first | (exfalso; omega) | exact ⟨(cif_f (fun q => h7 q.1)).symm, rfl⟩ | exact ⟨(cif_f (fun q => by have := q.2; unfold hsE at this; omega)).symm, rfl⟩ | exact ⟨by unfold twd; rw [if_pos h49]; exact (cif_t ⟨h7, by unfold hsE; omega⟩).symm, rfl⟩ | exact ⟨by unfold twd; rw [if_neg h49]; exact (cif_t ⟨h7, by unfold hsE; omega⟩).symm, rfl⟩)
  · first | (replace h7 := bz_ne0.mp h7) | (replace h7 := bz_eq0.mp h7) | skip
    have hh : (0 ≤ x ∧ x < w 77 0 ∧ 0 ≤ y ∧ y < w 77 1) ∧ (0 ≤ p ∧ p ≤ 5) ∧ ¬ w 78 (6 * (8 * y + x) + p) = 0 := h7
    have hm1 := hm.1
    refine V_iload F dM_toward_10 rfl ?_
    refine V_iload_n (i := 3) F dM_toward_12 rfl rfl ?_
    refine V_callSi F dM_toward_13 lmM_90 miM_firstEdge msM_firstEdge (ctM_firstEdge (by omega)) (by decide) rfl (Nat.le_of_ble_eq_true rfl) (fun r u hr => ?_)
    obtain ⟨rfl, rfl⟩ := hr
    refine V_icmp_eq F 30 dM_toward_16 (by decide) (fun h16 => ?_) (fun h16 => ?_)
    · first | (replace h16 := bz_ne0.mp h16) | (replace h16 := bz_eq0.mp h16) | skip
      refine V_iconst F dM_toward_30 (by decide) ?_
      refine V_bipush F dM_toward_31 (by decide) ?_
      refine V_bipush F dM_toward_33 (by decide) ?_
      refine V_iload_n (i := 2) F dM_toward_35 rfl rfl ?_
      refine V_imul F dM_toward_36 (by omega) ?_
      refine V_iload_n (i := 1) F dM_toward_37 rfl rfl ?_
      refine V_iadd F dM_toward_38 (by omega) ?_
      refine V_imul F dM_toward_39 (by omega) ?_
      refine V_iload_n (i := 3) F dM_toward_40 rfl rfl ?_
      refine V_iadd F dM_toward_41 (by omega) ?_
      refine V_imul F dM_toward_42 (by omega) ?_
      refine V_iload F dM_toward_43 rfl ?_
      refine V_iload_n (i := 3) F dM_toward_45 rfl rfl ?_
      refine V_callSi F dM_toward_46 lmM_90 miM_firstEdge msM_firstEdge (ctM_firstEdge (by omega)) (by decide) rfl (Nat.le_of_ble_eq_true rfl) (fun r u hr => ?_)
      obtain ⟨rfl, rfl⟩ := hr
      refine V_icmp_ne F 56 dM_toward_49 (by decide) (fun h49 => ?_) (fun h49 => ?_)
      · first | (replace h49 := bz_ne0.mp h49) | (replace h49 := bz_eq0.mp h49) | skip
        refine V_iconst F dM_toward_56 (by decide) ?_
        refine V_iadd F dM_toward_57 (by omega) ?_
        exact hR _ _ _ _ dM_toward_58 (by first | (exfalso; omega) | exact ⟨(cif_f (fun q => h7 q.1)).symm, rfl⟩ | exact ⟨(cif_f (fun q => by have := q.2; unfold hsE at this; omega)).symm, rfl⟩ | exact ⟨by unfold twd; rw [if_pos h49]; exact (cif_t ⟨h7, by unfold hsE; omega⟩).symm, rfl⟩ | exact ⟨by unfold twd; rw [if_neg h49]; exact (cif_t ⟨h7, by unfold hsE; omega⟩).symm, rfl⟩)
      · first | (replace h49 := bz_ne0.mp h49) | (replace h49 := bz_eq0.mp h49) | skip
        refine V_iconst F dM_toward_52 (by decide) ?_
        refine V_goto F 57 dM_toward_53 (by decide) ?_
        refine V_iadd F dM_toward_57 (by omega) ?_
        exact hR _ _ _ _ dM_toward_58 (by first | (exfalso; omega) | exact ⟨(cif_f (fun q => h7 q.1)).symm, rfl⟩ | exact ⟨(cif_f (fun q => by have := q.2; unfold hsE at this; omega)).symm, rfl⟩ | exact ⟨by unfold twd; rw [if_pos h49]; exact (cif_t ⟨h7, by unfold hsE; omega⟩).symm, rfl⟩ | exact ⟨by unfold twd; rw [if_neg h49]; exact (cif_t ⟨h7, by unfold hsE; omega⟩).symm, rfl⟩)
    · first | (replace h16 := bz_ne0.mp h16) | (replace h16 := bz_eq0.mp h16) | skip
      refine V_iload F dM_toward_19 rfl ?_
      refine V_iload_n (i := 3) F dM_toward_21 rfl rfl ?_
      refine V_callSi F dM_toward_22 lmM_94 miM_secondEdge msM_secondEdge (ctM_secondEdge (by omega)) (by decide) rfl (Nat.le_of_ble_eq_true rfl) (fun r u hr => ?_)
      obtain ⟨rfl, rfl⟩ := hr
      refine V_icmp_eq F 30 dM_toward_25 (by decide) (fun h25 => ?_) (fun h25 => ?_)
      · first | (replace h25 := bz_ne0.mp h25) | (replace h25 := bz_eq0.mp h25) | skip
        refine V_iconst F dM_toward_30 (by decide) ?_
        refine V_bipush F dM_toward_31 (by decide) ?_
        refine V_bipush F dM_toward_33 (by decide) ?_
        refine V_iload_n (i := 2) F dM_toward_35 rfl rfl ?_
        refine V_imul F dM_toward_36 (by omega) ?_
        refine V_iload_n (i := 1) F dM_toward_37 rfl rfl ?_
        refine V_iadd F dM_toward_38 (by omega) ?_
        refine V_imul F dM_toward_39 (by omega) ?_
        refine V_iload_n (i := 3) F dM_toward_40 rfl rfl ?_
        refine V_iadd F dM_toward_41 (by omega) ?_
        refine V_imul F dM_toward_42 (by omega) ?_
        refine V_iload F dM_toward_43 rfl ?_
        refine V_iload_n (i := 3) F dM_toward_45 rfl rfl ?_
        refine V_callSi F dM_toward_46 lmM_90 miM_firstEdge msM_firstEdge (ctM_firstEdge (by omega)) (by decide) rfl (Nat.le_of_ble_eq_true rfl) (fun r u hr => ?_)
        obtain ⟨rfl, rfl⟩ := hr
        refine V_icmp_ne F 56 dM_toward_49 (by decide) (fun h49 => ?_) (fun h49 => ?_)
        · first | (replace h49 := bz_ne0.mp h49) | (replace h49 := bz_eq0.mp h49) | skip
          refine V_iconst F dM_toward_56 (by decide) ?_
          refine V_iadd F dM_toward_57 (by omega) ?_
          exact hR _ _ _ _ dM_toward_58 (by first | (exfalso; omega) | exact ⟨(cif_f (fun q => h7 q.1)).symm, rfl⟩ | exact ⟨(cif_f (fun q => by have := q.2; unfold hsE at this; omega)).symm, rfl⟩ | exact ⟨by unfold twd; rw [if_pos h49]; exact (cif_t ⟨h7, by unfold hsE; omega⟩).symm, rfl⟩ | exact ⟨by unfold twd; rw [if_neg h49]; exact (cif_t ⟨h7, by unfold hsE; omega⟩).symm, rfl⟩)
        · first | (replace h49 := bz_ne0.mp h49) | (replace h49 := bz_eq0.mp h49) | skip
          refine V_iconst F dM_toward_52 (by decide) ?_
          refine V_goto F 57 dM_toward_53 (by decide) ?_
          refine V_iadd F dM_toward_57 (by omega) ?_
          exact hR _ _ _ _ dM_toward_58 (by first | (exfalso; omega) | exact ⟨(cif_f (fun q => h7 q.1)).symm, rfl⟩ | exact ⟨(cif_f (fun q => by have := q.2; unfold hsE at this; omega)).symm, rfl⟩ | exact ⟨by unfold twd; rw [if_pos h49]; exact (cif_t ⟨h7, by unfold hsE; omega⟩).symm, rfl⟩ | exact ⟨by unfold twd; rw [if_neg h49]; exact (cif_t ⟨h7, by unfold hsE; omega⟩).symm, rfl⟩)
      · first | (replace h25 := bz_ne0.mp h25) | (replace h25 := bz_eq0.mp h25) | skip
        refine V_iconst F dM_toward_28 (by decide) ?_
        exact hR _ _ _ _ dM_toward_29 (by first | (exfalso; omega) | exact ⟨(cif_f (fun q => h7 q.1)).symm, rfl⟩ | exact ⟨(cif_f (fun q => by have := q.2; unfold hsE at this; omega)).symm, rfl⟩ | exact ⟨by unfold twd; rw [if_pos h49]; exact (cif_t ⟨h7, by unfold hsE; omega⟩).symm, rfl⟩ | exact ⟨by unfold twd; rw [if_neg h49]; exact (cif_t ⟨h7, by unfold hsE; omega⟩).symm, rfl⟩)
def opQ (m q : Int) : Prop := (q % 2 = 0 → ¬ m = 2) ∧ (¬ q % 2 = 0 → ¬ m = 1)
theorem ctM_open {G : vG} {l : Launch} {w : RW} {q : Int} (h : 0 ≤ q ∧ q < 576) : CTi G l yM_open cM_open 3 .boolean 0 [.inr 77, .inl q] w (fun r u => r = bz (opQ (w 79 (q / 2)) q) ∧ w = u) := by
  refine CTi.bool (by decide) (Nat.le_of_ble_eq_true rfl) ?_
  intro X Q F hX hR
  subst hX
  show V G X 3 Q 0 [some (.inr 77), some (.inl q), none] [] w
  refine V_aload_n (i := 0) F dM_open_0 rfl rfl ?_
  refine V_getr (ci := 7) (C := R_M) (T := T_M) (N := 32) F dM_open_1 (by first | rfl | assumption) rfl (j := 3) (by decide) rfl lfM_13 ?_
  refine V_iload_n (i := 1) F dM_open_4 rfl rfl ?_
  refine V_iconst F dM_open_5 (by decide) ?_
  refine V_idiv F dM_open_6 (by omega) ?_
  first
    | refine V_sald F dM_open_7 (by decide) (by omega) (stt_in _ _) ?_
    | refine V_iald F dM_open_7 (by first | rfl | assumption) rfl (by omega) ?_
  refine V_istore_n (i := 2) F dM_open_8 rfl (by decide) (by simp only [List.set_cons_zero, List.set_cons_succ]; exact rfl) ?_
  refine V_iload_n (i := 1) F dM_open_9 rfl rfl ?_
  refine V_iconst F dM_open_10 (by decide) ?_
  refine V_irem F dM_open_11 (by omega) ?_
  refine V_if_ne F 28 dM_open_12 (by decide) (fun h12 => ?_) (fun h12 => ?_)
  · refine V_iload_n (i := 2) F dM_open_28 rfl rfl ?_
    refine V_iconst F dM_open_29 (by decide) ?_
    refine V_icmp_eq F 37 dM_open_30 (by decide) (fun h30 => ?_) (fun h30 => ?_)
    · refine V_iconst F dM_open_37 (by decide) ?_
      exact hR _ _ _ _ dM_open_38 (by first | exact Or.inl rfl | exact Or.inr rfl | exact bz_01 _ | assumption) (by first | exact ⟨(bz_t (by unfold opQ; omega)).symm, rfl⟩ | exact ⟨(bz_f (by unfold opQ; omega)).symm, rfl⟩)
    · refine V_iconst F dM_open_33 (by decide) ?_
      refine V_goto F 38 dM_open_34 (by decide) ?_
      exact hR _ _ _ _ dM_open_38 (by first | exact Or.inl rfl | exact Or.inr rfl | exact bz_01 _ | assumption) (by first | exact ⟨(bz_t (by unfold opQ; omega)).symm, rfl⟩ | exact ⟨(bz_f (by unfold opQ; omega)).symm, rfl⟩)
  · refine V_iload_n (i := 2) F dM_open_15 rfl rfl ?_
    refine V_iconst F dM_open_16 (by decide) ?_
    refine V_icmp_eq F 24 dM_open_17 (by decide) (fun h17 => ?_) (fun h17 => ?_)
    · refine V_iconst F dM_open_24 (by decide) ?_
      refine V_goto F 38 dM_open_25 (by decide) ?_
      exact hR _ _ _ _ dM_open_38 (by first | exact Or.inl rfl | exact Or.inr rfl | exact bz_01 _ | assumption) (by first | exact ⟨(bz_t (by unfold opQ; omega)).symm, rfl⟩ | exact ⟨(bz_f (by unfold opQ; omega)).symm, rfl⟩)
    · refine V_iconst F dM_open_20 (by decide) ?_
      refine V_goto F 38 dM_open_21 (by decide) ?_
      exact hR _ _ _ _ dM_open_38 (by first | exact Or.inl rfl | exact Or.inr rfl | exact bz_01 _ | assumption) (by first | exact ⟨(bz_t (by unfold opQ; omega)).symm, rfl⟩ | exact ⟨(bz_f (by unfold opQ; omega)).symm, rfl⟩)
theorem ctM_signalled {G : vG} {l : Launch} {w : RW} {q : Int} (h : 0 ≤ q ∧ q < 576) (hm : mOK w) : CTi G l yM_signalled cM_signalled 2 .boolean 0 [.inr 77, .inl q] w (fun r u => r = bz (tb (w 79 (q / 2)) (q % 2)) ∧ w = u) := by
  refine CTi.bool (by decide) (Nat.le_of_ble_eq_true rfl) ?_
  intro X Q F hX hR
  subst hX
  show V G X 2 Q 0 [some (.inr 77), some (.inl q)] [] w
  have hm1 := (hm.2.1 (q / 2) (by omega) (by omega)).2
  refine V_aload_n (i := 0) F dM_signalled_0 rfl rfl ?_
  refine V_getr (ci := 7) (C := R_M) (T := T_M) (N := 32) F dM_signalled_1 (by first | rfl | assumption) rfl (j := 3) (by decide) rfl lfM_13 ?_
  refine V_iload_n (i := 1) F dM_signalled_4 rfl rfl ?_
  refine V_iconst F dM_signalled_5 (by decide) ?_
  refine V_idiv F dM_signalled_6 (by omega) ?_
  first
    | refine V_sald F dM_signalled_7 (by decide) (by omega) (stt_in _ _) ?_
    | refine V_iald F dM_signalled_7 (by first | rfl | assumption) rfl (by omega) ?_
  refine V_iload_n (i := 1) F dM_signalled_8 rfl rfl ?_
  refine V_iconst F dM_signalled_9 (by decide) ?_
  refine V_irem F dM_signalled_10 (by omega) ?_
  refine V_ishr F _ dM_signalled_11 rfl ?_
  refine V_iconst F dM_signalled_12 (by decide) ?_
  refine V_iand F _ dM_signalled_13 (bit_1 (by omega) (by omega)) ?_
  refine V_iconst F dM_signalled_14 (by decide) ?_
  refine V_icmp_ne F 22 dM_signalled_15 (by decide) (fun h15 => ?_) (fun h15 => ?_)
  · first | (replace h15 := bz_ne0.mp h15) | (replace h15 := bz_eq0.mp h15) | (replace h15 := bz_eq1.mp h15) | (replace h15 := fun q => h15 (bz_eq1.mpr q)) | skip
    refine V_iconst F dM_signalled_22 (by decide) ?_
    exact hR _ _ _ _ dM_signalled_23 (by first | exact Or.inl rfl | exact Or.inr rfl | exact bz_01 _ | assumption) (by first | exact ⟨(bz_t (by assumption)).symm, rfl⟩ | exact ⟨(bz_f (by assumption)).symm, rfl⟩)
  · first | (replace h15 := bz_ne0.mp h15) | (replace h15 := bz_eq0.mp h15) | (replace h15 := bz_eq1.mp h15) | (replace h15 := fun q => h15 (bz_eq1.mpr q)) | skip
    refine V_iconst F dM_signalled_18 (by decide) ?_
    refine V_goto F 23 dM_signalled_19 (by decide) ?_
    exact hR _ _ _ _ dM_signalled_23 (by first | exact Or.inl rfl | exact Or.inr rfl | exact bz_01 _ | assumption) (by first | exact ⟨(bz_t (by assumption)).symm, rfl⟩ | exact ⟨(bz_f (by assumption)).symm, rfl⟩)
noncomputable def mco (m q : Int) : Int := (if q / 2 % 6 < 2 then 10 else 7) + cif (tb m (q % 2)) 5 0
theorem ctM_cost {G : vG} {l : Launch} {w : RW} {q : Int} (h : 0 ≤ q ∧ q < 576) (hm : mOK w) : CTi G l yM_cost cM_cost 2 .int 1 [.inr 77, .inl q] w (fun r u => r = mco (w 79 (q / 2)) q ∧ w = u) := by
  refine CTi.int (by decide) (Nat.le_of_ble_eq_true rfl) ?_
  intro X Q F hX hR
  subst hX
  show V G X 2 Q 0 [some (.inr 77), some (.inl q)] [] w
  refine V_iload_n (i := 1) F dM_cost_0 rfl rfl ?_
  refine V_iconst F dM_cost_1 (by decide) ?_
  refine V_idiv F dM_cost_2 (by omega) ?_
  refine V_bipush F dM_cost_3 (by decide) ?_
  refine V_irem F dM_cost_5 (by omega) ?_
  refine V_iconst F dM_cost_6 (by decide) ?_
  refine V_icmp_ge F 15 dM_cost_7 (by decide) (fun h7 => ?_) (fun h7 => ?_)
  · first | (replace h7 := bz_ne0.mp h7) | (replace h7 := bz_eq0.mp h7) | skip
    refine V_bipush F dM_cost_15 (by decide) ?_
    refine V_aload_n (i := 0) F dM_cost_17 rfl rfl ?_
    refine V_iload_n (i := 1) F dM_cost_18 rfl rfl ?_
    refine V_callVi F dM_cost_19 lmM_105 miM_signalled mvM_signalled (ctM_signalled h hm) (by decide) (by first | rfl | assumption) rfl rfl (Nat.le_of_ble_eq_true rfl) (fun r u hr => ?_)
    obtain ⟨rfl, rfl⟩ := hr
    refine V_if_eq F 29 dM_cost_22 (by decide) (fun h22 => ?_) (fun h22 => ?_)
    · first | (replace h22 := bz_ne0.mp h22) | (replace h22 := bz_eq0.mp h22) | skip
      refine V_iconst F dM_cost_29 (by decide) ?_
      refine V_iadd F dM_cost_30 (by omega) ?_
      exact hR _ _ _ _ dM_cost_31 (by first | exact ⟨by unfold mco; rw [cif_t h22]; split <;> omega, rfl⟩ | exact ⟨by unfold mco; rw [cif_f h22]; split <;> omega, rfl⟩)
    · first | (replace h22 := bz_ne0.mp h22) | (replace h22 := bz_eq0.mp h22) | skip
      refine V_iconst F dM_cost_25 (by decide) ?_
      refine V_goto F 30 dM_cost_26 (by decide) ?_
      refine V_iadd F dM_cost_30 (by omega) ?_
      exact hR _ _ _ _ dM_cost_31 (by first | exact ⟨by unfold mco; rw [cif_t h22]; split <;> omega, rfl⟩ | exact ⟨by unfold mco; rw [cif_f h22]; split <;> omega, rfl⟩)
  · first | (replace h7 := bz_ne0.mp h7) | (replace h7 := bz_eq0.mp h7) | skip
    refine V_bipush F dM_cost_10 (by decide) ?_
    refine V_goto F 17 dM_cost_12 (by decide) ?_
    refine V_aload_n (i := 0) F dM_cost_17 rfl rfl ?_
    refine V_iload_n (i := 1) F dM_cost_18 rfl rfl ?_
    refine V_callVi F dM_cost_19 lmM_105 miM_signalled mvM_signalled (ctM_signalled h hm) (by decide) (by first | rfl | assumption) rfl rfl (Nat.le_of_ble_eq_true rfl) (fun r u hr => ?_)
    obtain ⟨rfl, rfl⟩ := hr
    refine V_if_eq F 29 dM_cost_22 (by decide) (fun h22 => ?_) (fun h22 => ?_)
    · first | (replace h22 := bz_ne0.mp h22) | (replace h22 := bz_eq0.mp h22) | skip
      refine V_iconst F dM_cost_29 (by decide) ?_
      refine V_iadd F dM_cost_30 (by omega) ?_
      exact hR _ _ _ _ dM_cost_31 (by first | exact ⟨by unfold mco; rw [cif_t h22]; split <;> omega, rfl⟩ | exact ⟨by unfold mco; rw [cif_f h22]; split <;> omega, rfl⟩)
    · first | (replace h22 := bz_ne0.mp h22) | (replace h22 := bz_eq0.mp h22) | skip
      refine V_iconst F dM_cost_25 (by decide) ?_
      refine V_goto F 30 dM_cost_26 (by decide) ?_
      refine V_iadd F dM_cost_30 (by omega) ?_
      exact hR _ _ _ _ dM_cost_31 (by first | exact ⟨by unfold mco; rw [cif_t h22]; split <;> omega, rfl⟩ | exact ⟨by unfold mco; rw [cif_f h22]; split <;> omega, rfl⟩)
theorem acr_is {W H t e x y x' y' : Int} (ex : acX t e = x') (ey : acY t e = y') (h : isT W H x y) (hx : x = x' := by omega) (hy : y = y' := by omega) : acr W H t e = x' + 8 * y' := by
  subst hx; subst hy
  unfold acr
  rw [ex, ey, cif_t h]
theorem acr_no {W H t e x y x' y' : Int} (ex : acX t e = x') (ey : acY t e = y') (h : ¬ isT W H x y) (hx : x = x' := by omega) (hy : y = y' := by omega) : acr W H t e = -1 := by
  subst hx; subst hy
  unfold acr
  rw [ex, ey, cif_f h]
theorem ctM_across {G : vG} {l : Launch} {w : RW} {t e : Int} (ht : 0 ≤ t ∧ t < 64) (he : 0 ≤ e ∧ e < 4) : CTi G l yM_across cM_across 5 .int 1 [.inr 77, .inl t, .inl e] w (fun r u => r = acr (w 77 0) (w 77 1) t e ∧ w = u) := by
  refine CTi.int (by decide) (Nat.le_of_ble_eq_true rfl) ?_
  intro X Q F hX hR
  subst hX
  show V G X 5 Q 0 [some (.inr 77), some (.inl t), some (.inl e), none, none] [] w
  rcases (show e = 0 ∨ e = 1 ∨ e = 2 ∨ e = 3 by omega) with rfl | rfl | rfl | rfl
  · refine V_iload_n (i := 1) F dM_across_0 rfl rfl ?_
    refine V_bipush F dM_across_1 (by decide) ?_
    refine V_irem F dM_across_3 (by omega) ?_
    refine V_iload_n (i := 2) F dM_across_4 rfl rfl ?_
    refine V_iconst F dM_across_5 (by decide) ?_
    refine V_icmp_ne F 13 dM_across_6 (by decide) (fun h6 => ?_) (fun h6 => by first | omega | contradiction)
    refine V_iload_n (i := 2) F dM_across_13 rfl rfl ?_
    refine V_iconst F dM_across_14 (by decide) ?_
    refine V_icmp_ne F 22 dM_across_15 (by decide) (fun h15 => ?_) (fun h15 => by first | omega | contradiction)
    refine V_iconst F dM_across_22 (by decide) ?_
    refine V_iadd F dM_across_23 (by omega) ?_
    refine V_istore_n (i := 3) F dM_across_24 rfl (by decide) (by simp only [List.set_cons_zero, List.set_cons_succ]; exact rfl) ?_
    refine V_iload_n (i := 1) F dM_across_25 rfl rfl ?_
    refine V_bipush F dM_across_26 (by decide) ?_
    refine V_idiv F dM_across_28 (by omega) ?_
    refine V_iload_n (i := 2) F dM_across_29 rfl rfl ?_
    refine V_iconst F dM_across_30 (by decide) ?_
    refine V_icmp_ne F 38 dM_across_31 (by decide) (fun h31 => ?_) (fun h31 => by first | omega | contradiction)
    refine V_iload_n (i := 2) F dM_across_38 rfl rfl ?_
    refine V_if_ne F 46 dM_across_39 (by decide) (fun h39 => by first | omega | contradiction) (fun h39 => ?_)
    refine V_iconst F dM_across_42 (by decide) ?_
    refine V_goto F 47 dM_across_43 (by decide) ?_
    refine V_iadd F dM_across_47 (by omega) ?_
    refine V_istore F dM_across_48 (by decide) (by simp only [List.set_cons_zero, List.set_cons_succ]; exact rfl) ?_
    refine V_aload_n (i := 0) F dM_across_50 rfl rfl ?_
    refine V_iload_n (i := 3) F dM_across_51 rfl rfl ?_
    refine V_iload F dM_across_52 rfl ?_
    refine V_callVi F dM_across_54 lmM_97 miM_isTile mvM_isTile (ctM_isTile) (by decide) (by first | rfl | assumption) rfl rfl (Nat.le_of_ble_eq_true rfl) (fun r u hr => ?_)
    obtain ⟨rfl, rfl⟩ := hr
    refine V_if_eq F 70 dM_across_57 (by decide) (fun h57 => ?_) (fun h57 => ?_)
    · first | (replace h57 := bz_ne0.mp h57) | (replace h57 := bz_eq0.mp h57) | skip
      refine V_iconst F dM_across_70 (by decide) ?_
      exact hR _ _ _ _ dM_across_71 (by first | exact ⟨(acr_is (show acX t 0 = t % 8 by rfl) (show acY t 0 = t / 8 + -1 by rfl) h57).trans (by omega) |>.symm, rfl⟩ | exact ⟨(acr_no (show acX t 0 = t % 8 by rfl) (show acY t 0 = t / 8 + -1 by rfl) h57).symm, rfl⟩)
    · first | (replace h57 := bz_ne0.mp h57) | (replace h57 := bz_eq0.mp h57) | skip
      refine V_bipush F dM_across_60 (by decide) ?_
      refine V_iload F dM_across_62 rfl ?_
      refine V_imul F dM_across_64 (by omega) ?_
      refine V_iload_n (i := 3) F dM_across_65 rfl rfl ?_
      refine V_iadd F dM_across_66 (by omega) ?_
      refine V_goto F 71 dM_across_67 (by decide) ?_
      exact hR _ _ _ _ dM_across_71 (by first | exact ⟨(acr_is (show acX t 0 = t % 8 by rfl) (show acY t 0 = t / 8 + -1 by rfl) h57).trans (by omega) |>.symm, rfl⟩ | exact ⟨(acr_no (show acX t 0 = t % 8 by rfl) (show acY t 0 = t / 8 + -1 by rfl) h57).symm, rfl⟩)
  · refine V_iload_n (i := 1) F dM_across_0 rfl rfl ?_
    refine V_bipush F dM_across_1 (by decide) ?_
    refine V_irem F dM_across_3 (by omega) ?_
    refine V_iload_n (i := 2) F dM_across_4 rfl rfl ?_
    refine V_iconst F dM_across_5 (by decide) ?_
    refine V_icmp_ne F 13 dM_across_6 (by decide) (fun h6 => by first | omega | contradiction) (fun h6 => ?_)
    refine V_iconst F dM_across_9 (by decide) ?_
    refine V_goto F 23 dM_across_10 (by decide) ?_
    refine V_iadd F dM_across_23 (by omega) ?_
    refine V_istore_n (i := 3) F dM_across_24 rfl (by decide) (by simp only [List.set_cons_zero, List.set_cons_succ]; exact rfl) ?_
    refine V_iload_n (i := 1) F dM_across_25 rfl rfl ?_
    refine V_bipush F dM_across_26 (by decide) ?_
    refine V_idiv F dM_across_28 (by omega) ?_
    refine V_iload_n (i := 2) F dM_across_29 rfl rfl ?_
    refine V_iconst F dM_across_30 (by decide) ?_
    refine V_icmp_ne F 38 dM_across_31 (by decide) (fun h31 => ?_) (fun h31 => by first | omega | contradiction)
    refine V_iload_n (i := 2) F dM_across_38 rfl rfl ?_
    refine V_if_ne F 46 dM_across_39 (by decide) (fun h39 => ?_) (fun h39 => by first | omega | contradiction)
    refine V_iconst F dM_across_46 (by decide) ?_
    refine V_iadd F dM_across_47 (by omega) ?_
    refine V_istore F dM_across_48 (by decide) (by simp only [List.set_cons_zero, List.set_cons_succ]; exact rfl) ?_
    refine V_aload_n (i := 0) F dM_across_50 rfl rfl ?_
    refine V_iload_n (i := 3) F dM_across_51 rfl rfl ?_
    refine V_iload F dM_across_52 rfl ?_
    refine V_callVi F dM_across_54 lmM_97 miM_isTile mvM_isTile (ctM_isTile) (by decide) (by first | rfl | assumption) rfl rfl (Nat.le_of_ble_eq_true rfl) (fun r u hr => ?_)
    obtain ⟨rfl, rfl⟩ := hr
    refine V_if_eq F 70 dM_across_57 (by decide) (fun h57 => ?_) (fun h57 => ?_)
    · first | (replace h57 := bz_ne0.mp h57) | (replace h57 := bz_eq0.mp h57) | skip
      refine V_iconst F dM_across_70 (by decide) ?_
      exact hR _ _ _ _ dM_across_71 (by first | exact ⟨(acr_is (show acX t 1 = t % 8 + 1 by rfl) (show acY t 1 = t / 8 by rfl) h57).trans (by omega) |>.symm, rfl⟩ | exact ⟨(acr_no (show acX t 1 = t % 8 + 1 by rfl) (show acY t 1 = t / 8 by rfl) h57).symm, rfl⟩)
    · first | (replace h57 := bz_ne0.mp h57) | (replace h57 := bz_eq0.mp h57) | skip
      refine V_bipush F dM_across_60 (by decide) ?_
      refine V_iload F dM_across_62 rfl ?_
      refine V_imul F dM_across_64 (by omega) ?_
      refine V_iload_n (i := 3) F dM_across_65 rfl rfl ?_
      refine V_iadd F dM_across_66 (by omega) ?_
      refine V_goto F 71 dM_across_67 (by decide) ?_
      exact hR _ _ _ _ dM_across_71 (by first | exact ⟨(acr_is (show acX t 1 = t % 8 + 1 by rfl) (show acY t 1 = t / 8 by rfl) h57).trans (by omega) |>.symm, rfl⟩ | exact ⟨(acr_no (show acX t 1 = t % 8 + 1 by rfl) (show acY t 1 = t / 8 by rfl) h57).symm, rfl⟩)
  · refine V_iload_n (i := 1) F dM_across_0 rfl rfl ?_
    refine V_bipush F dM_across_1 (by decide) ?_
    refine V_irem F dM_across_3 (by omega) ?_
    refine V_iload_n (i := 2) F dM_across_4 rfl rfl ?_
    refine V_iconst F dM_across_5 (by decide) ?_
    refine V_icmp_ne F 13 dM_across_6 (by decide) (fun h6 => ?_) (fun h6 => by first | omega | contradiction)
    refine V_iload_n (i := 2) F dM_across_13 rfl rfl ?_
    refine V_iconst F dM_across_14 (by decide) ?_
    refine V_icmp_ne F 22 dM_across_15 (by decide) (fun h15 => ?_) (fun h15 => by first | omega | contradiction)
    refine V_iconst F dM_across_22 (by decide) ?_
    refine V_iadd F dM_across_23 (by omega) ?_
    refine V_istore_n (i := 3) F dM_across_24 rfl (by decide) (by simp only [List.set_cons_zero, List.set_cons_succ]; exact rfl) ?_
    refine V_iload_n (i := 1) F dM_across_25 rfl rfl ?_
    refine V_bipush F dM_across_26 (by decide) ?_
    refine V_idiv F dM_across_28 (by omega) ?_
    refine V_iload_n (i := 2) F dM_across_29 rfl rfl ?_
    refine V_iconst F dM_across_30 (by decide) ?_
    refine V_icmp_ne F 38 dM_across_31 (by decide) (fun h31 => by first | omega | contradiction) (fun h31 => ?_)
    refine V_iconst F dM_across_34 (by decide) ?_
    refine V_goto F 47 dM_across_35 (by decide) ?_
    refine V_iadd F dM_across_47 (by omega) ?_
    refine V_istore F dM_across_48 (by decide) (by simp only [List.set_cons_zero, List.set_cons_succ]; exact rfl) ?_
    refine V_aload_n (i := 0) F dM_across_50 rfl rfl ?_
    refine V_iload_n (i := 3) F dM_across_51 rfl rfl ?_
    refine V_iload F dM_across_52 rfl ?_
    refine V_callVi F dM_across_54 lmM_97 miM_isTile mvM_isTile (ctM_isTile) (by decide) (by first | rfl | assumption) rfl rfl (Nat.le_of_ble_eq_true rfl) (fun r u hr => ?_)
    obtain ⟨rfl, rfl⟩ := hr
    refine V_if_eq F 70 dM_across_57 (by decide) (fun h57 => ?_) (fun h57 => ?_)
    · first | (replace h57 := bz_ne0.mp h57) | (replace h57 := bz_eq0.mp h57) | skip
      refine V_iconst F dM_across_70 (by decide) ?_
      exact hR _ _ _ _ dM_across_71 (by first | exact ⟨(acr_is (show acX t 2 = t % 8 by rfl) (show acY t 2 = t / 8 + 1 by rfl) h57).trans (by omega) |>.symm, rfl⟩ | exact ⟨(acr_no (show acX t 2 = t % 8 by rfl) (show acY t 2 = t / 8 + 1 by rfl) h57).symm, rfl⟩)
    · first | (replace h57 := bz_ne0.mp h57) | (replace h57 := bz_eq0.mp h57) | skip
      refine V_bipush F dM_across_60 (by decide) ?_
      refine V_iload F dM_across_62 rfl ?_
      refine V_imul F dM_across_64 (by omega) ?_
      refine V_iload_n (i := 3) F dM_across_65 rfl rfl ?_
      refine V_iadd F dM_across_66 (by omega) ?_
      refine V_goto F 71 dM_across_67 (by decide) ?_
      exact hR _ _ _ _ dM_across_71 (by first | exact ⟨(acr_is (show acX t 2 = t % 8 by rfl) (show acY t 2 = t / 8 + 1 by rfl) h57).trans (by omega) |>.symm, rfl⟩ | exact ⟨(acr_no (show acX t 2 = t % 8 by rfl) (show acY t 2 = t / 8 + 1 by rfl) h57).symm, rfl⟩)
  · refine V_iload_n (i := 1) F dM_across_0 rfl rfl ?_
    refine V_bipush F dM_across_1 (by decide) ?_
    refine V_irem F dM_across_3 (by omega) ?_
    refine V_iload_n (i := 2) F dM_across_4 rfl rfl ?_
    refine V_iconst F dM_across_5 (by decide) ?_
    refine V_icmp_ne F 13 dM_across_6 (by decide) (fun h6 => ?_) (fun h6 => by first | omega | contradiction)
    refine V_iload_n (i := 2) F dM_across_13 rfl rfl ?_
    refine V_iconst F dM_across_14 (by decide) ?_
    refine V_icmp_ne F 22 dM_across_15 (by decide) (fun h15 => by first | omega | contradiction) (fun h15 => ?_)
    refine V_iconst F dM_across_18 (by decide) ?_
    refine V_goto F 23 dM_across_19 (by decide) ?_
    refine V_iadd F dM_across_23 (by omega) ?_
    refine V_istore_n (i := 3) F dM_across_24 rfl (by decide) (by simp only [List.set_cons_zero, List.set_cons_succ]; exact rfl) ?_
    refine V_iload_n (i := 1) F dM_across_25 rfl rfl ?_
    refine V_bipush F dM_across_26 (by decide) ?_
    refine V_idiv F dM_across_28 (by omega) ?_
    refine V_iload_n (i := 2) F dM_across_29 rfl rfl ?_
    refine V_iconst F dM_across_30 (by decide) ?_
    refine V_icmp_ne F 38 dM_across_31 (by decide) (fun h31 => ?_) (fun h31 => by first | omega | contradiction)
    refine V_iload_n (i := 2) F dM_across_38 rfl rfl ?_
    refine V_if_ne F 46 dM_across_39 (by decide) (fun h39 => ?_) (fun h39 => by first | omega | contradiction)
    refine V_iconst F dM_across_46 (by decide) ?_
    refine V_iadd F dM_across_47 (by omega) ?_
    refine V_istore F dM_across_48 (by decide) (by simp only [List.set_cons_zero, List.set_cons_succ]; exact rfl) ?_
    refine V_aload_n (i := 0) F dM_across_50 rfl rfl ?_
    refine V_iload_n (i := 3) F dM_across_51 rfl rfl ?_
    refine V_iload F dM_across_52 rfl ?_
    refine V_callVi F dM_across_54 lmM_97 miM_isTile mvM_isTile (ctM_isTile) (by decide) (by first | rfl | assumption) rfl rfl (Nat.le_of_ble_eq_true rfl) (fun r u hr => ?_)
    obtain ⟨rfl, rfl⟩ := hr
    refine V_if_eq F 70 dM_across_57 (by decide) (fun h57 => ?_) (fun h57 => ?_)
    · first | (replace h57 := bz_ne0.mp h57) | (replace h57 := bz_eq0.mp h57) | skip
      refine V_iconst F dM_across_70 (by decide) ?_
      exact hR _ _ _ _ dM_across_71 (by first | exact ⟨(acr_is (show acX t 3 = t % 8 + -1 by rfl) (show acY t 3 = t / 8 by rfl) h57).trans (by omega) |>.symm, rfl⟩ | exact ⟨(acr_no (show acX t 3 = t % 8 + -1 by rfl) (show acY t 3 = t / 8 by rfl) h57).symm, rfl⟩)
    · first | (replace h57 := bz_ne0.mp h57) | (replace h57 := bz_eq0.mp h57) | skip
      refine V_bipush F dM_across_60 (by decide) ?_
      refine V_iload F dM_across_62 rfl ?_
      refine V_imul F dM_across_64 (by omega) ?_
      refine V_iload_n (i := 3) F dM_across_65 rfl rfl ?_
      refine V_iadd F dM_across_66 (by omega) ?_
      refine V_goto F 71 dM_across_67 (by decide) ?_
      exact hR _ _ _ _ dM_across_71 (by first | exact ⟨(acr_is (show acX t 3 = t % 8 + -1 by rfl) (show acY t 3 = t / 8 by rfl) h57).trans (by omega) |>.symm, rfl⟩ | exact ⟨(acr_no (show acX t 3 = t % 8 + -1 by rfl) (show acY t 3 = t / 8 by rfl) h57).symm, rfl⟩)
theorem acr_rng {W H t e : Int} (hW : W ≤ 8) (hH : H ≤ 6) : acr W H t e = -1 ∨ (0 ≤ acr W H t e ∧ acr W H t e < 48) := by
  unfold acr
  by_cases h : isT W H (acX t e) (acY t e)
  · rw [cif_t h]
    unfold isT at h
    right
    omega
  · rw [cif_f h]
    exact Or.inl rfl
noncomputable def bhT (w : RW) (q : Int) : Int := acr (w 77 0) (w 77 1) (q / 12) (eoQ q)
noncomputable def bhB (w : RW) (q k : Int) : Int := 2 * (6 * bhT w q + k) + (if (eoQ q + 2) % 4 = stt 0 k then 1 else 0)
noncomputable def bhd (w : RW) (q k : Int) : Int := cif (0 ≤ bhT w q ∧ ¬ w 78 (6 * bhT w q + k) = 0 ∧ hsE k ((eoQ q + 2) % 4) ∧ opQ (w 79 (bhB w q k / 2)) (bhB w q k)) (bhB w q k) (-1)
theorem ctM_behind {G : vG} {l : Launch} {w : RW} {q k : Int} (h : 0 ≤ q ∧ q < 576) (hk : 0 ≤ k ∧ k < 6) (hm : mOK w) : CTi G l yM_behind cM_behind 7 .int 2 [.inr 77, .inl q, .inl k] w (fun r u => r = bhd w q k ∧ w = u) := by
  refine CTi.int (by decide) (Nat.le_of_ble_eq_true rfl) ?_
  intro X Q F hX hR
  subst hX
  show V G X 7 Q 0 [some (.inr 77), some (.inl q), some (.inl k), none, none, none, none] [] w
  have hm1 := hm.1
  have hq := eoQ_rng h.1
  have hT : bhT w q = -1 ∨ (0 ≤ bhT w q ∧ bhT w q < 48) := acr_rng (by omega) (by omega)
  refine V_iload_n (i := 1) F dM_behind_0 rfl rfl ?_
  refine V_callSi F dM_behind_1 lmM_109 miM_edgeOf msM_edgeOf (ctM_edgeOf (by omega)) (by decide) rfl (Nat.le_of_ble_eq_true rfl) (fun r u hr => ?_)
  obtain ⟨rfl, rfl⟩ := hr
  refine V_istore_n (i := 3) F dM_behind_4 rfl (by decide) (by simp only [List.set_cons_zero, List.set_cons_succ]; exact rfl) ?_
  refine V_aload_n (i := 0) F dM_behind_5 rfl rfl ?_
  refine V_iload_n (i := 1) F dM_behind_6 rfl rfl ?_
  refine V_bipush F dM_behind_7 (by decide) ?_
  refine V_idiv F dM_behind_9 (by omega) ?_
  refine V_iload_n (i := 3) F dM_behind_10 rfl rfl ?_
  refine V_callVi F dM_behind_11 lmM_112 miM_across mvM_across (ctM_across (by omega) hq) (by decide) (by first | rfl | assumption) rfl rfl (Nat.le_of_ble_eq_true rfl) (fun r u hr => ?_)
  obtain ⟨rfl, rfl⟩ := hr
  show V _ _ _ _ _ _ (.inl (bhT w q) :: _) _
  refine V_istore F dM_behind_14 (by decide) (by simp only [List.set_cons_zero, List.set_cons_succ]; exact rfl) ?_
  refine V_iload_n (i := 3) F dM_behind_16 rfl rfl ?_
  refine V_iconst F dM_behind_17 (by decide) ?_
  refine V_iadd F dM_behind_18 (by omega) ?_
  refine V_iconst F dM_behind_19 (by decide) ?_
  refine V_irem F dM_behind_20 (by omega) ?_
  refine V_istore F dM_behind_21 (by decide) (by simp only [List.set_cons_zero, List.set_cons_succ]; exact rfl) ?_
  refine V_iload F dM_behind_23 rfl ?_
  refine V_if_lt F 61 dM_behind_25 (by decide) (fun h25 => ?_) (fun h25 => ?_)
  · first | (replace h25 := bz_ne0.mp h25) | (replace h25 := bz_eq0.mp h25) | skip
    refine V_iconst F dM_behind_61 (by decide) ?_
    exact hR _ _ _ _ dM_behind_62 (by first | (exfalso; omega) | exact ⟨(cif_f (fun z => by have z1 := z.1; have z2 := z.2.1; have z3 := z.2.2.1; unfold hsE at z3; omega)).symm, rfl⟩ | exact ⟨by unfold bhd bhB; rw [if_pos h78]; exact (cif_t ⟨by omega, h40, by unfold hsE; omega, h95⟩).symm, rfl⟩ | exact ⟨by unfold bhd bhB; rw [if_pos h78]; exact (cif_f (fun z => h95 z.2.2.2)).symm, rfl⟩ | exact ⟨by unfold bhd bhB; rw [if_neg h78]; exact (cif_t ⟨by omega, h40, by unfold hsE; omega, h95⟩).symm, rfl⟩ | exact ⟨by unfold bhd bhB; rw [if_neg h78]; exact (cif_f (fun z => h95 z.2.2.2)).symm, rfl⟩)
  · first | (replace h25 := bz_ne0.mp h25) | (replace h25 := bz_eq0.mp h25) | skip
    refine V_aload_n (i := 0) F dM_behind_28 rfl rfl ?_
    refine V_getr (ci := 7) (C := R_M) (T := T_M) (N := 32) F dM_behind_29 (by first | rfl | assumption) rfl (j := 2) (by decide) rfl lfM_7 ?_
    refine V_bipush F dM_behind_32 (by decide) ?_
    refine V_iload F dM_behind_34 rfl ?_
    refine V_imul F dM_behind_36 (by omega) ?_
    refine V_iload_n (i := 2) F dM_behind_37 rfl rfl ?_
    refine V_iadd F dM_behind_38 (by omega) ?_
    refine V_zald F dM_behind_39 (by first | rfl | assumption) rfl (by omega) ?_
    refine V_if_eq F 61 dM_behind_40 (by decide) (fun h40 => ?_) (fun h40 => ?_)
    · first | (replace h40 := bz_ne0.mp h40) | (replace h40 := bz_eq0.mp h40) | skip
      refine V_iconst F dM_behind_61 (by decide) ?_
      exact hR _ _ _ _ dM_behind_62 (by first | (exfalso; omega) | exact ⟨(cif_f (fun z => by have z1 := z.1; have z2 := z.2.1; have z3 := z.2.2.1; unfold hsE at z3; omega)).symm, rfl⟩ | exact ⟨by unfold bhd bhB; rw [if_pos h78]; exact (cif_t ⟨by omega, h40, by unfold hsE; omega, h95⟩).symm, rfl⟩ | exact ⟨by unfold bhd bhB; rw [if_pos h78]; exact (cif_f (fun z => h95 z.2.2.2)).symm, rfl⟩ | exact ⟨by unfold bhd bhB; rw [if_neg h78]; exact (cif_t ⟨by omega, h40, by unfold hsE; omega, h95⟩).symm, rfl⟩ | exact ⟨by unfold bhd bhB; rw [if_neg h78]; exact (cif_f (fun z => h95 z.2.2.2)).symm, rfl⟩)
    · first | (replace h40 := bz_ne0.mp h40) | (replace h40 := bz_eq0.mp h40) | skip
      refine V_iload F dM_behind_43 rfl ?_
      refine V_iload_n (i := 2) F dM_behind_45 rfl rfl ?_
      refine V_callSi F dM_behind_46 lmM_90 miM_firstEdge msM_firstEdge (ctM_firstEdge hk) (by decide) rfl (Nat.le_of_ble_eq_true rfl) (fun r u hr => ?_)
      obtain ⟨rfl, rfl⟩ := hr
      refine V_icmp_eq F 63 dM_behind_49 (by decide) (fun h49 => ?_) (fun h49 => ?_)
      · first | (replace h49 := bz_ne0.mp h49) | (replace h49 := bz_eq0.mp h49) | skip
        refine V_iconst F dM_behind_63 (by decide) ?_
        refine V_bipush F dM_behind_64 (by decide) ?_
        refine V_iload F dM_behind_66 rfl ?_
        refine V_imul F dM_behind_68 (by omega) ?_
        refine V_iload_n (i := 2) F dM_behind_69 rfl rfl ?_
        refine V_iadd F dM_behind_70 (by omega) ?_
        refine V_imul F dM_behind_71 (by omega) ?_
        refine V_iload F dM_behind_72 rfl ?_
        refine V_iload_n (i := 2) F dM_behind_74 rfl rfl ?_
        refine V_callSi F dM_behind_75 lmM_90 miM_firstEdge msM_firstEdge (ctM_firstEdge hk) (by decide) rfl (Nat.le_of_ble_eq_true rfl) (fun r u hr => ?_)
        obtain ⟨rfl, rfl⟩ := hr
        refine V_icmp_ne F 85 dM_behind_78 (by decide) (fun h78 => ?_) (fun h78 => ?_)
        · first | (replace h78 := bz_ne0.mp h78) | (replace h78 := bz_eq0.mp h78) | skip
          refine V_iconst F dM_behind_85 (by decide) ?_
          refine V_iadd F dM_behind_86 (by omega) ?_
          refine V_istore F dM_behind_87 (by decide) (by simp only [List.set_cons_zero, List.set_cons_succ]; exact rfl) ?_
          refine V_aload_n (i := 0) F dM_behind_89 rfl rfl ?_
          refine V_iload F dM_behind_90 rfl ?_
          refine V_callVi F dM_behind_92 lmM_116 miM_open mvM_open (ctM_open (by omega)) (by decide) (by first | rfl | assumption) rfl rfl (Nat.le_of_ble_eq_true rfl) (fun r u hr => ?_)
          obtain ⟨rfl, rfl⟩ := hr
          refine V_if_eq F 103 dM_behind_95 (by decide) (fun h95 => ?_) (fun h95 => ?_)
          · first | (replace h95 := bz_ne0.mp h95) | (replace h95 := bz_eq0.mp h95) | skip
            refine V_iconst F dM_behind_103 (by decide) ?_
            exact hR _ _ _ _ dM_behind_104 (by first | (exfalso; omega) | exact ⟨(cif_f (fun z => by have z1 := z.1; have z2 := z.2.1; have z3 := z.2.2.1; unfold hsE at z3; omega)).symm, rfl⟩ | exact ⟨by unfold bhd bhB; rw [if_pos h78]; exact (cif_t ⟨by omega, h40, by unfold hsE; omega, h95⟩).symm, rfl⟩ | exact ⟨by unfold bhd bhB; rw [if_pos h78]; exact (cif_f (fun z => h95 z.2.2.2)).symm, rfl⟩ | exact ⟨by unfold bhd bhB; rw [if_neg h78]; exact (cif_t ⟨by omega, h40, by unfold hsE; omega, h95⟩).symm, rfl⟩ | exact ⟨by unfold bhd bhB; rw [if_neg h78]; exact (cif_f (fun z => h95 z.2.2.2)).symm, rfl⟩)
          · first | (replace h95 := bz_ne0.mp h95) | (replace h95 := bz_eq0.mp h95) | skip
            refine V_iload F dM_behind_98 rfl ?_
            refine V_goto F 104 dM_behind_100 (by decide) ?_
            exact hR _ _ _ _ dM_behind_104 (by first | (exfalso; omega) | exact ⟨(cif_f (fun z => by have z1 := z.1; have z2 := z.2.1; have z3 := z.2.2.1; unfold hsE at z3; omega)).symm, rfl⟩ | exact ⟨by unfold bhd bhB; rw [if_pos h78]; exact (cif_t ⟨by omega, h40, by unfold hsE; omega, h95⟩).symm, rfl⟩ | exact ⟨by unfold bhd bhB; rw [if_pos h78]; exact (cif_f (fun z => h95 z.2.2.2)).symm, rfl⟩ | exact ⟨by unfold bhd bhB; rw [if_neg h78]; exact (cif_t ⟨by omega, h40, by unfold hsE; omega, h95⟩).symm, rfl⟩ | exact ⟨by unfold bhd bhB; rw [if_neg h78]; exact (cif_f (fun z => h95 z.2.2.2)).symm, rfl⟩)
        · first | (replace h78 := bz_ne0.mp h78) | (replace h78 := bz_eq0.mp h78) | skip
          refine V_iconst F dM_behind_81 (by decide) ?_
          refine V_goto F 86 dM_behind_82 (by decide) ?_
          refine V_iadd F dM_behind_86 (by omega) ?_
          refine V_istore F dM_behind_87 (by decide) (by simp only [List.set_cons_zero, List.set_cons_succ]; exact rfl) ?_
          refine V_aload_n (i := 0) F dM_behind_89 rfl rfl ?_
          refine V_iload F dM_behind_90 rfl ?_
          refine V_callVi F dM_behind_92 lmM_116 miM_open mvM_open (ctM_open (by omega)) (by decide) (by first | rfl | assumption) rfl rfl (Nat.le_of_ble_eq_true rfl) (fun r u hr => ?_)
          obtain ⟨rfl, rfl⟩ := hr
          refine V_if_eq F 103 dM_behind_95 (by decide) (fun h95 => ?_) (fun h95 => ?_)
          · first | (replace h95 := bz_ne0.mp h95) | (replace h95 := bz_eq0.mp h95) | skip
            refine V_iconst F dM_behind_103 (by decide) ?_
            exact hR _ _ _ _ dM_behind_104 (by first | (exfalso; omega) | exact ⟨(cif_f (fun z => by have z1 := z.1; have z2 := z.2.1; have z3 := z.2.2.1; unfold hsE at z3; omega)).symm, rfl⟩ | exact ⟨by unfold bhd bhB; rw [if_pos h78]; exact (cif_t ⟨by omega, h40, by unfold hsE; omega, h95⟩).symm, rfl⟩ | exact ⟨by unfold bhd bhB; rw [if_pos h78]; exact (cif_f (fun z => h95 z.2.2.2)).symm, rfl⟩ | exact ⟨by unfold bhd bhB; rw [if_neg h78]; exact (cif_t ⟨by omega, h40, by unfold hsE; omega, h95⟩).symm, rfl⟩ | exact ⟨by unfold bhd bhB; rw [if_neg h78]; exact (cif_f (fun z => h95 z.2.2.2)).symm, rfl⟩)
          · first | (replace h95 := bz_ne0.mp h95) | (replace h95 := bz_eq0.mp h95) | skip
            refine V_iload F dM_behind_98 rfl ?_
            refine V_goto F 104 dM_behind_100 (by decide) ?_
            exact hR _ _ _ _ dM_behind_104 (by first | (exfalso; omega) | exact ⟨(cif_f (fun z => by have z1 := z.1; have z2 := z.2.1; have z3 := z.2.2.1; unfold hsE at z3; omega)).symm, rfl⟩ | exact ⟨by unfold bhd bhB; rw [if_pos h78]; exact (cif_t ⟨by omega, h40, by unfold hsE; omega, h95⟩).symm, rfl⟩ | exact ⟨by unfold bhd bhB; rw [if_pos h78]; exact (cif_f (fun z => h95 z.2.2.2)).symm, rfl⟩ | exact ⟨by unfold bhd bhB; rw [if_neg h78]; exact (cif_t ⟨by omega, h40, by unfold hsE; omega, h95⟩).symm, rfl⟩ | exact ⟨by unfold bhd bhB; rw [if_neg h78]; exact (cif_f (fun z => h95 z.2.2.2)).symm, rfl⟩)
      · first | (replace h49 := bz_ne0.mp h49) | (replace h49 := bz_eq0.mp h49) | skip
        refine V_iload F dM_behind_52 rfl ?_
        refine V_iload_n (i := 2) F dM_behind_54 rfl rfl ?_
        refine V_callSi F dM_behind_55 lmM_94 miM_secondEdge msM_secondEdge (ctM_secondEdge hk) (by decide) rfl (Nat.le_of_ble_eq_true rfl) (fun r u hr => ?_)
        obtain ⟨rfl, rfl⟩ := hr
        refine V_icmp_eq F 63 dM_behind_58 (by decide) (fun h58 => ?_) (fun h58 => ?_)
        · first | (replace h58 := bz_ne0.mp h58) | (replace h58 := bz_eq0.mp h58) | skip
          refine V_iconst F dM_behind_63 (by decide) ?_
          refine V_bipush F dM_behind_64 (by decide) ?_
          refine V_iload F dM_behind_66 rfl ?_
          refine V_imul F dM_behind_68 (by omega) ?_
          refine V_iload_n (i := 2) F dM_behind_69 rfl rfl ?_
          refine V_iadd F dM_behind_70 (by omega) ?_
          refine V_imul F dM_behind_71 (by omega) ?_
          refine V_iload F dM_behind_72 rfl ?_
          refine V_iload_n (i := 2) F dM_behind_74 rfl rfl ?_
          refine V_callSi F dM_behind_75 lmM_90 miM_firstEdge msM_firstEdge (ctM_firstEdge hk) (by decide) rfl (Nat.le_of_ble_eq_true rfl) (fun r u hr => ?_)
          obtain ⟨rfl, rfl⟩ := hr
          refine V_icmp_ne F 85 dM_behind_78 (by decide) (fun h78 => ?_) (fun h78 => ?_)
          · first | (replace h78 := bz_ne0.mp h78) | (replace h78 := bz_eq0.mp h78) | skip
            refine V_iconst F dM_behind_85 (by decide) ?_
            refine V_iadd F dM_behind_86 (by omega) ?_
            refine V_istore F dM_behind_87 (by decide) (by simp only [List.set_cons_zero, List.set_cons_succ]; exact rfl) ?_
            refine V_aload_n (i := 0) F dM_behind_89 rfl rfl ?_
            refine V_iload F dM_behind_90 rfl ?_
            refine V_callVi F dM_behind_92 lmM_116 miM_open mvM_open (ctM_open (by omega)) (by decide) (by first | rfl | assumption) rfl rfl (Nat.le_of_ble_eq_true rfl) (fun r u hr => ?_)
            obtain ⟨rfl, rfl⟩ := hr
            refine V_if_eq F 103 dM_behind_95 (by decide) (fun h95 => ?_) (fun h95 => ?_)
            · first | (replace h95 := bz_ne0.mp h95) | (replace h95 := bz_eq0.mp h95) | skip
              refine V_iconst F dM_behind_103 (by decide) ?_
              exact hR _ _ _ _ dM_behind_104 (by first | (exfalso; omega) | exact ⟨(cif_f (fun z => by have z1 := z.1; have z2 := z.2.1; have z3 := z.2.2.1; unfold hsE at z3; omega)).symm, rfl⟩ | exact ⟨by unfold bhd bhB; rw [if_pos h78]; exact (cif_t ⟨by omega, h40, by unfold hsE; omega, h95⟩).symm, rfl⟩ | exact ⟨by unfold bhd bhB; rw [if_pos h78]; exact (cif_f (fun z => h95 z.2.2.2)).symm, rfl⟩ | exact ⟨by unfold bhd bhB; rw [if_neg h78]; exact (cif_t ⟨by omega, h40, by unfold hsE; omega, h95⟩).symm, rfl⟩ | exact ⟨by unfold bhd bhB; rw [if_neg h78]; exact (cif_f (fun z => h95 z.2.2.2)).symm, rfl⟩)
            · first | (replace h95 := bz_ne0.mp h95) | (replace h95 := bz_eq0.mp h95) | skip
              refine V_iload F dM_behind_98 rfl ?_
              refine V_goto F 104 dM_behind_100 (by decide) ?_
              exact hR _ _ _ _ dM_behind_104 (by first | (exfalso; omega) | exact ⟨(cif_f (fun z => by have z1 := z.1; have z2 := z.2.1; have z3 := z.2.2.1; unfold hsE at z3; omega)).symm, rfl⟩ | exact ⟨by unfold bhd bhB; rw [if_pos h78]; exact (cif_t ⟨by omega, h40, by unfold hsE; omega, h95⟩).symm, rfl⟩ | exact ⟨by unfold bhd bhB; rw [if_pos h78]; exact (cif_f (fun z => h95 z.2.2.2)).symm, rfl⟩ | exact ⟨by unfold bhd bhB; rw [if_neg h78]; exact (cif_t ⟨by omega, h40, by unfold hsE; omega, h95⟩).symm, rfl⟩ | exact ⟨by unfold bhd bhB; rw [if_neg h78]; exact (cif_f (fun z => h95 z.2.2.2)).symm, rfl⟩)
          · first | (replace h78 := bz_ne0.mp h78) | (replace h78 := bz_eq0.mp h78) | skip
            refine V_iconst F dM_behind_81 (by decide) ?_
            refine V_goto F 86 dM_behind_82 (by decide) ?_
            refine V_iadd F dM_behind_86 (by omega) ?_
            refine V_istore F dM_behind_87 (by decide) (by simp only [List.set_cons_zero, List.set_cons_succ]; exact rfl) ?_
            refine V_aload_n (i := 0) F dM_behind_89 rfl rfl ?_
            refine V_iload F dM_behind_90 rfl ?_
            refine V_callVi F dM_behind_92 lmM_116 miM_open mvM_open (ctM_open (by omega)) (by decide) (by first | rfl | assumption) rfl rfl (Nat.le_of_ble_eq_true rfl) (fun r u hr => ?_)
            obtain ⟨rfl, rfl⟩ := hr
            refine V_if_eq F 103 dM_behind_95 (by decide) (fun h95 => ?_) (fun h95 => ?_)
            · first | (replace h95 := bz_ne0.mp h95) | (replace h95 := bz_eq0.mp h95) | skip
              refine V_iconst F dM_behind_103 (by decide) ?_
              exact hR _ _ _ _ dM_behind_104 (by first | (exfalso; omega) | exact ⟨(cif_f (fun z => by have z1 := z.1; have z2 := z.2.1; have z3 := z.2.2.1; unfold hsE at z3; omega)).symm, rfl⟩ | exact ⟨by unfold bhd bhB; rw [if_pos h78]; exact (cif_t ⟨by omega, h40, by unfold hsE; omega, h95⟩).symm, rfl⟩ | exact ⟨by unfold bhd bhB; rw [if_pos h78]; exact (cif_f (fun z => h95 z.2.2.2)).symm, rfl⟩ | exact ⟨by unfold bhd bhB; rw [if_neg h78]; exact (cif_t ⟨by omega, h40, by unfold hsE; omega, h95⟩).symm, rfl⟩ | exact ⟨by unfold bhd bhB; rw [if_neg h78]; exact (cif_f (fun z => h95 z.2.2.2)).symm, rfl⟩)
            · first | (replace h95 := bz_ne0.mp h95) | (replace h95 := bz_eq0.mp h95) | skip
              refine V_iload F dM_behind_98 rfl ?_
              refine V_goto F 104 dM_behind_100 (by decide) ?_
              exact hR _ _ _ _ dM_behind_104 (by first | (exfalso; omega) | exact ⟨(cif_f (fun z => by have z1 := z.1; have z2 := z.2.1; have z3 := z.2.2.1; unfold hsE at z3; omega)).symm, rfl⟩ | exact ⟨by unfold bhd bhB; rw [if_pos h78]; exact (cif_t ⟨by omega, h40, by unfold hsE; omega, h95⟩).symm, rfl⟩ | exact ⟨by unfold bhd bhB; rw [if_pos h78]; exact (cif_f (fun z => h95 z.2.2.2)).symm, rfl⟩ | exact ⟨by unfold bhd bhB; rw [if_neg h78]; exact (cif_t ⟨by omega, h40, by unfold hsE; omega, h95⟩).symm, rfl⟩ | exact ⟨by unfold bhd bhB; rw [if_neg h78]; exact (cif_f (fun z => h95 z.2.2.2)).symm, rfl⟩)
        · first | (replace h58 := bz_ne0.mp h58) | (replace h58 := bz_eq0.mp h58) | skip
          refine V_iconst F dM_behind_61 (by decide) ?_
          exact hR _ _ _ _ dM_behind_62 (by first | (exfalso; omega) | exact ⟨(cif_f (fun z => by have z1 := z.1; have z2 := z.2.1; have z3 := z.2.2.1; unfold hsE at z3; omega)).symm, rfl⟩ | exact ⟨by unfold bhd bhB; rw [if_pos h78]; exact (cif_t ⟨by omega, h40, by unfold hsE; omega, h95⟩).symm, rfl⟩ | exact ⟨by unfold bhd bhB; rw [if_pos h78]; exact (cif_f (fun z => h95 z.2.2.2)).symm, rfl⟩ | exact ⟨by unfold bhd bhB; rw [if_neg h78]; exact (cif_t ⟨by omega, h40, by unfold hsE; omega, h95⟩).symm, rfl⟩ | exact ⟨by unfold bhd bhB; rw [if_neg h78]; exact (cif_f (fun z => h95 z.2.2.2)).symm, rfl⟩)
def crs (p q : Int) : Prop := p / 6 = q / 6 ∧ ¬ (p % 6 / 2 = q % 6 / 2 ∧ ¬ p % 6 = q % 6 ∧ 1 < p % 6)
theorem ctM_cross {G : vG} {l : Launch} {w : RW} {p q : Int} (h : 0 ≤ p ∧ 0 ≤ q) : CTi G l yM_cross cM_cross 5 .boolean 0 [.inl p, .inl q] w (fun r u => r = bz (crs p q) ∧ w = u) := by
  refine CTi.bool (by decide) (Nat.le_of_ble_eq_true rfl) ?_
  intro X Q F hX hR
  subst hX
  show V G X 5 Q 0 [some (.inl p), some (.inl q), none, none, none] [] w
  refine V_iload_n (i := 0) F dM_cross_0 rfl rfl ?_
  refine V_bipush F dM_cross_1 (by decide) ?_
  refine V_irem F dM_cross_3 (by omega) ?_
  refine V_istore_n (i := 2) F dM_cross_4 rfl (by decide) (by simp only [List.set_cons_zero, List.set_cons_succ]; exact rfl) ?_
  refine V_iload_n (i := 1) F dM_cross_5 rfl rfl ?_
  refine V_bipush F dM_cross_6 (by decide) ?_
  refine V_irem F dM_cross_8 (by omega) ?_
  refine V_istore_n (i := 3) F dM_cross_9 rfl (by decide) (by simp only [List.set_cons_zero, List.set_cons_succ]; exact rfl) ?_
  refine V_iload_n (i := 2) F dM_cross_10 rfl rfl ?_
  refine V_iconst F dM_cross_11 (by decide) ?_
  refine V_idiv F dM_cross_12 (by omega) ?_
  refine V_iload_n (i := 3) F dM_cross_13 rfl rfl ?_
  refine V_iconst F dM_cross_14 (by decide) ?_
  refine V_idiv F dM_cross_15 (by omega) ?_
  refine V_icmp_ne F 33 dM_cross_16 (by decide) (fun h16 => ?_) (fun h16 => ?_)
  · refine V_iconst F dM_cross_33 (by decide) ?_
    refine V_istore F dM_cross_34 (by decide) (by simp only [List.set_cons_zero, List.set_cons_succ]; exact rfl) ?_
    refine V_iload_n (i := 0) F dM_cross_36 rfl rfl ?_
    refine V_bipush F dM_cross_37 (by decide) ?_
    refine V_idiv F dM_cross_39 (by omega) ?_
    refine V_iload_n (i := 1) F dM_cross_40 rfl rfl ?_
    refine V_bipush F dM_cross_41 (by decide) ?_
    refine V_idiv F dM_cross_43 (by omega) ?_
    refine V_icmp_ne F 56 dM_cross_44 (by decide) (fun h44 => ?_) (fun h44 => ?_)
    · refine V_iconst F dM_cross_56 (by decide) ?_
      exact hR _ _ _ _ dM_cross_57 (by first | exact Or.inl rfl | exact Or.inr rfl | exact bz_01 _ | assumption) (by first | exact ⟨(bz_t (by unfold crs; omega)).symm, rfl⟩ | exact ⟨(bz_f (by unfold crs; omega)).symm, rfl⟩)
    · refine V_iload F dM_cross_47 rfl ?_
      refine V_if_ne F 56 dM_cross_49 (by decide) (fun h49 => ?_) (fun h49 => ?_)
      · refine V_iconst F dM_cross_56 (by decide) ?_
        exact hR _ _ _ _ dM_cross_57 (by first | exact Or.inl rfl | exact Or.inr rfl | exact bz_01 _ | assumption) (by first | exact ⟨(bz_t (by unfold crs; omega)).symm, rfl⟩ | exact ⟨(bz_f (by unfold crs; omega)).symm, rfl⟩)
      · refine V_iconst F dM_cross_52 (by decide) ?_
        refine V_goto F 57 dM_cross_53 (by decide) ?_
        exact hR _ _ _ _ dM_cross_57 (by first | exact Or.inl rfl | exact Or.inr rfl | exact bz_01 _ | assumption) (by first | exact ⟨(bz_t (by unfold crs; omega)).symm, rfl⟩ | exact ⟨(bz_f (by unfold crs; omega)).symm, rfl⟩)
  · refine V_iload_n (i := 2) F dM_cross_19 rfl rfl ?_
    refine V_iload_n (i := 3) F dM_cross_20 rfl rfl ?_
    refine V_icmp_eq F 33 dM_cross_21 (by decide) (fun h21 => ?_) (fun h21 => ?_)
    · refine V_iconst F dM_cross_33 (by decide) ?_
      refine V_istore F dM_cross_34 (by decide) (by simp only [List.set_cons_zero, List.set_cons_succ]; exact rfl) ?_
      refine V_iload_n (i := 0) F dM_cross_36 rfl rfl ?_
      refine V_bipush F dM_cross_37 (by decide) ?_
      refine V_idiv F dM_cross_39 (by omega) ?_
      refine V_iload_n (i := 1) F dM_cross_40 rfl rfl ?_
      refine V_bipush F dM_cross_41 (by decide) ?_
      refine V_idiv F dM_cross_43 (by omega) ?_
      refine V_icmp_ne F 56 dM_cross_44 (by decide) (fun h44 => ?_) (fun h44 => ?_)
      · refine V_iconst F dM_cross_56 (by decide) ?_
        exact hR _ _ _ _ dM_cross_57 (by first | exact Or.inl rfl | exact Or.inr rfl | exact bz_01 _ | assumption) (by first | exact ⟨(bz_t (by unfold crs; omega)).symm, rfl⟩ | exact ⟨(bz_f (by unfold crs; omega)).symm, rfl⟩)
      · refine V_iload F dM_cross_47 rfl ?_
        refine V_if_ne F 56 dM_cross_49 (by decide) (fun h49 => ?_) (fun h49 => ?_)
        · refine V_iconst F dM_cross_56 (by decide) ?_
          exact hR _ _ _ _ dM_cross_57 (by first | exact Or.inl rfl | exact Or.inr rfl | exact bz_01 _ | assumption) (by first | exact ⟨(bz_t (by unfold crs; omega)).symm, rfl⟩ | exact ⟨(bz_f (by unfold crs; omega)).symm, rfl⟩)
        · refine V_iconst F dM_cross_52 (by decide) ?_
          refine V_goto F 57 dM_cross_53 (by decide) ?_
          exact hR _ _ _ _ dM_cross_57 (by first | exact Or.inl rfl | exact Or.inr rfl | exact bz_01 _ | assumption) (by first | exact ⟨(bz_t (by unfold crs; omega)).symm, rfl⟩ | exact ⟨(bz_f (by unfold crs; omega)).symm, rfl⟩)
    · refine V_iload_n (i := 2) F dM_cross_24 rfl rfl ?_
      refine V_iconst F dM_cross_25 (by decide) ?_
      refine V_icmp_le F 33 dM_cross_26 (by decide) (fun h26 => ?_) (fun h26 => ?_)
      · refine V_iconst F dM_cross_33 (by decide) ?_
        refine V_istore F dM_cross_34 (by decide) (by simp only [List.set_cons_zero, List.set_cons_succ]; exact rfl) ?_
        refine V_iload_n (i := 0) F dM_cross_36 rfl rfl ?_
        refine V_bipush F dM_cross_37 (by decide) ?_
        refine V_idiv F dM_cross_39 (by omega) ?_
        refine V_iload_n (i := 1) F dM_cross_40 rfl rfl ?_
        refine V_bipush F dM_cross_41 (by decide) ?_
        refine V_idiv F dM_cross_43 (by omega) ?_
        refine V_icmp_ne F 56 dM_cross_44 (by decide) (fun h44 => ?_) (fun h44 => ?_)
        · refine V_iconst F dM_cross_56 (by decide) ?_
          exact hR _ _ _ _ dM_cross_57 (by first | exact Or.inl rfl | exact Or.inr rfl | exact bz_01 _ | assumption) (by first | exact ⟨(bz_t (by unfold crs; omega)).symm, rfl⟩ | exact ⟨(bz_f (by unfold crs; omega)).symm, rfl⟩)
        · refine V_iload F dM_cross_47 rfl ?_
          refine V_if_ne F 56 dM_cross_49 (by decide) (fun h49 => ?_) (fun h49 => ?_)
          · refine V_iconst F dM_cross_56 (by decide) ?_
            exact hR _ _ _ _ dM_cross_57 (by first | exact Or.inl rfl | exact Or.inr rfl | exact bz_01 _ | assumption) (by first | exact ⟨(bz_t (by unfold crs; omega)).symm, rfl⟩ | exact ⟨(bz_f (by unfold crs; omega)).symm, rfl⟩)
          · refine V_iconst F dM_cross_52 (by decide) ?_
            refine V_goto F 57 dM_cross_53 (by decide) ?_
            exact hR _ _ _ _ dM_cross_57 (by first | exact Or.inl rfl | exact Or.inr rfl | exact bz_01 _ | assumption) (by first | exact ⟨(bz_t (by unfold crs; omega)).symm, rfl⟩ | exact ⟨(bz_f (by unfold crs; omega)).symm, rfl⟩)
      · refine V_iconst F dM_cross_29 (by decide) ?_
        refine V_goto F 34 dM_cross_30 (by decide) ?_
        refine V_istore F dM_cross_34 (by decide) (by simp only [List.set_cons_zero, List.set_cons_succ]; exact rfl) ?_
        refine V_iload_n (i := 0) F dM_cross_36 rfl rfl ?_
        refine V_bipush F dM_cross_37 (by decide) ?_
        refine V_idiv F dM_cross_39 (by omega) ?_
        refine V_iload_n (i := 1) F dM_cross_40 rfl rfl ?_
        refine V_bipush F dM_cross_41 (by decide) ?_
        refine V_idiv F dM_cross_43 (by omega) ?_
        refine V_icmp_ne F 56 dM_cross_44 (by decide) (fun h44 => ?_) (fun h44 => ?_)
        · refine V_iconst F dM_cross_56 (by decide) ?_
          exact hR _ _ _ _ dM_cross_57 (by first | exact Or.inl rfl | exact Or.inr rfl | exact bz_01 _ | assumption) (by first | exact ⟨(bz_t (by unfold crs; omega)).symm, rfl⟩ | exact ⟨(bz_f (by unfold crs; omega)).symm, rfl⟩)
        · refine V_iload F dM_cross_47 rfl ?_
          refine V_if_ne F 56 dM_cross_49 (by decide) (fun h49 => ?_) (fun h49 => ?_)
          · refine V_iconst F dM_cross_56 (by decide) ?_
            exact hR _ _ _ _ dM_cross_57 (by first | exact Or.inl rfl | exact Or.inr rfl | exact bz_01 _ | assumption) (by first | exact ⟨(bz_t (by unfold crs; omega)).symm, rfl⟩ | exact ⟨(bz_f (by unfold crs; omega)).symm, rfl⟩)
          · refine V_iconst F dM_cross_52 (by decide) ?_
            refine V_goto F 57 dM_cross_53 (by decide) ?_
            exact hR _ _ _ _ dM_cross_57 (by first | exact Or.inl rfl | exact Or.inr rfl | exact bz_01 _ | assumption) (by first | exact ⟨(bz_t (by unfold crs; omega)).symm, rfl⟩ | exact ⟨(bz_f (by unfold crs; omega)).symm, rfl⟩)
theorem ctM_isTrain {G : vG} {l : Launch} {w : RW} {t : Int} : CTi G l yM_isTrain cM_isTrain 2 .boolean 0 [.inr 77, .inl t] w (fun r u => r = bz (0 ≤ t ∧ t < w 77 10) ∧ w = u) := by
  refine CTi.bool (by decide) (Nat.le_of_ble_eq_true rfl) ?_
  intro X Q F hX hR
  subst hX
  show V G X 2 Q 0 [some (.inr 77), some (.inl t)] [] w
  refine V_iload_n (i := 1) F dM_isTrain_0 rfl rfl ?_
  refine V_if_lt F 16 dM_isTrain_1 (by decide) (fun h1 => ?_) (fun h1 => ?_)
  · refine V_iconst F dM_isTrain_16 (by decide) ?_
    exact hR _ _ _ _ dM_isTrain_17 (by first | exact Or.inl rfl | exact Or.inr rfl | exact bz_01 _ | assumption) (by first | exact ⟨(bz_t (by omega)).symm, rfl⟩ | exact ⟨(bz_f (by omega)).symm, rfl⟩)
  · refine V_iload_n (i := 1) F dM_isTrain_4 rfl rfl ?_
    refine V_aload_n (i := 0) F dM_isTrain_5 rfl rfl ?_
    refine V_geti (ci := 7) (C := R_M) (T := T_M) (N := 32) F dM_isTrain_6 (by first | rfl | assumption) rfl (j := 10) 10 rfl (by decide) rfl lfM_141 ?_
    refine V_icmp_ge F 16 dM_isTrain_9 (by decide) (fun h9 => ?_) (fun h9 => ?_)
    · refine V_iconst F dM_isTrain_16 (by decide) ?_
      exact hR _ _ _ _ dM_isTrain_17 (by first | exact Or.inl rfl | exact Or.inr rfl | exact bz_01 _ | assumption) (by first | exact ⟨(bz_t (by omega)).symm, rfl⟩ | exact ⟨(bz_f (by omega)).symm, rfl⟩)
    · refine V_iconst F dM_isTrain_12 (by decide) ?_
      refine V_goto F 17 dM_isTrain_13 (by decide) ?_
      exact hR _ _ _ _ dM_isTrain_17 (by first | exact Or.inl rfl | exact Or.inr rfl | exact bz_01 _ | assumption) (by first | exact ⟨(bz_t (by omega)).symm, rfl⟩ | exact ⟨(bz_f (by omega)).symm, rfl⟩)
theorem ctM_last {G : vG} {l : Launch} {w : RW} {t : Int} (ht : 0 ≤ t ∧ t < 6) (hm : mOK w) (h1 : 1 ≤ w 86 t) : CTi G l yM_last cM_last 2 .int 0 [.inr 77, .inl t] w (fun r u => r = w 85 (300 * t + w 86 t - 1) ∧ w = u) := by
  refine CTi.int (by decide) (Nat.le_of_ble_eq_true rfl) ?_
  intro X Q F hX hR
  subst hX
  show V G X 2 Q 0 [some (.inr 77), some (.inl t)] [] w
  have hm5 := hm.2.2.2.2.1 t ht.1 ht.2
  refine V_aload_n (i := 0) F dM_last_0 rfl rfl ?_
  refine V_getr (ci := 7) (C := R_M) (T := T_M) (N := 32) F dM_last_1 (by first | rfl | assumption) rfl (j := 11) (by decide) rfl lfM_32 ?_
  refine V_sipush F dM_last_4 (by decide) ?_
  refine V_iload_n (i := 1) F dM_last_7 rfl rfl ?_
  refine V_imul F dM_last_8 (by omega) ?_
  refine V_aload_n (i := 0) F dM_last_9 rfl rfl ?_
  refine V_getr (ci := 7) (C := R_M) (T := T_M) (N := 32) F dM_last_10 (by first | rfl | assumption) rfl (j := 12) (by decide) rfl lfM_35 ?_
  refine V_iload_n (i := 1) F dM_last_13 rfl rfl ?_
  first
    | refine V_sald F dM_last_14 (by decide) (by omega) (stt_in _ _) ?_
    | refine V_iald F dM_last_14 (by first | rfl | assumption) rfl (by omega) ?_
  refine V_iadd F dM_last_15 (by omega) ?_
  refine V_iconst F dM_last_16 (by decide) ?_
  refine V_isub F dM_last_17 (by omega) ?_
  first
    | refine V_sald F dM_last_18 (by decide) (by omega) (stt_in _ _) ?_
    | refine V_iald F dM_last_18 (by first | rfl | assumption) rfl (by omega) ?_
  exact hR _ _ _ _ dM_last_19 (⟨rfl, rfl⟩)
theorem ctM_ahead {G : vG} {l : Launch} {w : RW} {t : Int} (ht : 0 ≤ t ∧ t < 6) (hm : mOK w) : CTi G l yM_ahead cM_ahead 2 .int 0 [.inr 77, .inl t] w (fun r u => r = w 86 t - w 87 t ∧ w = u) := by
  refine CTi.int (by decide) (Nat.le_of_ble_eq_true rfl) ?_
  intro X Q F hX hR
  subst hX
  show V G X 2 Q 0 [some (.inr 77), some (.inl t)] [] w
  have hm5 := hm.2.2.2.2.1 t ht.1 ht.2
  refine V_aload_n (i := 0) F dM_ahead_0 rfl rfl ?_
  refine V_getr (ci := 7) (C := R_M) (T := T_M) (N := 32) F dM_ahead_1 (by first | rfl | assumption) rfl (j := 12) (by decide) rfl lfM_35 ?_
  refine V_iload_n (i := 1) F dM_ahead_4 rfl rfl ?_
  first
    | refine V_sald F dM_ahead_5 (by decide) (by omega) (stt_in _ _) ?_
    | refine V_iald F dM_ahead_5 (by first | rfl | assumption) rfl (by omega) ?_
  refine V_aload_n (i := 0) F dM_ahead_6 rfl rfl ?_
  refine V_getr (ci := 7) (C := R_M) (T := T_M) (N := 32) F dM_ahead_7 (by first | rfl | assumption) rfl (j := 13) (by decide) rfl lfM_38 ?_
  refine V_iload_n (i := 1) F dM_ahead_10 rfl rfl ?_
  first
    | refine V_sald F dM_ahead_11 (by decide) (by omega) (stt_in _ _) ?_
    | refine V_iald F dM_ahead_11 (by first | rfl | assumption) rfl (by omega) ?_
  refine V_isub F dM_ahead_12 (by omega) ?_
  exact hR _ _ _ _ dM_ahead_13 (⟨rfl, rfl⟩)
theorem ctM_goal {G : vG} {l : Launch} {w : RW} {t : Int} (ht : 0 ≤ t ∧ t < 6) (hm : mOK w) : CTi G l yM_goal cM_goal 2 .int 0 [.inr 77, .inl t] w (fun r u => r = w 92 (6 * t + w 94 t) ∧ w = u) := by
  refine CTi.int (by decide) (Nat.le_of_ble_eq_true rfl) ?_
  intro X Q F hX hR
  subst hX
  show V G X 2 Q 0 [some (.inr 77), some (.inl t)] [] w
  have hm5 := hm.2.2.2.2.1 t ht.1 ht.2
  refine V_aload_n (i := 0) F dM_goal_0 rfl rfl ?_
  refine V_getr (ci := 7) (C := R_M) (T := T_M) (N := 32) F dM_goal_1 (by first | rfl | assumption) rfl (j := 18) (by decide) rfl lfM_53 ?_
  refine V_bipush F dM_goal_4 (by decide) ?_
  refine V_iload_n (i := 1) F dM_goal_6 rfl rfl ?_
  refine V_imul F dM_goal_7 (by omega) ?_
  refine V_aload_n (i := 0) F dM_goal_8 rfl rfl ?_
  refine V_getr (ci := 7) (C := R_M) (T := T_M) (N := 32) F dM_goal_9 (by first | rfl | assumption) rfl (j := 20) (by decide) rfl lfM_59 ?_
  refine V_iload_n (i := 1) F dM_goal_12 rfl rfl ?_
  first
    | refine V_sald F dM_goal_13 (by decide) (by omega) (stt_in _ _) ?_
    | refine V_iald F dM_goal_13 (by first | rfl | assumption) rfl (by omega) ?_
  refine V_iadd F dM_goal_14 (by omega) ?_
  first
    | refine V_sald F dM_goal_15 (by decide) (by omega) (stt_in _ _) ?_
    | refine V_iald F dM_goal_15 (by first | rfl | assumption) rfl (by omega) ?_
  exact hR _ _ _ _ dM_goal_16 (⟨rfl, rfl⟩)
def dueM (w : RW) (t : Int) : Prop := w 85 (300 * t + w 86 t - 1) / 2 = w 80 (w 92 (6 * t + w 94 t)) ∧ ¬ (w 86 t - w 87 t = 0 ∧ ¬ w 91 t = 0)
theorem ctM_due {G : vG} {l : Launch} {w : RW} {t : Int} (ht : 0 ≤ t ∧ t < 6) (hm : mOK w) (h1 : 1 ≤ w 86 t) : CTi G l yM_due cM_due 2 .boolean 1 [.inr 77, .inl t] w (fun r u => r = bz (dueM w t) ∧ w = u) := by
  refine CTi.bool (by decide) (Nat.le_of_ble_eq_true rfl) ?_
  intro X Q F hX hR
  subst hX
  show V G X 2 Q 0 [some (.inr 77), some (.inl t)] [] w
  have hm5 := hm.2.2.2.2.1 t ht.1 ht.2
  have hm6 := hm.2.2.2.2.2.1 (300 * t + w 86 t - 1) (by omega) (by omega)
  have hm7 := hm.2.2.2.2.2.2 (6 * t + w 94 t) (by omega) (by omega)
  refine V_aload_n (i := 0) F dM_due_0 rfl rfl ?_
  refine V_iload_n (i := 1) F dM_due_1 rfl rfl ?_
  refine V_callVi F dM_due_2 lmM_129 miM_last mvM_last (ctM_last ht hm h1) (by decide) (by first | rfl | assumption) rfl rfl (Nat.le_of_ble_eq_true rfl) (fun r u hr => ?_)
  obtain ⟨rfl, rfl⟩ := hr
  refine V_iconst F dM_due_5 (by decide) ?_
  refine V_idiv F dM_due_6 (by omega) ?_
  refine V_aload_n (i := 0) F dM_due_7 rfl rfl ?_
  refine V_getr (ci := 7) (C := R_M) (T := T_M) (N := 32) F dM_due_8 (by first | rfl | assumption) rfl (j := 5) (by decide) rfl lfM_17 ?_
  refine V_aload_n (i := 0) F dM_due_11 rfl rfl ?_
  refine V_iload_n (i := 1) F dM_due_12 rfl rfl ?_
  refine V_callVi F dM_due_13 lmM_132 miM_goal mvM_goal (ctM_goal ht hm) (by decide) (by first | rfl | assumption) rfl rfl (Nat.le_of_ble_eq_true rfl) (fun r u hr => ?_)
  obtain ⟨rfl, rfl⟩ := hr
  first
    | refine V_sald F dM_due_16 (by decide) (by omega) (stt_in _ _) ?_
    | refine V_iald F dM_due_16 (by first | rfl | assumption) rfl (by omega) ?_
  refine V_icmp_ne F 41 dM_due_17 (by decide) (fun h17 => ?_) (fun h17 => ?_)
  · refine V_iconst F dM_due_41 (by decide) ?_
    exact hR _ _ _ _ dM_due_42 (by first | exact Or.inl rfl | exact Or.inr rfl | exact bz_01 _ | assumption) (by first | exact ⟨(bz_t (by unfold dueM; omega)).symm, rfl⟩ | exact ⟨(bz_f (by unfold dueM; omega)).symm, rfl⟩)
  · refine V_aload_n (i := 0) F dM_due_20 rfl rfl ?_
    refine V_iload_n (i := 1) F dM_due_21 rfl rfl ?_
    refine V_callVi F dM_due_22 lmM_135 miM_ahead mvM_ahead (ctM_ahead ht hm) (by decide) (by first | rfl | assumption) rfl rfl (Nat.le_of_ble_eq_true rfl) (fun r u hr => ?_)
    obtain ⟨rfl, rfl⟩ := hr
    refine V_if_ne F 37 dM_due_25 (by decide) (fun h25 => ?_) (fun h25 => ?_)
    · refine V_iconst F dM_due_37 (by decide) ?_
      refine V_goto F 42 dM_due_38 (by decide) ?_
      exact hR _ _ _ _ dM_due_42 (by first | exact Or.inl rfl | exact Or.inr rfl | exact bz_01 _ | assumption) (by first | exact ⟨(bz_t (by unfold dueM; omega)).symm, rfl⟩ | exact ⟨(bz_f (by unfold dueM; omega)).symm, rfl⟩)
    · refine V_aload_n (i := 0) F dM_due_28 rfl rfl ?_
      refine V_getr (ci := 7) (C := R_M) (T := T_M) (N := 32) F dM_due_29 (by first | rfl | assumption) rfl (j := 17) (by decide) rfl lfM_50 ?_
      refine V_iload_n (i := 1) F dM_due_32 rfl rfl ?_
      refine V_zald F dM_due_33 (by first | rfl | assumption) rfl (by omega) ?_
      refine V_if_ne F 41 dM_due_34 (by decide) (fun h34 => ?_) (fun h34 => ?_)
      · refine V_iconst F dM_due_41 (by decide) ?_
        exact hR _ _ _ _ dM_due_42 (by first | exact Or.inl rfl | exact Or.inr rfl | exact bz_01 _ | assumption) (by first | exact ⟨(bz_t (by unfold dueM; omega)).symm, rfl⟩ | exact ⟨(bz_f (by unfold dueM; omega)).symm, rfl⟩)
      · refine V_iconst F dM_due_37 (by decide) ?_
        refine V_goto F 42 dM_due_38 (by decide) ?_
        exact hR _ _ _ _ dM_due_42 (by first | exact Or.inl rfl | exact Or.inr rfl | exact bz_01 _ | assumption) (by first | exact ⟨(bz_t (by unfold dueM; omega)).symm, rfl⟩ | exact ⟨(bz_f (by unfold dueM; omega)).symm, rfl⟩)
/-- train t holds a piece that crosses p -/
def brs (w : RW) (t p : Int) : Prop := ∃ k, 0 ≤ k ∧ k < w 86 t ∧ crs (w 85 (300 * t + k) / 2) p
theorem lpM_bars {G : vG} {X : vX} {Q : State → Prop} {w : RW} {t p : Int} (ht : 0 ≤ t ∧ t < 6) (hp : 0 ≤ p) (hm : mOK w) (F : FX G X cM_bars yM_bars.cls 4 1) (hR : RetZ G X cM_bars 4 Q (fun r u => r = bz (brs w t p) ∧ w = u)) : ∀ (m : Nat) (i : Int), 0 ≤ i → w 86 t - i < m → (∀ j, 0 ≤ j → j < i → ¬ crs (w 85 (300 * t + j) / 2) p) → V G X 4 Q 2 [some (.inr 77), some (.inl t), some (.inl p), some (.inl i)] [] w := by
  have hm5 := hm.2.2.2.2.1 t ht.1 ht.2
  intro m
  induction m with
  | zero =>
    intro i h1 h3 hn
    refine V_iload_n (i := 3) F dM_bars_2 rfl rfl ?_
    refine V_aload_n (i := 0) F dM_bars_3 rfl rfl ?_
    refine V_getr (ci := 7) (C := R_M) (T := T_M) (N := 32) F dM_bars_4 (by first | rfl | assumption) rfl (j := 12) (by decide) rfl lfM_35 ?_
    refine V_iload_n (i := 1) F dM_bars_7 rfl rfl ?_
    first
      | refine V_sald F dM_bars_8 (by decide) (by omega) (stt_in _ _) ?_
      | refine V_iald F dM_bars_8 (by first | rfl | assumption) rfl (by omega) ?_
    refine V_icmp_ge F 41 dM_bars_9 (by decide) (fun h9 => ?_) (fun h9 => ?_)
    · first | (replace h9 := bz_ne0.mp h9) | (replace h9 := bz_eq0.mp h9) | skip
      refine V_iconst F dM_bars_41 (by decide) ?_
      exact hR _ _ _ _ dM_bars_42 (by first | exact Or.inl rfl | exact Or.inr rfl | exact bz_01 _ | assumption) (by exact ⟨(bz_f (fun q => by obtain ⟨j, h1, h2, h3⟩ := q; exact hn j h1 (by omega) h3)).symm, rfl⟩)
    · first | (replace h9 := bz_ne0.mp h9) | (replace h9 := bz_eq0.mp h9) | skip
      omega
  | succ m ih =>
    intro i h1 h3 hn
    refine V_iload_n (i := 3) F dM_bars_2 rfl rfl ?_
    refine V_aload_n (i := 0) F dM_bars_3 rfl rfl ?_
    refine V_getr (ci := 7) (C := R_M) (T := T_M) (N := 32) F dM_bars_4 (by first | rfl | assumption) rfl (j := 12) (by decide) rfl lfM_35 ?_
    refine V_iload_n (i := 1) F dM_bars_7 rfl rfl ?_
    first
      | refine V_sald F dM_bars_8 (by decide) (by omega) (stt_in _ _) ?_
      | refine V_iald F dM_bars_8 (by first | rfl | assumption) rfl (by omega) ?_
    refine V_icmp_ge F 41 dM_bars_9 (by decide) (fun h9 => ?_) (fun h9 => ?_)
    · first | (replace h9 := bz_ne0.mp h9) | (replace h9 := bz_eq0.mp h9) | skip
      refine V_iconst F dM_bars_41 (by decide) ?_
      exact hR _ _ _ _ dM_bars_42 (by first | exact Or.inl rfl | exact Or.inr rfl | exact bz_01 _ | assumption) (by first | exact ⟨(bz_t ⟨i, by omega, by omega, by assumption⟩).symm, rfl⟩ | exact ⟨(bz_f (fun q => by obtain ⟨j, h1, h2, h3⟩ := q; exact hn j h1 (by omega) h3)).symm, rfl⟩)
    · first | (replace h9 := bz_ne0.mp h9) | (replace h9 := bz_eq0.mp h9) | skip
      have hm6 := hm.2.2.2.2.2.1 (300 * t + i) (by omega) (by omega)
      refine V_aload_n (i := 0) F dM_bars_12 rfl rfl ?_
      refine V_getr (ci := 7) (C := R_M) (T := T_M) (N := 32) F dM_bars_13 (by first | rfl | assumption) rfl (j := 11) (by decide) rfl lfM_32 ?_
      refine V_sipush F dM_bars_16 (by decide) ?_
      refine V_iload_n (i := 1) F dM_bars_19 rfl rfl ?_
      refine V_imul F dM_bars_20 (by omega) ?_
      refine V_iload_n (i := 3) F dM_bars_21 rfl rfl ?_
      refine V_iadd F dM_bars_22 (by omega) ?_
      first
        | refine V_sald F dM_bars_23 (by decide) (by omega) (stt_in _ _) ?_
        | refine V_iald F dM_bars_23 (by first | rfl | assumption) rfl (by omega) ?_
      refine V_iconst F dM_bars_24 (by decide) ?_
      refine V_idiv F dM_bars_25 (by omega) ?_
      refine V_iload_n (i := 2) F dM_bars_26 rfl rfl ?_
      refine V_callSi F dM_bars_27 lmM_138 miM_cross msM_cross (ctM_cross (by omega)) (by decide) rfl (Nat.le_of_ble_eq_true rfl) (fun r u hr => ?_)
      obtain ⟨rfl, rfl⟩ := hr
      refine V_if_eq F 35 dM_bars_30 (by decide) (fun h30 => ?_) (fun h30 => ?_)
      · first | (replace h30 := bz_ne0.mp h30) | (replace h30 := bz_eq0.mp h30) | skip
        refine V_iinc F dM_bars_35 (by decide) rfl (by omega) (by simp only [List.set_cons_zero, List.set_cons_succ]; exact rfl) ?_
        refine V_goto F 2 dM_bars_38 (by decide) ?_
        exact ih (i + 1) (by omega) (by omega) (fun j h1 h2 => by
          by_cases hj : j = i
          · rw [hj]; assumption
          · exact hn j h1 (by omega))
      · first | (replace h30 := bz_ne0.mp h30) | (replace h30 := bz_eq0.mp h30) | skip
        refine V_iconst F dM_bars_33 (by decide) ?_
        exact hR _ _ _ _ dM_bars_34 (by first | exact Or.inl rfl | exact Or.inr rfl | exact bz_01 _ | assumption) (by first | exact ⟨(bz_t ⟨i, by omega, by omega, by assumption⟩).symm, rfl⟩ | exact ⟨(bz_f (fun q => by obtain ⟨j, h1, h2, h3⟩ := q; exact hn j h1 (by omega) h3)).symm, rfl⟩)
theorem ctM_bars {G : vG} {l : Launch} {w : RW} {t p : Int} (ht : 0 ≤ t ∧ t < 6) (hp : 0 ≤ p) (hm : mOK w) : CTi G l yM_bars cM_bars 4 .boolean 1 [.inr 77, .inl t, .inl p] w (fun r u => r = bz (brs w t p) ∧ w = u) := by
  refine CTi.bool (by decide) (Nat.le_of_ble_eq_true rfl) ?_
  intro X Q F hX hR
  subst hX
  show V G X 4 Q 0 [some (.inr 77), some (.inl t), some (.inl p), none] [] w
  refine V_iconst F dM_bars_0 (by decide) ?_
  refine V_istore_n (i := 3) F dM_bars_1 rfl (by decide) (by simp only [List.set_cons_zero, List.set_cons_succ]; exact rfl) ?_
  exact lpM_bars ht hp hm F hR ((w 86 t).toNat + 1) 0 (by omega) (by omega) (fun j h1 h2 => by omega)
end
section
theorem dA_fill_0 : decode cA_fill 0 = .ok (.iconst 0, 1) := by decide +kernel
theorem dA_fill_1 : decode cA_fill 1 = .ok (.istore_n 2, 1) := by decide +kernel
theorem dA_fill_2 : decode cA_fill 2 = .ok (.aload_n 0, 1) := by decide +kernel
theorem dA_fill_3 : decode cA_fill 3 = .ok (.arraylength, 1) := by decide +kernel
theorem dA_fill_4 : decode cA_fill 4 = .ok (.istore_n 3, 1) := by decide +kernel
theorem dA_fill_5 : decode cA_fill 5 = .ok (.iload_n 2, 1) := by decide +kernel
theorem dA_fill_6 : decode cA_fill 6 = .ok (.iload_n 3, 1) := by decide +kernel
theorem dA_fill_7 : decode cA_fill 7 = .ok (.if_icmp .ge 13, 3) := by decide +kernel
theorem dA_fill_10 : decode cA_fill 10 = .ok (.aload_n 0, 1) := by decide +kernel
theorem dA_fill_11 : decode cA_fill 11 = .ok (.iload_n 2, 1) := by decide +kernel
theorem dA_fill_12 : decode cA_fill 12 = .ok (.iload_n 1, 1) := by decide +kernel
theorem dA_fill_13 : decode cA_fill 13 = .ok (.iastore, 1) := by decide +kernel
theorem dA_fill_14 : decode cA_fill 14 = .ok (.iinc 2 1, 3) := by decide +kernel
theorem dA_fill_17 : decode cA_fill 17 = .ok (.goto (-12), 3) := by decide +kernel
theorem dA_fill_20 : decode cA_fill 20 = .ok (.return_, 1) := by decide +kernel
theorem dR_add_0 : decode cR_add 0 = .ok (.aload_n 0, 1) := by decide +kernel
theorem dR_add_1 : decode cR_add 1 = .ok (.getfield 18, 3) := by decide +kernel
theorem dR_add_4 : decode cR_add 4 = .ok (.sipush 257, 3) := by decide +kernel
theorem dR_add_7 : decode cR_add 7 = .ok (.if_icmp .ge 23, 3) := by decide +kernel
theorem dR_add_10 : decode cR_add 10 = .ok (.aload_n 0, 1) := by decide +kernel
theorem dR_add_11 : decode cR_add 11 = .ok (.getfield 9, 3) := by decide +kernel
theorem dR_add_14 : decode cR_add 14 = .ok (.aload_n 0, 1) := by decide +kernel
theorem dR_add_15 : decode cR_add 15 = .ok (.getfield 18, 3) := by decide +kernel
theorem dR_add_18 : decode cR_add 18 = .ok (.iload_n 1, 1) := by decide +kernel
theorem dR_add_19 : decode cR_add 19 = .ok (.iastore, 1) := by decide +kernel
theorem dR_add_20 : decode cR_add 20 = .ok (.aload_n 0, 1) := by decide +kernel
theorem dR_add_21 : decode cR_add 21 = .ok (.dup, 1) := by decide +kernel
theorem dR_add_22 : decode cR_add 22 = .ok (.getfield 18, 3) := by decide +kernel
theorem dR_add_25 : decode cR_add 25 = .ok (.iconst 1, 1) := by decide +kernel
theorem dR_add_26 : decode cR_add 26 = .ok (.iadd, 1) := by decide +kernel
theorem dR_add_27 : decode cR_add 27 = .ok (.putfield 18, 3) := by decide +kernel
theorem dR_add_30 : decode cR_add 30 = .ok (.return_, 1) := by decide +kernel
theorem dR_firstBefore_0 : decode cR_firstBefore 0 = .ok (.iload_n 1, 1) := by decide +kernel
theorem dR_firstBefore_1 : decode cR_firstBefore 1 = .ok (.invokestatic 30, 3) := by decide +kernel
theorem dR_firstBefore_4 : decode cR_firstBefore 4 = .ok (.istore_n 2, 1) := by decide +kernel
theorem dR_firstBefore_5 : decode cR_firstBefore 5 = .ok (.aload_n 0, 1) := by decide +kernel
theorem dR_firstBefore_6 : decode cR_firstBefore 6 = .ok (.iload_n 1, 1) := by decide +kernel
theorem dR_firstBefore_7 : decode cR_firstBefore 7 = .ok (.invokestatic 36, 3) := by decide +kernel
theorem dR_firstBefore_10 : decode cR_firstBefore 10 = .ok (.iload_n 2, 1) := by decide +kernel
theorem dR_firstBefore_11 : decode cR_firstBefore 11 = .ok (.invokevirtual 39, 3) := by decide +kernel
theorem dR_firstBefore_14 : decode cR_firstBefore 14 = .ok (.istore_n 3, 1) := by decide +kernel
theorem dR_firstBefore_15 : decode cR_firstBefore 15 = .ok (.iload_n 2, 1) := by decide +kernel
theorem dR_firstBefore_16 : decode cR_firstBefore 16 = .ok (.invokestatic 45, 3) := by decide +kernel
theorem dR_firstBefore_19 : decode cR_firstBefore 19 = .ok (.istore 4, 2) := by decide +kernel
theorem dR_firstBefore_21 : decode cR_firstBefore 21 = .ok (.iconst 0, 1) := by decide +kernel
theorem dR_firstBefore_22 : decode cR_firstBefore 22 = .ok (.istore 5, 2) := by decide +kernel
theorem dR_firstBefore_24 : decode cR_firstBefore 24 = .ok (.iload 5, 2) := by decide +kernel
theorem dR_firstBefore_26 : decode cR_firstBefore 26 = .ok (.bipush 6, 2) := by decide +kernel
theorem dR_firstBefore_28 : decode cR_firstBefore 28 = .ok (.if_icmp .ge 38, 3) := by decide +kernel
theorem dR_firstBefore_31 : decode cR_firstBefore 31 = .ok (.iload_n 3, 1) := by decide +kernel
theorem dR_firstBefore_32 : decode cR_firstBefore 32 = .ok (.iconst (-1), 1) := by decide +kernel
theorem dR_firstBefore_33 : decode cR_firstBefore 33 = .ok (.if_icmp .eq 33, 3) := by decide +kernel
theorem dR_firstBefore_36 : decode cR_firstBefore 36 = .ok (.aload_n 0, 1) := by decide +kernel
theorem dR_firstBefore_37 : decode cR_firstBefore 37 = .ok (.iload_n 3, 1) := by decide +kernel
theorem dR_firstBefore_38 : decode cR_firstBefore 38 = .ok (.iload 5, 2) := by decide +kernel
theorem dR_firstBefore_40 : decode cR_firstBefore 40 = .ok (.iload 4, 2) := by decide +kernel
theorem dR_firstBefore_42 : decode cR_firstBefore 42 = .ok (.invokevirtual 48, 3) := by decide +kernel
theorem dR_firstBefore_45 : decode cR_firstBefore 45 = .ok (.ifCond .eq 15, 3) := by decide +kernel
theorem dR_firstBefore_48 : decode cR_firstBefore 48 = .ok (.iload_n 3, 1) := by decide +kernel
theorem dR_firstBefore_49 : decode cR_firstBefore 49 = .ok (.iload 5, 2) := by decide +kernel
theorem dR_firstBefore_51 : decode cR_firstBefore 51 = .ok (.invokestatic 52, 3) := by decide +kernel
theorem dR_firstBefore_54 : decode cR_firstBefore 54 = .ok (.iload 4, 2) := by decide +kernel
theorem dR_firstBefore_56 : decode cR_firstBefore 56 = .ok (.invokestatic 55, 3) := by decide +kernel
theorem dR_firstBefore_59 : decode cR_firstBefore 59 = .ok (.ireturn, 1) := by decide +kernel
theorem dR_firstBefore_60 : decode cR_firstBefore 60 = .ok (.iinc 5 1, 3) := by decide +kernel
theorem dR_firstBefore_63 : decode cR_firstBefore 63 = .ok (.goto (-39), 3) := by decide +kernel
theorem dR_firstBefore_66 : decode cR_firstBefore 66 = .ok (.iconst (-1), 1) := by decide +kernel
theorem dR_firstBefore_67 : decode cR_firstBefore 67 = .ok (.ireturn, 1) := by decide +kernel
theorem lfR_18 : Cond.fieldLink R_R 18 "RailYard$Stretch" "count" "I" ∈ bigW := bw 96 (by decide +kernel) rfl
theorem lfR_9 : Cond.fieldLink R_R 9 "RailYard$Stretch" "runs" "[I" ∈ bigW := bw 93 (by decide +kernel) rfl
theorem lmR_48 : Cond.methodLink R_R 48 yG_meets ∈ bigW := bw 374 (by decide +kernel) rfl
theorem lmR_52 : Cond.methodLink R_R 52 yS_place ∈ bigW := bw 379 (by decide +kernel) rfl
theorem lmR_55 : Cond.methodLink R_R 55 yS_run ∈ bigW := bw 380 (by decide +kernel) rfl
theorem lmR_30 : Cond.methodLink R_R 30 yS_entryOf ∈ bigW := bw 354 (by decide +kernel) rfl
theorem lmR_36 : Cond.methodLink R_R 36 yS_tileOf ∈ bigW := bw 364 (by decide +kernel) rfl
theorem lmR_39 : Cond.methodLink R_R 39 yG_across ∈ bigW := bw 367 (by decide +kernel) rfl
theorem lmR_45 : Cond.methodLink R_R 45 yS_opposite ∈ bigW := bw 371 (by decide +kernel) rfl
theorem miG_meets : MI yG_meets cG_meets 4 (some .boolean) 3 := ⟨bw 377 (by decide +kernel) rfl, bw 44 (by decide +kernel) rfl, ⟨by decide +kernel, by decide +kernel⟩, by decide +kernel, by decide⟩
theorem mvG_meets : MV yG_meets := ⟨bw 375 (by decide +kernel) rfl, bw 376 (by decide +kernel) rfl⟩
theorem miS_run : MI yS_run cS_run 2 (some .int) 2 := ⟨bw 314 (by decide +kernel) rfl, bw 49 (by decide +kernel) rfl, ⟨by decide +kernel, by decide +kernel⟩, by decide +kernel, by decide⟩
theorem msS_run : Cond.static yS_run ∈ bigW := bw 313 (by decide +kernel) rfl
theorem miS_entryOf : MI yS_entryOf cS_entryOf 1 (some .int) 1 := ⟨bw 356 (by decide +kernel) rfl, bw 49 (by decide +kernel) rfl, ⟨by decide +kernel, by decide +kernel⟩, by decide +kernel, by decide⟩
theorem msS_entryOf : Cond.static yS_entryOf ∈ bigW := bw 355 (by decide +kernel) rfl
theorem miS_tileOf : MI yS_tileOf cS_tileOf 1 (some .int) 1 := ⟨bw 366 (by decide +kernel) rfl, bw 49 (by decide +kernel) rfl, ⟨by decide +kernel, by decide +kernel⟩, by decide +kernel, by decide⟩
theorem msS_tileOf : Cond.static yS_tileOf ∈ bigW := bw 365 (by decide +kernel) rfl
theorem miG_across : MI yG_across cG_across 5 (some .int) 2 := ⟨bw 370 (by decide +kernel) rfl, bw 44 (by decide +kernel) rfl, ⟨by decide +kernel, by decide +kernel⟩, by decide +kernel, by decide⟩
theorem mvG_across : MV yG_across := ⟨bw 368 (by decide +kernel) rfl, bw 369 (by decide +kernel) rfl⟩
theorem miS_opposite : MI yS_opposite cS_opposite 1 (some .int) 1 := ⟨bw 373 (by decide +kernel) rfl, bw 49 (by decide +kernel) rfl, ⟨by decide +kernel, by decide +kernel⟩, by decide +kernel, by decide⟩
theorem msS_opposite : Cond.static yS_opposite ∈ bigW := bw 372 (by decide +kernel) rfl
theorem upw_f {w : RW} {k k' : Nat} {i z : Int} (h : k' ≠ k) : upw w k i z k' = w k' := by
  funext j
  exact upw_k h
def flw (w : RW) (k : Nat) (n v : Int) : RW := fun j i => if j = k ∧ 0 ≤ i ∧ i < n then v else w j i
theorem flw_0 (w : RW) (k : Nat) (v : Int) : flw w k 0 v = w := by
  funext j i
  unfold flw
  rw [if_neg (by omega)]
theorem flw_s (w : RW) (k : Nat) {n : Int} (v : Int) (h : 0 ≤ n) : upw (flw w k n v) k n v = flw w k (n + 1) v := by
  funext j i
  unfold upw flw
  by_cases h1 : j = k ∧ i = n
  · rw [if_pos h1, if_pos ⟨h1.1, by omega, by omega⟩]
  · rw [if_neg h1]
    by_cases h2 : j = k ∧ 0 ≤ i ∧ i < n
    · rw [if_pos h2, if_pos ⟨h2.1, by omega, by omega⟩]
    · rw [if_neg h2, if_neg (fun q => by
        by_cases h3 : i = n
        · exact h1 ⟨q.1, h3⟩
        · exact h2 ⟨q.1, by omega, by omega⟩)]
theorem lpA_fill {G : vG} {X : vX} {Q : State → Prop} {w : RW} {k n : Nat} {v : Int} (hk : shp[k]? = some (.inl (0, n))) (hn : n < 1000) (F : FX G X cA_fill yA_fill.cls 4 0) (hR : RetV G X cA_fill 4 Q (fun u => flw w k n v = u)) : ∀ (m : Nat) (i : Int), 0 ≤ i → i ≤ n → (n : Int) - i < m → V G X 4 Q 5 [some (.inr k), some (.inl v), some (.inl i), some (.inl (n : Int))] [] (flw w k i v) := by
  intro m
  induction m with
  | zero => intro i h1 h2 h3; omega
  | succ m ih =>
    intro i h1 h2 h3
    refine V_iload_n (i := 2) F dA_fill_5 rfl rfl ?_
    refine V_iload_n (i := 3) F dA_fill_6 rfl rfl ?_
    refine V_icmp_ge F 20 dA_fill_7 (by decide) (fun h7 => ?_) (fun h7 => ?_)
    · exact hR _ _ _ dA_fill_20 (by rw [show i = (n : Int) by omega])
    · refine V_aload_n (i := 0) F dA_fill_10 rfl rfl ?_
      refine V_iload_n (i := 2) F dA_fill_11 rfl rfl ?_
      refine V_iload_n (i := 1) F dA_fill_12 rfl rfl ?_
      refine V_iast F dA_fill_13 (by first | rfl | assumption) rfl (by omega) ?_
      refine V_iinc F dA_fill_14 (by decide) rfl (by omega) (by simp only [List.set_cons_zero, List.set_cons_succ]; exact rfl) ?_
      refine V_goto F 5 dA_fill_17 (by decide) ?_
      rw [flw_s w k v (by omega)]
      exact ih (i + 1) (by omega) (by omega) (by omega)
theorem ctA_fill {G : vG} {l : Launch} {w : RW} {k n : Nat} {v : Int} (hk : shp[k]? = some (.inl (0, n))) (hn : n < 1000) : CTv G l yA_fill cA_fill 4 0 [.inr k, .inl v] w (fun u => flw w k n v = u) := by
  refine CTv.intro (by decide) (Nat.le_of_ble_eq_true rfl) ?_
  intro X Q F hX hR
  subst hX
  show V G X 4 Q 0 [some (.inr k), some (.inl v), none, none] [] w
  refine V_iconst F dA_fill_0 (by decide) ?_
  refine V_istore_n (i := 2) F dA_fill_1 rfl (by decide) (by simp only [List.set_cons_zero, List.set_cons_succ]; exact rfl) ?_
  refine V_aload_n (i := 0) F dA_fill_2 rfl rfl ?_
  refine V_alen F dA_fill_3 hk rfl (by omega) ?_
  refine V_istore_n (i := 3) F dA_fill_4 rfl (by decide) (by simp only [List.set_cons_zero, List.set_cons_succ]; exact rfl) ?_
  have hlp := lpA_fill hk hn F hR (n + 1) 0 (by omega) (by omega) (by omega)
  rw [flw_0] at hlp
  exact hlp
theorem ctR_add {G : vG} {l : Launch} {w : RW} {x : Int} (h : 0 ≤ w 73 2 ∧ w 73 2 < 257) : CTv G l yR_add cR_add 2 0 [.inr 73, .inl x] w (fun u => upw (upw w 74 (w 73 2) x) 73 2 (w 73 2 + 1) = u) := by
  refine CTv.intro (by decide) (Nat.le_of_ble_eq_true rfl) ?_
  intro X Q F hX hR
  subst hX
  show V G X 2 Q 0 [some (.inr 73), some (.inl x)] [] w
  refine V_aload_n (i := 0) F dR_add_0 rfl rfl ?_
  refine V_geti (ci := 2) (C := R_R) (T := T_R) (N := 3) F dR_add_1 (by first | rfl | assumption) rfl (j := 2) 2 rfl (by decide) rfl lfR_18 ?_
  refine V_sipush F dR_add_4 (by decide) ?_
  refine V_icmp_ge F 30 dR_add_7 (by decide) (fun h7 => ?_) (fun h7 => ?_)
  · exact hR _ _ _ dR_add_30 (by first | (exfalso; omega) | rfl)
  · refine V_aload_n (i := 0) F dR_add_10 rfl rfl ?_
    refine V_getr (ci := 2) (C := R_R) (T := T_R) (N := 3) F dR_add_11 (by first | rfl | assumption) rfl (j := 0) (by decide) rfl lfR_9 ?_
    refine V_aload_n (i := 0) F dR_add_14 rfl rfl ?_
    refine V_geti (ci := 2) (C := R_R) (T := T_R) (N := 3) F dR_add_15 (by first | rfl | assumption) rfl (j := 2) 2 rfl (by decide) rfl lfR_18 ?_
    refine V_iload_n (i := 1) F dR_add_18 rfl rfl ?_
    refine V_iast F dR_add_19 (by first | rfl | assumption) rfl (by omega) ?_
    refine V_aload_n (i := 0) F dR_add_20 rfl rfl ?_
    refine V_dup F dR_add_21 ?_
    refine V_geti (ci := 2) (C := R_R) (T := T_R) (N := 3) F dR_add_22 (by first | rfl | assumption) rfl (j := 2) 2 rfl (by decide) rfl lfR_18 ?_
    rw [upw_k (by decide)]
    refine V_iconst F dR_add_25 (by decide) ?_
    refine V_iadd F dR_add_26 (by omega) ?_
    refine V_puti (ci := 2) (C := R_R) (T := T_R) (N := 3) F dR_add_27 (by first | rfl | assumption) rfl (j := 2) 2 rfl (by decide) rfl rfl rfl lfR_18 ?_
    exact hR _ _ _ dR_add_30 (by first | (exfalso; omega) | rfl)
/-- a run: tile + 64 piece + 512 edge, the edge one of the piece's -/
def okR (x : Int) : Prop := 0 ≤ x ∧ x % 64 < 48 ∧ x % 512 / 64 < 6 ∧ x / 512 < 4 ∧ hsE (x % 512 / 64) (x / 512)
theorem otE_rng {p e : Int} (hp : 0 ≤ p ∧ p < 6) (h : hsE p e) : 0 ≤ otE p e ∧ otE p e < 4 := by
  have h0 := stt_e (i := 0) (by omega) hp
  have h1 := stt_e (i := 1) (by omega) hp
  unfold otE
  unfold hsE at h
  omega
/-- the first of six -/
noncomputable def fst6 (P : Int → Prop) : Int := cif (P 0) 0 (cif (P 1) 1 (cif (P 2) 2 (cif (P 3) 3 (cif (P 4) 4 (cif (P 5) 5 (-1))))))
theorem fst6_no {P : Int → Prop} (h : ∀ j, 0 ≤ j → j < 6 → ¬ P j) : fst6 P = -1 := by
  unfold fst6
  rw [cif_f (h 0 (by omega) (by omega)), cif_f (h 1 (by omega) (by omega)), cif_f (h 2 (by omega) (by omega)), cif_f (h 3 (by omega) (by omega)), cif_f (h 4 (by omega) (by omega)), cif_f (h 5 (by omega) (by omega))]
theorem fst6_at {P : Int → Prop} {i : Int} (hi : 0 ≤ i ∧ i < 6) (hp : P i) (h : ∀ j, 0 ≤ j → j < i → ¬ P j) : fst6 P = i := by
  unfold fst6
  rcases (show i = 0 ∨ i = 1 ∨ i = 2 ∨ i = 3 ∨ i = 4 ∨ i = 5 by omega) with rfl | rfl | rfl | rfl | rfl | rfl
  · rw [cif_t hp]
  · rw [cif_f (h 0 (by omega) (by omega)), cif_t hp]
  · rw [cif_f (h 0 (by omega) (by omega)), cif_f (h 1 (by omega) (by omega)), cif_t hp]
  · rw [cif_f (h 0 (by omega) (by omega)), cif_f (h 1 (by omega) (by omega)), cif_f (h 2 (by omega) (by omega)), cif_t hp]
  · rw [cif_f (h 0 (by omega) (by omega)), cif_f (h 1 (by omega) (by omega)), cif_f (h 2 (by omega) (by omega)), cif_f (h 3 (by omega) (by omega)), cif_t hp]
  · rw [cif_f (h 0 (by omega) (by omega)), cif_f (h 1 (by omega) (by omega)), cif_f (h 2 (by omega) (by omega)), cif_f (h 3 (by omega) (by omega)), cif_f (h 4 (by omega) (by omega)), cif_t hp]
theorem fst6_or (P : Int → Prop) : (fst6 P = -1 ∧ ∀ j, 0 ≤ j → j < 6 → ¬ P j) ∨ (0 ≤ fst6 P ∧ fst6 P < 6 ∧ P (fst6 P) ∧ ∀ j, 0 ≤ j → j < fst6 P → ¬ P j) := by
  by_cases h : ∀ j, 0 ≤ j → j < 6 → ¬ P j
  · exact Or.inl ⟨fst6_no h, h⟩
  · right
    have hex : ∃ n : Nat, (n : Int) < 6 ∧ P (n : Int) := by
      apply Classical.byContradiction
      intro hc
      exact h (fun j h0 h1 hp => hc ⟨j.toNat, by omega, by rw [Int.toNat_of_nonneg h0]; exact hp⟩)
    obtain ⟨n, ⟨hn, hp⟩, hm⟩ := pk_least _ hex
    have hl : ∀ j, 0 ≤ j → j < (n : Int) → ¬ P j := fun j h0 h1 hp2 => hm j.toNat (by omega) ⟨by omega, by rw [Int.toNat_of_nonneg h0]; exact hp2⟩
    rw [fst6_at ⟨by omega, hn⟩ hp hl]
    exact ⟨by omega, hn, hp, hl⟩
/-- the tile and edge before a run, and the first run that leads to it -/
noncomputable def fbT (w : RW) (x : Int) : Int := acr (w 2 0) (w 2 1) (x % 64) (otE (x % 512 / 64) (x / 512))
def fbE (x : Int) : Int := (otE (x % 512 / 64) (x / 512) + 2) % 4
def fbP (w : RW) (x j : Int) : Prop := tb (w 3 (fbT w x)) j ∧ hsE j (fbE x)
noncomputable def fbf (w : RW) (x : Int) : Int := cif (fbT w x = -1 ∨ fst6 (fbP w x) = -1) (-1) (fbT w x + 64 * fst6 (fbP w x) + 512 * fbE x)
theorem lpR_firstBefore {G : vG} {X : vX} {Q : State → Prop} {w : RW} {x : Int} (hx : okR x) (hb : w 2 0 ≤ 8 ∧ w 2 1 ≤ 6) (hw : ∀ t, 0 ≤ t → t < 48 → 0 ≤ w 3 t) (F : FX G X cR_firstBefore yR_firstBefore.cls 6 2) (hR : RetI G X cR_firstBefore 6 Q (fun r u => r = fbf w x ∧ w = u)) (e : Int) : ∀ (m : Nat) (i : Int), 0 ≤ i → i ≤ 6 → 6 - i < m → (∀ j, 0 ≤ j → j < i → ¬ fbP w x j) → V G X 6 Q 24 [some (.inr 2), some (.inl x), some (.inl e), some (.inl (fbT w x)), some (.inl (fbE x)), some (.inl i)] [] w := by
  have hT : fbT w x = -1 ∨ (0 ≤ fbT w x ∧ fbT w x < 48) := acr_rng (by omega) (by omega)
  have hE : 0 ≤ fbE x ∧ fbE x < 4 := by unfold fbE; omega
  intro m
  induction m with
  | zero => intro i h1 h2 h3; omega
  | succ m ih =>
    intro i h1 h2 h3 hn
    refine V_iload F dR_firstBefore_24 rfl ?_
    refine V_bipush F dR_firstBefore_26 (by decide) ?_
    refine V_icmp_ge F 66 dR_firstBefore_28 (by decide) (fun h28 => ?_) (fun h28 => ?_)
    · first | (replace h28 := bz_ne0.mp h28) | (replace h28 := bz_eq0.mp h28) | skip
      refine V_iconst F dR_firstBefore_66 (by decide) ?_
      exact hR _ _ _ _ dR_firstBefore_67 (by first | exact ⟨(cif_t (Or.inl h33)).symm, rfl⟩ | exact ⟨(cif_t (Or.inr (fst6_no (fun j h1 h2 => hn j h1 (by omega))))).symm, rfl⟩ | exact ⟨by unfold fbf; rw [fst6_at (i := i) (by omega) h45 hn, cif_f (by omega)], rfl⟩)
    · first | (replace h28 := bz_ne0.mp h28) | (replace h28 := bz_eq0.mp h28) | skip
      refine V_iload_n (i := 3) F dR_firstBefore_31 rfl rfl ?_
      refine V_iconst F dR_firstBefore_32 (by decide) ?_
      refine V_icmp_eq F 66 dR_firstBefore_33 (by decide) (fun h33 => ?_) (fun h33 => ?_)
      · first | (replace h33 := bz_ne0.mp h33) | (replace h33 := bz_eq0.mp h33) | skip
        refine V_iconst F dR_firstBefore_66 (by decide) ?_
        exact hR _ _ _ _ dR_firstBefore_67 (by first | exact ⟨(cif_t (Or.inl h33)).symm, rfl⟩ | exact ⟨(cif_t (Or.inr (fst6_no (fun j h1 h2 => hn j h1 (by omega))))).symm, rfl⟩ | exact ⟨by unfold fbf; rw [fst6_at (i := i) (by omega) h45 hn, cif_f (by omega)], rfl⟩)
      · first | (replace h33 := bz_ne0.mp h33) | (replace h33 := bz_eq0.mp h33) | skip
        refine V_aload_n (i := 0) F dR_firstBefore_36 rfl rfl ?_
        refine V_iload_n (i := 3) F dR_firstBefore_37 rfl rfl ?_
        refine V_iload F dR_firstBefore_38 rfl ?_
        refine V_iload F dR_firstBefore_40 rfl ?_
        refine V_callVi F dR_firstBefore_42 lmR_48 miG_meets mvG_meets (ctG_meets (by omega) (by omega) (hw _ (by omega) (by omega))) (by decide) (by first | rfl | assumption) rfl rfl (Nat.le_of_ble_eq_true rfl) (fun r u hr => ?_)
        obtain ⟨rfl, rfl⟩ := hr
        refine V_if_eq F 60 dR_firstBefore_45 (by decide) (fun h45 => ?_) (fun h45 => ?_)
        · first | (replace h45 := bz_ne0.mp h45) | (replace h45 := bz_eq0.mp h45) | skip
          refine V_iinc F dR_firstBefore_60 (by decide) rfl (by omega) (by simp only [List.set_cons_zero, List.set_cons_succ]; exact rfl) ?_
          refine V_goto F 24 dR_firstBefore_63 (by decide) ?_
          exact ih (i + 1) (by omega) (by omega) (by omega) (fun j h1 h2 => by
            by_cases hj : j = i
            · rw [hj]; assumption
            · exact hn j h1 (by omega))
        · first | (replace h45 := bz_ne0.mp h45) | (replace h45 := bz_eq0.mp h45) | skip
          refine V_iload_n (i := 3) F dR_firstBefore_48 rfl rfl ?_
          refine V_iload F dR_firstBefore_49 rfl ?_
          refine V_callSi F dR_firstBefore_51 lmR_52 miS_place msS_place (ctS_place (by omega)) (by decide) rfl (Nat.le_of_ble_eq_true rfl) (fun r u hr => ?_)
          obtain ⟨rfl, rfl⟩ := hr
          refine V_iload F dR_firstBefore_54 rfl ?_
          refine V_callSi F dR_firstBefore_56 lmR_55 miS_run msS_run (ctS_run (by omega)) (by decide) rfl (Nat.le_of_ble_eq_true rfl) (fun r u hr => ?_)
          obtain ⟨rfl, rfl⟩ := hr
          exact hR _ _ _ _ dR_firstBefore_59 (by first | exact ⟨(cif_t (Or.inl h33)).symm, rfl⟩ | exact ⟨(cif_t (Or.inr (fst6_no (fun j h1 h2 => hn j h1 (by omega))))).symm, rfl⟩ | exact ⟨by unfold fbf; rw [fst6_at (i := i) (by omega) h45 hn, cif_f (by omega)], rfl⟩)
theorem ctR_firstBefore {G : vG} {l : Launch} {w : RW} {x : Int} (hx : okR x) (hb : w 2 0 ≤ 8 ∧ w 2 1 ≤ 6) (hw : ∀ t, 0 ≤ t → t < 48 → 0 ≤ w 3 t) : CTi G l yR_firstBefore cR_firstBefore 6 .int 2 [.inr 2, .inl x] w (fun r u => r = fbf w x ∧ w = u) := by
  refine CTi.int (by decide) (Nat.le_of_ble_eq_true rfl) ?_
  intro X Q F hX hR
  subst hX
  show V G X 6 Q 0 [some (.inr 2), some (.inl x), none, none, none, none] [] w
  have hx0 := hx
  obtain ⟨x1, x2, x3, x4, x5⟩ := hx
  have hO := otE_rng (by omega) x5
  refine V_iload_n (i := 1) F dR_firstBefore_0 rfl rfl ?_
  refine V_callSi F dR_firstBefore_1 lmR_30 miS_entryOf msS_entryOf (ctS_entryOf (by omega) (by omega)) (by decide) rfl (Nat.le_of_ble_eq_true rfl) (fun r u hr => ?_)
  obtain ⟨rfl, rfl⟩ := hr
  refine V_istore_n (i := 2) F dR_firstBefore_4 rfl (by decide) (by simp only [List.set_cons_zero, List.set_cons_succ]; exact rfl) ?_
  refine V_aload_n (i := 0) F dR_firstBefore_5 rfl rfl ?_
  refine V_iload_n (i := 1) F dR_firstBefore_6 rfl rfl ?_
  refine V_callSi F dR_firstBefore_7 lmR_36 miS_tileOf msS_tileOf (ctS_tileOf (by omega)) (by decide) rfl (Nat.le_of_ble_eq_true rfl) (fun r u hr => ?_)
  obtain ⟨rfl, rfl⟩ := hr
  refine V_iload_n (i := 2) F dR_firstBefore_10 rfl rfl ?_
  refine V_callVi F dR_firstBefore_11 lmR_39 miG_across mvG_across (ctG_across (by omega) hO) (by decide) (by first | rfl | assumption) rfl rfl (Nat.le_of_ble_eq_true rfl) (fun r u hr => ?_)
  obtain ⟨rfl, rfl⟩ := hr
  refine V_istore_n (i := 3) F dR_firstBefore_14 rfl (by decide) (by simp only [List.set_cons_zero, List.set_cons_succ]; exact rfl) ?_
  refine V_iload_n (i := 2) F dR_firstBefore_15 rfl rfl ?_
  refine V_callSi F dR_firstBefore_16 lmR_45 miS_opposite msS_opposite (ctS_opposite hO) (by decide) rfl (Nat.le_of_ble_eq_true rfl) (fun r u hr => ?_)
  obtain ⟨rfl, rfl⟩ := hr
  refine V_istore F dR_firstBefore_19 (by decide) (by simp only [List.set_cons_zero, List.set_cons_succ]; exact rfl) ?_
  refine V_iconst F dR_firstBefore_21 (by decide) ?_
  refine V_istore F dR_firstBefore_22 (by decide) (by simp only [List.set_cons_zero, List.set_cons_succ]; exact rfl) ?_
  exact lpR_firstBefore hx0 hb hw F hR _ 7 0 (by omega) (by omega) (by omega) (fun j h1 h2 => by omega)
end
section
theorem dR_against_0 : decode cR_against 0 = .ok (.iconst 0, 1) := by decide +kernel
theorem dR_against_1 : decode cR_against 1 = .ok (.istore_n 3, 1) := by decide +kernel
theorem dR_against_2 : decode cR_against 2 = .ok (.aload_n 0, 1) := by decide +kernel
theorem dR_against_3 : decode cR_against 3 = .ok (.getfield 15, 3) := by decide +kernel
theorem dR_against_6 : decode cR_against 6 = .ok (.iconst 0, 1) := by decide +kernel
theorem dR_against_7 : decode cR_against 7 = .ok (.invokestatic 58, 3) := by decide +kernel
theorem dR_against_10 : decode cR_against 10 = .ok (.iconst 0, 1) := by decide +kernel
theorem dR_against_11 : decode cR_against 11 = .ok (.istore 4, 2) := by decide +kernel
theorem dR_against_13 : decode cR_against 13 = .ok (.iload 4, 2) := by decide +kernel
theorem dR_against_15 : decode cR_against 15 = .ok (.aload_n 0, 1) := by decide +kernel
theorem dR_against_16 : decode cR_against 16 = .ok (.getfield 18, 3) := by decide +kernel
theorem dR_against_19 : decode cR_against 19 = .ok (.if_icmp .ge 127, 3) := by decide +kernel
theorem dR_against_22 : decode cR_against 22 = .ok (.aload_n 0, 1) := by decide +kernel
theorem dR_against_23 : decode cR_against 23 = .ok (.getfield 9, 3) := by decide +kernel
theorem dR_against_26 : decode cR_against 26 = .ok (.iload 4, 2) := by decide +kernel
theorem dR_against_28 : decode cR_against 28 = .ok (.iaload, 1) := by decide +kernel
theorem dR_against_29 : decode cR_against 29 = .ok (.invokestatic 36, 3) := by decide +kernel
theorem dR_against_32 : decode cR_against 32 = .ok (.istore 5, 2) := by decide +kernel
theorem dR_against_34 : decode cR_against 34 = .ok (.aload_n 0, 1) := by decide +kernel
theorem dR_against_35 : decode cR_against 35 = .ok (.getfield 9, 3) := by decide +kernel
theorem dR_against_38 : decode cR_against 38 = .ok (.iload 4, 2) := by decide +kernel
theorem dR_against_40 : decode cR_against 40 = .ok (.iaload, 1) := by decide +kernel
theorem dR_against_41 : decode cR_against 41 = .ok (.invokestatic 64, 3) := by decide +kernel
theorem dR_against_44 : decode cR_against 44 = .ok (.istore 6, 2) := by decide +kernel
theorem dR_against_46 : decode cR_against 46 = .ok (.aload_n 0, 1) := by decide +kernel
theorem dR_against_47 : decode cR_against 47 = .ok (.getfield 15, 3) := by decide +kernel
theorem dR_against_50 : decode cR_against 50 = .ok (.iload 5, 2) := by decide +kernel
theorem dR_against_52 : decode cR_against 52 = .ok (.iaload, 1) := by decide +kernel
theorem dR_against_53 : decode cR_against 53 = .ok (.getstatic 67, 3) := by decide +kernel
theorem dR_against_56 : decode cR_against 56 = .ok (.iload 6, 2) := by decide +kernel
theorem dR_against_58 : decode cR_against 58 = .ok (.iaload, 1) := by decide +kernel
theorem dR_against_59 : decode cR_against 59 = .ok (.iand, 1) := by decide +kernel
theorem dR_against_60 : decode cR_against 60 = .ok (.ifCond .eq 9, 3) := by decide +kernel
theorem dR_against_63 : decode cR_against 63 = .ok (.iload_n 3, 1) := by decide +kernel
theorem dR_against_64 : decode cR_against 64 = .ok (.iconst 1, 1) := by decide +kernel
theorem dR_against_65 : decode cR_against 65 = .ok (.iload_n 2, 1) := by decide +kernel
theorem dR_against_66 : decode cR_against 66 = .ok (.ishl, 1) := by decide +kernel
theorem dR_against_67 : decode cR_against 67 = .ok (.ior, 1) := by decide +kernel
theorem dR_against_68 : decode cR_against 68 = .ok (.istore_n 3, 1) := by decide +kernel
theorem dR_against_69 : decode cR_against 69 = .ok (.aload_n 0, 1) := by decide +kernel
theorem dR_against_70 : decode cR_against 70 = .ok (.getfield 15, 3) := by decide +kernel
theorem dR_against_73 : decode cR_against 73 = .ok (.iload 5, 2) := by decide +kernel
theorem dR_against_75 : decode cR_against 75 = .ok (.dup2, 1) := by decide +kernel
theorem dR_against_76 : decode cR_against 76 = .ok (.iaload, 1) := by decide +kernel
theorem dR_against_77 : decode cR_against 77 = .ok (.iconst 1, 1) := by decide +kernel
theorem dR_against_78 : decode cR_against 78 = .ok (.iload 6, 2) := by decide +kernel
theorem dR_against_80 : decode cR_against 80 = .ok (.ishl, 1) := by decide +kernel
theorem dR_against_81 : decode cR_against 81 = .ok (.ior, 1) := by decide +kernel
theorem dR_against_82 : decode cR_against 82 = .ok (.iastore, 1) := by decide +kernel
theorem dR_against_83 : decode cR_against 83 = .ok (.iconst 0, 1) := by decide +kernel
theorem dR_against_84 : decode cR_against 84 = .ok (.istore 7, 2) := by decide +kernel
theorem dR_against_86 : decode cR_against 86 = .ok (.iload 7, 2) := by decide +kernel
theorem dR_against_88 : decode cR_against 88 = .ok (.bipush 6, 2) := by decide +kernel
theorem dR_against_90 : decode cR_against 90 = .ok (.if_icmp .ge 50, 3) := by decide +kernel
theorem dR_against_93 : decode cR_against 93 = .ok (.aload_n 1, 1) := by decide +kernel
theorem dR_against_94 : decode cR_against 94 = .ok (.getfield 70, 3) := by decide +kernel
theorem dR_against_97 : decode cR_against 97 = .ok (.iload 5, 2) := by decide +kernel
theorem dR_against_99 : decode cR_against 99 = .ok (.iload 7, 2) := by decide +kernel
theorem dR_against_101 : decode cR_against 101 = .ok (.invokestatic 52, 3) := by decide +kernel
theorem dR_against_104 : decode cR_against 104 = .ok (.iaload, 1) := by decide +kernel
theorem dR_against_105 : decode cR_against 105 = .ok (.istore 8, 2) := by decide +kernel
theorem dR_against_107 : decode cR_against 107 = .ok (.iload 8, 2) := by decide +kernel
theorem dR_against_109 : decode cR_against 109 = .ok (.iconst (-1), 1) := by decide +kernel
theorem dR_against_110 : decode cR_against 110 = .ok (.if_icmp .eq 24, 3) := by decide +kernel
theorem dR_against_113 : decode cR_against 113 = .ok (.getstatic 67, 3) := by decide +kernel
theorem dR_against_116 : decode cR_against 116 = .ok (.iload 6, 2) := by decide +kernel
theorem dR_against_118 : decode cR_against 118 = .ok (.iaload, 1) := by decide +kernel
theorem dR_against_119 : decode cR_against 119 = .ok (.iload 7, 2) := by decide +kernel
theorem dR_against_121 : decode cR_against 121 = .ok (.ishr, 1) := by decide +kernel
theorem dR_against_122 : decode cR_against 122 = .ok (.iconst 1, 1) := by decide +kernel
theorem dR_against_123 : decode cR_against 123 = .ok (.iand, 1) := by decide +kernel
theorem dR_against_124 : decode cR_against 124 = .ok (.ifCond .eq 10, 3) := by decide +kernel
theorem dR_against_127 : decode cR_against 127 = .ok (.iload_n 3, 1) := by decide +kernel
theorem dR_against_128 : decode cR_against 128 = .ok (.iconst 1, 1) := by decide +kernel
theorem dR_against_129 : decode cR_against 129 = .ok (.iload 8, 2) := by decide +kernel
theorem dR_against_131 : decode cR_against 131 = .ok (.ishl, 1) := by decide +kernel
theorem dR_against_132 : decode cR_against 132 = .ok (.ior, 1) := by decide +kernel
theorem dR_against_133 : decode cR_against 133 = .ok (.istore_n 3, 1) := by decide +kernel
theorem dR_against_134 : decode cR_against 134 = .ok (.iinc 7 1, 3) := by decide +kernel
theorem dR_against_137 : decode cR_against 137 = .ok (.goto (-51), 3) := by decide +kernel
theorem dR_against_140 : decode cR_against 140 = .ok (.iinc 4 1, 3) := by decide +kernel
theorem dR_against_143 : decode cR_against 143 = .ok (.goto (-130), 3) := by decide +kernel
theorem dR_against_146 : decode cR_against 146 = .ok (.iload_n 3, 1) := by decide +kernel
theorem dR_against_147 : decode cR_against 147 = .ok (.ireturn, 1) := by decide +kernel
theorem lfR_70 : Cond.fieldLinkNest R_R 70 "RailYard$Grid" "holders" "[I" hostN ∈ nestW := nw 138 (by decide +kernel) rfl
theorem lfR_67 : Cond.fieldLinkNest R_R 67 "RailYard$Spot" "CROSSING" "[I" hostN ∈ nestW := nw 387 (by decide +kernel) rfl
theorem lmR_64 : Cond.methodLink R_R 64 yS_pieceOf ∈ bigW := bw 386 (by decide +kernel) rfl
theorem lfR_15 : Cond.fieldLink R_R 15 "RailYard$Stretch" "covered" "[I" ∈ bigW := bw 95 (by decide +kernel) rfl
theorem lmR_58 : Cond.methodLink R_R 58 yA_fill ∈ bigW := bw 385 (by decide +kernel) rfl
theorem miA_fill : MI yA_fill cA_fill 4 none 2 := ⟨bw 130 (by decide +kernel) rfl, bw 45 (by decide +kernel) rfl, ⟨by decide +kernel, by decide +kernel⟩, by decide +kernel, by decide⟩
theorem msA_fill : Cond.static yA_fill ∈ bigW := bw 129 (by decide +kernel) rfl
theorem tb_or {a b n : Int} (ha : 0 ≤ a ∧ a < 2147483648) (hb : 0 ≤ b ∧ b < 2147483648) : tb (ior a b) n ↔ tb a n ∨ tb b n := by
  rw [ior_nn ha.1 hb.1 ha.2 hb.2]
  unfold tb
  rw [Int.toNat_natCast, Nat.testBit_or, Bool.or_eq_true]
theorem tb_xor {a b n : Int} (ha : 0 ≤ a ∧ a < 2147483648) (hb : 0 ≤ b ∧ b < 2147483648) : tb (ixor a b) n ↔ ¬ (tb a n ↔ tb b n) := by
  rw [ixor_nn ha.1 hb.1 ha.2 hb.2]
  unfold tb
  rw [Int.toNat_natCast, Nat.testBit_xor]
  cases a.toNat.testBit n.toNat <;> cases b.toNat.testBit n.toNat <;> simp
theorem tb_p2 {t n : Int} (ht : 0 ≤ t) (hn : 0 ≤ n) : tb (p2 t) n ↔ n = t := by
  unfold tb p2
  rw [Int.toNat_natCast, Nat.testBit_two_pow, decide_eq_true_eq]
  omega
theorem p2_lt {t : Int} (h : 0 ≤ t ∧ t ≤ 6) : 1 ≤ p2 t ∧ p2 t < 128 := by
  rcases (show t = 0 ∨ t = 1 ∨ t = 2 ∨ t = 3 ∨ t = 4 ∨ t = 5 ∨ t = 6 by omega) with rfl | rfl | rfl | rfl | rfl | rfl | rfl <;> decide
theorem p2_lt6 {t : Int} (h : 0 ≤ t ∧ t < 6) : 1 ≤ p2 t ∧ p2 t < 64 := by
  rcases (show t = 0 ∨ t = 1 ∨ t = 2 ∨ t = 3 ∨ t = 4 ∨ t = 5 by omega) with rfl | rfl | rfl | rfl | rfl | rfl <;> decide
theorem or_lt {a b : Int} (n : Nat) (hn : n ≤ 31) (ha : 0 ≤ a ∧ a < ((2 ^ n : Nat) : Int)) (hb : 0 ≤ b ∧ b < ((2 ^ n : Nat) : Int)) : 0 ≤ ior a b ∧ ior a b < ((2 ^ n : Nat) : Int) := by
  have h31 : (2 ^ n : Nat) ≤ 2 ^ 31 := Nat.pow_le_pow_right (by omega) hn
  rw [ior_nn ha.1 hb.1 (by omega) (by omega)]
  have := Nat.or_lt_two_pow (x := a.toNat) (y := b.toNat) (n := n) (by omega) (by omega)
  omega
theorem xor_lt {a b : Int} (n : Nat) (hn : n ≤ 31) (ha : 0 ≤ a ∧ a < ((2 ^ n : Nat) : Int)) (hb : 0 ≤ b ∧ b < ((2 ^ n : Nat) : Int)) : 0 ≤ ixor a b ∧ ixor a b < ((2 ^ n : Nat) : Int) := by
  have h31 : (2 ^ n : Nat) ≤ 2 ^ 31 := Nat.pow_le_pow_right (by omega) hn
  rw [ixor_nn ha.1 hb.1 (by omega) (by omega)]
  have := Nat.xor_lt_two_pow (x := a.toNat) (y := b.toNat) (n := n) (by omega) (by omega)
  omega
/-- small numbers are their six bits -/
theorem tb6_big {a : Int} (h : 0 ≤ a ∧ a < 64) {n : Nat} (hn : 6 ≤ n) : a.toNat.testBit n = false := by
  apply Nat.testBit_lt_two_pow
  have : (2 : Nat) ^ 6 ≤ 2 ^ n := Nat.pow_le_pow_right (by omega) hn
  omega
theorem and_0 {a b : Int} (ha : 0 ≤ a ∧ a < 64) (hb : 0 ≤ b) : iand a b = 0 ↔ ∀ n, 0 ≤ n → n < 6 → ¬ (tb a n ∧ tb b n) := by
  rw [iand_nn ha.1 hb (by omega)]
  constructor
  · intro h n h0 h1 hc
    have h2 : a.toNat &&& b.toNat = 0 := by omega
    have h3 := congrArg (fun z => z.testBit n.toNat) h2
    simp only [Nat.testBit_and, Nat.zero_testBit] at h3
    unfold tb at hc
    rw [hc.1, hc.2] at h3
    exact absurd h3 (by decide)
  · intro h
    have : a.toNat &&& b.toNat = 0 := by
      apply Nat.eq_of_testBit_eq
      intro i
      rw [Nat.testBit_and, Nat.zero_testBit]
      by_cases hi : i < 6
      · have h4 := h (i : Int) (by omega) (by omega)
        unfold tb at h4
        rw [Int.toNat_natCast] at h4
        cases h5 : a.toNat.testBit i <;> cases h6 : b.toNat.testBit i <;> simp_all
      · rw [tb6_big ha (by omega)]
        rfl
    omega
theorem tb_0 (n : Int) : ¬ tb 0 n := by
  unfold tb
  simp
/-- which trains stand against the first n runs of the wish, and t itself where two of them cross -/
def agS (w : RW) (n t z : Int) : Prop := (z = t ∧ ∃ i j, 0 ≤ j ∧ j < i ∧ i < n ∧ w 74 i % 64 = w 74 j % 64 ∧ tb (stt 2 (w 74 i % 512 / 64)) (w 74 j % 512 / 64)) ∨ ∃ i o, 0 ≤ i ∧ i < n ∧ 0 ≤ o ∧ o < 6 ∧ w 5 (w 74 i % 64 + 64 * o) = z ∧ tb (stt 2 (w 74 i % 512 / 64)) o
def agI (w : RW) (i t o z : Int) : Prop := agS w i t z ∨ (z = t ∧ ∃ j, 0 ≤ j ∧ j < i ∧ w 74 i % 64 = w 74 j % 64 ∧ tb (stt 2 (w 74 i % 512 / 64)) (w 74 j % 512 / 64)) ∨ ∃ p, 0 ≤ p ∧ p < o ∧ w 5 (w 74 i % 64 + 64 * p) = z ∧ tb (stt 2 (w 74 i % 512 / 64)) p
theorem agI_6 {w : RW} {i t z : Int} (hi : 0 ≤ i) : agI w i t 6 z ↔ agS w (i + 1) t z := by
  unfold agI agS
  constructor
  · rintro ((⟨hz, a, b, h1, h2, h3, h4, h5⟩ | ⟨a, o, h1, h2, h3, h4, h5, h6⟩) | ⟨hz, j, h1, h2, h3, h4⟩ | ⟨p, h1, h2, h3, h4⟩)
    · exact Or.inl ⟨hz, a, b, h1, h2, by omega, h4, h5⟩
    · exact Or.inr ⟨a, o, h1, by omega, h3, h4, h5, h6⟩
    · exact Or.inl ⟨hz, i, j, h1, h2, by omega, h3, h4⟩
    · exact Or.inr ⟨i, p, hi, by omega, h1, h2, h3, h4⟩
  · rintro (⟨hz, a, b, h1, h2, h3, h4, h5⟩ | ⟨a, o, h1, h2, h3, h4, h5, h6⟩)
    · by_cases ha : a = i
      · subst ha; exact Or.inr (Or.inl ⟨hz, b, h1, h2, h4, h5⟩)
      · exact Or.inl (Or.inl ⟨hz, a, b, h1, h2, by omega, h4, h5⟩)
    · by_cases ha : a = i
      · subst ha; exact Or.inr (Or.inr ⟨o, h3, h4, h5, h6⟩)
      · exact Or.inl (Or.inr ⟨a, o, h1, by omega, h3, h4, h5, h6⟩)
/-- the covered pieces of the tiles -/
def agC (w : RW) (i : Int) (f : Int → Int) : Prop := ∀ c, 0 ≤ c → c < 64 → (0 ≤ f c ∧ f c < 64) ∧ ∀ p, 0 ≤ p → p < 6 → (tb (f c) p ↔ ∃ j, 0 ≤ j ∧ j < i ∧ w 74 j % 64 = c ∧ w 74 j % 512 / 64 = p)
def agF (f t : Int) (S : Int → Prop) : Prop := (0 ≤ f ∧ f < 128) ∧ ∀ z, 0 ≤ z → z < 7 → (tb f z ↔ S z)
theorem agF_or {f t y : Int} {S S' : Int → Prop} (h : agF f t S) (hy : 0 ≤ y ∧ y ≤ 6) (hS : ∀ z, 0 ≤ z → z < 7 → (S' z ↔ S z ∨ z = y)) : agF (ior f (p2 y)) t S' := by
  have h1 := p2_lt hy
  refine ⟨or_lt 7 (by omega) h.1 ⟨by omega, by omega⟩, fun z h2 h3 => ?_⟩
  have := h.1
  rw [tb_or (by omega) (by omega), h.2 z h2 h3, tb_p2 hy.1 h2, hS z h2 h3]
theorem agF_c {f t : Int} {S S' : Int → Prop} (h : agF f t S) (hS : ∀ z, 0 ≤ z → z < 7 → (S' z ↔ S z)) : agF f t S' := ⟨h.1, fun z h2 h3 => by rw [h.2 z h2 h3, hS z h2 h3]⟩
theorem lpR_againstI {G : vG} {X : vX} {Q : State → Prop} {w v : RW} {i : Int} {t : Int} (ht : 0 ≤ t ∧ t ≤ 6) (hn : 0 ≤ w 73 2 ∧ w 73 2 ≤ 257) (hx : ∀ i, 0 ≤ i → i < w 73 2 → okR (w 74 i)) (hh : ∀ p, 0 ≤ p → p < 384 → -1 ≤ w 5 p ∧ w 5 p < 6) (hi : 0 ≤ i ∧ i < w 73 2) (F : FX G X cR_against yR_against.cls 9 1) (hu : ∀ j, j ≠ 75 → v j = w j) (K : ∀ (f o : Int) (h : Option RV), agF f t (agS w (i + 1) t) → V G X 9 Q 140 [some (.inr 73), some (.inr 2), some (.inl t), some (.inl f), some (.inl i), some (.inl (w 74 i % 64)), some (.inl (w 74 i % 512 / 64)), some (.inl o), h] [] v) : ∀ (m : Nat) (f o : Int) (h : Option RV), 0 ≤ o → o ≤ 6 → 6 - o < m → agF f t (agI w i t o) → V G X 9 Q 86 [some (.inr 73), some (.inr 2), some (.inl t), some (.inl f), some (.inl i), some (.inl (w 74 i % 64)), some (.inl (w 74 i % 512 / 64)), some (.inl o), h] [] v := by
  obtain ⟨x1, x2, x3, x4, x5⟩ := hx i hi.1 hi.2
  intro m
  induction m with
  | zero => intro f o h h1 h2 h3; omega
  | succ m ih =>
    intro f o h h1 h2 h3 hf
    refine V_iload F dR_against_86 rfl ?_
    refine V_bipush F dR_against_88 (by decide) ?_
    refine V_icmp_ge F 140 dR_against_90 (by decide) (fun h90 => ?_) (fun h90 => ?_)
    · first | (replace h90 := bz_ne0.mp h90) | (replace h90 := bz_eq0.mp h90) | skip
      rw [show o = 6 by omega] at hf
      exact K f _ _ (agF_c hf (fun z _ _ => (agI_6 hi.1).symm))
    · first | (replace h90 := bz_ne0.mp h90) | (replace h90 := bz_eq0.mp h90) | skip
      have hpl := hh (w 74 i % 64 + 64 * o) (by omega) (by omega)
      have s2 := stt_rng 2 (w 74 i % 512 / 64)
      refine V_aload_n (i := 1) F dR_against_93 rfl rfl ?_
      refine V_getrN (ci := 0) (C := R_G) (T := T_G) (N := 5) F dR_against_94 (by first | rfl | assumption) rfl (j := 4) (by decide) rfl lfR_70 ?_
      refine V_iload F dR_against_97 rfl ?_
      refine V_iload F dR_against_99 rfl ?_
      refine V_callSi F dR_against_101 lmR_52 miS_place msS_place (ctS_place (by omega)) (by decide) rfl (Nat.le_of_ble_eq_true rfl) (fun r u hr => ?_)
      obtain ⟨rfl, rfl⟩ := hr
      refine V_iald F dR_against_104 (by first | rfl | assumption) rfl (by omega) ?_
      rw [hu 5 (by decide)]
      
      refine V_istore F dR_against_105 (by decide) (by simp only [List.set_cons_zero, List.set_cons_succ]; exact rfl) ?_
      refine V_iload F dR_against_107 rfl ?_
      refine V_iconst F dR_against_109 (by decide) ?_
      refine V_icmp_eq F 134 dR_against_110 (by decide) (fun h110 => ?_) (fun h110 => ?_)
      · first | (replace h110 := bz_ne0.mp h110) | (replace h110 := bz_eq0.mp h110) | skip
        refine V_iinc F dR_against_134 (by decide) rfl (by omega) (by simp only [List.set_cons_zero, List.set_cons_succ]; exact rfl) ?_
        refine V_goto F 86 dR_against_137 (by decide) ?_
        first
        | exact ih _ (o + 1) _ (by omega) (by omega) (by omega) (agF_or hf (by omega) (fun z _ _ => ⟨fun q => by
            rcases q with q | q | ⟨p, q1, q2, q3, q4⟩
            · exact Or.inl (Or.inl q)
            · exact Or.inl (Or.inr (Or.inl q))
            · by_cases hp : p = o
              · exact Or.inr (by rw [← q3, hp])
              · exact Or.inl (Or.inr (Or.inr ⟨p, q1, by omega, q3, q4⟩)), fun q => by
            rcases q with (q | q | ⟨p, q1, q2, q3, q4⟩) | q
            · exact Or.inl q
            · exact Or.inr (Or.inl q)
            · exact Or.inr (Or.inr ⟨p, q1, by omega, q3, q4⟩)
            · exact Or.inr (Or.inr ⟨o, by omega, by omega, q.symm, h124⟩)⟩))
        | exact ih _ (o + 1) _ (by omega) (by omega) (by omega) (agF_c hf (fun z hz _ => ⟨fun q => by
            rcases q with q | q | ⟨p, q1, q2, q3, q4⟩
            · exact Or.inl q
            · exact Or.inr (Or.inl q)
            · by_cases hp : p = o
              · subst hp
                first
                | exact absurd q4 h124
                | (exfalso; omega)
              · exact Or.inr (Or.inr ⟨p, q1, by omega, q3, q4⟩), fun q => by
            rcases q with q | q | ⟨p, q1, q2, q3, q4⟩
            · exact Or.inl q
            · exact Or.inr (Or.inl q)
            · exact Or.inr (Or.inr ⟨p, q1, by omega, q3, q4⟩)⟩))
      · first | (replace h110 := bz_ne0.mp h110) | (replace h110 := bz_eq0.mp h110) | skip
        refine V_getsN F 2 dR_against_113 (by decide) lfR_67 ?_
        refine V_iload F dR_against_116 rfl ?_
        first
          | refine V_sald F dR_against_118 (by decide) (by omega) (stt_in _ _) ?_
          | refine V_iald F dR_against_118 (by first | rfl | assumption) rfl (by omega) ?_
        refine V_iload F dR_against_119 rfl ?_
        refine V_ishr F _ dR_against_121 rfl ?_
        refine V_iconst F dR_against_122 (by decide) ?_
        refine V_iand F _ dR_against_123 (bit_1 (by omega) (by omega)) ?_
        refine V_if_eq F 134 dR_against_124 (by decide) (fun h124 => ?_) (fun h124 => ?_)
        · first | (replace h124 := bz_ne0.mp h124) | (replace h124 := bz_eq0.mp h124) | skip
          refine V_iinc F dR_against_134 (by decide) rfl (by omega) (by simp only [List.set_cons_zero, List.set_cons_succ]; exact rfl) ?_
          refine V_goto F 86 dR_against_137 (by decide) ?_
          first
          | exact ih _ (o + 1) _ (by omega) (by omega) (by omega) (agF_or hf (by omega) (fun z _ _ => ⟨fun q => by
              rcases q with q | q | ⟨p, q1, q2, q3, q4⟩
              · exact Or.inl (Or.inl q)
              · exact Or.inl (Or.inr (Or.inl q))
              · by_cases hp : p = o
                · exact Or.inr (by rw [← q3, hp])
                · exact Or.inl (Or.inr (Or.inr ⟨p, q1, by omega, q3, q4⟩)), fun q => by
              rcases q with (q | q | ⟨p, q1, q2, q3, q4⟩) | q
              · exact Or.inl q
              · exact Or.inr (Or.inl q)
              · exact Or.inr (Or.inr ⟨p, q1, by omega, q3, q4⟩)
              · exact Or.inr (Or.inr ⟨o, by omega, by omega, q.symm, h124⟩)⟩))
          | exact ih _ (o + 1) _ (by omega) (by omega) (by omega) (agF_c hf (fun z hz _ => ⟨fun q => by
              rcases q with q | q | ⟨p, q1, q2, q3, q4⟩
              · exact Or.inl q
              · exact Or.inr (Or.inl q)
              · by_cases hp : p = o
                · subst hp
                  first
                  | exact absurd q4 h124
                  | (exfalso; omega)
                · exact Or.inr (Or.inr ⟨p, q1, by omega, q3, q4⟩), fun q => by
              rcases q with q | q | ⟨p, q1, q2, q3, q4⟩
              · exact Or.inl q
              · exact Or.inr (Or.inl q)
              · exact Or.inr (Or.inr ⟨p, q1, by omega, q3, q4⟩)⟩))
        · first | (replace h124 := bz_ne0.mp h124) | (replace h124 := bz_eq0.mp h124) | skip
          refine V_iload_n (i := 3) F dR_against_127 rfl rfl ?_
          refine V_iconst F dR_against_128 (by decide) ?_
          refine V_iload F dR_against_129 rfl ?_
          refine V_ishl F _ dR_against_131 (ishl_1 (by omega)) ?_
          refine V_ior F _ dR_against_132 rfl ?_
          refine V_istore_n (i := 3) F dR_against_133 rfl (by decide) (by simp only [List.set_cons_zero, List.set_cons_succ]; exact rfl) ?_
          refine V_iinc F dR_against_134 (by decide) rfl (by omega) (by simp only [List.set_cons_zero, List.set_cons_succ]; exact rfl) ?_
          refine V_goto F 86 dR_against_137 (by decide) ?_
          first
          | exact ih _ (o + 1) _ (by omega) (by omega) (by omega) (agF_or hf (by omega) (fun z _ _ => ⟨fun q => by
              rcases q with q | q | ⟨p, q1, q2, q3, q4⟩
              · exact Or.inl (Or.inl q)
              · exact Or.inl (Or.inr (Or.inl q))
              · by_cases hp : p = o
                · exact Or.inr (by rw [← q3, hp])
                · exact Or.inl (Or.inr (Or.inr ⟨p, q1, by omega, q3, q4⟩)), fun q => by
              rcases q with (q | q | ⟨p, q1, q2, q3, q4⟩) | q
              · exact Or.inl q
              · exact Or.inr (Or.inl q)
              · exact Or.inr (Or.inr ⟨p, q1, by omega, q3, q4⟩)
              · exact Or.inr (Or.inr ⟨o, by omega, by omega, q.symm, h124⟩)⟩))
          | exact ih _ (o + 1) _ (by omega) (by omega) (by omega) (agF_c hf (fun z hz _ => ⟨fun q => by
              rcases q with q | q | ⟨p, q1, q2, q3, q4⟩
              · exact Or.inl q
              · exact Or.inr (Or.inl q)
              · by_cases hp : p = o
                · subst hp
                  first
                  | exact absurd q4 h124
                  | (exfalso; omega)
                · exact Or.inr (Or.inr ⟨p, q1, by omega, q3, q4⟩), fun q => by
              rcases q with q | q | ⟨p, q1, q2, q3, q4⟩
              · exact Or.inl q
              · exact Or.inr (Or.inl q)
              · exact Or.inr (Or.inr ⟨p, q1, by omega, q3, q4⟩)⟩))
theorem lpR_against {G : vG} {X : vX} {Q : State → Prop} {w : RW} {t : Int} (ht : 0 ≤ t ∧ t ≤ 6) (hn : 0 ≤ w 73 2 ∧ w 73 2 ≤ 257) (hx : ∀ i, 0 ≤ i → i < w 73 2 → okR (w 74 i)) (hh : ∀ p, 0 ≤ p → p < 384 → -1 ≤ w 5 p ∧ w 5 p < 6) (F : FX G X cR_against yR_against.cls 9 1) (hR : RetI G X cR_against 9 Q (fun r u => agF r t (agS w (w 73 2) t) ∧ ∀ j, j ≠ 75 → u j = w j)) : ∀ (m : Nat) (i f : Int) (v : RW) (a b c d : Option RV), 0 ≤ i → i ≤ w 73 2 → w 73 2 - i < m → (∀ j, j ≠ 75 → v j = w j) → agC w i (v 75) → agF f t (agS w i t) → V G X 9 Q 13 [some (.inr 73), some (.inr 2), some (.inl t), some (.inl f), some (.inl i), a, b, c, d] [] v := by
  intro m
  induction m with
  | zero => intro i f v a b c d h1 h2 h3; omega
  | succ m ih =>
    intro i f v a b c d h1 h2 h3 hu hc hf
    refine V_iload F dR_against_13 rfl ?_
    refine V_aload_n (i := 0) F dR_against_15 rfl rfl ?_
    refine V_geti (ci := 2) (C := R_R) (T := T_R) (N := 3) F dR_against_16 (by first | rfl | assumption) rfl (j := 2) 2 rfl (by decide) rfl lfR_18 ?_
    rw [hu 73 (by decide)]
    refine V_icmp_ge F 146 dR_against_19 (by decide) (fun h19 => ?_) (fun h19 => ?_)
    · first | (replace h19 := (not_congr (and_0 hcv.1 (by omega))).mp h19) | (replace h19 := (and_0 hcv.1 (by omega)).mp h19) | skip
      refine V_iload_n (i := 3) F dR_against_146 rfl rfl ?_
      exact hR _ _ _ _ dR_against_147 (by rw [show i = w 73 2 by omega] at hf; exact ⟨hf, hu⟩)
    · first | (replace h19 := (not_congr (and_0 hcv.1 (by omega))).mp h19) | (replace h19 := (and_0 hcv.1 (by omega)).mp h19) | skip
      have hin : 0 ≤ i ∧ i < w 73 2 := by omega
      obtain ⟨x1, x2, x3, x4, x5⟩ := hx i hin.1 hin.2
      have hcv := hc (w 74 i % 64) (by omega) (by omega)
      have s2 := stt_rng 2 (w 74 i % 512 / 64)
      have p6 := p2_lt6 (t := w 74 i % 512 / 64) (by omega)
      refine V_aload_n (i := 0) F dR_against_22 rfl rfl ?_
      refine V_getr (ci := 2) (C := R_R) (T := T_R) (N := 3) F dR_against_23 (by first | rfl | assumption) rfl (j := 0) (by decide) rfl lfR_9 ?_
      refine V_iload F dR_against_26 rfl ?_
      refine V_iald F dR_against_28 (by first | rfl | assumption) rfl (by omega) ?_
      rw [hu 74 (by decide)]
      refine V_callSi F dR_against_29 lmR_36 miS_tileOf msS_tileOf (ctS_tileOf (by omega)) (by decide) rfl (Nat.le_of_ble_eq_true rfl) (fun r u hr => ?_)
      obtain ⟨rfl, rfl⟩ := hr
      refine V_istore F dR_against_32 (by decide) (by simp only [List.set_cons_zero, List.set_cons_succ]; exact rfl) ?_
      refine V_aload_n (i := 0) F dR_against_34 rfl rfl ?_
      refine V_getr (ci := 2) (C := R_R) (T := T_R) (N := 3) F dR_against_35 (by first | rfl | assumption) rfl (j := 0) (by decide) rfl lfR_9 ?_
      refine V_iload F dR_against_38 rfl ?_
      refine V_iald F dR_against_40 (by first | rfl | assumption) rfl (by omega) ?_
      rw [hu 74 (by decide)]
      refine V_callSi F dR_against_41 lmR_64 miS_pieceOf msS_pieceOf (ctS_pieceOf (by omega)) (by decide) rfl (Nat.le_of_ble_eq_true rfl) (fun r u hr => ?_)
      obtain ⟨rfl, rfl⟩ := hr
      refine V_istore F dR_against_44 (by decide) (by simp only [List.set_cons_zero, List.set_cons_succ]; exact rfl) ?_
      refine V_aload_n (i := 0) F dR_against_46 rfl rfl ?_
      refine V_getr (ci := 2) (C := R_R) (T := T_R) (N := 3) F dR_against_47 (by first | rfl | assumption) rfl (j := 1) (by decide) rfl lfR_15 ?_
      refine V_iload F dR_against_50 rfl ?_
      first
        | refine V_sald F dR_against_52 (by decide) (by omega) (stt_in _ _) ?_
        | refine V_iald F dR_against_52 (by first | rfl | assumption) rfl (by omega) ?_
      refine V_getsN F 2 dR_against_53 (by decide) lfR_67 ?_
      refine V_iload F dR_against_56 rfl ?_
      first
        | refine V_sald F dR_against_58 (by decide) (by omega) (stt_in _ _) ?_
        | refine V_iald F dR_against_58 (by first | rfl | assumption) rfl (by omega) ?_
      refine V_iand F _ dR_against_59 rfl ?_
      refine V_if_eq F 69 dR_against_60 (by decide) (fun h60 => ?_) (fun h60 => ?_)
      · first | (replace h60 := (not_congr (and_0 hcv.1 (by omega))).mp h60) | (replace h60 := (and_0 hcv.1 (by omega)).mp h60) | skip
        refine V_aload_n (i := 0) F dR_against_69 rfl rfl ?_
        refine V_getr (ci := 2) (C := R_R) (T := T_R) (N := 3) F dR_against_70 (by first | rfl | assumption) rfl (j := 1) (by decide) rfl lfR_15 ?_
        refine V_iload F dR_against_73 rfl ?_
        refine V_dup2 F dR_against_75 ?_
        first
          | refine V_sald F dR_against_76 (by decide) (by omega) (stt_in _ _) ?_
          | refine V_iald F dR_against_76 (by first | rfl | assumption) rfl (by omega) ?_
        refine V_iconst F dR_against_77 (by decide) ?_
        refine V_iload F dR_against_78 rfl ?_
        refine V_ishl F _ dR_against_80 (ishl_1 (by omega)) ?_
        refine V_ior F _ dR_against_81 rfl ?_
        refine V_iast F dR_against_82 (by first | rfl | assumption) rfl (by omega) ?_
        refine V_iconst F dR_against_83 (by decide) ?_
        refine V_istore F dR_against_84 (by decide) (by simp only [List.set_cons_zero, List.set_cons_succ]; exact rfl) ?_
        have hu2 : ∀ j, j ≠ 75 → upw v 75 (w 74 i % 64) (ior (v 75 (w 74 i % 64)) (p2 (w 74 i % 512 / 64))) j = w j := fun j hj => by rw [upw_f hj]; exact hu j hj
        have hc2 : agC w (i + 1) (upw v 75 (w 74 i % 64) (ior (v 75 (w 74 i % 64)) (p2 (w 74 i % 512 / 64))) 75) := by
          intro c c1 c2
          by_cases hce : c = w 74 i % 64
          · subst hce
            rw [upw_s]
            refine ⟨or_lt 6 (by omega) hcv.1 ⟨by omega, by omega⟩, fun p p1 p3 => ?_⟩
            rw [tb_or (by omega) (by omega), hcv.2 p p1 p3, tb_p2 (by omega) p1]
            constructor
            · rintro (⟨j, q1, q2, q3, q4⟩ | q)
              · exact ⟨j, q1, by omega, q3, q4⟩
              · exact ⟨i, by omega, by omega, rfl, q.symm⟩
            · rintro ⟨j, q1, q2, q3, q4⟩
              by_cases hj : j = i
              · subst hj; exact Or.inr q4.symm
              · exact Or.inl ⟨j, q1, by omega, q3, q4⟩
          · rw [upw_i hce]
            refine ⟨(hc c c1 c2).1, fun p p1 p3 => ?_⟩
            rw [(hc c c1 c2).2 p p1 p3]
            constructor
            · rintro ⟨j, q1, q2, q3, q4⟩
              exact ⟨j, q1, by omega, q3, q4⟩
            · rintro ⟨j, q1, q2, q3, q4⟩
              by_cases hj : j = i
              · subst hj; exact absurd q3.symm hce
              · exact ⟨j, q1, by omega, q3, q4⟩
        refine lpR_againstI ht hn hx hh hin F hu2 (fun f2 o2 h2 hf2 => ?_) 7 _ 0 _ (by omega) (by omega) (by omega) ?_
        · refine V_iinc F dR_against_140 (by decide) rfl (by omega) (by simp only [List.set_cons_zero, List.set_cons_succ]; exact rfl) ?_
          refine V_goto F 13 dR_against_143 (by decide) ?_
          exact ih (i + 1) _ _ _ _ _ _ (by omega) (by omega) (by omega) hu2 hc2 hf2
        · first
          | exact agF_or hf (by omega) (fun z _ _ => ⟨fun q => by
              rcases q with q | ⟨q1, q2⟩ | ⟨p, q1, q2, q3, q4⟩
              · exact Or.inl q
              · exact Or.inr q1
              · omega, fun q => by
              rcases q with q | q
              · exact Or.inl q
              · refine Or.inr (Or.inl ⟨q, ?_⟩)
                apply Classical.byContradiction
                intro hno
                refine h60 (fun p p1 p3 hpp => hno ?_)
                obtain ⟨j, j1, j2, j3, j4⟩ := (hcv.2 p p1 p3).mp hpp.1
                exact ⟨j, j1, j2, j3.symm, by rw [j4]; exact hpp.2⟩⟩)
          | exact agF_c hf (fun z _ _ => ⟨fun q => by
              rcases q with q | ⟨q1, j, j1, j2, j3, j4⟩ | ⟨p, q1, q2, q3, q4⟩
              · exact q
              · obtain ⟨y1, y2, y3, y4, y5⟩ := hx j j1 (by omega)
                exact absurd ⟨(hcv.2 _ (by omega) y3).mpr ⟨j, j1, j2, j3.symm, rfl⟩, j4⟩ (h60 (w 74 j % 512 / 64) (by omega) y3)
              · omega, fun q => Or.inl q⟩)
      · first | (replace h60 := (not_congr (and_0 hcv.1 (by omega))).mp h60) | (replace h60 := (and_0 hcv.1 (by omega)).mp h60) | skip
        refine V_iload_n (i := 3) F dR_against_63 rfl rfl ?_
        refine V_iconst F dR_against_64 (by decide) ?_
        refine V_iload_n (i := 2) F dR_against_65 rfl rfl ?_
        refine V_ishl F _ dR_against_66 (ishl_1 (by omega)) ?_
        refine V_ior F _ dR_against_67 rfl ?_
        refine V_istore_n (i := 3) F dR_against_68 rfl (by decide) (by simp only [List.set_cons_zero, List.set_cons_succ]; exact rfl) ?_
        refine V_aload_n (i := 0) F dR_against_69 rfl rfl ?_
        refine V_getr (ci := 2) (C := R_R) (T := T_R) (N := 3) F dR_against_70 (by first | rfl | assumption) rfl (j := 1) (by decide) rfl lfR_15 ?_
        refine V_iload F dR_against_73 rfl ?_
        refine V_dup2 F dR_against_75 ?_
        first
          | refine V_sald F dR_against_76 (by decide) (by omega) (stt_in _ _) ?_
          | refine V_iald F dR_against_76 (by first | rfl | assumption) rfl (by omega) ?_
        refine V_iconst F dR_against_77 (by decide) ?_
        refine V_iload F dR_against_78 rfl ?_
        refine V_ishl F _ dR_against_80 (ishl_1 (by omega)) ?_
        refine V_ior F _ dR_against_81 rfl ?_
        refine V_iast F dR_against_82 (by first | rfl | assumption) rfl (by omega) ?_
        refine V_iconst F dR_against_83 (by decide) ?_
        refine V_istore F dR_against_84 (by decide) (by simp only [List.set_cons_zero, List.set_cons_succ]; exact rfl) ?_
        have hu2 : ∀ j, j ≠ 75 → upw v 75 (w 74 i % 64) (ior (v 75 (w 74 i % 64)) (p2 (w 74 i % 512 / 64))) j = w j := fun j hj => by rw [upw_f hj]; exact hu j hj
        have hc2 : agC w (i + 1) (upw v 75 (w 74 i % 64) (ior (v 75 (w 74 i % 64)) (p2 (w 74 i % 512 / 64))) 75) := by
          intro c c1 c2
          by_cases hce : c = w 74 i % 64
          · subst hce
            rw [upw_s]
            refine ⟨or_lt 6 (by omega) hcv.1 ⟨by omega, by omega⟩, fun p p1 p3 => ?_⟩
            rw [tb_or (by omega) (by omega), hcv.2 p p1 p3, tb_p2 (by omega) p1]
            constructor
            · rintro (⟨j, q1, q2, q3, q4⟩ | q)
              · exact ⟨j, q1, by omega, q3, q4⟩
              · exact ⟨i, by omega, by omega, rfl, q.symm⟩
            · rintro ⟨j, q1, q2, q3, q4⟩
              by_cases hj : j = i
              · subst hj; exact Or.inr q4.symm
              · exact Or.inl ⟨j, q1, by omega, q3, q4⟩
          · rw [upw_i hce]
            refine ⟨(hc c c1 c2).1, fun p p1 p3 => ?_⟩
            rw [(hc c c1 c2).2 p p1 p3]
            constructor
            · rintro ⟨j, q1, q2, q3, q4⟩
              exact ⟨j, q1, by omega, q3, q4⟩
            · rintro ⟨j, q1, q2, q3, q4⟩
              by_cases hj : j = i
              · subst hj; exact absurd q3.symm hce
              · exact ⟨j, q1, by omega, q3, q4⟩
        refine lpR_againstI ht hn hx hh hin F hu2 (fun f2 o2 h2 hf2 => ?_) 7 _ 0 _ (by omega) (by omega) (by omega) ?_
        · refine V_iinc F dR_against_140 (by decide) rfl (by omega) (by simp only [List.set_cons_zero, List.set_cons_succ]; exact rfl) ?_
          refine V_goto F 13 dR_against_143 (by decide) ?_
          exact ih (i + 1) _ _ _ _ _ _ (by omega) (by omega) (by omega) hu2 hc2 hf2
        · first
          | exact agF_or hf (by omega) (fun z _ _ => ⟨fun q => by
              rcases q with q | ⟨q1, q2⟩ | ⟨p, q1, q2, q3, q4⟩
              · exact Or.inl q
              · exact Or.inr q1
              · omega, fun q => by
              rcases q with q | q
              · exact Or.inl q
              · refine Or.inr (Or.inl ⟨q, ?_⟩)
                apply Classical.byContradiction
                intro hno
                refine h60 (fun p p1 p3 hpp => hno ?_)
                obtain ⟨j, j1, j2, j3, j4⟩ := (hcv.2 p p1 p3).mp hpp.1
                exact ⟨j, j1, j2, j3.symm, by rw [j4]; exact hpp.2⟩⟩)
          | exact agF_c hf (fun z _ _ => ⟨fun q => by
              rcases q with q | ⟨q1, j, j1, j2, j3, j4⟩ | ⟨p, q1, q2, q3, q4⟩
              · exact q
              · obtain ⟨y1, y2, y3, y4, y5⟩ := hx j j1 (by omega)
                exact absurd ⟨(hcv.2 _ (by omega) y3).mpr ⟨j, j1, j2, j3.symm, rfl⟩, j4⟩ (h60 (w 74 j % 512 / 64) (by omega) y3)
              · omega, fun q => Or.inl q⟩)
theorem ctR_against {G : vG} {l : Launch} {w : RW} {t : Int} (ht : 0 ≤ t ∧ t ≤ 6) (hn : 0 ≤ w 73 2 ∧ w 73 2 ≤ 257) (hx : ∀ i, 0 ≤ i → i < w 73 2 → okR (w 74 i)) (hh : ∀ p, 0 ≤ p → p < 384 → -1 ≤ w 5 p ∧ w 5 p < 6) : CTi G l yR_against cR_against 9 .int 1 [.inr 73, .inr 2, .inl t] w (fun r u => agF r t (agS w (w 73 2) t) ∧ ∀ j, j ≠ 75 → u j = w j) := by
  refine CTi.int (by decide) (Nat.le_of_ble_eq_true rfl) ?_
  intro X Q F hX hR
  subst hX
  show V G X 9 Q 0 [some (.inr 73), some (.inr 2), some (.inl t), none, none, none, none, none, none] [] w
  refine V_iconst F dR_against_0 (by decide) ?_
  refine V_istore_n (i := 3) F dR_against_1 rfl (by decide) (by simp only [List.set_cons_zero, List.set_cons_succ]; exact rfl) ?_
  refine V_aload_n (i := 0) F dR_against_2 rfl rfl ?_
  refine V_getr (ci := 2) (C := R_R) (T := T_R) (N := 3) F dR_against_3 (by first | rfl | assumption) rfl (j := 1) (by decide) rfl lfR_15 ?_
  refine V_iconst F dR_against_6 (by decide) ?_
  refine V_callSv F dR_against_7 lmR_58 miA_fill msA_fill (ctA_fill (k := 75) (n := 64) rfl (by decide)) (by decide) rfl (Nat.le_of_ble_eq_true rfl) (fun u hr => ?_)
  subst hr
  refine V_iconst F dR_against_10 (by decide) ?_
  refine V_istore F dR_against_11 (by decide) (by simp only [List.set_cons_zero, List.set_cons_succ]; exact rfl) ?_
  exact lpR_against ht hn hx hh F hR ((w 73 2).toNat + 1) 0 0 _ _ _ _ _ (by omega) (by omega) (by omega) (fun j hj => by funext q; simp [flw, hj]) (fun c c1 c2 => by
    have e : flw w 75 (64 : Nat) 0 75 c = 0 := by unfold flw; rw [if_pos ⟨rfl, by omega, by omega⟩]
    rw [e]
    exact ⟨by omega, fun p p1 p3 => ⟨fun q => absurd q (tb_0 p), fun ⟨j, q1, q2, _⟩ => by omega⟩⟩) ⟨by omega, fun z _ _ => ⟨fun q => absurd q (tb_0 z), fun q => by
    rcases q with ⟨_, i, j, q1, q2, q3, _⟩ | ⟨i, o, q1, q2, _⟩ <;> omega⟩⟩
end
section
theorem dR_layBody_0 : decode cR_layBody 0 = .ok (.aload_n 0, 1) := by decide +kernel
theorem dR_layBody_1 : decode cR_layBody 1 = .ok (.iconst 0, 1) := by decide +kernel
theorem dR_layBody_2 : decode cR_layBody 2 = .ok (.putfield 18, 3) := by decide +kernel
theorem dR_layBody_5 : decode cR_layBody 5 = .ok (.iload_n 2, 1) := by decide +kernel
theorem dR_layBody_6 : decode cR_layBody 6 = .ok (.istore 4, 2) := by decide +kernel
theorem dR_layBody_8 : decode cR_layBody 8 = .ok (.iconst 0, 1) := by decide +kernel
theorem dR_layBody_9 : decode cR_layBody 9 = .ok (.istore 5, 2) := by decide +kernel
theorem dR_layBody_11 : decode cR_layBody 11 = .ok (.iload 5, 2) := by decide +kernel
theorem dR_layBody_13 : decode cR_layBody 13 = .ok (.iload_n 3, 1) := by decide +kernel
theorem dR_layBody_14 : decode cR_layBody 14 = .ok (.if_icmp .ge 29, 3) := by decide +kernel
theorem dR_layBody_17 : decode cR_layBody 17 = .ok (.iload 4, 2) := by decide +kernel
theorem dR_layBody_19 : decode cR_layBody 19 = .ok (.iconst (-1), 1) := by decide +kernel
theorem dR_layBody_20 : decode cR_layBody 20 = .ok (.if_icmp .eq 23, 3) := by decide +kernel
theorem dR_layBody_23 : decode cR_layBody 23 = .ok (.aload_n 0, 1) := by decide +kernel
theorem dR_layBody_24 : decode cR_layBody 24 = .ok (.iload 4, 2) := by decide +kernel
theorem dR_layBody_26 : decode cR_layBody 26 = .ok (.invokevirtual 22, 3) := by decide +kernel
theorem dR_layBody_29 : decode cR_layBody 29 = .ok (.aload_n 1, 1) := by decide +kernel
theorem dR_layBody_30 : decode cR_layBody 30 = .ok (.iload 4, 2) := by decide +kernel
theorem dR_layBody_32 : decode cR_layBody 32 = .ok (.invokestatic 26, 3) := by decide +kernel
theorem dR_layBody_35 : decode cR_layBody 35 = .ok (.istore 4, 2) := by decide +kernel
theorem dR_layBody_37 : decode cR_layBody 37 = .ok (.iinc 5 1, 3) := by decide +kernel
theorem dR_layBody_40 : decode cR_layBody 40 = .ok (.goto (-29), 3) := by decide +kernel
theorem dR_layBody_43 : decode cR_layBody 43 = .ok (.return_, 1) := by decide +kernel
theorem dR_hold_0 : decode cR_hold 0 = .ok (.iconst 0, 1) := by decide +kernel
theorem dR_hold_1 : decode cR_hold 1 = .ok (.istore_n 3, 1) := by decide +kernel
theorem dR_hold_2 : decode cR_hold 2 = .ok (.iload_n 3, 1) := by decide +kernel
theorem dR_hold_3 : decode cR_hold 3 = .ok (.aload_n 0, 1) := by decide +kernel
theorem dR_hold_4 : decode cR_hold 4 = .ok (.getfield 18, 3) := by decide +kernel
theorem dR_hold_7 : decode cR_hold 7 = .ok (.if_icmp .ge 24, 3) := by decide +kernel
theorem dR_hold_10 : decode cR_hold 10 = .ok (.aload_n 1, 1) := by decide +kernel
theorem dR_hold_11 : decode cR_hold 11 = .ok (.getfield 70, 3) := by decide +kernel
theorem dR_hold_14 : decode cR_hold 14 = .ok (.aload_n 0, 1) := by decide +kernel
theorem dR_hold_15 : decode cR_hold 15 = .ok (.getfield 9, 3) := by decide +kernel
theorem dR_hold_18 : decode cR_hold 18 = .ok (.iload_n 3, 1) := by decide +kernel
theorem dR_hold_19 : decode cR_hold 19 = .ok (.iaload, 1) := by decide +kernel
theorem dR_hold_20 : decode cR_hold 20 = .ok (.invokestatic 73, 3) := by decide +kernel
theorem dR_hold_23 : decode cR_hold 23 = .ok (.iload_n 2, 1) := by decide +kernel
theorem dR_hold_24 : decode cR_hold 24 = .ok (.iastore, 1) := by decide +kernel
theorem dR_hold_25 : decode cR_hold 25 = .ok (.iinc 3 1, 3) := by decide +kernel
theorem dR_hold_28 : decode cR_hold 28 = .ok (.goto (-26), 3) := by decide +kernel
theorem dR_hold_31 : decode cR_hold 31 = .ok (.return_, 1) := by decide +kernel
theorem dN_stand_0 : decode cN_stand 0 = .ok (.aload_n 0, 1) := by decide +kernel
theorem dN_stand_1 : decode cN_stand 1 = .ok (.aload_n 1, 1) := by decide +kernel
theorem dN_stand_2 : decode cN_stand 2 = .ok (.getfield 18, 3) := by decide +kernel
theorem dN_stand_5 : decode cN_stand 5 = .ok (.putfield 24, 3) := by decide +kernel
theorem dN_stand_8 : decode cN_stand 8 = .ok (.aload_n 0, 1) := by decide +kernel
theorem dN_stand_9 : decode cN_stand 9 = .ok (.aload_n 0, 1) := by decide +kernel
theorem dN_stand_10 : decode cN_stand 10 = .ok (.getfield 24, 3) := by decide +kernel
theorem dN_stand_13 : decode cN_stand 13 = .ok (.putfield 27, 3) := by decide +kernel
theorem dN_stand_16 : decode cN_stand 16 = .ok (.iconst 0, 1) := by decide +kernel
theorem dN_stand_17 : decode cN_stand 17 = .ok (.istore_n 2, 1) := by decide +kernel
theorem dN_stand_18 : decode cN_stand 18 = .ok (.iload_n 2, 1) := by decide +kernel
theorem dN_stand_19 : decode cN_stand 19 = .ok (.aload_n 0, 1) := by decide +kernel
theorem dN_stand_20 : decode cN_stand 20 = .ok (.getfield 24, 3) := by decide +kernel
theorem dN_stand_23 : decode cN_stand 23 = .ok (.if_icmp .ge 28, 3) := by decide +kernel
theorem dN_stand_26 : decode cN_stand 26 = .ok (.aload_n 0, 1) := by decide +kernel
theorem dN_stand_27 : decode cN_stand 27 = .ok (.getfield 9, 3) := by decide +kernel
theorem dN_stand_30 : decode cN_stand 30 = .ok (.iload_n 2, 1) := by decide +kernel
theorem dN_stand_31 : decode cN_stand 31 = .ok (.aload_n 1, 1) := by decide +kernel
theorem dN_stand_32 : decode cN_stand 32 = .ok (.getfield 28, 3) := by decide +kernel
theorem dN_stand_35 : decode cN_stand 35 = .ok (.aload_n 0, 1) := by decide +kernel
theorem dN_stand_36 : decode cN_stand 36 = .ok (.getfield 24, 3) := by decide +kernel
theorem dN_stand_39 : decode cN_stand 39 = .ok (.iconst 1, 1) := by decide +kernel
theorem dN_stand_40 : decode cN_stand 40 = .ok (.isub, 1) := by decide +kernel
theorem dN_stand_41 : decode cN_stand 41 = .ok (.iload_n 2, 1) := by decide +kernel
theorem dN_stand_42 : decode cN_stand 42 = .ok (.isub, 1) := by decide +kernel
theorem dN_stand_43 : decode cN_stand 43 = .ok (.iaload, 1) := by decide +kernel
theorem dN_stand_44 : decode cN_stand 44 = .ok (.iastore, 1) := by decide +kernel
theorem dN_stand_45 : decode cN_stand 45 = .ok (.iinc 2 1, 3) := by decide +kernel
theorem dN_stand_48 : decode cN_stand 48 = .ok (.goto (-30), 3) := by decide +kernel
theorem dN_stand_51 : decode cN_stand 51 = .ok (.aload_n 0, 1) := by decide +kernel
theorem dN_stand_52 : decode cN_stand 52 = .ok (.iconst 0, 1) := by decide +kernel
theorem dN_stand_53 : decode cN_stand 53 = .ok (.putfield 29, 3) := by decide +kernel
theorem dN_stand_56 : decode cN_stand 56 = .ok (.aload_n 0, 1) := by decide +kernel
theorem dN_stand_57 : decode cN_stand 57 = .ok (.iconst 0, 1) := by decide +kernel
theorem dN_stand_58 : decode cN_stand 58 = .ok (.putfield 32, 3) := by decide +kernel
theorem dN_stand_61 : decode cN_stand 61 = .ok (.aload_n 0, 1) := by decide +kernel
theorem dN_stand_62 : decode cN_stand 62 = .ok (.iconst 0, 1) := by decide +kernel
theorem dN_stand_63 : decode cN_stand 63 = .ok (.putfield 35, 3) := by decide +kernel
theorem dN_stand_66 : decode cN_stand 66 = .ok (.aload_n 0, 1) := by decide +kernel
theorem dN_stand_67 : decode cN_stand 67 = .ok (.iconst 0, 1) := by decide +kernel
theorem dN_stand_68 : decode cN_stand 68 = .ok (.putfield 38, 3) := by decide +kernel
theorem dN_stand_71 : decode cN_stand 71 = .ok (.aload_n 0, 1) := by decide +kernel
theorem dN_stand_72 : decode cN_stand 72 = .ok (.iconst 0, 1) := by decide +kernel
theorem dN_stand_73 : decode cN_stand 73 = .ok (.putfield 41, 3) := by decide +kernel
theorem dN_stand_76 : decode cN_stand 76 = .ok (.aload_n 0, 1) := by decide +kernel
theorem dN_stand_77 : decode cN_stand 77 = .ok (.iconst 0, 1) := by decide +kernel
theorem dN_stand_78 : decode cN_stand 78 = .ok (.putfield 44, 3) := by decide +kernel
theorem dN_stand_81 : decode cN_stand 81 = .ok (.return_, 1) := by decide +kernel
theorem dN_reserve_0 : decode cN_reserve 0 = .ok (.iconst 0, 1) := by decide +kernel
theorem dN_reserve_1 : decode cN_reserve 1 = .ok (.istore_n 2, 1) := by decide +kernel
theorem dN_reserve_2 : decode cN_reserve 2 = .ok (.iload_n 2, 1) := by decide +kernel
theorem dN_reserve_3 : decode cN_reserve 3 = .ok (.aload_n 1, 1) := by decide +kernel
theorem dN_reserve_4 : decode cN_reserve 4 = .ok (.getfield 18, 3) := by decide +kernel
theorem dN_reserve_7 : decode cN_reserve 7 = .ok (.if_icmp .ge 43, 3) := by decide +kernel
theorem dN_reserve_10 : decode cN_reserve 10 = .ok (.aload_n 0, 1) := by decide +kernel
theorem dN_reserve_11 : decode cN_reserve 11 = .ok (.getfield 27, 3) := by decide +kernel
theorem dN_reserve_14 : decode cN_reserve 14 = .ok (.bipush 96, 2) := by decide +kernel
theorem dN_reserve_16 : decode cN_reserve 16 = .ok (.if_icmp .ge 34, 3) := by decide +kernel
theorem dN_reserve_19 : decode cN_reserve 19 = .ok (.aload_n 0, 1) := by decide +kernel
theorem dN_reserve_20 : decode cN_reserve 20 = .ok (.getfield 9, 3) := by decide +kernel
theorem dN_reserve_23 : decode cN_reserve 23 = .ok (.aload_n 0, 1) := by decide +kernel
theorem dN_reserve_24 : decode cN_reserve 24 = .ok (.getfield 27, 3) := by decide +kernel
theorem dN_reserve_27 : decode cN_reserve 27 = .ok (.aload_n 1, 1) := by decide +kernel
theorem dN_reserve_28 : decode cN_reserve 28 = .ok (.getfield 28, 3) := by decide +kernel
theorem dN_reserve_31 : decode cN_reserve 31 = .ok (.iload_n 2, 1) := by decide +kernel
theorem dN_reserve_32 : decode cN_reserve 32 = .ok (.iaload, 1) := by decide +kernel
theorem dN_reserve_33 : decode cN_reserve 33 = .ok (.iastore, 1) := by decide +kernel
theorem dN_reserve_34 : decode cN_reserve 34 = .ok (.aload_n 0, 1) := by decide +kernel
theorem dN_reserve_35 : decode cN_reserve 35 = .ok (.dup, 1) := by decide +kernel
theorem dN_reserve_36 : decode cN_reserve 36 = .ok (.getfield 27, 3) := by decide +kernel
theorem dN_reserve_39 : decode cN_reserve 39 = .ok (.iconst 1, 1) := by decide +kernel
theorem dN_reserve_40 : decode cN_reserve 40 = .ok (.iadd, 1) := by decide +kernel
theorem dN_reserve_41 : decode cN_reserve 41 = .ok (.putfield 27, 3) := by decide +kernel
theorem dN_reserve_44 : decode cN_reserve 44 = .ok (.iinc 2 1, 3) := by decide +kernel
theorem dN_reserve_47 : decode cN_reserve 47 = .ok (.goto (-45), 3) := by decide +kernel
theorem dN_reserve_50 : decode cN_reserve 50 = .ok (.return_, 1) := by decide +kernel
theorem lmR_22 : Cond.methodLink R_R 22 yR_add ∈ bigW := bw 347 (by decide +kernel) rfl
theorem lmR_26 : Cond.methodLink R_R 26 yR_firstBefore ∈ bigW := bw 351 (by decide +kernel) rfl
theorem lmR_73 : Cond.methodLink R_R 73 yS_placeOf ∈ bigW := bw 397 (by decide +kernel) rfl
theorem lfN_32 : Cond.fieldLink R_N 32 "RailYard$Train" "loading" "I" ∈ bigW := bw 182 (by decide +kernel) rfl
theorem lfN_35 : Cond.fieldLink R_N 35 "RailYard$Train" "cargo" "I" ∈ bigW := bw 184 (by decide +kernel) rfl
theorem lfN_28 : Cond.fieldLinkNest R_N 28 "RailYard$Stretch" "runs" "[I" hostN ∈ nestW := nw 94 (by decide +kernel) rfl
theorem lfN_18 : Cond.fieldLinkNest R_N 18 "RailYard$Stretch" "count" "I" hostN ∈ nestW := nw 97 (by decide +kernel) rfl
theorem miR_add : MI yR_add cR_add 2 none 1 := ⟨bw 350 (by decide +kernel) rfl, bw 41 (by decide +kernel) rfl, ⟨by decide +kernel, by decide +kernel⟩, by decide +kernel, by decide⟩
theorem mvR_add : MV yR_add := ⟨bw 348 (by decide +kernel) rfl, bw 349 (by decide +kernel) rfl⟩
theorem miR_firstBefore : MI yR_firstBefore cR_firstBefore 6 (some .int) 2 := ⟨bw 353 (by decide +kernel) rfl, bw 41 (by decide +kernel) rfl, ⟨by decide +kernel, by decide +kernel⟩, by decide +kernel, by decide⟩
theorem msR_firstBefore : Cond.static yR_firstBefore ∈ bigW := bw 352 (by decide +kernel) rfl
theorem acr_c {w u : RW} (h : u 2 = w 2) (t e : Int) : acr (u 2 0) (u 2 1) t e = acr (w 2 0) (w 2 1) t e := by rw [h]
theorem fbf_c {w u : RW} (h2 : u 2 = w 2) (h3 : u 3 = w 3) (x : Int) : fbf u x = fbf w x := by
  unfold fbf fbP fbT
  rw [h2, h3]
theorem fbf_ok {w : RW} {x : Int} (hb : w 2 0 ≤ 8 ∧ w 2 1 ≤ 6) : fbf w x = -1 ∨ okR (fbf w x) := by
  have hT : fbT w x = -1 ∨ (0 ≤ fbT w x ∧ fbT w x < 48) := acr_rng (by omega) (by omega)
  have hE : 0 ≤ fbE x ∧ fbE x < 4 := by unfold fbE; omega
  unfold fbf
  by_cases h : fbT w x = -1 ∨ fst6 (fbP w x) = -1
  · rw [cif_t h]; exact Or.inl rfl
  · rw [cif_f h]
    right
    rcases fst6_or (fbP w x) with h6 | ⟨h6, h7, h8, -⟩
    · exact absurd (Or.inr h6.1) h
    · have e1 : (fbT w x + 64 * fst6 (fbP w x) + 512 * fbE x) % 64 = fbT w x := by omega
      have e2 : (fbT w x + 64 * fst6 (fbP w x) + 512 * fbE x) % 512 / 64 = fst6 (fbP w x) := by omega
      have e3 : (fbT w x + 64 * fst6 (fbP w x) + 512 * fbE x) / 512 = fbE x := by omega
      refine ⟨by omega, by omega, by omega, by omega, ?_⟩
      rw [e2, e3]
      exact h8.2
/-- the chain of first runs before x -/
noncomputable def cbf (w : RW) (x : Int) : Nat → Int
  | 0 => x
  | n + 1 => fbf w (cbf w x n)
theorem cbf_c {w u : RW} (h2 : u 2 = w 2) (h3 : u 3 = w 3) (x : Int) : ∀ n, cbf u x n = cbf w x n
  | 0 => rfl
  | n + 1 => by
    show fbf u (cbf u x n) = fbf w (cbf w x n)
    rw [cbf_c h2 h3 x n, fbf_c h2 h3]
def lbI (w u : RW) (x i : Int) : Prop := (∀ j, j ≠ 73 → j ≠ 74 → u j = w j) ∧ u 73 2 = i ∧ (∀ j, 0 ≤ j → j < i → u 74 j = cbf w x j.toNat ∧ okR (cbf w x j.toNat))
theorem lpR_layBody {G : vG} {X : vX} {Q : State → Prop} {w : RW} {x n : Int} (hx : okR x) (hn : 0 ≤ n ∧ n ≤ 5) (hb : w 2 0 ≤ 8 ∧ w 2 1 ≤ 6) (hw : ∀ t, 0 ≤ t → t < 48 → 0 ≤ w 3 t) (F : FX G X cR_layBody yR_layBody.cls 6 3) (hR : RetV G X cR_layBody 6 Q (fun u => ∃ c, (0 ≤ c ∧ c ≤ n) ∧ lbI w u x c ∧ (c = n ∨ cbf w x c.toNat = -1))) : ∀ (m : Nat) (i y : Int) (u0 : RW), 0 ≤ i → i ≤ n → n - i < m → lbI w u0 x i → y = cbf w x i.toNat → (y = -1 ∨ okR y) → V G X 6 Q 11 [some (.inr 73), some (.inr 2), some (.inl x), some (.inl n), some (.inl y), some (.inl i)] [] u0 := by
  intro m
  induction m with
  | zero => intro i y u0 h1 h2 h3; omega
  | succ m ih =>
    intro i y u0 h1 h2 h3 hI hyi hy
    refine V_iload F dR_layBody_11 rfl ?_
    refine V_iload_n (i := 3) F dR_layBody_13 rfl rfl ?_
    refine V_icmp_ge F 43 dR_layBody_14 (by decide) (fun h14 => ?_) (fun h14 => ?_)
    · exact hR _ _ _ dR_layBody_43 (by first | exact ⟨i, by omega, hI, Or.inl (by omega)⟩ | exact ⟨i, by omega, hI, Or.inr (by rw [← hyi]; exact h20)⟩)
    · refine V_iload F dR_layBody_17 rfl ?_
      refine V_iconst F dR_layBody_19 (by decide) ?_
      refine V_icmp_eq F 43 dR_layBody_20 (by decide) (fun h20 => ?_) (fun h20 => ?_)
      · exact hR _ _ _ dR_layBody_43 (by first | exact ⟨i, by omega, hI, Or.inl (by omega)⟩ | exact ⟨i, by omega, hI, Or.inr (by rw [← hyi]; exact h20)⟩)
      · have hok : okR y := by rcases hy with h | h
                               · exact absurd h h20
                               · exact h
        have e2 : upw (upw u0 74 (u0 73 2) y) 73 2 (u0 73 2 + 1) 2 = w 2 := by rw [upw_f (by decide), upw_f (by decide)]; exact hI.1 2 (by decide) (by decide)
        have e3 : upw (upw u0 74 (u0 73 2) y) 73 2 (u0 73 2 + 1) 3 = w 3 := by rw [upw_f (by decide), upw_f (by decide)]; exact hI.1 3 (by decide) (by decide)
        have hc := hI.2.1
        refine V_aload_n (i := 0) F dR_layBody_23 rfl rfl ?_
        refine V_iload F dR_layBody_24 rfl ?_
        refine V_callVv F dR_layBody_26 lmR_22 miR_add mvR_add (ctR_add (by omega)) (by decide) (by first | rfl | assumption) rfl rfl (Nat.le_of_ble_eq_true rfl) (fun u hr => ?_)
        subst hr
        refine V_aload_n (i := 1) F dR_layBody_29 rfl rfl ?_
        refine V_iload F dR_layBody_30 rfl ?_
        refine V_callSi F dR_layBody_32 lmR_26 miR_firstBefore msR_firstBefore (ctR_firstBefore (w := upw (upw u0 74 (u0 73 2) y) 73 2 (u0 73 2 + 1)) hok (by rw [e2]; exact hb) (fun t t1 t2 => by rw [e3]; exact hw t t1 t2)) (by decide) rfl (Nat.le_of_ble_eq_true rfl) (fun r u hr => ?_)
        obtain ⟨rfl, rfl⟩ := hr
        refine V_istore F dR_layBody_35 (by decide) (by simp only [List.set_cons_zero, List.set_cons_succ]; exact rfl) ?_
        refine V_iinc F dR_layBody_37 (by decide) rfl (by omega) (by simp only [List.set_cons_zero, List.set_cons_succ]; exact rfl) ?_
        refine V_goto F 11 dR_layBody_40 (by decide) ?_
        rw [fbf_c e2 e3]
        refine ih (i + 1) _ _ (by omega) (by omega) (by omega) ⟨fun j j1 j2 => ?_, ?_, fun j j1 j2 => ?_⟩ ?_ ?_
        · rw [upw_f j1, upw_f j2]; exact hI.1 j j1 j2
        · rw [upw_s, hc]
        · rw [upw_k (by decide)]
          by_cases hj : j = i
          · rw [hc, hj, upw_s, ← hyi]
            exact ⟨rfl, hok⟩
          · rw [hc, upw_i hj]
            exact hI.2.2 j j1 (by omega)
        · rw [show (i + 1).toNat = i.toNat + 1 by omega, hyi]
          rfl
        · exact fbf_ok hb
theorem ctR_layBody {G : vG} {l : Launch} {w : RW} {x n : Int} (hx : okR x) (hn : 0 ≤ n ∧ n ≤ 5) (hb : w 2 0 ≤ 8 ∧ w 2 1 ≤ 6) (hw : ∀ t, 0 ≤ t → t < 48 → 0 ≤ w 3 t) : CTv G l yR_layBody cR_layBody 6 3 [.inr 73, .inr 2, .inl x, .inl n] w (fun u => ∃ c, (0 ≤ c ∧ c ≤ n) ∧ lbI w u x c ∧ (c = n ∨ cbf w x c.toNat = -1)) := by
  refine CTv.intro (by decide) (Nat.le_of_ble_eq_true rfl) ?_
  intro X Q F hX hR
  subst hX
  show V G X 6 Q 0 [some (.inr 73), some (.inr 2), some (.inl x), some (.inl n), none, none] [] w
  refine V_aload_n (i := 0) F dR_layBody_0 rfl rfl ?_
  refine V_iconst F dR_layBody_1 (by decide) ?_
  refine V_puti (ci := 2) (C := R_R) (T := T_R) (N := 3) F dR_layBody_2 (by first | rfl | assumption) rfl (j := 2) 2 rfl (by decide) rfl rfl rfl lfR_18 ?_
  refine V_iload_n (i := 2) F dR_layBody_5 rfl rfl ?_
  refine V_istore F dR_layBody_6 (by decide) (by simp only [List.set_cons_zero, List.set_cons_succ]; exact rfl) ?_
  refine V_iconst F dR_layBody_8 (by decide) ?_
  refine V_istore F dR_layBody_9 (by decide) (by simp only [List.set_cons_zero, List.set_cons_succ]; exact rfl) ?_
  exact lpR_layBody hx hn hb hw F hR (n.toNat + 1) 0 x _ (by omega) (by omega) (by omega) ⟨fun j j1 j2 => upw_f j1, upw_s _ _ _ _, fun j j1 j2 => by omega⟩ rfl (Or.inr hx)
def hoI (w u : RW) (t n : Int) : Prop := (∀ j, j ≠ 5 → u j = w j) ∧ (∀ i, 0 ≤ i → i < n → u 5 (w 74 i % 512) = t) ∧ ∀ p, (∀ i, 0 ≤ i → i < n → ¬ w 74 i % 512 = p) → u 5 p = w 5 p
theorem lpR_hold {G : vG} {X : vX} {Q : State → Prop} {w : RW} {t : Int} (hn : 0 ≤ w 73 2 ∧ w 73 2 ≤ 257) (hx : ∀ i, 0 ≤ i → i < w 73 2 → okR (w 74 i)) (F : FX G X cR_hold yR_hold.cls 4 1) (hR : RetV G X cR_hold 4 Q (fun u => hoI w u t (w 73 2))) : ∀ (m : Nat) (i : Int) (u0 : RW), 0 ≤ i → i ≤ w 73 2 → w 73 2 - i < m → hoI w u0 t i → V G X 4 Q 2 [some (.inr 73), some (.inr 2), some (.inl t), some (.inl i)] [] u0 := by
  intro m
  induction m with
  | zero => intro i u0 h1 h2 h3; omega
  | succ m ih =>
    intro i u0 h1 h2 h3 hI
    refine V_iload_n (i := 3) F dR_hold_2 rfl rfl ?_
    refine V_aload_n (i := 0) F dR_hold_3 rfl rfl ?_
    refine V_geti (ci := 2) (C := R_R) (T := T_R) (N := 3) F dR_hold_4 (by first | rfl | assumption) rfl (j := 2) 2 rfl (by decide) rfl lfR_18 ?_
    rw [hI.1 73 (by decide)]
    refine V_icmp_ge F 31 dR_hold_7 (by decide) (fun h7 => ?_) (fun h7 => ?_)
    · exact hR _ _ _ dR_hold_31 (by rw [show i = w 73 2 by omega] at hI; exact hI)
    · obtain ⟨x1, x2, x3, x4, x5⟩ := hx i h1 (by omega)
      refine V_aload_n (i := 1) F dR_hold_10 rfl rfl ?_
      refine V_getrN (ci := 0) (C := R_G) (T := T_G) (N := 5) F dR_hold_11 (by first | rfl | assumption) rfl (j := 4) (by decide) rfl lfR_70 ?_
      refine V_aload_n (i := 0) F dR_hold_14 rfl rfl ?_
      refine V_getr (ci := 2) (C := R_R) (T := T_R) (N := 3) F dR_hold_15 (by first | rfl | assumption) rfl (j := 0) (by decide) rfl lfR_9 ?_
      refine V_iload_n (i := 3) F dR_hold_18 rfl rfl ?_
      refine V_iald F dR_hold_19 (by first | rfl | assumption) rfl (by omega) ?_
      rw [hI.1 74 (by decide)]
      refine V_callSi F dR_hold_20 lmR_73 miS_placeOf msS_placeOf (ctS_placeOf (by omega)) (by decide) rfl (Nat.le_of_ble_eq_true rfl) (fun r u hr => ?_)
      obtain ⟨rfl, rfl⟩ := hr
      refine V_iload_n (i := 2) F dR_hold_23 rfl rfl ?_
      refine V_iast F dR_hold_24 (by first | rfl | assumption) rfl (by omega) ?_
      refine V_iinc F dR_hold_25 (by decide) rfl (by omega) (by simp only [List.set_cons_zero, List.set_cons_succ]; exact rfl) ?_
      refine V_goto F 2 dR_hold_28 (by decide) ?_
      refine ih (i + 1) _ (by omega) (by omega) (by omega) ⟨fun j j1 => ?_, fun j j1 j2 => ?_, fun p hp => ?_⟩
      · rw [upw_f j1]; exact hI.1 j j1
      · by_cases hj : w 74 j % 512 = w 74 i % 512
        · rw [hj, upw_s]
        · rw [upw_i hj]
          exact hI.2.1 j j1 (by
            by_cases hji : j = i
            · exact absurd (by rw [hji]) hj
            · omega)
      · rw [upw_i (fun q => hp i h1 (by omega) q.symm)]
        exact hI.2.2 p (fun j j1 j2 => hp j j1 (by omega))
theorem ctR_hold {G : vG} {l : Launch} {w : RW} {t : Int} (hn : 0 ≤ w 73 2 ∧ w 73 2 ≤ 257) (hx : ∀ i, 0 ≤ i → i < w 73 2 → okR (w 74 i)) : CTv G l yR_hold cR_hold 4 1 [.inr 73, .inr 2, .inl t] w (fun u => hoI w u t (w 73 2)) := by
  refine CTv.intro (by decide) (Nat.le_of_ble_eq_true rfl) ?_
  intro X Q F hX hR
  subst hX
  show V G X 4 Q 0 [some (.inr 73), some (.inr 2), some (.inl t), none] [] w
  refine V_iconst F dR_hold_0 (by decide) ?_
  refine V_istore_n (i := 3) F dR_hold_1 rfl (by decide) (by simp only [List.set_cons_zero, List.set_cons_succ]; exact rfl) ?_
  exact lpR_hold hn hx F hR ((w 73 2).toNat + 1) 0 _ (by omega) (by omega) (by omega) ⟨fun j _ => rfl, fun j j1 j2 => by omega, fun p _ => rfl⟩
def snI (w u : RW) (k r : Nat) (n : Int) : Prop := (∀ j, j ≠ k → j ≠ r → u j = w j) ∧ (u k 1 = w 73 2 ∧ u k 2 = w 73 2) ∧ (∀ i, 0 ≤ i → i < n → u r i = w 74 (w 73 2 - 1 - i)) ∧ ∀ i, ¬ (0 ≤ i ∧ i < n) → u r i = w r i
theorem lpN_stand {G : vG} {X : vX} {Q : State → Prop} {w : RW} {k r o : Nat} (hk : shp[k]? = some (.inr (.inl (3, [some r, none, none, none, none, none, some o, none, none, none])))) (hr : shp[r]? = some (.inl (0, 96))) (ho : shp[o]? = some (.inl (0, 6))) (hkr : r ≠ k ∧ k ≠ 73 ∧ k ≠ 74 ∧ r ≠ 73 ∧ r ≠ 74) (hn : 0 ≤ w 73 2 ∧ w 73 2 ≤ 5) (F : FX G X cN_stand yN_stand.cls 3 0) (hR : RetV G X cN_stand 3 Q (fun u => (∀ j, j ≠ k → j ≠ r → u j = w j) ∧ (u k 1 = w 73 2 ∧ u k 2 = w 73 2 ∧ u k 3 = 0 ∧ u k 4 = 0 ∧ u k 5 = 0 ∧ u k 7 = 0 ∧ u k 8 = 0 ∧ u k 9 = 0) ∧ (∀ i, 0 ≤ i → i < w 73 2 → u r i = w 74 (w 73 2 - 1 - i)) ∧ ∀ i, ¬ (0 ≤ i ∧ i < w 73 2) → u r i = w r i)) : ∀ (m : Nat) (i : Int) (u0 : RW), 0 ≤ i → i ≤ w 73 2 → w 73 2 - i < m → snI w u0 k r i → V G X 3 Q 18 [some (.inr k), some (.inr 73), some (.inl i)] [] u0 := by
  intro m
  induction m with
  | zero => intro i u0 h1 h2 h3; omega
  | succ m ih =>
    intro i u0 h1 h2 h3 hI
    refine V_iload_n (i := 2) F dN_stand_18 rfl rfl ?_
    refine V_aload_n (i := 0) F dN_stand_19 rfl rfl ?_
    refine V_geti (ci := 3) (C := R_N) (T := T_N) (N := 10) F dN_stand_20 (by first | rfl | assumption) rfl (j := 2) 2 rfl (by decide) rfl lfN_24 ?_
    rw [hI.2.1.2]
    refine V_icmp_ge F 51 dN_stand_23 (by decide) (fun h23 => ?_) (fun h23 => ?_)
    · refine V_aload_n (i := 0) F dN_stand_51 rfl rfl ?_
      refine V_iconst F dN_stand_52 (by decide) ?_
      refine V_puti (ci := 3) (C := R_N) (T := T_N) (N := 10) F dN_stand_53 (by first | rfl | assumption) rfl (j := 3) 3 rfl (by decide) rfl rfl rfl lfN_29 ?_
      refine V_aload_n (i := 0) F dN_stand_56 rfl rfl ?_
      refine V_iconst F dN_stand_57 (by decide) ?_
      refine V_puti (ci := 3) (C := R_N) (T := T_N) (N := 10) F dN_stand_58 (by first | rfl | assumption) rfl (j := 4) 4 rfl (by decide) rfl rfl rfl lfN_32 ?_
      refine V_aload_n (i := 0) F dN_stand_61 rfl rfl ?_
      refine V_iconst F dN_stand_62 (by decide) ?_
      refine V_puti (ci := 3) (C := R_N) (T := T_N) (N := 10) F dN_stand_63 (by first | rfl | assumption) rfl (j := 5) 5 rfl (by decide) rfl rfl rfl lfN_35 ?_
      refine V_aload_n (i := 0) F dN_stand_66 rfl rfl ?_
      refine V_iconst F dN_stand_67 (by decide) ?_
      refine V_puti (ci := 3) (C := R_N) (T := T_N) (N := 10) F dN_stand_68 (by first | rfl | assumption) rfl (j := 7) 7 rfl (by decide) rfl rfl rfl lfN_38 ?_
      refine V_aload_n (i := 0) F dN_stand_71 rfl rfl ?_
      refine V_iconst F dN_stand_72 (by decide) ?_
      refine V_puti (ci := 3) (C := R_N) (T := T_N) (N := 10) F dN_stand_73 (by first | rfl | assumption) rfl (j := 8) 8 rfl (by decide) rfl rfl rfl lfN_41 ?_
      refine V_aload_n (i := 0) F dN_stand_76 rfl rfl ?_
      refine V_iconst F dN_stand_77 (by decide) ?_
      refine V_putz (ci := 3) (C := R_N) (T := T_N) (N := 10) F dN_stand_78 (by first | rfl | assumption) rfl (j := 9) 9 rfl (by decide) rfl rfl rfl (by first | exact Or.inl rfl | exact Or.inr rfl | exact bz_01 _ | assumption) lfN_44 ?_
      exact hR _ _ _ dN_stand_81 (by
        rw [show i = w 73 2 by omega] at hI
        obtain ⟨i1, ⟨i2, i3⟩, i4, i5⟩ := hI
        refine ⟨fun j j1 j2 => ?_, ?_, fun q q1 q2 => ?_, fun q hq => ?_⟩
        · rw [upw_f j1, upw_f j1, upw_f j1, upw_f j1, upw_f j1, upw_f j1]; exact i1 j j1 j2
        · simp [upw, i2, i3]
        · rw [upw_f hkr.1, upw_f hkr.1, upw_f hkr.1, upw_f hkr.1, upw_f hkr.1, upw_f hkr.1]; exact i4 q q1 q2
        · rw [upw_f hkr.1, upw_f hkr.1, upw_f hkr.1, upw_f hkr.1, upw_f hkr.1, upw_f hkr.1]; exact i5 q hq)
    · refine V_aload_n (i := 0) F dN_stand_26 rfl rfl ?_
      refine V_getr (ci := 3) (C := R_N) (T := T_N) (N := 10) F dN_stand_27 (by first | rfl | assumption) rfl (j := 0) (by decide) rfl lfN_9 ?_
      refine V_iload_n (i := 2) F dN_stand_30 rfl rfl ?_
      refine V_aload_n (i := 1) F dN_stand_31 rfl rfl ?_
      refine V_getrN (ci := 2) (C := R_R) (T := T_R) (N := 3) F dN_stand_32 (by first | rfl | assumption) rfl (j := 0) (by decide) rfl lfN_28 ?_
      refine V_aload_n (i := 0) F dN_stand_35 rfl rfl ?_
      refine V_geti (ci := 3) (C := R_N) (T := T_N) (N := 10) F dN_stand_36 (by first | rfl | assumption) rfl (j := 2) 2 rfl (by decide) rfl lfN_24 ?_
      rw [hI.2.1.2]
      refine V_iconst F dN_stand_39 (by decide) ?_
      refine V_isub F dN_stand_40 (by omega) ?_
      refine V_iload_n (i := 2) F dN_stand_41 rfl rfl ?_
      refine V_isub F dN_stand_42 (by omega) ?_
      refine V_iald F dN_stand_43 (k := 74) rfl rfl (by omega) ?_
      rw [hI.1 74 (Ne.symm hkr.2.2.1) (Ne.symm hkr.2.2.2.2)]
      refine V_iast F dN_stand_44 (by first | rfl | assumption) rfl (by omega) ?_
      refine V_iinc F dN_stand_45 (by decide) rfl (by omega) (by simp only [List.set_cons_zero, List.set_cons_succ]; exact rfl) ?_
      refine V_goto F 18 dN_stand_48 (by decide) ?_
      refine ih (i + 1) _ (by omega) (by omega) (by omega) ⟨fun j j1 j2 => ?_, ?_, fun j j1 j2 => ?_, fun j hj => ?_⟩
      · rw [upw_f j2]; exact hI.1 j j1 j2
      · rw [upw_k (Ne.symm hkr.1), upw_k (Ne.symm hkr.1)]; exact hI.2.1
      · by_cases hj : j = i
        · rw [hj, upw_s]
        · rw [upw_i hj]; exact hI.2.2.1 j j1 (by omega)
      · rw [upw_i (by omega)]; exact hI.2.2.2 j (by omega)
theorem ctN_stand {G : vG} {l : Launch} {w : RW} {k r o : Nat} (hk : shp[k]? = some (.inr (.inl (3, [some r, none, none, none, none, none, some o, none, none, none])))) (hr : shp[r]? = some (.inl (0, 96))) (ho : shp[o]? = some (.inl (0, 6))) (hkr : r ≠ k ∧ k ≠ 73 ∧ k ≠ 74 ∧ r ≠ 73 ∧ r ≠ 74) (hn : 0 ≤ w 73 2 ∧ w 73 2 ≤ 5) : CTv G l yN_stand cN_stand 3 0 [.inr k, .inr 73] w (fun u => (∀ j, j ≠ k → j ≠ r → u j = w j) ∧ (u k 1 = w 73 2 ∧ u k 2 = w 73 2 ∧ u k 3 = 0 ∧ u k 4 = 0 ∧ u k 5 = 0 ∧ u k 7 = 0 ∧ u k 8 = 0 ∧ u k 9 = 0) ∧ (∀ i, 0 ≤ i → i < w 73 2 → u r i = w 74 (w 73 2 - 1 - i)) ∧ ∀ i, ¬ (0 ≤ i ∧ i < w 73 2) → u r i = w r i) := by
  refine CTv.intro (by decide) (Nat.le_of_ble_eq_true rfl) ?_
  intro X Q F hX hR
  subst hX
  show V G X 3 Q 0 [some (.inr k), some (.inr 73), none] [] w
  refine V_aload_n (i := 0) F dN_stand_0 rfl rfl ?_
  refine V_aload_n (i := 1) F dN_stand_1 rfl rfl ?_
  refine V_getiN (ci := 2) (C := R_R) (T := T_R) (N := 3) F dN_stand_2 (by first | rfl | assumption) rfl (j := 2) 2 rfl (by decide) rfl lfN_18 ?_
  refine V_puti (ci := 3) (C := R_N) (T := T_N) (N := 10) F dN_stand_5 (by first | rfl | assumption) rfl (j := 2) 2 rfl (by decide) rfl rfl rfl lfN_24 ?_
  refine V_aload_n (i := 0) F dN_stand_8 rfl rfl ?_
  refine V_aload_n (i := 0) F dN_stand_9 rfl rfl ?_
  refine V_geti (ci := 3) (C := R_N) (T := T_N) (N := 10) F dN_stand_10 (by first | rfl | assumption) rfl (j := 2) 2 rfl (by decide) rfl lfN_24 ?_
  rw [upw_s]
  refine V_puti (ci := 3) (C := R_N) (T := T_N) (N := 10) F dN_stand_13 (by first | rfl | assumption) rfl (j := 1) 1 rfl (by decide) rfl rfl rfl lfN_27 ?_
  refine V_iconst F dN_stand_16 (by decide) ?_
  refine V_istore_n (i := 2) F dN_stand_17 rfl (by decide) (by simp only [List.set_cons_zero, List.set_cons_succ]; exact rfl) ?_
  exact lpN_stand hk hr ho hkr hn F hR ((w 73 2).toNat + 1) 0 _ (by omega) (by omega) (by omega) ⟨fun j j1 j2 => by rw [upw_f j1, upw_f j1], ⟨by rw [upw_s], by rw [upw_i (by decide), upw_s]⟩, fun j j1 j2 => by omega, fun j _ => by rw [upw_f hkr.1, upw_f hkr.1]⟩
def rvI (w u : RW) (k r : Nat) (n : Int) : Prop := (∀ j, j ≠ k → j ≠ r → u j = w j) ∧ (u k 1 = w k 1 + n ∧ ∀ f, f ≠ 1 → u k f = w k f) ∧ (∀ i, 0 ≤ i → i < n → u r (w k 1 + i) = w 74 i) ∧ ∀ i, i < w k 1 → u r i = w r i
theorem lpN_reserve {G : vG} {X : vX} {Q : State → Prop} {w : RW} {k r o : Nat} (hk : shp[k]? = some (.inr (.inl (3, [some r, none, none, none, none, none, some o, none, none, none])))) (hr : shp[r]? = some (.inl (0, 96))) (ho : shp[o]? = some (.inl (0, 6))) (hkr : r ≠ k ∧ k ≠ 73 ∧ k ≠ 74 ∧ r ≠ 73 ∧ r ≠ 74) (hn : 0 ≤ w 73 2 ∧ 0 ≤ w k 1 ∧ w k 1 + w 73 2 ≤ 96) (F : FX G X cN_reserve yN_reserve.cls 3 0) (hR : RetV G X cN_reserve 3 Q (fun u => rvI w u k r (w 73 2))) : ∀ (m : Nat) (i : Int) (u0 : RW), 0 ≤ i → i ≤ w 73 2 → w 73 2 - i < m → rvI w u0 k r i → V G X 3 Q 2 [some (.inr k), some (.inr 73), some (.inl i)] [] u0 := by
  intro m
  induction m with
  | zero => intro i u0 h1 h2 h3; omega
  | succ m ih =>
    intro i u0 h1 h2 h3 hI
    refine V_iload_n (i := 2) F dN_reserve_2 rfl rfl ?_
    refine V_aload_n (i := 1) F dN_reserve_3 rfl rfl ?_
    refine V_getiN (ci := 2) (C := R_R) (T := T_R) (N := 3) F dN_reserve_4 (by first | rfl | assumption) rfl (j := 2) 2 rfl (by decide) rfl lfN_18 ?_
    rw [hI.1 73 (Ne.symm hkr.2.1) (Ne.symm hkr.2.2.2.1)]
    refine V_icmp_ge F 50 dN_reserve_7 (by decide) (fun h7 => ?_) (fun h7 => ?_)
    · exact hR _ _ _ dN_reserve_50 (by first | (exfalso; omega) | (rw [show i = w 73 2 by omega] at hI; exact hI))
    · refine V_aload_n (i := 0) F dN_reserve_10 rfl rfl ?_
      refine V_geti (ci := 3) (C := R_N) (T := T_N) (N := 10) F dN_reserve_11 (by first | rfl | assumption) rfl (j := 1) 1 rfl (by decide) rfl lfN_27 ?_
      rw [hI.2.1.1]
      refine V_bipush F dN_reserve_14 (by decide) ?_
      refine V_icmp_ge F 50 dN_reserve_16 (by decide) (fun h16 => ?_) (fun h16 => ?_)
      · exact hR _ _ _ dN_reserve_50 (by first | (exfalso; omega) | (rw [show i = w 73 2 by omega] at hI; exact hI))
      · refine V_aload_n (i := 0) F dN_reserve_19 rfl rfl ?_
        refine V_getr (ci := 3) (C := R_N) (T := T_N) (N := 10) F dN_reserve_20 (by first | rfl | assumption) rfl (j := 0) (by decide) rfl lfN_9 ?_
        refine V_aload_n (i := 0) F dN_reserve_23 rfl rfl ?_
        refine V_geti (ci := 3) (C := R_N) (T := T_N) (N := 10) F dN_reserve_24 (by first | rfl | assumption) rfl (j := 1) 1 rfl (by decide) rfl lfN_27 ?_
        rw [hI.2.1.1]
        refine V_aload_n (i := 1) F dN_reserve_27 rfl rfl ?_
        refine V_getrN (ci := 2) (C := R_R) (T := T_R) (N := 3) F dN_reserve_28 (by first | rfl | assumption) rfl (j := 0) (by decide) rfl lfN_28 ?_
        refine V_iload_n (i := 2) F dN_reserve_31 rfl rfl ?_
        refine V_iald F dN_reserve_32 (k := 74) rfl rfl (by omega) ?_
        rw [hI.1 74 (Ne.symm hkr.2.2.1) (Ne.symm hkr.2.2.2.2)]
        refine V_iast F dN_reserve_33 (by first | rfl | assumption) rfl (by omega) ?_
        refine V_aload_n (i := 0) F dN_reserve_34 rfl rfl ?_
        refine V_dup F dN_reserve_35 ?_
        refine V_geti (ci := 3) (C := R_N) (T := T_N) (N := 10) F dN_reserve_36 (by first | rfl | assumption) rfl (j := 1) 1 rfl (by decide) rfl lfN_27 ?_
        rw [upw_k (Ne.symm hkr.1), hI.2.1.1]
        refine V_iconst F dN_reserve_39 (by decide) ?_
        refine V_iadd F dN_reserve_40 (by omega) ?_
        refine V_puti (ci := 3) (C := R_N) (T := T_N) (N := 10) F dN_reserve_41 (by first | rfl | assumption) rfl (j := 1) 1 rfl (by decide) rfl rfl rfl lfN_27 ?_
        refine V_iinc F dN_reserve_44 (by decide) rfl (by omega) (by simp only [List.set_cons_zero, List.set_cons_succ]; exact rfl) ?_
        refine V_goto F 2 dN_reserve_47 (by decide) ?_
        refine ih (i + 1) _ (by omega) (by omega) (by omega) ⟨fun j j1 j2 => ?_, ⟨?_, fun f hf => ?_⟩, fun j j1 j2 => ?_, fun j hj => ?_⟩
        · rw [upw_f j1, upw_f j2]; exact hI.1 j j1 j2
        · rw [upw_s]; omega
        · rw [upw_i hf, upw_k (Ne.symm hkr.1)]; exact hI.2.1.2 f hf
        · rw [upw_f hkr.1]
          by_cases hj : j = i
          · rw [hj, upw_s]
          · rw [upw_i (by omega)]; exact hI.2.2.1 j j1 (by omega)
        · rw [upw_f hkr.1, upw_i (by omega)]; exact hI.2.2.2 j hj
theorem ctN_reserve {G : vG} {l : Launch} {w : RW} {k r o : Nat} (hk : shp[k]? = some (.inr (.inl (3, [some r, none, none, none, none, none, some o, none, none, none])))) (hr : shp[r]? = some (.inl (0, 96))) (ho : shp[o]? = some (.inl (0, 6))) (hkr : r ≠ k ∧ k ≠ 73 ∧ k ≠ 74 ∧ r ≠ 73 ∧ r ≠ 74) (hn : 0 ≤ w 73 2 ∧ 0 ≤ w k 1 ∧ w k 1 + w 73 2 ≤ 96) : CTv G l yN_reserve cN_reserve 3 0 [.inr k, .inr 73] w (fun u => rvI w u k r (w 73 2)) := by
  refine CTv.intro (by decide) (Nat.le_of_ble_eq_true rfl) ?_
  intro X Q F hX hR
  subst hX
  show V G X 3 Q 0 [some (.inr k), some (.inr 73), none] [] w
  refine V_iconst F dN_reserve_0 (by decide) ?_
  refine V_istore_n (i := 2) F dN_reserve_1 rfl (by decide) (by simp only [List.set_cons_zero, List.set_cons_succ]; exact rfl) ?_
  exact lpN_reserve hk hr ho hkr hn F hR ((w 73 2).toNat + 1) 0 _ (by omega) (by omega) (by omega) ⟨fun j j1 j2 => rfl, ⟨by omega, fun _ _ => rfl⟩, fun j j1 j2 => by omega, fun j _ => rfl⟩
end
section
theorem dN_turnAbout_0 : decode cN_turnAbout 0 = .ok (.iconst 0, 1) := by decide +kernel
theorem dN_turnAbout_1 : decode cN_turnAbout 1 = .ok (.istore_n 1, 1) := by decide +kernel
theorem dN_turnAbout_2 : decode cN_turnAbout 2 = .ok (.iload_n 1, 1) := by decide +kernel
theorem dN_turnAbout_3 : decode cN_turnAbout 3 = .ok (.aload_n 0, 1) := by decide +kernel
theorem dN_turnAbout_4 : decode cN_turnAbout 4 = .ok (.getfield 27, 3) := by decide +kernel
theorem dN_turnAbout_7 : decode cN_turnAbout 7 = .ok (.if_icmp .ge 36, 3) := by decide +kernel
theorem dN_turnAbout_10 : decode cN_turnAbout 10 = .ok (.aload_n 0, 1) := by decide +kernel
theorem dN_turnAbout_11 : decode cN_turnAbout 11 = .ok (.getfield 9, 3) := by decide +kernel
theorem dN_turnAbout_14 : decode cN_turnAbout 14 = .ok (.iload_n 1, 1) := by decide +kernel
theorem dN_turnAbout_15 : decode cN_turnAbout 15 = .ok (.aload_n 0, 1) := by decide +kernel
theorem dN_turnAbout_16 : decode cN_turnAbout 16 = .ok (.getfield 9, 3) := by decide +kernel
theorem dN_turnAbout_19 : decode cN_turnAbout 19 = .ok (.iload_n 1, 1) := by decide +kernel
theorem dN_turnAbout_20 : decode cN_turnAbout 20 = .ok (.iaload, 1) := by decide +kernel
theorem dN_turnAbout_21 : decode cN_turnAbout 21 = .ok (.invokestatic 64, 3) := by decide +kernel
theorem dN_turnAbout_24 : decode cN_turnAbout 24 = .ok (.aload_n 0, 1) := by decide +kernel
theorem dN_turnAbout_25 : decode cN_turnAbout 25 = .ok (.getfield 9, 3) := by decide +kernel
theorem dN_turnAbout_28 : decode cN_turnAbout 28 = .ok (.iload_n 1, 1) := by decide +kernel
theorem dN_turnAbout_29 : decode cN_turnAbout 29 = .ok (.iaload, 1) := by decide +kernel
theorem dN_turnAbout_30 : decode cN_turnAbout 30 = .ok (.invokestatic 70, 3) := by decide +kernel
theorem dN_turnAbout_33 : decode cN_turnAbout 33 = .ok (.invokestatic 73, 3) := by decide +kernel
theorem dN_turnAbout_36 : decode cN_turnAbout 36 = .ok (.iastore, 1) := by decide +kernel
theorem dN_turnAbout_37 : decode cN_turnAbout 37 = .ok (.iinc 1 1, 3) := by decide +kernel
theorem dN_turnAbout_40 : decode cN_turnAbout 40 = .ok (.goto (-38), 3) := by decide +kernel
theorem dN_turnAbout_43 : decode cN_turnAbout 43 = .ok (.iconst 0, 1) := by decide +kernel
theorem dN_turnAbout_44 : decode cN_turnAbout 44 = .ok (.istore_n 1, 1) := by decide +kernel
theorem dN_turnAbout_45 : decode cN_turnAbout 45 = .ok (.iload_n 1, 1) := by decide +kernel
theorem dN_turnAbout_46 : decode cN_turnAbout 46 = .ok (.aload_n 0, 1) := by decide +kernel
theorem dN_turnAbout_47 : decode cN_turnAbout 47 = .ok (.getfield 27, 3) := by decide +kernel
theorem dN_turnAbout_50 : decode cN_turnAbout 50 = .ok (.iconst 2, 1) := by decide +kernel
theorem dN_turnAbout_51 : decode cN_turnAbout 51 = .ok (.idiv, 1) := by decide +kernel
theorem dN_turnAbout_52 : decode cN_turnAbout 52 = .ok (.if_icmp .ge 49, 3) := by decide +kernel
theorem dN_turnAbout_55 : decode cN_turnAbout 55 = .ok (.aload_n 0, 1) := by decide +kernel
theorem dN_turnAbout_56 : decode cN_turnAbout 56 = .ok (.getfield 9, 3) := by decide +kernel
theorem dN_turnAbout_59 : decode cN_turnAbout 59 = .ok (.iload_n 1, 1) := by decide +kernel
theorem dN_turnAbout_60 : decode cN_turnAbout 60 = .ok (.iaload, 1) := by decide +kernel
theorem dN_turnAbout_61 : decode cN_turnAbout 61 = .ok (.istore_n 2, 1) := by decide +kernel
theorem dN_turnAbout_62 : decode cN_turnAbout 62 = .ok (.aload_n 0, 1) := by decide +kernel
theorem dN_turnAbout_63 : decode cN_turnAbout 63 = .ok (.getfield 9, 3) := by decide +kernel
theorem dN_turnAbout_66 : decode cN_turnAbout 66 = .ok (.iload_n 1, 1) := by decide +kernel
theorem dN_turnAbout_67 : decode cN_turnAbout 67 = .ok (.aload_n 0, 1) := by decide +kernel
theorem dN_turnAbout_68 : decode cN_turnAbout 68 = .ok (.getfield 9, 3) := by decide +kernel
theorem dN_turnAbout_71 : decode cN_turnAbout 71 = .ok (.aload_n 0, 1) := by decide +kernel
theorem dN_turnAbout_72 : decode cN_turnAbout 72 = .ok (.getfield 27, 3) := by decide +kernel
theorem dN_turnAbout_75 : decode cN_turnAbout 75 = .ok (.iconst 1, 1) := by decide +kernel
theorem dN_turnAbout_76 : decode cN_turnAbout 76 = .ok (.isub, 1) := by decide +kernel
theorem dN_turnAbout_77 : decode cN_turnAbout 77 = .ok (.iload_n 1, 1) := by decide +kernel
theorem dN_turnAbout_78 : decode cN_turnAbout 78 = .ok (.isub, 1) := by decide +kernel
theorem dN_turnAbout_79 : decode cN_turnAbout 79 = .ok (.iaload, 1) := by decide +kernel
theorem dN_turnAbout_80 : decode cN_turnAbout 80 = .ok (.iastore, 1) := by decide +kernel
theorem dN_turnAbout_81 : decode cN_turnAbout 81 = .ok (.aload_n 0, 1) := by decide +kernel
theorem dN_turnAbout_82 : decode cN_turnAbout 82 = .ok (.getfield 9, 3) := by decide +kernel
theorem dN_turnAbout_85 : decode cN_turnAbout 85 = .ok (.aload_n 0, 1) := by decide +kernel
theorem dN_turnAbout_86 : decode cN_turnAbout 86 = .ok (.getfield 27, 3) := by decide +kernel
theorem dN_turnAbout_89 : decode cN_turnAbout 89 = .ok (.iconst 1, 1) := by decide +kernel
theorem dN_turnAbout_90 : decode cN_turnAbout 90 = .ok (.isub, 1) := by decide +kernel
theorem dN_turnAbout_91 : decode cN_turnAbout 91 = .ok (.iload_n 1, 1) := by decide +kernel
theorem dN_turnAbout_92 : decode cN_turnAbout 92 = .ok (.isub, 1) := by decide +kernel
theorem dN_turnAbout_93 : decode cN_turnAbout 93 = .ok (.iload_n 2, 1) := by decide +kernel
theorem dN_turnAbout_94 : decode cN_turnAbout 94 = .ok (.iastore, 1) := by decide +kernel
theorem dN_turnAbout_95 : decode cN_turnAbout 95 = .ok (.iinc 1 1, 3) := by decide +kernel
theorem dN_turnAbout_98 : decode cN_turnAbout 98 = .ok (.goto (-53), 3) := by decide +kernel
theorem dN_turnAbout_101 : decode cN_turnAbout 101 = .ok (.aload_n 0, 1) := by decide +kernel
theorem dN_turnAbout_102 : decode cN_turnAbout 102 = .ok (.iconst 0, 1) := by decide +kernel
theorem dN_turnAbout_103 : decode cN_turnAbout 103 = .ok (.putfield 44, 3) := by decide +kernel
theorem dN_turnAbout_106 : decode cN_turnAbout 106 = .ok (.return_, 1) := by decide +kernel
theorem dW_rest_0 : decode cW_rest 0 = .ok (.iload_n 1, 1) := by decide +kernel
theorem dW_rest_1 : decode cW_rest 1 = .ok (.invokestatic 27, 3) := by decide +kernel
theorem dW_rest_4 : decode cW_rest 4 = .ok (.iload_n 3, 1) := by decide +kernel
theorem dW_rest_5 : decode cW_rest 5 = .ok (.if_icmp .ne 5, 3) := by decide +kernel
theorem dW_rest_8 : decode cW_rest 8 = .ok (.iconst 0, 1) := by decide +kernel
theorem dW_rest_9 : decode cW_rest 9 = .ok (.ireturn, 1) := by decide +kernel
theorem dW_rest_10 : decode cW_rest 10 = .ok (.aload_n 0, 1) := by decide +kernel
theorem dW_rest_11 : decode cW_rest 11 = .ok (.getfield 11, 3) := by decide +kernel
theorem dW_rest_14 : decode cW_rest 14 = .ok (.iload_n 2, 1) := by decide +kernel
theorem dW_rest_15 : decode cW_rest 15 = .ok (.aaload, 1) := by decide +kernel
theorem dW_rest_16 : decode cW_rest 16 = .ok (.iload_n 1, 1) := by decide +kernel
theorem dW_rest_17 : decode cW_rest 17 = .ok (.invokestatic 33, 3) := by decide +kernel
theorem dW_rest_20 : decode cW_rest 20 = .ok (.iload_n 1, 1) := by decide +kernel
theorem dW_rest_21 : decode cW_rest 21 = .ok (.invokestatic 36, 3) := by decide +kernel
theorem dW_rest_24 : decode cW_rest 24 = .ok (.invokestatic 39, 3) := by decide +kernel
theorem dW_rest_27 : decode cW_rest 27 = .ok (.iaload, 1) := by decide +kernel
theorem dW_rest_28 : decode cW_rest 28 = .ok (.ireturn, 1) := by decide +kernel
theorem dW_putInQueue_0 : decode cW_putInQueue 0 = .ok (.aload_n 0, 1) := by decide +kernel
theorem dW_putInQueue_1 : decode cW_putInQueue 1 = .ok (.getfield 20, 3) := by decide +kernel
theorem dW_putInQueue_4 : decode cW_putInQueue 4 = .ok (.iload_n 1, 1) := by decide +kernel
theorem dW_putInQueue_5 : decode cW_putInQueue 5 = .ok (.iaload, 1) := by decide +kernel
theorem dW_putInQueue_6 : decode cW_putInQueue 6 = .ok (.ifCond .ne 49, 3) := by decide +kernel
theorem dW_putInQueue_9 : decode cW_putInQueue 9 = .ok (.aload_n 0, 1) := by decide +kernel
theorem dW_putInQueue_10 : decode cW_putInQueue 10 = .ok (.getfield 91, 3) := by decide +kernel
theorem dW_putInQueue_13 : decode cW_putInQueue 13 = .ok (.sipush 256, 3) := by decide +kernel
theorem dW_putInQueue_16 : decode cW_putInQueue 16 = .ok (.if_icmp .ge 39, 3) := by decide +kernel
theorem dW_putInQueue_19 : decode cW_putInQueue 19 = .ok (.aload_n 0, 1) := by decide +kernel
theorem dW_putInQueue_20 : decode cW_putInQueue 20 = .ok (.getfield 20, 3) := by decide +kernel
theorem dW_putInQueue_23 : decode cW_putInQueue 23 = .ok (.iload_n 1, 1) := by decide +kernel
theorem dW_putInQueue_24 : decode cW_putInQueue 24 = .ok (.iconst 1, 1) := by decide +kernel
theorem dW_putInQueue_25 : decode cW_putInQueue 25 = .ok (.iastore, 1) := by decide +kernel
theorem dW_putInQueue_26 : decode cW_putInQueue 26 = .ok (.aload_n 0, 1) := by decide +kernel
theorem dW_putInQueue_27 : decode cW_putInQueue 27 = .ok (.getfield 16, 3) := by decide +kernel
theorem dW_putInQueue_30 : decode cW_putInQueue 30 = .ok (.aload_n 0, 1) := by decide +kernel
theorem dW_putInQueue_31 : decode cW_putInQueue 31 = .ok (.getfield 106, 3) := by decide +kernel
theorem dW_putInQueue_34 : decode cW_putInQueue 34 = .ok (.aload_n 0, 1) := by decide +kernel
theorem dW_putInQueue_35 : decode cW_putInQueue 35 = .ok (.getfield 91, 3) := by decide +kernel
theorem dW_putInQueue_38 : decode cW_putInQueue 38 = .ok (.iadd, 1) := by decide +kernel
theorem dW_putInQueue_39 : decode cW_putInQueue 39 = .ok (.sipush 256, 3) := by decide +kernel
theorem dW_putInQueue_42 : decode cW_putInQueue 42 = .ok (.irem, 1) := by decide +kernel
theorem dW_putInQueue_43 : decode cW_putInQueue 43 = .ok (.iload_n 1, 1) := by decide +kernel
theorem dW_putInQueue_44 : decode cW_putInQueue 44 = .ok (.iastore, 1) := by decide +kernel
theorem dW_putInQueue_45 : decode cW_putInQueue 45 = .ok (.aload_n 0, 1) := by decide +kernel
theorem dW_putInQueue_46 : decode cW_putInQueue 46 = .ok (.dup, 1) := by decide +kernel
theorem dW_putInQueue_47 : decode cW_putInQueue 47 = .ok (.getfield 91, 3) := by decide +kernel
theorem dW_putInQueue_50 : decode cW_putInQueue 50 = .ok (.iconst 1, 1) := by decide +kernel
theorem dW_putInQueue_51 : decode cW_putInQueue 51 = .ok (.iadd, 1) := by decide +kernel
theorem dW_putInQueue_52 : decode cW_putInQueue 52 = .ok (.putfield 91, 3) := by decide +kernel
theorem dW_putInQueue_55 : decode cW_putInQueue 55 = .ok (.return_, 1) := by decide +kernel
theorem dW_takeFromQueue_0 : decode cW_takeFromQueue 0 = .ok (.aload_n 0, 1) := by decide +kernel
theorem dW_takeFromQueue_1 : decode cW_takeFromQueue 1 = .ok (.getfield 16, 3) := by decide +kernel
theorem dW_takeFromQueue_4 : decode cW_takeFromQueue 4 = .ok (.aload_n 0, 1) := by decide +kernel
theorem dW_takeFromQueue_5 : decode cW_takeFromQueue 5 = .ok (.getfield 106, 3) := by decide +kernel
theorem dW_takeFromQueue_8 : decode cW_takeFromQueue 8 = .ok (.iaload, 1) := by decide +kernel
theorem dW_takeFromQueue_9 : decode cW_takeFromQueue 9 = .ok (.istore_n 1, 1) := by decide +kernel
theorem dW_takeFromQueue_10 : decode cW_takeFromQueue 10 = .ok (.aload_n 0, 1) := by decide +kernel
theorem dW_takeFromQueue_11 : decode cW_takeFromQueue 11 = .ok (.aload_n 0, 1) := by decide +kernel
theorem dW_takeFromQueue_12 : decode cW_takeFromQueue 12 = .ok (.getfield 106, 3) := by decide +kernel
theorem dW_takeFromQueue_15 : decode cW_takeFromQueue 15 = .ok (.iconst 1, 1) := by decide +kernel
theorem dW_takeFromQueue_16 : decode cW_takeFromQueue 16 = .ok (.iadd, 1) := by decide +kernel
theorem dW_takeFromQueue_17 : decode cW_takeFromQueue 17 = .ok (.sipush 256, 3) := by decide +kernel
theorem dW_takeFromQueue_20 : decode cW_takeFromQueue 20 = .ok (.irem, 1) := by decide +kernel
theorem dW_takeFromQueue_21 : decode cW_takeFromQueue 21 = .ok (.putfield 106, 3) := by decide +kernel
theorem dW_takeFromQueue_24 : decode cW_takeFromQueue 24 = .ok (.aload_n 0, 1) := by decide +kernel
theorem dW_takeFromQueue_25 : decode cW_takeFromQueue 25 = .ok (.dup, 1) := by decide +kernel
theorem dW_takeFromQueue_26 : decode cW_takeFromQueue 26 = .ok (.getfield 91, 3) := by decide +kernel
theorem dW_takeFromQueue_29 : decode cW_takeFromQueue 29 = .ok (.iconst 1, 1) := by decide +kernel
theorem dW_takeFromQueue_30 : decode cW_takeFromQueue 30 = .ok (.isub, 1) := by decide +kernel
theorem dW_takeFromQueue_31 : decode cW_takeFromQueue 31 = .ok (.putfield 91, 3) := by decide +kernel
theorem dW_takeFromQueue_34 : decode cW_takeFromQueue 34 = .ok (.aload_n 0, 1) := by decide +kernel
theorem dW_takeFromQueue_35 : decode cW_takeFromQueue 35 = .ok (.getfield 20, 3) := by decide +kernel
theorem dW_takeFromQueue_38 : decode cW_takeFromQueue 38 = .ok (.iload_n 1, 1) := by decide +kernel
theorem dW_takeFromQueue_39 : decode cW_takeFromQueue 39 = .ok (.iconst 0, 1) := by decide +kernel
theorem dW_takeFromQueue_40 : decode cW_takeFromQueue 40 = .ok (.iastore, 1) := by decide +kernel
theorem dW_takeFromQueue_41 : decode cW_takeFromQueue 41 = .ok (.iload_n 1, 1) := by decide +kernel
theorem dW_takeFromQueue_42 : decode cW_takeFromQueue 42 = .ok (.ireturn, 1) := by decide +kernel
theorem dW_offer_0 : decode cW_offer 0 = .ok (.aload_n 1, 1) := by decide +kernel
theorem dW_offer_1 : decode cW_offer 1 = .ok (.iload_n 3, 1) := by decide +kernel
theorem dW_offer_2 : decode cW_offer 2 = .ok (.invokevirtual 65, 3) := by decide +kernel
theorem dW_offer_5 : decode cW_offer 5 = .ok (.iload 4, 2) := by decide +kernel
theorem dW_offer_7 : decode cW_offer 7 = .ok (.iadd, 1) := by decide +kernel
theorem dW_offer_8 : decode cW_offer 8 = .ok (.istore 5, 2) := by decide +kernel
theorem dW_offer_10 : decode cW_offer 10 = .ok (.iload_n 3, 1) := by decide +kernel
theorem dW_offer_11 : decode cW_offer 11 = .ok (.invokestatic 99, 3) := by decide +kernel
theorem dW_offer_14 : decode cW_offer 14 = .ok (.istore 6, 2) := by decide +kernel
theorem dW_offer_16 : decode cW_offer 16 = .ok (.aload_n 1, 1) := by decide +kernel
theorem dW_offer_17 : decode cW_offer 17 = .ok (.iload_n 3, 1) := by decide +kernel
theorem dW_offer_18 : decode cW_offer 18 = .ok (.invokestatic 33, 3) := by decide +kernel
theorem dW_offer_21 : decode cW_offer 21 = .ok (.iload 6, 2) := by decide +kernel
theorem dW_offer_23 : decode cW_offer 23 = .ok (.invokevirtual 43, 3) := by decide +kernel
theorem dW_offer_26 : decode cW_offer 26 = .ok (.istore 7, 2) := by decide +kernel
theorem dW_offer_28 : decode cW_offer 28 = .ok (.iload 7, 2) := by decide +kernel
theorem dW_offer_30 : decode cW_offer 30 = .ok (.iconst (-1), 1) := by decide +kernel
theorem dW_offer_31 : decode cW_offer 31 = .ok (.if_icmp .ne 4, 3) := by decide +kernel
theorem dW_offer_34 : decode cW_offer 34 = .ok (.return_, 1) := by decide +kernel
theorem dW_offer_35 : decode cW_offer 35 = .ok (.iload 7, 2) := by decide +kernel
theorem dW_offer_37 : decode cW_offer 37 = .ok (.iload 6, 2) := by decide +kernel
theorem dW_offer_39 : decode cW_offer 39 = .ok (.invokestatic 48, 3) := by decide +kernel
theorem dW_offer_42 : decode cW_offer 42 = .ok (.invokestatic 39, 3) := by decide +kernel
theorem dW_offer_45 : decode cW_offer 45 = .ok (.istore 8, 2) := by decide +kernel
theorem dW_offer_47 : decode cW_offer 47 = .ok (.iload 5, 2) := by decide +kernel
theorem dW_offer_49 : decode cW_offer 49 = .ok (.aload_n 0, 1) := by decide +kernel
theorem dW_offer_50 : decode cW_offer 50 = .ok (.getfield 11, 3) := by decide +kernel
theorem dW_offer_53 : decode cW_offer 53 = .ok (.iload_n 2, 1) := by decide +kernel
theorem dW_offer_54 : decode cW_offer 54 = .ok (.aaload, 1) := by decide +kernel
theorem dW_offer_55 : decode cW_offer 55 = .ok (.iload 8, 2) := by decide +kernel
theorem dW_offer_57 : decode cW_offer 57 = .ok (.iaload, 1) := by decide +kernel
theorem dW_offer_58 : decode cW_offer 58 = .ok (.if_icmp .ge 20, 3) := by decide +kernel
theorem dW_offer_61 : decode cW_offer 61 = .ok (.aload_n 0, 1) := by decide +kernel
theorem dW_offer_62 : decode cW_offer 62 = .ok (.getfield 11, 3) := by decide +kernel
theorem dW_offer_65 : decode cW_offer 65 = .ok (.iload_n 2, 1) := by decide +kernel
theorem dW_offer_66 : decode cW_offer 66 = .ok (.aaload, 1) := by decide +kernel
theorem dW_offer_67 : decode cW_offer 67 = .ok (.iload 8, 2) := by decide +kernel
theorem dW_offer_69 : decode cW_offer 69 = .ok (.iload 5, 2) := by decide +kernel
theorem dW_offer_71 : decode cW_offer 71 = .ok (.iastore, 1) := by decide +kernel
theorem dW_offer_72 : decode cW_offer 72 = .ok (.aload_n 0, 1) := by decide +kernel
theorem dW_offer_73 : decode cW_offer 73 = .ok (.iload 8, 2) := by decide +kernel
theorem dW_offer_75 : decode cW_offer 75 = .ok (.invokevirtual 102, 3) := by decide +kernel
theorem dW_offer_78 : decode cW_offer 78 = .ok (.return_, 1) := by decide +kernel
theorem lmN_64 : Cond.methodLink R_N 64 yS_placeOf ∈ bigW := bw 423 (by decide +kernel) rfl
theorem lmN_70 : Cond.methodLink R_N 70 yS_entryOf ∈ bigW := bw 424 (by decide +kernel) rfl
theorem lmN_73 : Cond.methodLink R_N 73 yS_run ∈ bigW := bw 425 (by decide +kernel) rfl
theorem lmW_27 : Cond.methodLink R_W 27 yS_placeOf ∈ bigW := bw 519 (by decide +kernel) rfl
theorem lfW_11 : Cond.fieldLink R_W 11 "RailYard$Ways" "least" "[[I" ∈ bigW := bw 67 (by decide +kernel) rfl
theorem lmW_33 : Cond.methodLink R_W 33 yS_tileOf ∈ bigW := bw 491 (by decide +kernel) rfl
theorem lmW_36 : Cond.methodLink R_W 36 yS_edgeOf ∈ bigW := bw 513 (by decide +kernel) rfl
theorem lmW_39 : Cond.methodLink R_W 39 yS_exit ∈ bigW := bw 494 (by decide +kernel) rfl
theorem lfW_20 : Cond.fieldLink R_W 20 "RailYard$Ways" "queued" "[I" ∈ bigW := bw 70 (by decide +kernel) rfl
theorem lfW_91 : Cond.fieldLink R_W 91 "RailYard$Ways" "queueCount" "I" ∈ bigW := bw 72 (by decide +kernel) rfl
theorem lfW_16 : Cond.fieldLink R_W 16 "RailYard$Ways" "queue" "[I" ∈ bigW := bw 69 (by decide +kernel) rfl
theorem lfW_106 : Cond.fieldLink R_W 106 "RailYard$Ways" "queueStart" "I" ∈ bigW := bw 71 (by decide +kernel) rfl
theorem lmW_65 : Cond.methodLink R_W 65 yG_cost ∈ bigW := bw 484 (by decide +kernel) rfl
theorem lmW_99 : Cond.methodLink R_W 99 yS_entryOf ∈ bigW := bw 490 (by decide +kernel) rfl
theorem lmW_43 : Cond.methodLink R_W 43 yG_across ∈ bigW := bw 492 (by decide +kernel) rfl
theorem lmW_48 : Cond.methodLink R_W 48 yS_opposite ∈ bigW := bw 493 (by decide +kernel) rfl
theorem lmW_102 : Cond.methodLink R_W 102 yW_putInQueue ∈ bigW := bw 497 (by decide +kernel) rfl
theorem miS_exit : MI yS_exit cS_exit 2 (some .int) 2 := ⟨bw 496 (by decide +kernel) rfl, bw 49 (by decide +kernel) rfl, ⟨by decide +kernel, by decide +kernel⟩, by decide +kernel, by decide⟩
theorem msS_exit : Cond.static yS_exit ∈ bigW := bw 495 (by decide +kernel) rfl
theorem miG_cost : MI yG_cost cG_cost 4 (some .int) 1 := ⟨bw 487 (by decide +kernel) rfl, bw 44 (by decide +kernel) rfl, ⟨by decide +kernel, by decide +kernel⟩, by decide +kernel, by decide⟩
theorem mvG_cost : MV yG_cost := ⟨bw 485 (by decide +kernel) rfl, bw 486 (by decide +kernel) rfl⟩
theorem miW_putInQueue : MI yW_putInQueue cW_putInQueue 2 none 1 := ⟨bw 500 (by decide +kernel) rfl, bw 40 (by decide +kernel) rfl, ⟨by decide +kernel, by decide +kernel⟩, by decide +kernel, by decide⟩
theorem mvW_putInQueue : MV yW_putInQueue := ⟨bw 499 (by decide +kernel) rfl, bw 6 (by decide +kernel) rfl⟩
def flp (x : Int) : Int := x % 512 + 512 * otE (x % 512 / 64) (x / 512)
def ta1 (w u : RW) (r : Nat) (i : Int) : Prop := (∀ j, j ≠ r → u j = w j) ∧ (∀ j, 0 ≤ j → j < i → u r j = flp (w r j)) ∧ ∀ j, ¬ (0 ≤ j ∧ j < i) → u r j = w r j
def ta2 (v u : RW) (r : Nat) (c i : Int) : Prop := (∀ j, j ≠ r → u j = v j) ∧ (∀ j, (0 ≤ j ∧ j < i) ∨ (c - 1 - i < j ∧ j < c) → u r j = v r (c - 1 - j)) ∧ ∀ j, ¬ ((0 ≤ j ∧ j < i) ∨ (c - 1 - i < j ∧ j < c)) → u r j = v r j
theorem lpN_turn2 {G : vG} {X : vX} {Q : State → Prop} {w v : RW} {k r o : Nat} (hk : shp[k]? = some (.inr (.inl (3, [some r, none, none, none, none, none, some o, none, none, none])))) (hr : shp[r]? = some (.inl (0, 96))) (ho : shp[o]? = some (.inl (0, 6))) (hkr : r ≠ k) (hn : 0 ≤ w k 1 ∧ w k 1 ≤ 96) (hx : ∀ i, 0 ≤ i → i < w k 1 → okR (w r i)) (F : FX G X cN_turnAbout yN_turnAbout.cls 3 2) (hR : RetV G X cN_turnAbout 3 Q (fun u => (∀ j, j ≠ k → j ≠ r → u j = w j) ∧ (u k 9 = 0 ∧ ∀ f, f ≠ 9 → u k f = w k f) ∧ (∀ i, 0 ≤ i → i < w k 1 → u r i = flp (w r (w k 1 - 1 - i))) ∧ ∀ i, ¬ (0 ≤ i ∧ i < w k 1) → u r i = w r i)) (hv : ta1 w v r (w k 1)) : ∀ (m : Nat) (i : Int) (u0 : RW) (z : Option RV), 0 ≤ i → i ≤ w k 1 / 2 → w k 1 / 2 - i < m → ta2 v u0 r (w k 1) i → V G X 3 Q 45 [some (.inr k), some (.inl i), z] [] u0 := by
  intro m
  induction m with
  | zero => intro i u0 z h1 h2 h3; omega
  | succ m ih =>
    intro i u0 z h1 h2 h3 hI
    refine V_iload_n (i := 1) F dN_turnAbout_45 rfl rfl ?_
    refine V_aload_n (i := 0) F dN_turnAbout_46 rfl rfl ?_
    refine V_geti (ci := 3) (C := R_N) (T := T_N) (N := 10) F dN_turnAbout_47 (by first | rfl | assumption) rfl (j := 1) 1 rfl (by decide) rfl lfN_27 ?_
    rw [hI.1 k (Ne.symm hkr), hv.1 k (Ne.symm hkr)]
    refine V_iconst F dN_turnAbout_50 (by decide) ?_
    refine V_idiv F dN_turnAbout_51 (by omega) ?_
    refine V_icmp_ge F 101 dN_turnAbout_52 (by decide) (fun h52 => ?_) (fun h52 => ?_)
    · refine V_aload_n (i := 0) F dN_turnAbout_101 rfl rfl ?_
      refine V_iconst F dN_turnAbout_102 (by decide) ?_
      refine V_putz (ci := 3) (C := R_N) (T := T_N) (N := 10) F dN_turnAbout_103 (by first | rfl | assumption) rfl (j := 9) 9 rfl (by decide) rfl rfl rfl (by first | exact Or.inl rfl | exact Or.inr rfl | exact bz_01 _ | assumption) lfN_44 ?_
      exact hR _ _ _ dN_turnAbout_106 (by
        refine ⟨fun j j1 j2 => ?_, ⟨by rw [upw_s], fun f hf => ?_⟩, fun j j1 j2 => ?_, fun j hj => ?_⟩
        · rw [upw_f j1, hI.1 j j2]; exact hv.1 j j2
        · rw [upw_i hf, hI.1 k (Ne.symm hkr), hv.1 k (Ne.symm hkr)]
        · rw [upw_f hkr]
          by_cases h1 : (0 ≤ j ∧ j < i) ∨ (w k 1 - 1 - i < j ∧ j < w k 1)
          · rw [hI.2.1 j h1]; exact hv.2.1 _ (by omega) (by omega)
          · rw [hI.2.2 j h1, show w k 1 - 1 - j = j by omega]; exact hv.2.1 _ (by omega) (by omega)
        · rw [upw_f hkr, hI.2.2 j (by omega)]; exact hv.2.2 j hj)
    · refine V_aload_n (i := 0) F dN_turnAbout_55 rfl rfl ?_
      refine V_getr (ci := 3) (C := R_N) (T := T_N) (N := 10) F dN_turnAbout_56 (by first | rfl | assumption) rfl (j := 0) (by decide) rfl lfN_9 ?_
      refine V_iload_n (i := 1) F dN_turnAbout_59 rfl rfl ?_
      refine V_iald F dN_turnAbout_60 hr rfl (by omega) ?_
      refine V_istore_n (i := 2) F dN_turnAbout_61 rfl (by decide) (by simp only [List.set_cons_zero, List.set_cons_succ]; exact rfl) ?_
      refine V_aload_n (i := 0) F dN_turnAbout_62 rfl rfl ?_
      refine V_getr (ci := 3) (C := R_N) (T := T_N) (N := 10) F dN_turnAbout_63 (by first | rfl | assumption) rfl (j := 0) (by decide) rfl lfN_9 ?_
      refine V_iload_n (i := 1) F dN_turnAbout_66 rfl rfl ?_
      refine V_aload_n (i := 0) F dN_turnAbout_67 rfl rfl ?_
      refine V_getr (ci := 3) (C := R_N) (T := T_N) (N := 10) F dN_turnAbout_68 (by first | rfl | assumption) rfl (j := 0) (by decide) rfl lfN_9 ?_
      refine V_aload_n (i := 0) F dN_turnAbout_71 rfl rfl ?_
      refine V_geti (ci := 3) (C := R_N) (T := T_N) (N := 10) F dN_turnAbout_72 (by first | rfl | assumption) rfl (j := 1) 1 rfl (by decide) rfl lfN_27 ?_
      rw [hI.1 k (Ne.symm hkr), hv.1 k (Ne.symm hkr)]
      refine V_iconst F dN_turnAbout_75 (by decide) ?_
      refine V_isub F dN_turnAbout_76 (by omega) ?_
      refine V_iload_n (i := 1) F dN_turnAbout_77 rfl rfl ?_
      refine V_isub F dN_turnAbout_78 (by omega) ?_
      refine V_iald F dN_turnAbout_79 hr rfl (by omega) ?_
      refine V_iast F dN_turnAbout_80 hr rfl (by omega) ?_
      refine V_aload_n (i := 0) F dN_turnAbout_81 rfl rfl ?_
      refine V_getr (ci := 3) (C := R_N) (T := T_N) (N := 10) F dN_turnAbout_82 (by first | rfl | assumption) rfl (j := 0) (by decide) rfl lfN_9 ?_
      refine V_aload_n (i := 0) F dN_turnAbout_85 rfl rfl ?_
      refine V_geti (ci := 3) (C := R_N) (T := T_N) (N := 10) F dN_turnAbout_86 (by first | rfl | assumption) rfl (j := 1) 1 rfl (by decide) rfl lfN_27 ?_
      rw [upw_k (Ne.symm hkr), hI.1 k (Ne.symm hkr), hv.1 k (Ne.symm hkr)]
      refine V_iconst F dN_turnAbout_89 (by decide) ?_
      refine V_isub F dN_turnAbout_90 (by omega) ?_
      refine V_iload_n (i := 1) F dN_turnAbout_91 rfl rfl ?_
      refine V_isub F dN_turnAbout_92 (by omega) ?_
      refine V_iload_n (i := 2) F dN_turnAbout_93 rfl rfl ?_
      refine V_iast F dN_turnAbout_94 hr rfl (by omega) ?_
      refine V_iinc F dN_turnAbout_95 (by decide) rfl (by omega) (by simp only [List.set_cons_zero, List.set_cons_succ]; exact rfl) ?_
      refine V_goto F 45 dN_turnAbout_98 (by decide) ?_
      refine ih (i + 1) _ _ (by omega) (by omega) (by omega) ⟨fun j j1 => ?_, fun j hj => ?_, fun j hj => ?_⟩
      · rw [upw_f j1, upw_f j1]; exact hI.1 j j1
      · by_cases h1 : j = w k 1 - 1 - i
        · rw [h1, upw_s, hI.2.2 i (by omega)]
          congr 1
          omega
        · rw [upw_i h1]
          by_cases h2 : j = i
          · rw [h2, upw_s, hI.2.2 _ (by omega)]
          · rw [upw_i h2]
            exact hI.2.1 j (by omega)
      · rw [upw_i (by omega), upw_i (by omega)]
        exact hI.2.2 j (by omega)
theorem lpN_turn1 {G : vG} {X : vX} {Q : State → Prop} {w : RW} {k r o : Nat} (hk : shp[k]? = some (.inr (.inl (3, [some r, none, none, none, none, none, some o, none, none, none])))) (hr : shp[r]? = some (.inl (0, 96))) (ho : shp[o]? = some (.inl (0, 6))) (hkr : r ≠ k) (hn : 0 ≤ w k 1 ∧ w k 1 ≤ 96) (hx : ∀ i, 0 ≤ i → i < w k 1 → okR (w r i)) (F : FX G X cN_turnAbout yN_turnAbout.cls 3 2) (hR : RetV G X cN_turnAbout 3 Q (fun u => (∀ j, j ≠ k → j ≠ r → u j = w j) ∧ (u k 9 = 0 ∧ ∀ f, f ≠ 9 → u k f = w k f) ∧ (∀ i, 0 ≤ i → i < w k 1 → u r i = flp (w r (w k 1 - 1 - i))) ∧ ∀ i, ¬ (0 ≤ i ∧ i < w k 1) → u r i = w r i)) : ∀ (m : Nat) (i : Int) (u0 : RW), 0 ≤ i → i ≤ w k 1 → w k 1 - i < m → ta1 w u0 r i → V G X 3 Q 2 [some (.inr k), some (.inl i), none] [] u0 := by
  intro m
  induction m with
  | zero => intro i u0 h1 h2 h3; omega
  | succ m ih =>
    intro i u0 h1 h2 h3 hI
    refine V_iload_n (i := 1) F dN_turnAbout_2 rfl rfl ?_
    refine V_aload_n (i := 0) F dN_turnAbout_3 rfl rfl ?_
    refine V_geti (ci := 3) (C := R_N) (T := T_N) (N := 10) F dN_turnAbout_4 (by first | rfl | assumption) rfl (j := 1) 1 rfl (by decide) rfl lfN_27 ?_
    rw [hI.1 k (Ne.symm hkr)]
    refine V_icmp_ge F 43 dN_turnAbout_7 (by decide) (fun h7 => ?_) (fun h7 => ?_)
    · refine V_iconst F dN_turnAbout_43 (by decide) ?_
      refine V_istore_n (i := 1) F dN_turnAbout_44 rfl (by decide) (by simp only [List.set_cons_zero, List.set_cons_succ]; exact rfl) ?_
      rw [show i = w k 1 by omega] at hI
      exact lpN_turn2 hk hr ho hkr hn hx F hR hI ((w k 1 / 2).toNat + 1) 0 u0 _ (by omega) (by omega) (by omega) ⟨fun j _ => rfl, fun j hj => by omega, fun j _ => rfl⟩
    · obtain ⟨x1, x2, x3, x4, x5⟩ := hx i h1 (by omega)
      have hO := otE_rng (by omega) x5
      refine V_aload_n (i := 0) F dN_turnAbout_10 rfl rfl ?_
      refine V_getr (ci := 3) (C := R_N) (T := T_N) (N := 10) F dN_turnAbout_11 (by first | rfl | assumption) rfl (j := 0) (by decide) rfl lfN_9 ?_
      refine V_iload_n (i := 1) F dN_turnAbout_14 rfl rfl ?_
      refine V_aload_n (i := 0) F dN_turnAbout_15 rfl rfl ?_
      refine V_getr (ci := 3) (C := R_N) (T := T_N) (N := 10) F dN_turnAbout_16 (by first | rfl | assumption) rfl (j := 0) (by decide) rfl lfN_9 ?_
      refine V_iload_n (i := 1) F dN_turnAbout_19 rfl rfl ?_
      refine V_iald F dN_turnAbout_20 hr rfl (by omega) ?_
      rw [hI.2.2 i (by omega)]
      refine V_callSi F dN_turnAbout_21 lmN_64 miS_placeOf msS_placeOf (ctS_placeOf (by omega)) (by decide) rfl (Nat.le_of_ble_eq_true rfl) (fun r u hr => ?_)
      obtain ⟨rfl, rfl⟩ := hr
      refine V_aload_n (i := 0) F dN_turnAbout_24 rfl rfl ?_
      refine V_getr (ci := 3) (C := R_N) (T := T_N) (N := 10) F dN_turnAbout_25 (by first | rfl | assumption) rfl (j := 0) (by decide) rfl lfN_9 ?_
      refine V_iload_n (i := 1) F dN_turnAbout_28 rfl rfl ?_
      refine V_iald F dN_turnAbout_29 hr rfl (by omega) ?_
      rw [hI.2.2 i (by omega)]
      refine V_callSi F dN_turnAbout_30 lmN_70 miS_entryOf msS_entryOf (ctS_entryOf (by omega) (by omega)) (by decide) rfl (Nat.le_of_ble_eq_true rfl) (fun r u hr => ?_)
      obtain ⟨rfl, rfl⟩ := hr
      refine V_callSi F dN_turnAbout_33 lmN_73 miS_run msS_run (ctS_run (by omega)) (by decide) rfl (Nat.le_of_ble_eq_true rfl) (fun r u hr => ?_)
      obtain ⟨rfl, rfl⟩ := hr
      refine V_iast F dN_turnAbout_36 (by first | rfl | assumption) rfl (by omega) ?_
      refine V_iinc F dN_turnAbout_37 (by decide) rfl (by omega) (by simp only [List.set_cons_zero, List.set_cons_succ]; exact rfl) ?_
      refine V_goto F 2 dN_turnAbout_40 (by decide) ?_
      refine ih (i + 1) _ (by omega) (by omega) (by omega) ⟨fun j j1 => ?_, fun j j1 j2 => ?_, fun j hj => ?_⟩
      · rw [upw_f j1]; exact hI.1 j j1
      · by_cases hj : j = i
        · rw [hj, upw_s]; rfl
        · rw [upw_i hj]; exact hI.2.1 j j1 (by omega)
      · rw [upw_i (by omega)]; exact hI.2.2 j (by omega)
theorem ctN_turnAbout {G : vG} {l : Launch} {w : RW} {k r o : Nat} (hk : shp[k]? = some (.inr (.inl (3, [some r, none, none, none, none, none, some o, none, none, none])))) (hr : shp[r]? = some (.inl (0, 96))) (ho : shp[o]? = some (.inl (0, 6))) (hkr : r ≠ k) (hn : 0 ≤ w k 1 ∧ w k 1 ≤ 96) (hx : ∀ i, 0 ≤ i → i < w k 1 → okR (w r i)) : CTv G l yN_turnAbout cN_turnAbout 3 2 [.inr k] w (fun u => (∀ j, j ≠ k → j ≠ r → u j = w j) ∧ (u k 9 = 0 ∧ ∀ f, f ≠ 9 → u k f = w k f) ∧ (∀ i, 0 ≤ i → i < w k 1 → u r i = flp (w r (w k 1 - 1 - i))) ∧ ∀ i, ¬ (0 ≤ i ∧ i < w k 1) → u r i = w r i) := by
  refine CTv.intro (by decide) (Nat.le_of_ble_eq_true rfl) ?_
  intro X Q F hX hR
  subst hX
  show V G X 3 Q 0 [some (.inr k), none, none] [] w
  refine V_iconst F dN_turnAbout_0 (by decide) ?_
  refine V_istore_n (i := 1) F dN_turnAbout_1 rfl (by decide) (by simp only [List.set_cons_zero, List.set_cons_succ]; exact rfl) ?_
  exact lpN_turn1 hk hr ho hkr hn hx F hR ((w k 1).toNat + 1) 0 _ (by omega) (by omega) (by omega) ⟨fun j _ => rfl, fun j j1 j2 => by omega, fun j _ => rfl⟩
theorem ctW_rest {G : vG} {l : Launch} {w : RW} {x s g : Int} (hx : 0 ≤ x ∧ x < 2048) (hs : 0 ≤ s ∧ s < 6) : CTi G l yW_rest cW_rest 4 .int 1 [.inr 63, .inl x, .inl s, .inl g] w (fun z u => z = (if x % 512 = g then 0 else w (65 + s.toNat) (x % 64 + 64 * (x / 512))) ∧ w = u) := by
  refine CTi.int (by decide) (Nat.le_of_ble_eq_true rfl) ?_
  intro X Q F hX hR
  subst hX
  show V G X 4 Q 0 [some (.inr 63), some (.inl x), some (.inl s), some (.inl g)] [] w
  refine V_iload_n (i := 1) F dW_rest_0 rfl rfl ?_
  refine V_callSi F dW_rest_1 lmW_27 miS_placeOf msS_placeOf (ctS_placeOf (by omega)) (by decide) rfl (Nat.le_of_ble_eq_true rfl) (fun r u hr => ?_)
  obtain ⟨rfl, rfl⟩ := hr
  refine V_iload_n (i := 3) F dW_rest_4 rfl rfl ?_
  refine V_icmp_ne F 10 dW_rest_5 (by decide) (fun h5 => ?_) (fun h5 => ?_)
  · have a1 := ls65_at hs
    have a2 := ls65_sh hs
    refine V_aload_n (i := 0) F dW_rest_10 rfl rfl ?_
    refine V_getr (ci := 4) (C := R_W) (T := T_W) (N := 6) F dW_rest_11 (by first | rfl | assumption) rfl (j := 0) (by decide) rfl lfW_11 ?_
    refine V_iload_n (i := 2) F dW_rest_14 rfl rfl ?_
    first
      | refine V_aald F dW_rest_15 (by first | rfl | assumption) rfl (by omega) (by first | rfl | assumption) ?_
      | refine V_aaldA F dW_rest_15 (by first | rfl | assumption) rfl (by omega) (by first | rfl | assumption) ?_
    refine V_iload_n (i := 1) F dW_rest_16 rfl rfl ?_
    refine V_callSi F dW_rest_17 lmW_33 miS_tileOf msS_tileOf (ctS_tileOf (by omega)) (by decide) rfl (Nat.le_of_ble_eq_true rfl) (fun r u hr => ?_)
    obtain ⟨rfl, rfl⟩ := hr
    refine V_iload_n (i := 1) F dW_rest_20 rfl rfl ?_
    refine V_callSi F dW_rest_21 lmW_36 miS_edgeOf msS_edgeOf (ctS_edgeOf (by omega)) (by decide) rfl (Nat.le_of_ble_eq_true rfl) (fun r u hr => ?_)
    obtain ⟨rfl, rfl⟩ := hr
    refine V_callSi F dW_rest_24 lmW_39 miS_exit msS_exit (ctS_exit (by omega)) (by decide) rfl (Nat.le_of_ble_eq_true rfl) (fun r u hr => ?_)
    obtain ⟨rfl, rfl⟩ := hr
    first
      | refine V_sald F dW_rest_27 (by decide) (by omega) (stt_in _ _) ?_
      | refine V_iald F dW_rest_27 (by first | rfl | assumption) rfl (by omega) ?_
    exact hR _ _ _ _ dW_rest_28 (by first | exact ⟨(if_pos h5).symm, rfl⟩ | exact ⟨(if_neg h5).symm, rfl⟩)
  · refine V_iconst F dW_rest_8 (by decide) ?_
    exact hR _ _ _ _ dW_rest_9 (by first | exact ⟨(if_pos h5).symm, rfl⟩ | exact ⟨(if_neg h5).symm, rfl⟩)
def putQ (w : RW) (e : Int) (u : RW) : Prop := (w 72 e = 0 ∧ w 63 5 < 256 ∧ upw (upw (upw w 72 e 1) 71 ((w 63 4 + w 63 5) % 256) e) 63 5 (w 63 5 + 1) = u) ∨ (¬ (w 72 e = 0 ∧ w 63 5 < 256) ∧ w = u)
theorem ctW_putInQueue {G : vG} {l : Launch} {w : RW} {e : Int} (he : 0 ≤ e ∧ e < 256) (hq : 0 ≤ w 63 4 ∧ w 63 4 < 256 ∧ 0 ≤ w 63 5 ∧ w 63 5 ≤ 256) : CTv G l yW_putInQueue cW_putInQueue 2 0 [.inr 63, .inl e] w (fun u => putQ w e u) := by
  refine CTv.intro (by decide) (Nat.le_of_ble_eq_true rfl) ?_
  intro X Q F hX hR
  subst hX
  show V G X 2 Q 0 [some (.inr 63), some (.inl e)] [] w
  refine V_aload_n (i := 0) F dW_putInQueue_0 rfl rfl ?_
  refine V_getr (ci := 4) (C := R_W) (T := T_W) (N := 6) F dW_putInQueue_1 (by first | rfl | assumption) rfl (j := 3) (by decide) rfl lfW_20 ?_
  refine V_iload_n (i := 1) F dW_putInQueue_4 rfl rfl ?_
  first
    | refine V_sald F dW_putInQueue_5 (by decide) (by omega) (stt_in _ _) ?_
    | refine V_iald F dW_putInQueue_5 (by first | rfl | assumption) rfl (by omega) ?_
  refine V_if_ne F 55 dW_putInQueue_6 (by decide) (fun h6 => ?_) (fun h6 => ?_)
  · exact hR _ _ _ dW_putInQueue_55 (by first | exact Or.inr ⟨by omega, rfl⟩ | exact Or.inl ⟨by omega, by omega, rfl⟩)
  · refine V_aload_n (i := 0) F dW_putInQueue_9 rfl rfl ?_
    refine V_geti (ci := 4) (C := R_W) (T := T_W) (N := 6) F dW_putInQueue_10 (by first | rfl | assumption) rfl (j := 5) 5 rfl (by decide) rfl lfW_91 ?_
    refine V_sipush F dW_putInQueue_13 (by decide) ?_
    refine V_icmp_ge F 55 dW_putInQueue_16 (by decide) (fun h16 => ?_) (fun h16 => ?_)
    · exact hR _ _ _ dW_putInQueue_55 (by first | exact Or.inr ⟨by omega, rfl⟩ | exact Or.inl ⟨by omega, by omega, rfl⟩)
    · refine V_aload_n (i := 0) F dW_putInQueue_19 rfl rfl ?_
      refine V_getr (ci := 4) (C := R_W) (T := T_W) (N := 6) F dW_putInQueue_20 (by first | rfl | assumption) rfl (j := 3) (by decide) rfl lfW_20 ?_
      refine V_iload_n (i := 1) F dW_putInQueue_23 rfl rfl ?_
      refine V_iconst F dW_putInQueue_24 (by decide) ?_
      refine V_iast F dW_putInQueue_25 (by first | rfl | assumption) rfl (by omega) ?_
      refine V_aload_n (i := 0) F dW_putInQueue_26 rfl rfl ?_
      refine V_getr (ci := 4) (C := R_W) (T := T_W) (N := 6) F dW_putInQueue_27 (by first | rfl | assumption) rfl (j := 2) (by decide) rfl lfW_16 ?_
      refine V_aload_n (i := 0) F dW_putInQueue_30 rfl rfl ?_
      refine V_geti (ci := 4) (C := R_W) (T := T_W) (N := 6) F dW_putInQueue_31 (by first | rfl | assumption) rfl (j := 4) 4 rfl (by decide) rfl lfW_106 ?_
      rw [upw_k (by decide)]
      refine V_aload_n (i := 0) F dW_putInQueue_34 rfl rfl ?_
      refine V_geti (ci := 4) (C := R_W) (T := T_W) (N := 6) F dW_putInQueue_35 (by first | rfl | assumption) rfl (j := 5) 5 rfl (by decide) rfl lfW_91 ?_
      rw [upw_k (by decide)]
      refine V_iadd F dW_putInQueue_38 (by omega) ?_
      refine V_sipush F dW_putInQueue_39 (by decide) ?_
      refine V_irem F dW_putInQueue_42 (by omega) ?_
      refine V_iload_n (i := 1) F dW_putInQueue_43 rfl rfl ?_
      refine V_iast F dW_putInQueue_44 (by first | rfl | assumption) rfl (by omega) ?_
      refine V_aload_n (i := 0) F dW_putInQueue_45 rfl rfl ?_
      refine V_dup F dW_putInQueue_46 ?_
      refine V_geti (ci := 4) (C := R_W) (T := T_W) (N := 6) F dW_putInQueue_47 (by first | rfl | assumption) rfl (j := 5) 5 rfl (by decide) rfl lfW_91 ?_
      rw [upw_k (by decide), upw_k (by decide)]
      refine V_iconst F dW_putInQueue_50 (by decide) ?_
      refine V_iadd F dW_putInQueue_51 (by omega) ?_
      refine V_puti (ci := 4) (C := R_W) (T := T_W) (N := 6) F dW_putInQueue_52 (by first | rfl | assumption) rfl (j := 5) 5 rfl (by decide) rfl rfl rfl lfW_91 ?_
      exact hR _ _ _ dW_putInQueue_55 (by first | exact Or.inr ⟨by omega, rfl⟩ | exact Or.inl ⟨by omega, by omega, rfl⟩)
theorem ctW_takeFromQueue {G : vG} {l : Launch} {w : RW} (hq : 0 ≤ w 63 4 ∧ w 63 4 < 256 ∧ 0 < w 63 5 ∧ w 63 5 ≤ 256) (he : 0 ≤ w 71 (w 63 4) ∧ w 71 (w 63 4) < 256) : CTi G l yW_takeFromQueue cW_takeFromQueue 2 .int 0 [.inr 63] w (fun z u => z = w 71 (w 63 4) ∧ upw (upw (upw w 63 4 ((w 63 4 + 1) % 256)) 63 5 (w 63 5 - 1)) 72 (w 71 (w 63 4)) 0 = u) := by
  refine CTi.int (by decide) (Nat.le_of_ble_eq_true rfl) ?_
  intro X Q F hX hR
  subst hX
  show V G X 2 Q 0 [some (.inr 63), none] [] w
  refine V_aload_n (i := 0) F dW_takeFromQueue_0 rfl rfl ?_
  refine V_getr (ci := 4) (C := R_W) (T := T_W) (N := 6) F dW_takeFromQueue_1 (by first | rfl | assumption) rfl (j := 2) (by decide) rfl lfW_16 ?_
  refine V_aload_n (i := 0) F dW_takeFromQueue_4 rfl rfl ?_
  refine V_geti (ci := 4) (C := R_W) (T := T_W) (N := 6) F dW_takeFromQueue_5 (by first | rfl | assumption) rfl (j := 4) 4 rfl (by decide) rfl lfW_106 ?_
  first
    | refine V_sald F dW_takeFromQueue_8 (by decide) (by omega) (stt_in _ _) ?_
    | refine V_iald F dW_takeFromQueue_8 (by first | rfl | assumption) rfl (by omega) ?_
  refine V_istore_n (i := 1) F dW_takeFromQueue_9 rfl (by decide) (by simp only [List.set_cons_zero, List.set_cons_succ]; exact rfl) ?_
  refine V_aload_n (i := 0) F dW_takeFromQueue_10 rfl rfl ?_
  refine V_aload_n (i := 0) F dW_takeFromQueue_11 rfl rfl ?_
  refine V_geti (ci := 4) (C := R_W) (T := T_W) (N := 6) F dW_takeFromQueue_12 (by first | rfl | assumption) rfl (j := 4) 4 rfl (by decide) rfl lfW_106 ?_
  refine V_iconst F dW_takeFromQueue_15 (by decide) ?_
  refine V_iadd F dW_takeFromQueue_16 (by omega) ?_
  refine V_sipush F dW_takeFromQueue_17 (by decide) ?_
  refine V_irem F dW_takeFromQueue_20 (by omega) ?_
  refine V_puti (ci := 4) (C := R_W) (T := T_W) (N := 6) F dW_takeFromQueue_21 (by first | rfl | assumption) rfl (j := 4) 4 rfl (by decide) rfl rfl rfl lfW_106 ?_
  refine V_aload_n (i := 0) F dW_takeFromQueue_24 rfl rfl ?_
  refine V_dup F dW_takeFromQueue_25 ?_
  refine V_geti (ci := 4) (C := R_W) (T := T_W) (N := 6) F dW_takeFromQueue_26 (by first | rfl | assumption) rfl (j := 5) 5 rfl (by decide) rfl lfW_91 ?_
  rw [upw_i (by decide)]
  refine V_iconst F dW_takeFromQueue_29 (by decide) ?_
  refine V_isub F dW_takeFromQueue_30 (by omega) ?_
  refine V_puti (ci := 4) (C := R_W) (T := T_W) (N := 6) F dW_takeFromQueue_31 (by first | rfl | assumption) rfl (j := 5) 5 rfl (by decide) rfl rfl rfl lfW_91 ?_
  refine V_aload_n (i := 0) F dW_takeFromQueue_34 rfl rfl ?_
  refine V_getr (ci := 4) (C := R_W) (T := T_W) (N := 6) F dW_takeFromQueue_35 (by first | rfl | assumption) rfl (j := 3) (by decide) rfl lfW_20 ?_
  refine V_iload_n (i := 1) F dW_takeFromQueue_38 rfl rfl ?_
  refine V_iconst F dW_takeFromQueue_39 (by decide) ?_
  refine V_iast F dW_takeFromQueue_40 (by first | rfl | assumption) rfl (by omega) ?_
  refine V_iload_n (i := 1) F dW_takeFromQueue_41 rfl rfl ?_
  exact hR _ _ _ _ dW_takeFromQueue_42 (⟨rfl, rfl⟩)
theorem gco_rng {lit x : Int} : 7 ≤ gco lit x ∧ gco lit x ≤ 1048576 := by
  unfold gco
  by_cases h : lit = 0
  · rw [if_pos h]; split <;> omega
  · rw [if_neg h]
    by_cases h2 : tb lit (x / 512)
    · rw [cif_t h2]; split <;> omega
    · rw [cif_f h2]; omega
noncomputable def ofS (w : RW) (x z : Int) : Int := gco (w 4 (x % 512)) x + z
noncomputable def ofX (w : RW) (x : Int) : Int := fbT w x + 64 * fbE x
/-- what a run with z to go behind it does to the sums -/
def ofR (w : RW) (s x z : Int) (u : RW) : Prop := ((fbT w x = -1 ∨ ¬ ofS w x z < w (65 + s.toNat) (ofX w x)) ∧ w = u) ∨ (¬ fbT w x = -1 ∧ ofS w x z < w (65 + s.toNat) (ofX w x) ∧ putQ (upw w (65 + s.toNat) (ofX w x) (ofS w x z)) (ofX w x) u)
theorem ctW_offer {G : vG} {l : Launch} {w : RW} {s x z : Int} (hx : okR x) (hz : 0 ≤ z ∧ z ≤ 1048576) (hb : w 2 0 ≤ 8 ∧ w 2 1 ≤ 6) (hl : ∀ p, 0 ≤ p → p < 384 → 0 ≤ w 4 p) (hs : 0 ≤ s ∧ s < 6) (hq : 0 ≤ w 63 4 ∧ w 63 4 < 256 ∧ 0 ≤ w 63 5 ∧ w 63 5 ≤ 256) : CTv G l yW_offer cW_offer 9 2 [.inr 63, .inr 2, .inl s, .inl x, .inl z] w (fun u => ofR w s x z u) := by
  refine CTv.intro (by decide) (Nat.le_of_ble_eq_true rfl) ?_
  intro X Q F hX hR
  subst hX
  show V G X 9 Q 0 [some (.inr 63), some (.inr 2), some (.inl s), some (.inl x), some (.inl z), none, none, none, none] [] w
  obtain ⟨x1, x2, x3, x4, x5⟩ := hx
  have hO := otE_rng (by omega) x5
  have a1 := ls65_at hs
  have a2 := ls65_sh hs
  have hg := gco_rng (lit := w 4 (x % 512)) (x := x)
  have hT : fbT w x = -1 ∨ (0 ≤ fbT w x ∧ fbT w x < 48) := acr_rng (by omega) (by omega)
  have hE : 0 ≤ fbE x ∧ fbE x < 4 := by unfold fbE; omega
  have hX : ofX w x = fbT w x + 64 * fbE x := rfl
  refine V_aload_n (i := 1) F dW_offer_0 rfl rfl ?_
  refine V_iload_n (i := 3) F dW_offer_1 rfl rfl ?_
  refine V_callVi F dW_offer_2 lmW_65 miG_cost mvG_cost (ctG_cost (by omega) (by omega) (hl _ (by omega) (by omega))) (by decide) (by first | rfl | assumption) rfl rfl (Nat.le_of_ble_eq_true rfl) (fun r u hr => ?_)
  obtain ⟨rfl, rfl⟩ := hr
  refine V_iload F dW_offer_5 rfl ?_
  refine V_iadd F dW_offer_7 (by omega) ?_
  refine V_istore F dW_offer_8 (by decide) (by simp only [List.set_cons_zero, List.set_cons_succ]; exact rfl) ?_
  refine V_iload_n (i := 3) F dW_offer_10 rfl rfl ?_
  refine V_callSi F dW_offer_11 lmW_99 miS_entryOf msS_entryOf (ctS_entryOf (by omega) (by omega)) (by decide) rfl (Nat.le_of_ble_eq_true rfl) (fun r u hr => ?_)
  obtain ⟨rfl, rfl⟩ := hr
  refine V_istore F dW_offer_14 (by decide) (by simp only [List.set_cons_zero, List.set_cons_succ]; exact rfl) ?_
  refine V_aload_n (i := 1) F dW_offer_16 rfl rfl ?_
  refine V_iload_n (i := 3) F dW_offer_17 rfl rfl ?_
  refine V_callSi F dW_offer_18 lmW_33 miS_tileOf msS_tileOf (ctS_tileOf (by omega)) (by decide) rfl (Nat.le_of_ble_eq_true rfl) (fun r u hr => ?_)
  obtain ⟨rfl, rfl⟩ := hr
  refine V_iload F dW_offer_21 rfl ?_
  refine V_callVi F dW_offer_23 lmW_43 miG_across mvG_across (ctG_across (by omega) hO) (by decide) (by first | rfl | assumption) rfl rfl (Nat.le_of_ble_eq_true rfl) (fun r u hr => ?_)
  obtain ⟨rfl, rfl⟩ := hr
  show V _ _ _ _ _ _ (.inl (fbT w x) :: _) _
  refine V_istore F dW_offer_26 (by decide) (by simp only [List.set_cons_zero, List.set_cons_succ]; exact rfl) ?_
  refine V_iload F dW_offer_28 rfl ?_
  refine V_iconst F dW_offer_30 (by decide) ?_
  refine V_icmp_ne F 35 dW_offer_31 (by decide) (fun h31 => ?_) (fun h31 => ?_)
  · refine V_iload F dW_offer_35 rfl ?_
    refine V_iload F dW_offer_37 rfl ?_
    refine V_callSi F dW_offer_39 lmW_48 miS_opposite msS_opposite (ctS_opposite hO) (by decide) rfl (Nat.le_of_ble_eq_true rfl) (fun r u hr => ?_)
    obtain ⟨rfl, rfl⟩ := hr
    show V _ _ _ _ _ _ (.inl (fbE x) :: _) _
    refine V_callSi F dW_offer_42 lmW_39 miS_exit msS_exit (ctS_exit (by omega)) (by decide) rfl (Nat.le_of_ble_eq_true rfl) (fun r u hr => ?_)
    obtain ⟨rfl, rfl⟩ := hr
    show V _ _ _ _ _ _ (.inl (ofX w x) :: _) _
    refine V_istore F dW_offer_45 (by decide) (by simp only [List.set_cons_zero, List.set_cons_succ]; exact rfl) ?_
    refine V_iload F dW_offer_47 rfl ?_
    refine V_aload_n (i := 0) F dW_offer_49 rfl rfl ?_
    refine V_getr (ci := 4) (C := R_W) (T := T_W) (N := 6) F dW_offer_50 (by first | rfl | assumption) rfl (j := 0) (by decide) rfl lfW_11 ?_
    refine V_iload_n (i := 2) F dW_offer_53 rfl rfl ?_
    first
      | refine V_aald F dW_offer_54 (by first | rfl | assumption) rfl (by omega) (by first | rfl | assumption) ?_
      | refine V_aaldA F dW_offer_54 (by first | rfl | assumption) rfl (by omega) (by first | rfl | assumption) ?_
    refine V_iload F dW_offer_55 rfl ?_
    first
      | refine V_sald F dW_offer_57 (by decide) (by omega) (stt_in _ _) ?_
      | refine V_iald F dW_offer_57 (by first | rfl | assumption) rfl (by omega) ?_
    refine V_icmp_ge F 78 dW_offer_58 (by decide) (fun h58 => ?_) (fun h58 => ?_)
    · exact hR _ _ _ dW_offer_78 (by first | exact Or.inl ⟨Or.inl h31, rfl⟩ | exact Or.inr ⟨h31, by unfold ofS; omega, hr⟩ | exact Or.inl ⟨Or.inr (by unfold ofS; omega), rfl⟩)
    · refine V_aload_n (i := 0) F dW_offer_61 rfl rfl ?_
      refine V_getr (ci := 4) (C := R_W) (T := T_W) (N := 6) F dW_offer_62 (by first | rfl | assumption) rfl (j := 0) (by decide) rfl lfW_11 ?_
      refine V_iload_n (i := 2) F dW_offer_65 rfl rfl ?_
      first
        | refine V_aald F dW_offer_66 (by first | rfl | assumption) rfl (by omega) (by first | rfl | assumption) ?_
        | refine V_aaldA F dW_offer_66 (by first | rfl | assumption) rfl (by omega) (by first | rfl | assumption) ?_
      refine V_iload F dW_offer_67 rfl ?_
      refine V_iload F dW_offer_69 rfl ?_
      refine V_iast F dW_offer_71 (by first | rfl | assumption) rfl (by omega) ?_
      refine V_aload_n (i := 0) F dW_offer_72 rfl rfl ?_
      refine V_iload F dW_offer_73 rfl ?_
      refine V_callVv F dW_offer_75 lmW_102 miW_putInQueue mvW_putInQueue (ctW_putInQueue (w := upw w (65 + s.toNat) (ofX w x) (ofS w x z)) (by omega) (by rw [upw_k (by omega), upw_k (by omega)]; exact hq)) (by decide) (by first | rfl | assumption) rfl rfl (Nat.le_of_ble_eq_true rfl) (fun u hr => ?_)
      skip
      exact hR _ _ _ dW_offer_78 (by first | exact Or.inl ⟨Or.inl h31, rfl⟩ | exact Or.inr ⟨h31, by unfold ofS; omega, hr⟩ | exact Or.inl ⟨Or.inr (by unfold ofS; omega), rfl⟩)
  · exact hR _ _ _ dW_offer_34 (by first | exact Or.inl ⟨Or.inl h31, rfl⟩ | exact Or.inr ⟨h31, by unfold ofS; omega, hr⟩ | exact Or.inl ⟨Or.inr (by unfold ofS; omega), rfl⟩)
end
section
theorem dW_next_0 : decode cW_next 0 = .ok (.aload_n 1, 1) := by decide +kernel
theorem dW_next_1 : decode cW_next 1 = .ok (.iload_n 2, 1) := by decide +kernel
theorem dW_next_2 : decode cW_next 2 = .ok (.invokestatic 33, 3) := by decide +kernel
theorem dW_next_5 : decode cW_next 5 = .ok (.iload_n 2, 1) := by decide +kernel
theorem dW_next_6 : decode cW_next 6 = .ok (.invokestatic 36, 3) := by decide +kernel
theorem dW_next_9 : decode cW_next 9 = .ok (.invokevirtual 43, 3) := by decide +kernel
theorem dW_next_12 : decode cW_next 12 = .ok (.istore 5, 2) := by decide +kernel
theorem dW_next_14 : decode cW_next 14 = .ok (.iload_n 2, 1) := by decide +kernel
theorem dW_next_15 : decode cW_next 15 = .ok (.invokestatic 36, 3) := by decide +kernel
theorem dW_next_18 : decode cW_next 18 = .ok (.invokestatic 48, 3) := by decide +kernel
theorem dW_next_21 : decode cW_next 21 = .ok (.istore 6, 2) := by decide +kernel
theorem dW_next_23 : decode cW_next 23 = .ok (.iconst (-1), 1) := by decide +kernel
theorem dW_next_24 : decode cW_next 24 = .ok (.istore 7, 2) := by decide +kernel
theorem dW_next_26 : decode cW_next 26 = .ok (.ldc 51, 2) := by decide +kernel
theorem dW_next_28 : decode cW_next 28 = .ok (.istore 8, 2) := by decide +kernel
theorem dW_next_30 : decode cW_next 30 = .ok (.iconst 0, 1) := by decide +kernel
theorem dW_next_31 : decode cW_next 31 = .ok (.istore 9, 2) := by decide +kernel
theorem dW_next_33 : decode cW_next 33 = .ok (.iload 9, 2) := by decide +kernel
theorem dW_next_35 : decode cW_next 35 = .ok (.bipush 6, 2) := by decide +kernel
theorem dW_next_37 : decode cW_next 37 = .ok (.if_icmp .ge 80, 3) := by decide +kernel
theorem dW_next_40 : decode cW_next 40 = .ok (.iload 5, 2) := by decide +kernel
theorem dW_next_42 : decode cW_next 42 = .ok (.iconst (-1), 1) := by decide +kernel
theorem dW_next_43 : decode cW_next 43 = .ok (.if_icmp .eq 74, 3) := by decide +kernel
theorem dW_next_46 : decode cW_next 46 = .ok (.aload_n 1, 1) := by decide +kernel
theorem dW_next_47 : decode cW_next 47 = .ok (.iload 5, 2) := by decide +kernel
theorem dW_next_49 : decode cW_next 49 = .ok (.iload 9, 2) := by decide +kernel
theorem dW_next_51 : decode cW_next 51 = .ok (.iload 6, 2) := by decide +kernel
theorem dW_next_53 : decode cW_next 53 = .ok (.invokevirtual 52, 3) := by decide +kernel
theorem dW_next_56 : decode cW_next 56 = .ok (.ifCond .eq 55, 3) := by decide +kernel
theorem dW_next_59 : decode cW_next 59 = .ok (.iload 5, 2) := by decide +kernel
theorem dW_next_61 : decode cW_next 61 = .ok (.iload 9, 2) := by decide +kernel
theorem dW_next_63 : decode cW_next 63 = .ok (.invokestatic 56, 3) := by decide +kernel
theorem dW_next_66 : decode cW_next 66 = .ok (.iload 9, 2) := by decide +kernel
theorem dW_next_68 : decode cW_next 68 = .ok (.iload 6, 2) := by decide +kernel
theorem dW_next_70 : decode cW_next 70 = .ok (.invokestatic 59, 3) := by decide +kernel
theorem dW_next_73 : decode cW_next 73 = .ok (.invokestatic 62, 3) := by decide +kernel
theorem dW_next_76 : decode cW_next 76 = .ok (.istore 10, 2) := by decide +kernel
theorem dW_next_78 : decode cW_next 78 = .ok (.aload_n 1, 1) := by decide +kernel
theorem dW_next_79 : decode cW_next 79 = .ok (.iload 10, 2) := by decide +kernel
theorem dW_next_81 : decode cW_next 81 = .ok (.invokevirtual 65, 3) := by decide +kernel
theorem dW_next_84 : decode cW_next 84 = .ok (.aload_n 0, 1) := by decide +kernel
theorem dW_next_85 : decode cW_next 85 = .ok (.iload 10, 2) := by decide +kernel
theorem dW_next_87 : decode cW_next 87 = .ok (.iload_n 3, 1) := by decide +kernel
theorem dW_next_88 : decode cW_next 88 = .ok (.iload 4, 2) := by decide +kernel
theorem dW_next_90 : decode cW_next 90 = .ok (.invokevirtual 68, 3) := by decide +kernel
theorem dW_next_93 : decode cW_next 93 = .ok (.iadd, 1) := by decide +kernel
theorem dW_next_94 : decode cW_next 94 = .ok (.istore 11, 2) := by decide +kernel
theorem dW_next_96 : decode cW_next 96 = .ok (.iload 11, 2) := by decide +kernel
theorem dW_next_98 : decode cW_next 98 = .ok (.iload 8, 2) := by decide +kernel
theorem dW_next_100 : decode cW_next 100 = .ok (.if_icmp .ge 11, 3) := by decide +kernel
theorem dW_next_103 : decode cW_next 103 = .ok (.iload 10, 2) := by decide +kernel
theorem dW_next_105 : decode cW_next 105 = .ok (.istore 7, 2) := by decide +kernel
theorem dW_next_107 : decode cW_next 107 = .ok (.iload 11, 2) := by decide +kernel
theorem dW_next_109 : decode cW_next 109 = .ok (.istore 8, 2) := by decide +kernel
theorem dW_next_111 : decode cW_next 111 = .ok (.iinc 9 1, 3) := by decide +kernel
theorem dW_next_114 : decode cW_next 114 = .ok (.goto (-81), 3) := by decide +kernel
theorem dW_next_117 : decode cW_next 117 = .ok (.iload 7, 2) := by decide +kernel
theorem dW_next_119 : decode cW_next 119 = .ok (.ireturn, 1) := by decide +kernel
theorem dM_onward_0 : decode cM_onward 0 = .ok (.ldc 119, 2) := by decide +kernel
theorem dM_onward_2 : decode cM_onward 2 = .ok (.istore_n 3, 1) := by decide +kernel
theorem dM_onward_3 : decode cM_onward 3 = .ok (.iconst 0, 1) := by decide +kernel
theorem dM_onward_4 : decode cM_onward 4 = .ok (.istore 4, 2) := by decide +kernel
theorem dM_onward_6 : decode cM_onward 6 = .ok (.iload 4, 2) := by decide +kernel
theorem dM_onward_8 : decode cM_onward 8 = .ok (.bipush 6, 2) := by decide +kernel
theorem dM_onward_10 : decode cM_onward 10 = .ok (.if_icmp .ge 86, 3) := by decide +kernel
theorem dM_onward_13 : decode cM_onward 13 = .ok (.aload_n 0, 1) := by decide +kernel
theorem dM_onward_14 : decode cM_onward 14 = .ok (.iload_n 1, 1) := by decide +kernel
theorem dM_onward_15 : decode cM_onward 15 = .ok (.iload 4, 2) := by decide +kernel
theorem dM_onward_17 : decode cM_onward 17 = .ok (.invokevirtual 123, 3) := by decide +kernel
theorem dM_onward_20 : decode cM_onward 20 = .ok (.istore 5, 2) := by decide +kernel
theorem dM_onward_22 : decode cM_onward 22 = .ok (.iload 5, 2) := by decide +kernel
theorem dM_onward_24 : decode cM_onward 24 = .ok (.ifCond .lt 66, 3) := by decide +kernel
theorem dM_onward_27 : decode cM_onward 27 = .ok (.aload_n 0, 1) := by decide +kernel
theorem dM_onward_28 : decode cM_onward 28 = .ok (.getfield 29, 3) := by decide +kernel
theorem dM_onward_31 : decode cM_onward 31 = .ok (.sipush 576, 3) := by decide +kernel
theorem dM_onward_34 : decode cM_onward 34 = .ok (.iload_n 2, 1) := by decide +kernel
theorem dM_onward_35 : decode cM_onward 35 = .ok (.imul, 1) := by decide +kernel
theorem dM_onward_36 : decode cM_onward 36 = .ok (.iload 5, 2) := by decide +kernel
theorem dM_onward_38 : decode cM_onward 38 = .ok (.iadd, 1) := by decide +kernel
theorem dM_onward_39 : decode cM_onward 39 = .ok (.iaload, 1) := by decide +kernel
theorem dM_onward_40 : decode cM_onward 40 = .ok (.ldc 119, 2) := by decide +kernel
theorem dM_onward_42 : decode cM_onward 42 = .ok (.if_icmp .ge 48, 3) := by decide +kernel
theorem dM_onward_45 : decode cM_onward 45 = .ok (.aload_n 0, 1) := by decide +kernel
theorem dM_onward_46 : decode cM_onward 46 = .ok (.getfield 29, 3) := by decide +kernel
theorem dM_onward_49 : decode cM_onward 49 = .ok (.sipush 576, 3) := by decide +kernel
theorem dM_onward_52 : decode cM_onward 52 = .ok (.iload_n 2, 1) := by decide +kernel
theorem dM_onward_53 : decode cM_onward 53 = .ok (.imul, 1) := by decide +kernel
theorem dM_onward_54 : decode cM_onward 54 = .ok (.iload 5, 2) := by decide +kernel
theorem dM_onward_56 : decode cM_onward 56 = .ok (.iadd, 1) := by decide +kernel
theorem dM_onward_57 : decode cM_onward 57 = .ok (.iaload, 1) := by decide +kernel
theorem dM_onward_58 : decode cM_onward 58 = .ok (.aload_n 0, 1) := by decide +kernel
theorem dM_onward_59 : decode cM_onward 59 = .ok (.iload 5, 2) := by decide +kernel
theorem dM_onward_61 : decode cM_onward 61 = .ok (.invokevirtual 126, 3) := by decide +kernel
theorem dM_onward_64 : decode cM_onward 64 = .ok (.iadd, 1) := by decide +kernel
theorem dM_onward_65 : decode cM_onward 65 = .ok (.iload_n 3, 1) := by decide +kernel
theorem dM_onward_66 : decode cM_onward 66 = .ok (.if_icmp .ge 24, 3) := by decide +kernel
theorem dM_onward_69 : decode cM_onward 69 = .ok (.aload_n 0, 1) := by decide +kernel
theorem dM_onward_70 : decode cM_onward 70 = .ok (.getfield 29, 3) := by decide +kernel
theorem dM_onward_73 : decode cM_onward 73 = .ok (.sipush 576, 3) := by decide +kernel
theorem dM_onward_76 : decode cM_onward 76 = .ok (.iload_n 2, 1) := by decide +kernel
theorem dM_onward_77 : decode cM_onward 77 = .ok (.imul, 1) := by decide +kernel
theorem dM_onward_78 : decode cM_onward 78 = .ok (.iload 5, 2) := by decide +kernel
theorem dM_onward_80 : decode cM_onward 80 = .ok (.iadd, 1) := by decide +kernel
theorem dM_onward_81 : decode cM_onward 81 = .ok (.iaload, 1) := by decide +kernel
theorem dM_onward_82 : decode cM_onward 82 = .ok (.aload_n 0, 1) := by decide +kernel
theorem dM_onward_83 : decode cM_onward 83 = .ok (.iload 5, 2) := by decide +kernel
theorem dM_onward_85 : decode cM_onward 85 = .ok (.invokevirtual 126, 3) := by decide +kernel
theorem dM_onward_88 : decode cM_onward 88 = .ok (.iadd, 1) := by decide +kernel
theorem dM_onward_89 : decode cM_onward 89 = .ok (.istore_n 3, 1) := by decide +kernel
theorem dM_onward_90 : decode cM_onward 90 = .ok (.iinc 4 1, 3) := by decide +kernel
theorem dM_onward_93 : decode cM_onward 93 = .ok (.goto (-87), 3) := by decide +kernel
theorem dM_onward_96 : decode cM_onward 96 = .ok (.iload_n 3, 1) := by decide +kernel
theorem dM_onward_97 : decode cM_onward 97 = .ok (.ireturn, 1) := by decide +kernel
theorem dM_next_0 : decode cM_next 0 = .ok (.aload_n 0, 1) := by decide +kernel
theorem dM_next_1 : decode cM_next 1 = .ok (.iload_n 1, 1) := by decide +kernel
theorem dM_next_2 : decode cM_next 2 = .ok (.iload_n 2, 1) := by decide +kernel
theorem dM_next_3 : decode cM_next 3 = .ok (.invokevirtual 120, 3) := by decide +kernel
theorem dM_next_6 : decode cM_next 6 = .ok (.istore_n 3, 1) := by decide +kernel
theorem dM_next_7 : decode cM_next 7 = .ok (.iconst 0, 1) := by decide +kernel
theorem dM_next_8 : decode cM_next 8 = .ok (.istore 4, 2) := by decide +kernel
theorem dM_next_10 : decode cM_next 10 = .ok (.iload 4, 2) := by decide +kernel
theorem dM_next_12 : decode cM_next 12 = .ok (.bipush 6, 2) := by decide +kernel
theorem dM_next_14 : decode cM_next 14 = .ok (.if_icmp .ge 74, 3) := by decide +kernel
theorem dM_next_17 : decode cM_next 17 = .ok (.iload_n 3, 1) := by decide +kernel
theorem dM_next_18 : decode cM_next 18 = .ok (.ldc 119, 2) := by decide +kernel
theorem dM_next_20 : decode cM_next 20 = .ok (.if_icmp .ge 68, 3) := by decide +kernel
theorem dM_next_23 : decode cM_next 23 = .ok (.aload_n 0, 1) := by decide +kernel
theorem dM_next_24 : decode cM_next 24 = .ok (.iload_n 1, 1) := by decide +kernel
theorem dM_next_25 : decode cM_next 25 = .ok (.iload 4, 2) := by decide +kernel
theorem dM_next_27 : decode cM_next 27 = .ok (.invokevirtual 123, 3) := by decide +kernel
theorem dM_next_30 : decode cM_next 30 = .ok (.istore 5, 2) := by decide +kernel
theorem dM_next_32 : decode cM_next 32 = .ok (.iload 5, 2) := by decide +kernel
theorem dM_next_34 : decode cM_next 34 = .ok (.ifCond .lt 48, 3) := by decide +kernel
theorem dM_next_37 : decode cM_next 37 = .ok (.aload_n 0, 1) := by decide +kernel
theorem dM_next_38 : decode cM_next 38 = .ok (.getfield 29, 3) := by decide +kernel
theorem dM_next_41 : decode cM_next 41 = .ok (.sipush 576, 3) := by decide +kernel
theorem dM_next_44 : decode cM_next 44 = .ok (.iload_n 2, 1) := by decide +kernel
theorem dM_next_45 : decode cM_next 45 = .ok (.imul, 1) := by decide +kernel
theorem dM_next_46 : decode cM_next 46 = .ok (.iload 5, 2) := by decide +kernel
theorem dM_next_48 : decode cM_next 48 = .ok (.iadd, 1) := by decide +kernel
theorem dM_next_49 : decode cM_next 49 = .ok (.iaload, 1) := by decide +kernel
theorem dM_next_50 : decode cM_next 50 = .ok (.ldc 119, 2) := by decide +kernel
theorem dM_next_52 : decode cM_next 52 = .ok (.if_icmp .ge 30, 3) := by decide +kernel
theorem dM_next_55 : decode cM_next 55 = .ok (.aload_n 0, 1) := by decide +kernel
theorem dM_next_56 : decode cM_next 56 = .ok (.getfield 29, 3) := by decide +kernel
theorem dM_next_59 : decode cM_next 59 = .ok (.sipush 576, 3) := by decide +kernel
theorem dM_next_62 : decode cM_next 62 = .ok (.iload_n 2, 1) := by decide +kernel
theorem dM_next_63 : decode cM_next 63 = .ok (.imul, 1) := by decide +kernel
theorem dM_next_64 : decode cM_next 64 = .ok (.iload 5, 2) := by decide +kernel
theorem dM_next_66 : decode cM_next 66 = .ok (.iadd, 1) := by decide +kernel
theorem dM_next_67 : decode cM_next 67 = .ok (.iaload, 1) := by decide +kernel
theorem dM_next_68 : decode cM_next 68 = .ok (.aload_n 0, 1) := by decide +kernel
theorem dM_next_69 : decode cM_next 69 = .ok (.iload 5, 2) := by decide +kernel
theorem dM_next_71 : decode cM_next 71 = .ok (.invokevirtual 126, 3) := by decide +kernel
theorem dM_next_74 : decode cM_next 74 = .ok (.iadd, 1) := by decide +kernel
theorem dM_next_75 : decode cM_next 75 = .ok (.iload_n 3, 1) := by decide +kernel
theorem dM_next_76 : decode cM_next 76 = .ok (.if_icmp .ne 6, 3) := by decide +kernel
theorem dM_next_79 : decode cM_next 79 = .ok (.iload 5, 2) := by decide +kernel
theorem dM_next_81 : decode cM_next 81 = .ok (.ireturn, 1) := by decide +kernel
theorem dM_next_82 : decode cM_next 82 = .ok (.iinc 4 1, 3) := by decide +kernel
theorem dM_next_85 : decode cM_next 85 = .ok (.goto (-75), 3) := by decide +kernel
theorem dM_next_88 : decode cM_next 88 = .ok (.iconst (-1), 1) := by decide +kernel
theorem dM_next_89 : decode cM_next 89 = .ok (.ireturn, 1) := by decide +kernel
theorem lmW_52 : Cond.methodLink R_W 52 yG_meets ∈ bigW := bw 507 (by decide +kernel) rfl
theorem lmW_56 : Cond.methodLink R_W 56 yS_place ∈ bigW := bw 508 (by decide +kernel) rfl
theorem lmW_59 : Cond.methodLink R_W 59 yS_otherEdge ∈ bigW := bw 514 (by decide +kernel) rfl
theorem lmW_62 : Cond.methodLink R_W 62 yS_run ∈ bigW := bw 479 (by decide +kernel) rfl
theorem lmW_68 : Cond.methodLink R_W 68 yW_rest ∈ bigW := bw 515 (by decide +kernel) rfl
theorem lcW_51 : Cond.constant R_W 51 (Int32.ofInt 1048576) ∈ bigW := bw 475 (by decide +kernel) rfl
theorem lmM_123 : Cond.methodLink R_M 123 yM_behind ∈ bigW := bw 767 (by decide +kernel) rfl
theorem lfM_29 : Cond.fieldLink R_M 29 "RailYardModel" "far" "[I" ∈ bigW := bw 641 (by decide +kernel) rfl
theorem lcM_119 : Cond.constant R_M 119 (Int32.ofInt 1000000000) ∈ bigW := bw 762 (by decide +kernel) rfl
theorem lmM_126 : Cond.methodLink R_M 126 yM_cost ∈ bigW := bw 792 (by decide +kernel) rfl
theorem lmM_120 : Cond.methodLink R_M 120 yM_onward ∈ bigW := bw 763 (by decide +kernel) rfl
theorem miW_rest : MI yW_rest cW_rest 4 (some .int) 3 := ⟨bw 518 (by decide +kernel) rfl, bw 40 (by decide +kernel) rfl, ⟨by decide +kernel, by decide +kernel⟩, by decide +kernel, by decide⟩
theorem mvW_rest : MV yW_rest := ⟨bw 516 (by decide +kernel) rfl, bw 517 (by decide +kernel) rfl⟩
theorem miM_behind : MI yM_behind cM_behind 7 (some .int) 2 := ⟨bw 770 (by decide +kernel) rfl, bw 48 (by decide +kernel) rfl, ⟨by decide +kernel, by decide +kernel⟩, by decide +kernel, by decide⟩
theorem mvM_behind : MV yM_behind := ⟨bw 769 (by decide +kernel) rfl, bw 17 (by decide +kernel) rfl⟩
theorem miM_cost : MI yM_cost cM_cost 2 (some .int) 1 := ⟨bw 795 (by decide +kernel) rfl, bw 48 (by decide +kernel) rfl, ⟨by decide +kernel, by decide +kernel⟩, by decide +kernel, by decide⟩
theorem mvM_cost : MV yM_cost := ⟨bw 794 (by decide +kernel) rfl, bw 21 (by decide +kernel) rfl⟩
theorem miM_onward : MI yM_onward cM_onward 6 (some .int) 2 := ⟨bw 766 (by decide +kernel) rfl, bw 48 (by decide +kernel) rfl, ⟨by decide +kernel, by decide +kernel⟩, by decide +kernel, by decide⟩
theorem mvM_onward : MV yM_onward := ⟨bw 765 (by decide +kernel) rfl, bw 16 (by decide +kernel) rfl⟩
/-- the ways on from run x: tile, entry, the run on over piece p, its sum -/
noncomputable def nxT (w : RW) (x : Int) : Int := acr (w 2 0) (w 2 1) (x % 64) (x / 512)
def nxE (x : Int) : Int := (x / 512 + 2) % 4
def nxP (w : RW) (x p : Int) : Prop := tb (w 3 (nxT w x)) p ∧ hsE p (nxE x)
noncomputable def nxR (w : RW) (x p : Int) : Int := nxT w x + 64 * p + 512 * otE p (nxE x)
def rsT (w : RW) (s g x : Int) : Int := if x % 512 = g then 0 else w (65 + s.toNat) (x % 64 + 64 * (x / 512))
noncomputable def nxS (w : RW) (s g x p : Int) : Int := gco (w 4 (nxR w x p % 512)) (nxR w x p) + rsT w s g (nxR w x p)
/-- the best of the first n pieces -/
def nxB (w : RW) (s g x n b z : Int) : Prop := (b = -1 ∧ z = 1048576 ∧ ∀ p, 0 ≤ p → p < n → nxP w x p → 1048576 ≤ nxS w s g x p) ∨ ∃ p, 0 ≤ p ∧ p < n ∧ nxP w x p ∧ b = nxR w x p ∧ z = nxS w s g x p ∧ z < 1048576 ∧ (∀ j, 0 ≤ j → j < n → nxP w x j → z ≤ nxS w s g x j) ∧ ∀ j, 0 ≤ j → j < p → nxP w x j → z < nxS w s g x j
theorem nxB_keep {w : RW} {s g x n b z : Int} (h : nxB w s g x n b z) (hk : nxP w x n → z ≤ nxS w s g x n) : nxB w s g x (n + 1) b z := by
  rcases h with ⟨h1, h2, h3⟩ | ⟨p, h1, h2, h3, h4, h5, h6, h7, h8⟩
  · refine Or.inl ⟨h1, h2, fun j j1 j2 j3 => ?_⟩
    by_cases hj : j = n
    · rw [hj] at j3 ⊢; have := hk j3; omega
    · exact h3 j j1 (by omega) j3
  · refine Or.inr ⟨p, h1, by omega, h3, h4, h5, h6, fun j j1 j2 j3 => ?_, h8⟩
    by_cases hj : j = n
    · rw [hj] at j3 ⊢; exact hk j3
    · exact h7 j j1 (by omega) j3
theorem nxB_new {w : RW} {s g x n b z : Int} (h0 : 0 ≤ n) (h : nxB w s g x n b z) (hp : nxP w x n) (hz : nxS w s g x n < z) : nxB w s g x (n + 1) (nxR w x n) (nxS w s g x n) := by
  rcases h with ⟨h1, h2, h3⟩ | ⟨p, h1, h2, h3, h4, h5, h6, h7, h8⟩
  · refine Or.inr ⟨n, h0, by omega, hp, rfl, rfl, by omega, fun j j1 j2 j3 => ?_, fun j j1 j2 j3 => ?_⟩
    · by_cases hj : j = n
      · rw [hj]; omega
      · have := h3 j j1 (by omega) j3; omega
    · have := h3 j j1 j2 j3; omega
  · refine Or.inr ⟨n, h0, by omega, hp, rfl, rfl, by omega, fun j j1 j2 j3 => ?_, fun j j1 j2 j3 => ?_⟩
    · by_cases hj : j = n
      · rw [hj]; omega
      · have := h7 j j1 (by omega) j3; omega
    · have := h7 j j1 j2 j3; omega
def nxQ (w : RW) (s g x b : Int) : Prop := (nxT w x = -1 ∧ b = -1) ∨ (¬ nxT w x = -1 ∧ ∃ z, nxB w s g x 6 b z)
/-- the run on is a run -/
theorem nxR_ok {w : RW} {x p : Int} (hx : 0 ≤ x) (hT : 0 ≤ nxT w x ∧ nxT w x < 48) (hp : 0 ≤ p ∧ p < 6) (h : hsE p (nxE x)) : okR (nxR w x p) ∧ nxR w x p % 64 = nxT w x ∧ nxR w x p % 512 / 64 = p ∧ nxR w x p / 512 = otE p (nxE x) ∧ nxR w x p % 512 = nxT w x + 64 * p := by
  have hO := otE_rng hp h
  have e1 : nxR w x p % 64 = nxT w x := by unfold nxR; omega
  have e2 : nxR w x p % 512 / 64 = p := by unfold nxR; omega
  have e3 : nxR w x p / 512 = otE p (nxE x) := by unfold nxR; omega
  have e4 : nxR w x p % 512 = nxT w x + 64 * p := by unfold nxR; omega
  refine ⟨⟨by unfold nxR; omega, by omega, by omega, by omega, ?_⟩, e1, e2, e3, e4⟩
  rw [e2, e3]
  unfold hsE otE
  unfold hsE at h
  omega
theorem lpW_next {G : vG} {X : vX} {Q : State → Prop} {w : RW} {s g x : Int} (hx : okR x) (hs : 0 ≤ s ∧ s < 6) (hb : w 2 0 ≤ 8 ∧ w 2 1 ≤ 6) (hw : ∀ t, 0 ≤ t → t < 48 → 0 ≤ w 3 t) (hl : ∀ p, 0 ≤ p → p < 384 → 0 ≤ w 4 p) (hr0 : ∀ e, 0 ≤ e → e < 256 → 0 ≤ w (65 + s.toNat) e ∧ w (65 + s.toNat) e ≤ 1048576) (F : FX G X cW_next yW_next.cls 12 2) (hR : RetI G X cW_next 12 Q (fun r u => nxQ w s g x r ∧ w = u)) (hne : ¬ nxT w x = -1) : ∀ (m : Nat) (i b z : Int) (o1 o2 : Option RV), 0 ≤ i → i ≤ 6 → 6 - i < m → nxB w s g x i b z → V G X 12 Q 33 [some (.inr 63), some (.inr 2), some (.inl x), some (.inl s), some (.inl g), some (.inl (nxT w x)), some (.inl (nxE x)), some (.inl b), some (.inl z), some (.inl i), o1, o2] [] w := by
  have hT : nxT w x = -1 ∨ (0 ≤ nxT w x ∧ nxT w x < 48) := acr_rng (by omega) (by omega)
  have hE : 0 ≤ nxE x ∧ nxE x < 4 := by unfold nxE; omega
  intro m
  induction m with
  | zero => intro i b z o1 o2 h1 h2 h3; omega
  | succ m ih =>
    intro i b z o1 o2 h1 h2 h3 hB
    refine V_iload F dW_next_33 rfl ?_
    refine V_bipush F dW_next_35 (by decide) ?_
    refine V_icmp_ge F 117 dW_next_37 (by decide) (fun h37 => ?_) (fun h37 => ?_)
    · first | (replace h37 := bz_ne0.mp h37) | (replace h37 := bz_eq0.mp h37) | skip
      refine V_iload F dW_next_117 rfl ?_
      exact hR _ _ _ _ dW_next_119 (by first | exact ⟨Or.inr ⟨hne, z, by rw [show (6 : Int) = i by omega]; exact hB⟩, rfl⟩ | exact absurd h43 hne)
    · first | (replace h37 := bz_ne0.mp h37) | (replace h37 := bz_eq0.mp h37) | skip
      refine V_iload F dW_next_40 rfl ?_
      refine V_iconst F dW_next_42 (by decide) ?_
      refine V_icmp_eq F 117 dW_next_43 (by decide) (fun h43 => ?_) (fun h43 => ?_)
      · first | (replace h43 := bz_ne0.mp h43) | (replace h43 := bz_eq0.mp h43) | skip
        refine V_iload F dW_next_117 rfl ?_
        exact hR _ _ _ _ dW_next_119 (by first | exact ⟨Or.inr ⟨hne, z, by rw [show (6 : Int) = i by omega]; exact hB⟩, rfl⟩ | exact absurd h43 hne)
      · first | (replace h43 := bz_ne0.mp h43) | (replace h43 := bz_eq0.mp h43) | skip
        refine V_aload_n (i := 1) F dW_next_46 rfl rfl ?_
        refine V_iload F dW_next_47 rfl ?_
        refine V_iload F dW_next_49 rfl ?_
        refine V_iload F dW_next_51 rfl ?_
        refine V_callVi F dW_next_53 lmW_52 miG_meets mvG_meets (ctG_meets (by omega) (by omega) (hw _ (by omega) (by omega))) (by decide) (by first | rfl | assumption) rfl rfl (Nat.le_of_ble_eq_true rfl) (fun r u hr => ?_)
        obtain ⟨rfl, rfl⟩ := hr
        refine V_if_eq F 111 dW_next_56 (by decide) (fun h56 => ?_) (fun h56 => ?_)
        · first | (replace h56 := bz_ne0.mp h56) | (replace h56 := bz_eq0.mp h56) | skip
          refine V_iinc F dW_next_111 (by decide) rfl (by omega) (by simp only [List.set_cons_zero, List.set_cons_succ]; exact rfl) ?_
          refine V_goto F 33 dW_next_114 (by decide) ?_
          first
          | exact ih (i + 1) _ _ _ _ (by omega) (by omega) (by omega) (nxB_keep hB (fun q => absurd q h56))
          | exact ih (i + 1) _ _ _ _ (by omega) (by omega) (by omega) (nxB_keep hB (fun _ => by omega))
          | exact ih (i + 1) _ _ _ _ (by omega) (by omega) (by omega) (nxB_new (by omega) hB h56 (by omega))
        · first | (replace h56 := bz_ne0.mp h56) | (replace h56 := bz_eq0.mp h56) | skip
          obtain ⟨hok, e1, e2, e3, e4⟩ := nxR_ok (w := w) (x := x) (p := i) (by unfold okR at hx; omega) (by omega) (by omega) h56.2
          obtain ⟨y1, y2, y3, y4, y5⟩ := hok
          have hO := otE_rng (p := i) (by omega) h56.2
          refine V_iload F dW_next_59 rfl ?_
          refine V_iload F dW_next_61 rfl ?_
          refine V_callSi F dW_next_63 lmW_56 miS_place msS_place (ctS_place (by omega)) (by decide) rfl (Nat.le_of_ble_eq_true rfl) (fun r u hr => ?_)
          obtain ⟨rfl, rfl⟩ := hr
          refine V_iload F dW_next_66 rfl ?_
          refine V_iload F dW_next_68 rfl ?_
          refine V_callSi F dW_next_70 lmW_59 miS_otherEdge msS_otherEdge (ctS_otherEdge (by omega) (by omega)) (by decide) rfl (Nat.le_of_ble_eq_true rfl) (fun r u hr => ?_)
          obtain ⟨rfl, rfl⟩ := hr
          refine V_callSi F dW_next_73 lmW_62 miS_run msS_run (ctS_run (by omega)) (by decide) rfl (Nat.le_of_ble_eq_true rfl) (fun r u hr => ?_)
          obtain ⟨rfl, rfl⟩ := hr
          show V _ _ _ _ _ _ (.inl (nxR w x i) :: _) _
          refine V_istore F dW_next_76 (by decide) (by simp only [List.set_cons_zero, List.set_cons_succ]; exact rfl) ?_
          refine V_aload_n (i := 1) F dW_next_78 rfl rfl ?_
          refine V_iload F dW_next_79 rfl ?_
          refine V_callVi F dW_next_81 lmW_65 miG_cost mvG_cost (ctG_cost (by omega) (by omega) (hl _ (by omega) (by omega))) (by decide) (by first | rfl | assumption) rfl rfl (Nat.le_of_ble_eq_true rfl) (fun r u hr => ?_)
          obtain ⟨rfl, rfl⟩ := hr
          refine V_aload_n (i := 0) F dW_next_84 rfl rfl ?_
          refine V_iload F dW_next_85 rfl ?_
          refine V_iload_n (i := 3) F dW_next_87 rfl rfl ?_
          refine V_iload F dW_next_88 rfl ?_
          refine V_callVi F dW_next_90 lmW_68 miW_rest mvW_rest (ctW_rest (by omega) hs) (by decide) (by first | rfl | assumption) rfl rfl (Nat.le_of_ble_eq_true rfl) (fun r u hr => ?_)
          obtain ⟨rfl, rfl⟩ := hr
          show V _ _ _ _ _ _ (.inl (rsT w s g (nxR w x i)) :: _) _
          have hg := gco_rng (lit := w 4 (nxR w x i % 512)) (x := nxR w x i)
          have hrs : 0 ≤ rsT w s g (nxR w x i) ∧ rsT w s g (nxR w x i) ≤ 1048576 := by
            unfold rsT
            split
            · omega
            · exact hr0 _ (by omega) (by omega)
          refine V_iadd F dW_next_93 (by omega) ?_
          refine V_istore F dW_next_94 (by decide) (by simp only [List.set_cons_zero, List.set_cons_succ]; exact rfl) ?_
          show V _ _ _ _ _ [_, _, _, _, _, _, _, _, _, _, _, some (.inl (nxS w s g x i))] _ _
          refine V_iload F dW_next_96 rfl ?_
          refine V_iload F dW_next_98 rfl ?_
          refine V_icmp_ge F 111 dW_next_100 (by decide) (fun h100 => ?_) (fun h100 => ?_)
          · first | (replace h100 := bz_ne0.mp h100) | (replace h100 := bz_eq0.mp h100) | skip
            refine V_iinc F dW_next_111 (by decide) rfl (by omega) (by simp only [List.set_cons_zero, List.set_cons_succ]; exact rfl) ?_
            refine V_goto F 33 dW_next_114 (by decide) ?_
            first
            | exact ih (i + 1) _ _ _ _ (by omega) (by omega) (by omega) (nxB_keep hB (fun q => absurd q h56))
            | exact ih (i + 1) _ _ _ _ (by omega) (by omega) (by omega) (nxB_keep hB (fun _ => by omega))
            | exact ih (i + 1) _ _ _ _ (by omega) (by omega) (by omega) (nxB_new (by omega) hB h56 (by omega))
          · first | (replace h100 := bz_ne0.mp h100) | (replace h100 := bz_eq0.mp h100) | skip
            refine V_iload F dW_next_103 rfl ?_
            refine V_istore F dW_next_105 (by decide) (by simp only [List.set_cons_zero, List.set_cons_succ]; exact rfl) ?_
            refine V_iload F dW_next_107 rfl ?_
            refine V_istore F dW_next_109 (by decide) (by simp only [List.set_cons_zero, List.set_cons_succ]; exact rfl) ?_
            refine V_iinc F dW_next_111 (by decide) rfl (by omega) (by simp only [List.set_cons_zero, List.set_cons_succ]; exact rfl) ?_
            refine V_goto F 33 dW_next_114 (by decide) ?_
            first
            | exact ih (i + 1) _ _ _ _ (by omega) (by omega) (by omega) (nxB_keep hB (fun q => absurd q h56))
            | exact ih (i + 1) _ _ _ _ (by omega) (by omega) (by omega) (nxB_keep hB (fun _ => by omega))
            | exact ih (i + 1) _ _ _ _ (by omega) (by omega) (by omega) (nxB_new (by omega) hB h56 (by omega))
theorem ctW_next {G : vG} {l : Launch} {w : RW} {s g x : Int} (hx : okR x) (hs : 0 ≤ s ∧ s < 6) (hb : w 2 0 ≤ 8 ∧ w 2 1 ≤ 6) (hw : ∀ t, 0 ≤ t → t < 48 → 0 ≤ w 3 t) (hl : ∀ p, 0 ≤ p → p < 384 → 0 ≤ w 4 p) (hr0 : ∀ e, 0 ≤ e → e < 256 → 0 ≤ w (65 + s.toNat) e ∧ w (65 + s.toNat) e ≤ 1048576) : CTi G l yW_next cW_next 12 .int 2 [.inr 63, .inr 2, .inl x, .inl s, .inl g] w (fun r u => nxQ w s g x r ∧ w = u) := by
  refine CTi.int (by decide) (Nat.le_of_ble_eq_true rfl) ?_
  intro X Q F hX hR
  subst hX
  show V G X 12 Q 0 [some (.inr 63), some (.inr 2), some (.inl x), some (.inl s), some (.inl g), none, none, none, none, none, none, none] [] w
  have hx0 := hx
  obtain ⟨x1, x2, x3, x4, x5⟩ := hx
  refine V_aload_n (i := 1) F dW_next_0 rfl rfl ?_
  refine V_iload_n (i := 2) F dW_next_1 rfl rfl ?_
  refine V_callSi F dW_next_2 lmW_33 miS_tileOf msS_tileOf (ctS_tileOf (by omega)) (by decide) rfl (Nat.le_of_ble_eq_true rfl) (fun r u hr => ?_)
  obtain ⟨rfl, rfl⟩ := hr
  refine V_iload_n (i := 2) F dW_next_5 rfl rfl ?_
  refine V_callSi F dW_next_6 lmW_36 miS_edgeOf msS_edgeOf (ctS_edgeOf (by omega)) (by decide) rfl (Nat.le_of_ble_eq_true rfl) (fun r u hr => ?_)
  obtain ⟨rfl, rfl⟩ := hr
  refine V_callVi F dW_next_9 lmW_43 miG_across mvG_across (ctG_across (by omega) (by omega)) (by decide) (by first | rfl | assumption) rfl rfl (Nat.le_of_ble_eq_true rfl) (fun r u hr => ?_)
  obtain ⟨rfl, rfl⟩ := hr
  show V _ _ _ _ _ _ (.inl (nxT w x) :: _) _
  refine V_istore F dW_next_12 (by decide) (by simp only [List.set_cons_zero, List.set_cons_succ]; exact rfl) ?_
  refine V_iload_n (i := 2) F dW_next_14 rfl rfl ?_
  refine V_callSi F dW_next_15 lmW_36 miS_edgeOf msS_edgeOf (ctS_edgeOf (by omega)) (by decide) rfl (Nat.le_of_ble_eq_true rfl) (fun r u hr => ?_)
  obtain ⟨rfl, rfl⟩ := hr
  refine V_callSi F dW_next_18 lmW_48 miS_opposite msS_opposite (ctS_opposite (by omega)) (by decide) rfl (Nat.le_of_ble_eq_true rfl) (fun r u hr => ?_)
  obtain ⟨rfl, rfl⟩ := hr
  show V _ _ _ _ _ _ (.inl (nxE x) :: _) _
  refine V_istore F dW_next_21 (by decide) (by simp only [List.set_cons_zero, List.set_cons_succ]; exact rfl) ?_
  refine V_iconst F dW_next_23 (by decide) ?_
  refine V_istore F dW_next_24 (by decide) (by simp only [List.set_cons_zero, List.set_cons_succ]; exact rfl) ?_
  refine V_ldc F dW_next_26 lcW_51 ⟨by decide, by decide⟩ ?_
  refine V_istore F dW_next_28 (by decide) (by simp only [List.set_cons_zero, List.set_cons_succ]; exact rfl) ?_
  refine V_iconst F dW_next_30 (by decide) ?_
  refine V_istore F dW_next_31 (by decide) (by simp only [List.set_cons_zero, List.set_cons_succ]; exact rfl) ?_
  by_cases hne : nxT w x = -1
  rotate_left
  · exact lpW_next hx0 hs hb hw hl hr0 F hR hne 7 0 _ _ _ _ (by omega) (by omega) (by omega) (Or.inl ⟨rfl, rfl, fun p p1 p2 => by omega⟩)
  refine V_iload F dW_next_33 rfl ?_
  refine V_bipush F dW_next_35 (by decide) ?_
  refine V_icmp_ge F 117 dW_next_37 (by decide) (fun h37 => by first | omega | contradiction) (fun h37 => ?_)
  refine V_iload F dW_next_40 rfl ?_
  refine V_iconst F dW_next_42 (by decide) ?_
  refine V_icmp_eq F 117 dW_next_43 (by decide) (fun h43 => ?_) (fun h43 => by first | omega | contradiction)
  refine V_iload F dW_next_117 rfl ?_
  exact hR _ _ _ _ dW_next_119 (⟨Or.inl ⟨hne, rfl⟩, rfl⟩)
theorem bhd_rng {w : RW} {q k : Int} (hm : mOK w) (hk : 0 ≤ k ∧ k < 6) : bhd w q k = -1 ∨ (0 ≤ bhd w q k ∧ bhd w q k < 576) := by
  have hm1 := hm.1
  have hT : bhT w q = -1 ∨ (0 ≤ bhT w q ∧ bhT w q < 48) := acr_rng (by omega) (by omega)
  unfold bhd
  by_cases h : 0 ≤ bhT w q ∧ ¬ w 78 (6 * bhT w q + k) = 0 ∧ hsE k ((eoQ q + 2) % 4) ∧ opQ (w 79 (bhB w q k / 2)) (bhB w q k)
  · rw [cif_t h]
    right
    have := h.1
    unfold bhB
    split <;> omega
  · rw [cif_f h]
    exact Or.inl rfl
theorem mco_rng {m q : Int} : 7 ≤ mco m q ∧ mco m q ≤ 15 := by
  unfold mco
  by_cases h : tb m (q % 2)
  · rw [cif_t h]; split <;> omega
  · rw [cif_f h]; split <;> omega
/-- far's numbers are in their range -/
def frR (w : RW) (s : Int) : Prop := ∀ q, 0 ≤ q → q < 576 → 0 ≤ w 84 (576 * s + q) ∧ w 84 (576 * s + q) ≤ 1000000000
noncomputable def onS6 (w : RW) (s q k : Int) : Int := w 84 (576 * s + bhd w q k) + mco (w 79 (bhd w q k / 2)) (bhd w q k)
def onV (w : RW) (s q k : Int) : Prop := 0 ≤ bhd w q k ∧ w 84 (576 * s + bhd w q k) < 1000000000
/-- the least sum over the first n ways on -/
def onP (w : RW) (s q n r : Int) : Prop := (0 ≤ r ∧ r ≤ 1000000000) ∧ (∀ k, 0 ≤ k → k < n → onV w s q k → r ≤ onS6 w s q k) ∧ (r < 1000000000 → ∃ k, 0 ≤ k ∧ k < n ∧ onV w s q k ∧ r = onS6 w s q k)
theorem onP_keep {w : RW} {s q n r : Int} (h : onP w s q n r) (hk : onV w s q n → r ≤ onS6 w s q n) : onP w s q (n + 1) r := by
  refine ⟨h.1, fun k k1 k2 k3 => ?_, fun hr => ?_⟩
  · by_cases e : k = n
    · rw [e] at k3 ⊢; exact hk k3
    · exact h.2.1 k k1 (by omega) k3
  · obtain ⟨k, k1, k2, k3⟩ := h.2.2 hr
    exact ⟨k, k1, by omega, k3⟩
theorem onP_new {w : RW} {s q n r : Int} (h0 : 0 ≤ n) (h : onP w s q n r) (hv : onV w s q n) (hp : 0 ≤ onS6 w s q n) (hr : onS6 w s q n < r) : onP w s q (n + 1) (onS6 w s q n) := by
  refine ⟨by have := h.1; omega, fun k k1 k2 k3 => ?_, fun _ => ⟨n, h0, by omega, hv, rfl⟩⟩
  by_cases e : k = n
  · rw [e]; omega
  · have := h.2.1 k k1 (by omega) k3; omega
theorem lpM_onward {G : vG} {X : vX} {Q : State → Prop} {w : RW} {s q : Int} (hq : 0 ≤ q ∧ q < 576) (hs : 0 ≤ s ∧ s < 6) (hm : mOK w) (hf : frR w s) (F : FX G X cM_onward yM_onward.cls 6 3) (hR : RetI G X cM_onward 6 Q (fun r u => onP w s q 6 r ∧ w = u)) : ∀ (m : Nat) (i r : Int) (o : Option RV), 0 ≤ i → i ≤ 6 → 6 - i < m → onP w s q i r → V G X 6 Q 6 [some (.inr 77), some (.inl q), some (.inl s), some (.inl r), some (.inl i), o] [] w := by
  intro m
  induction m with
  | zero => intro i r o h1 h2 h3; omega
  | succ m ih =>
    intro i r o h1 h2 h3 hP
    refine V_iload F dM_onward_6 rfl ?_
    refine V_bipush F dM_onward_8 (by decide) ?_
    refine V_icmp_ge F 96 dM_onward_10 (by decide) (fun h10 => ?_) (fun h10 => ?_)
    · first | (replace h10 := bz_ne0.mp h10) | (replace h10 := bz_eq0.mp h10) | skip
      refine V_iload_n (i := 3) F dM_onward_96 rfl rfl ?_
      exact hR _ _ _ _ dM_onward_97 (by rw [show i = 6 by omega] at hP; exact ⟨hP, rfl⟩)
    · first | (replace h10 := bz_ne0.mp h10) | (replace h10 := bz_eq0.mp h10) | skip
      have hB := bhd_rng (q := q) hm (show 0 ≤ i ∧ i < 6 by omega)
      have hc := mco_rng (m := w 79 (bhd w q i / 2)) (q := bhd w q i)
      refine V_aload_n (i := 0) F dM_onward_13 rfl rfl ?_
      refine V_iload_n (i := 1) F dM_onward_14 rfl rfl ?_
      refine V_iload F dM_onward_15 rfl ?_
      refine V_callVi F dM_onward_17 lmM_123 miM_behind mvM_behind (ctM_behind hq (by omega) hm) (by decide) (by first | rfl | assumption) rfl rfl (Nat.le_of_ble_eq_true rfl) (fun r u hr => ?_)
      obtain ⟨rfl, rfl⟩ := hr
      refine V_istore F dM_onward_20 (by decide) (by simp only [List.set_cons_zero, List.set_cons_succ]; exact rfl) ?_
      refine V_iload F dM_onward_22 rfl ?_
      refine V_if_lt F 90 dM_onward_24 (by decide) (fun h24 => ?_) (fun h24 => ?_)
      · first | (replace h24 := bz_ne0.mp h24) | (replace h24 := bz_eq0.mp h24) | skip
        refine V_iinc F dM_onward_90 (by decide) rfl (by omega) (by simp only [List.set_cons_zero, List.set_cons_succ]; exact rfl) ?_
        refine V_goto F 6 dM_onward_93 (by decide) ?_
        first
        | exact ih (i + 1) _ _ (by omega) (by omega) (by omega) (onP_keep hP (fun z => by have := z.1; omega))
        | exact ih (i + 1) _ _ (by omega) (by omega) (by omega) (onP_keep hP (fun z => by have := z.2; omega))
        | exact ih (i + 1) _ _ (by omega) (by omega) (by omega) (onP_keep hP (fun z => by omega))
        | exact ih (i + 1) _ _ (by omega) (by omega) (by omega) (onP_new (by omega) hP ⟨by omega, by omega⟩ (by omega) (by omega))
      · first | (replace h24 := bz_ne0.mp h24) | (replace h24 := bz_eq0.mp h24) | skip
        have hfr := hf (bhd w q i) (by omega) (by omega)
        have hS : onS6 w s q i = w 84 (576 * s + bhd w q i) + mco (w 79 (bhd w q i / 2)) (bhd w q i) := rfl
        refine V_aload_n (i := 0) F dM_onward_27 rfl rfl ?_
        refine V_getr (ci := 7) (C := R_M) (T := T_M) (N := 32) F dM_onward_28 (by first | rfl | assumption) rfl (j := 9) (by decide) rfl lfM_29 ?_
        refine V_sipush F dM_onward_31 (by decide) ?_
        refine V_iload_n (i := 2) F dM_onward_34 rfl rfl ?_
        refine V_imul F dM_onward_35 (by omega) ?_
        refine V_iload F dM_onward_36 rfl ?_
        refine V_iadd F dM_onward_38 (by omega) ?_
        first
          | refine V_sald F dM_onward_39 (by decide) (by omega) (stt_in _ _) ?_
          | refine V_iald F dM_onward_39 (by first | rfl | assumption) rfl (by omega) ?_
        refine V_ldc F dM_onward_40 lcM_119 ⟨by decide, by decide⟩ ?_
        refine V_icmp_ge F 90 dM_onward_42 (by decide) (fun h42 => ?_) (fun h42 => ?_)
        · first | (replace h42 := bz_ne0.mp h42) | (replace h42 := bz_eq0.mp h42) | skip
          refine V_iinc F dM_onward_90 (by decide) rfl (by omega) (by simp only [List.set_cons_zero, List.set_cons_succ]; exact rfl) ?_
          refine V_goto F 6 dM_onward_93 (by decide) ?_
          first
          | exact ih (i + 1) _ _ (by omega) (by omega) (by omega) (onP_keep hP (fun z => by have := z.1; omega))
          | exact ih (i + 1) _ _ (by omega) (by omega) (by omega) (onP_keep hP (fun z => by have := z.2; omega))
          | exact ih (i + 1) _ _ (by omega) (by omega) (by omega) (onP_keep hP (fun z => by omega))
          | exact ih (i + 1) _ _ (by omega) (by omega) (by omega) (onP_new (by omega) hP ⟨by omega, by omega⟩ (by omega) (by omega))
        · first | (replace h42 := bz_ne0.mp h42) | (replace h42 := bz_eq0.mp h42) | skip
          refine V_aload_n (i := 0) F dM_onward_45 rfl rfl ?_
          refine V_getr (ci := 7) (C := R_M) (T := T_M) (N := 32) F dM_onward_46 (by first | rfl | assumption) rfl (j := 9) (by decide) rfl lfM_29 ?_
          refine V_sipush F dM_onward_49 (by decide) ?_
          refine V_iload_n (i := 2) F dM_onward_52 rfl rfl ?_
          refine V_imul F dM_onward_53 (by omega) ?_
          refine V_iload F dM_onward_54 rfl ?_
          refine V_iadd F dM_onward_56 (by omega) ?_
          first
            | refine V_sald F dM_onward_57 (by decide) (by omega) (stt_in _ _) ?_
            | refine V_iald F dM_onward_57 (by first | rfl | assumption) rfl (by omega) ?_
          refine V_aload_n (i := 0) F dM_onward_58 rfl rfl ?_
          refine V_iload F dM_onward_59 rfl ?_
          refine V_callVi F dM_onward_61 lmM_126 miM_cost mvM_cost (ctM_cost (by omega) hm) (by decide) (by first | rfl | assumption) rfl rfl (Nat.le_of_ble_eq_true rfl) (fun r u hr => ?_)
          obtain ⟨rfl, rfl⟩ := hr
          refine V_iadd F dM_onward_64 (by omega) ?_
          refine V_iload_n (i := 3) F dM_onward_65 rfl rfl ?_
          refine V_icmp_ge F 90 dM_onward_66 (by decide) (fun h66 => ?_) (fun h66 => ?_)
          · first | (replace h66 := bz_ne0.mp h66) | (replace h66 := bz_eq0.mp h66) | skip
            refine V_iinc F dM_onward_90 (by decide) rfl (by omega) (by simp only [List.set_cons_zero, List.set_cons_succ]; exact rfl) ?_
            refine V_goto F 6 dM_onward_93 (by decide) ?_
            first
            | exact ih (i + 1) _ _ (by omega) (by omega) (by omega) (onP_keep hP (fun z => by have := z.1; omega))
            | exact ih (i + 1) _ _ (by omega) (by omega) (by omega) (onP_keep hP (fun z => by have := z.2; omega))
            | exact ih (i + 1) _ _ (by omega) (by omega) (by omega) (onP_keep hP (fun z => by omega))
            | exact ih (i + 1) _ _ (by omega) (by omega) (by omega) (onP_new (by omega) hP ⟨by omega, by omega⟩ (by omega) (by omega))
          · first | (replace h66 := bz_ne0.mp h66) | (replace h66 := bz_eq0.mp h66) | skip
            refine V_aload_n (i := 0) F dM_onward_69 rfl rfl ?_
            refine V_getr (ci := 7) (C := R_M) (T := T_M) (N := 32) F dM_onward_70 (by first | rfl | assumption) rfl (j := 9) (by decide) rfl lfM_29 ?_
            refine V_sipush F dM_onward_73 (by decide) ?_
            refine V_iload_n (i := 2) F dM_onward_76 rfl rfl ?_
            refine V_imul F dM_onward_77 (by omega) ?_
            refine V_iload F dM_onward_78 rfl ?_
            refine V_iadd F dM_onward_80 (by omega) ?_
            first
              | refine V_sald F dM_onward_81 (by decide) (by omega) (stt_in _ _) ?_
              | refine V_iald F dM_onward_81 (by first | rfl | assumption) rfl (by omega) ?_
            refine V_aload_n (i := 0) F dM_onward_82 rfl rfl ?_
            refine V_iload F dM_onward_83 rfl ?_
            refine V_callVi F dM_onward_85 lmM_126 miM_cost mvM_cost (ctM_cost (by omega) hm) (by decide) (by first | rfl | assumption) rfl rfl (Nat.le_of_ble_eq_true rfl) (fun r u hr => ?_)
            obtain ⟨rfl, rfl⟩ := hr
            refine V_iadd F dM_onward_88 (by omega) ?_
            refine V_istore_n (i := 3) F dM_onward_89 rfl (by decide) (by simp only [List.set_cons_zero, List.set_cons_succ]; exact rfl) ?_
            refine V_iinc F dM_onward_90 (by decide) rfl (by omega) (by simp only [List.set_cons_zero, List.set_cons_succ]; exact rfl) ?_
            refine V_goto F 6 dM_onward_93 (by decide) ?_
            first
            | exact ih (i + 1) _ _ (by omega) (by omega) (by omega) (onP_keep hP (fun z => by have := z.1; omega))
            | exact ih (i + 1) _ _ (by omega) (by omega) (by omega) (onP_keep hP (fun z => by have := z.2; omega))
            | exact ih (i + 1) _ _ (by omega) (by omega) (by omega) (onP_keep hP (fun z => by omega))
            | exact ih (i + 1) _ _ (by omega) (by omega) (by omega) (onP_new (by omega) hP ⟨by omega, by omega⟩ (by omega) (by omega))
theorem ctM_onward {G : vG} {l : Launch} {w : RW} {s q : Int} (hq : 0 ≤ q ∧ q < 576) (hs : 0 ≤ s ∧ s < 6) (hm : mOK w) (hf : frR w s) : CTi G l yM_onward cM_onward 6 .int 3 [.inr 77, .inl q, .inl s] w (fun r u => onP w s q 6 r ∧ w = u) := by
  refine CTi.int (by decide) (Nat.le_of_ble_eq_true rfl) ?_
  intro X Q F hX hR
  subst hX
  show V G X 6 Q 0 [some (.inr 77), some (.inl q), some (.inl s), none, none, none] [] w
  refine V_ldc F dM_onward_0 lcM_119 ⟨by decide, by decide⟩ ?_
  refine V_istore_n (i := 3) F dM_onward_2 rfl (by decide) (by simp only [List.set_cons_zero, List.set_cons_succ]; exact rfl) ?_
  refine V_iconst F dM_onward_3 (by decide) ?_
  refine V_istore F dM_onward_4 (by decide) (by simp only [List.set_cons_zero, List.set_cons_succ]; exact rfl) ?_
  exact lpM_onward hq hs hm hf F hR 7 0 _ _ (by omega) (by omega) (by omega) ⟨by omega, fun k k1 k2 => by omega, fun h => by omega⟩
def nxM (w : RW) (s q b : Int) : Prop := ∃ r, onP w s q 6 r ∧ ((r = 1000000000 ∧ b = -1) ∨ (r < 1000000000 ∧ ∃ k, 0 ≤ k ∧ k < 6 ∧ onV w s q k ∧ onS6 w s q k = r ∧ b = bhd w q k ∧ ∀ j, 0 ≤ j → j < k → onV w s q j → ¬ onS6 w s q j = r))
theorem lpM_next {G : vG} {X : vX} {Q : State → Prop} {w : RW} {s q : Int} (hq : 0 ≤ q ∧ q < 576) (hs : 0 ≤ s ∧ s < 6) (hm : mOK w) (hf : frR w s) (F : FX G X cM_next yM_next.cls 6 4) (hR : RetI G X cM_next 6 Q (fun b u => nxM w s q b ∧ w = u)) {r : Int} (hP : onP w s q 6 r) : ∀ (m : Nat) (i : Int) (o : Option RV), 0 ≤ i → i ≤ 6 → 6 - i < m → (∀ j, 0 ≤ j → j < i → onV w s q j → ¬ onS6 w s q j = r) → V G X 6 Q 10 [some (.inr 77), some (.inl q), some (.inl s), some (.inl r), some (.inl i), o] [] w := by
  intro m
  induction m with
  | zero => intro i o h1 h2 h3; omega
  | succ m ih =>
    intro i o h1 h2 h3 hn
    refine V_iload F dM_next_10 rfl ?_
    refine V_bipush F dM_next_12 (by decide) ?_
    refine V_icmp_ge F 88 dM_next_14 (by decide) (fun h14 => ?_) (fun h14 => ?_)
    · first | (replace h14 := bz_ne0.mp h14) | (replace h14 := bz_eq0.mp h14) | skip
      refine V_iconst F dM_next_88 (by decide) ?_
      exact hR _ _ _ _ dM_next_89 (by
        refine ⟨⟨r, hP, ?_⟩, rfl⟩
        by_cases hlt : r < 1000000000
        · first
          | exact Or.inr ⟨hlt, i, by omega, by omega, ⟨by omega, by omega⟩, by omega, rfl, hn⟩
          | (exfalso
             obtain ⟨k, k1, k2, k3, k4⟩ := hP.2.2 hlt
             exact hn k k1 (by omega) k3 k4.symm)
          | (exfalso; omega)
        · first
          | exact Or.inl ⟨by have := hP.1; omega, rfl⟩
          | (exfalso; omega))
    · first | (replace h14 := bz_ne0.mp h14) | (replace h14 := bz_eq0.mp h14) | skip
      refine V_iload_n (i := 3) F dM_next_17 rfl rfl ?_
      refine V_ldc F dM_next_18 lcM_119 ⟨by decide, by decide⟩ ?_
      refine V_icmp_ge F 88 dM_next_20 (by decide) (fun h20 => ?_) (fun h20 => ?_)
      · first | (replace h20 := bz_ne0.mp h20) | (replace h20 := bz_eq0.mp h20) | skip
        refine V_iconst F dM_next_88 (by decide) ?_
        exact hR _ _ _ _ dM_next_89 (by
          refine ⟨⟨r, hP, ?_⟩, rfl⟩
          by_cases hlt : r < 1000000000
          · first
            | exact Or.inr ⟨hlt, i, by omega, by omega, ⟨by omega, by omega⟩, by omega, rfl, hn⟩
            | (exfalso
               obtain ⟨k, k1, k2, k3, k4⟩ := hP.2.2 hlt
               exact hn k k1 (by omega) k3 k4.symm)
            | (exfalso; omega)
          · first
            | exact Or.inl ⟨by have := hP.1; omega, rfl⟩
            | (exfalso; omega))
      · first | (replace h20 := bz_ne0.mp h20) | (replace h20 := bz_eq0.mp h20) | skip
        have hB := bhd_rng (q := q) hm (show 0 ≤ i ∧ i < 6 by omega)
        have hc := mco_rng (m := w 79 (bhd w q i / 2)) (q := bhd w q i)
        refine V_aload_n (i := 0) F dM_next_23 rfl rfl ?_
        refine V_iload_n (i := 1) F dM_next_24 rfl rfl ?_
        refine V_iload F dM_next_25 rfl ?_
        refine V_callVi F dM_next_27 lmM_123 miM_behind mvM_behind (ctM_behind hq (by omega) hm) (by decide) (by first | rfl | assumption) rfl rfl (Nat.le_of_ble_eq_true rfl) (fun r u hr => ?_)
        obtain ⟨rfl, rfl⟩ := hr
        refine V_istore F dM_next_30 (by decide) (by simp only [List.set_cons_zero, List.set_cons_succ]; exact rfl) ?_
        refine V_iload F dM_next_32 rfl ?_
        refine V_if_lt F 82 dM_next_34 (by decide) (fun h34 => ?_) (fun h34 => ?_)
        · first | (replace h34 := bz_ne0.mp h34) | (replace h34 := bz_eq0.mp h34) | skip
          refine V_iinc F dM_next_82 (by decide) rfl (by omega) (by simp only [List.set_cons_zero, List.set_cons_succ]; exact rfl) ?_
          refine V_goto F 10 dM_next_85 (by decide) ?_
          refine ih (i + 1) _ (by omega) (by omega) (by omega) (fun j j1 j2 j3 => ?_)
          by_cases e : j = i
          · rw [e] at j3 ⊢
            have j4 := j3.1
            have j5 := j3.2
            omega
          · exact hn j j1 (by omega) j3
        · first | (replace h34 := bz_ne0.mp h34) | (replace h34 := bz_eq0.mp h34) | skip
          have hfr := hf (bhd w q i) (by omega) (by omega)
          have hS : onS6 w s q i = w 84 (576 * s + bhd w q i) + mco (w 79 (bhd w q i / 2)) (bhd w q i) := rfl
          refine V_aload_n (i := 0) F dM_next_37 rfl rfl ?_
          refine V_getr (ci := 7) (C := R_M) (T := T_M) (N := 32) F dM_next_38 (by first | rfl | assumption) rfl (j := 9) (by decide) rfl lfM_29 ?_
          refine V_sipush F dM_next_41 (by decide) ?_
          refine V_iload_n (i := 2) F dM_next_44 rfl rfl ?_
          refine V_imul F dM_next_45 (by omega) ?_
          refine V_iload F dM_next_46 rfl ?_
          refine V_iadd F dM_next_48 (by omega) ?_
          first
            | refine V_sald F dM_next_49 (by decide) (by omega) (stt_in _ _) ?_
            | refine V_iald F dM_next_49 (by first | rfl | assumption) rfl (by omega) ?_
          refine V_ldc F dM_next_50 lcM_119 ⟨by decide, by decide⟩ ?_
          refine V_icmp_ge F 82 dM_next_52 (by decide) (fun h52 => ?_) (fun h52 => ?_)
          · first | (replace h52 := bz_ne0.mp h52) | (replace h52 := bz_eq0.mp h52) | skip
            refine V_iinc F dM_next_82 (by decide) rfl (by omega) (by simp only [List.set_cons_zero, List.set_cons_succ]; exact rfl) ?_
            refine V_goto F 10 dM_next_85 (by decide) ?_
            refine ih (i + 1) _ (by omega) (by omega) (by omega) (fun j j1 j2 j3 => ?_)
            by_cases e : j = i
            · rw [e] at j3 ⊢
              have j4 := j3.1
              have j5 := j3.2
              omega
            · exact hn j j1 (by omega) j3
          · first | (replace h52 := bz_ne0.mp h52) | (replace h52 := bz_eq0.mp h52) | skip
            refine V_aload_n (i := 0) F dM_next_55 rfl rfl ?_
            refine V_getr (ci := 7) (C := R_M) (T := T_M) (N := 32) F dM_next_56 (by first | rfl | assumption) rfl (j := 9) (by decide) rfl lfM_29 ?_
            refine V_sipush F dM_next_59 (by decide) ?_
            refine V_iload_n (i := 2) F dM_next_62 rfl rfl ?_
            refine V_imul F dM_next_63 (by omega) ?_
            refine V_iload F dM_next_64 rfl ?_
            refine V_iadd F dM_next_66 (by omega) ?_
            first
              | refine V_sald F dM_next_67 (by decide) (by omega) (stt_in _ _) ?_
              | refine V_iald F dM_next_67 (by first | rfl | assumption) rfl (by omega) ?_
            refine V_aload_n (i := 0) F dM_next_68 rfl rfl ?_
            refine V_iload F dM_next_69 rfl ?_
            refine V_callVi F dM_next_71 lmM_126 miM_cost mvM_cost (ctM_cost (by omega) hm) (by decide) (by first | rfl | assumption) rfl rfl (Nat.le_of_ble_eq_true rfl) (fun r u hr => ?_)
            obtain ⟨rfl, rfl⟩ := hr
            refine V_iadd F dM_next_74 (by omega) ?_
            refine V_iload_n (i := 3) F dM_next_75 rfl rfl ?_
            refine V_icmp_ne F 82 dM_next_76 (by decide) (fun h76 => ?_) (fun h76 => ?_)
            · first | (replace h76 := bz_ne0.mp h76) | (replace h76 := bz_eq0.mp h76) | skip
              refine V_iinc F dM_next_82 (by decide) rfl (by omega) (by simp only [List.set_cons_zero, List.set_cons_succ]; exact rfl) ?_
              refine V_goto F 10 dM_next_85 (by decide) ?_
              refine ih (i + 1) _ (by omega) (by omega) (by omega) (fun j j1 j2 j3 => ?_)
              by_cases e : j = i
              · rw [e] at j3 ⊢
                have j4 := j3.1
                have j5 := j3.2
                omega
              · exact hn j j1 (by omega) j3
            · first | (replace h76 := bz_ne0.mp h76) | (replace h76 := bz_eq0.mp h76) | skip
              refine V_iload F dM_next_79 rfl ?_
              exact hR _ _ _ _ dM_next_81 (by
                refine ⟨⟨r, hP, ?_⟩, rfl⟩
                by_cases hlt : r < 1000000000
                · first
                  | exact Or.inr ⟨hlt, i, by omega, by omega, ⟨by omega, by omega⟩, by omega, rfl, hn⟩
                  | (exfalso
                     obtain ⟨k, k1, k2, k3, k4⟩ := hP.2.2 hlt
                     exact hn k k1 (by omega) k3 k4.symm)
                  | (exfalso; omega)
                · first
                  | exact Or.inl ⟨by have := hP.1; omega, rfl⟩
                  | (exfalso; omega))
theorem ctM_next {G : vG} {l : Launch} {w : RW} {s q : Int} (hq : 0 ≤ q ∧ q < 576) (hs : 0 ≤ s ∧ s < 6) (hm : mOK w) (hf : frR w s) : CTi G l yM_next cM_next 6 .int 4 [.inr 77, .inl q, .inl s] w (fun b u => nxM w s q b ∧ w = u) := by
  refine CTi.int (by decide) (Nat.le_of_ble_eq_true rfl) ?_
  intro X Q F hX hR
  subst hX
  show V G X 6 Q 0 [some (.inr 77), some (.inl q), some (.inl s), none, none, none] [] w
  refine V_aload_n (i := 0) F dM_next_0 rfl rfl ?_
  refine V_iload_n (i := 1) F dM_next_1 rfl rfl ?_
  refine V_iload_n (i := 2) F dM_next_2 rfl rfl ?_
  refine V_callVi F dM_next_3 lmM_120 miM_onward mvM_onward (ctM_onward hq hs hm hf) (by decide) (by first | rfl | assumption) rfl rfl (Nat.le_of_ble_eq_true rfl) (fun r u hr => ?_)
  obtain ⟨hP, rfl⟩ := hr
  refine V_istore_n (i := 3) F dM_next_6 rfl (by decide) (by simp only [List.set_cons_zero, List.set_cons_succ]; exact rfl) ?_
  refine V_iconst F dM_next_7 (by decide) ?_
  refine V_istore F dM_next_8 (by decide) (by simp only [List.set_cons_zero, List.set_cons_succ]; exact rfl) ?_
  exact lpM_next hq hs hm hf F hR hP 7 0 _ (by omega) (by omega) (by omega) (fun j j1 j2 => by omega)
end
section
theorem dM_measure_0 : decode cM_measure 0 = .ok (.aload_n 0, 1) := by decide +kernel
theorem dM_measure_1 : decode cM_measure 1 = .ok (.getfield 26, 3) := by decide +kernel
theorem dM_measure_4 : decode cM_measure 4 = .ok (.iload_n 1, 1) := by decide +kernel
theorem dM_measure_5 : decode cM_measure 5 = .ok (.baload, 1) := by decide +kernel
theorem dM_measure_6 : decode cM_measure 6 = .ok (.ifCond .eq 4, 3) := by decide +kernel
theorem dM_measure_9 : decode cM_measure 9 = .ok (.return_, 1) := by decide +kernel
theorem dM_measure_10 : decode cM_measure 10 = .ok (.aload_n 0, 1) := by decide +kernel
theorem dM_measure_11 : decode cM_measure 11 = .ok (.getfield 26, 3) := by decide +kernel
theorem dM_measure_14 : decode cM_measure 14 = .ok (.iload_n 1, 1) := by decide +kernel
theorem dM_measure_15 : decode cM_measure 15 = .ok (.iconst 1, 1) := by decide +kernel
theorem dM_measure_16 : decode cM_measure 16 = .ok (.bastore, 1) := by decide +kernel
theorem dM_measure_17 : decode cM_measure 17 = .ok (.sipush 576, 3) := by decide +kernel
theorem dM_measure_20 : decode cM_measure 20 = .ok (.iload_n 1, 1) := by decide +kernel
theorem dM_measure_21 : decode cM_measure 21 = .ok (.imul, 1) := by decide +kernel
theorem dM_measure_22 : decode cM_measure 22 = .ok (.istore_n 2, 1) := by decide +kernel
theorem dM_measure_23 : decode cM_measure 23 = .ok (.iconst 0, 1) := by decide +kernel
theorem dM_measure_24 : decode cM_measure 24 = .ok (.istore_n 3, 1) := by decide +kernel
theorem dM_measure_25 : decode cM_measure 25 = .ok (.iload_n 3, 1) := by decide +kernel
theorem dM_measure_26 : decode cM_measure 26 = .ok (.sipush 576, 3) := by decide +kernel
theorem dM_measure_29 : decode cM_measure 29 = .ok (.if_icmp .ge 35, 3) := by decide +kernel
theorem dM_measure_32 : decode cM_measure 32 = .ok (.aload_n 0, 1) := by decide +kernel
theorem dM_measure_33 : decode cM_measure 33 = .ok (.getfield 29, 3) := by decide +kernel
theorem dM_measure_36 : decode cM_measure 36 = .ok (.iload_n 2, 1) := by decide +kernel
theorem dM_measure_37 : decode cM_measure 37 = .ok (.iload_n 3, 1) := by decide +kernel
theorem dM_measure_38 : decode cM_measure 38 = .ok (.iadd, 1) := by decide +kernel
theorem dM_measure_39 : decode cM_measure 39 = .ok (.iload_n 3, 1) := by decide +kernel
theorem dM_measure_40 : decode cM_measure 40 = .ok (.iconst 2, 1) := by decide +kernel
theorem dM_measure_41 : decode cM_measure 41 = .ok (.idiv, 1) := by decide +kernel
theorem dM_measure_42 : decode cM_measure 42 = .ok (.aload_n 0, 1) := by decide +kernel
theorem dM_measure_43 : decode cM_measure 43 = .ok (.getfield 17, 3) := by decide +kernel
theorem dM_measure_46 : decode cM_measure 46 = .ok (.iload_n 1, 1) := by decide +kernel
theorem dM_measure_47 : decode cM_measure 47 = .ok (.iaload, 1) := by decide +kernel
theorem dM_measure_48 : decode cM_measure 48 = .ok (.if_icmp .ne 7, 3) := by decide +kernel
theorem dM_measure_51 : decode cM_measure 51 = .ok (.iconst 0, 1) := by decide +kernel
theorem dM_measure_52 : decode cM_measure 52 = .ok (.goto 5, 3) := by decide +kernel
theorem dM_measure_55 : decode cM_measure 55 = .ok (.ldc 119, 2) := by decide +kernel
theorem dM_measure_57 : decode cM_measure 57 = .ok (.iastore, 1) := by decide +kernel
theorem dM_measure_58 : decode cM_measure 58 = .ok (.iinc 3 1, 3) := by decide +kernel
theorem dM_measure_61 : decode cM_measure 61 = .ok (.goto (-36), 3) := by decide +kernel
theorem dM_measure_64 : decode cM_measure 64 = .ok (.iconst 1, 1) := by decide +kernel
theorem dM_measure_65 : decode cM_measure 65 = .ok (.istore_n 3, 1) := by decide +kernel
theorem dM_measure_66 : decode cM_measure 66 = .ok (.iconst 0, 1) := by decide +kernel
theorem dM_measure_67 : decode cM_measure 67 = .ok (.istore 4, 2) := by decide +kernel
theorem dM_measure_69 : decode cM_measure 69 = .ok (.iload 4, 2) := by decide +kernel
theorem dM_measure_71 : decode cM_measure 71 = .ok (.sipush 600, 3) := by decide +kernel
theorem dM_measure_74 : decode cM_measure 74 = .ok (.if_icmp .ge 127, 3) := by decide +kernel
theorem dM_measure_77 : decode cM_measure 77 = .ok (.iload_n 3, 1) := by decide +kernel
theorem dM_measure_78 : decode cM_measure 78 = .ok (.ifCond .eq 123, 3) := by decide +kernel
theorem dM_measure_81 : decode cM_measure 81 = .ok (.iconst 0, 1) := by decide +kernel
theorem dM_measure_82 : decode cM_measure 82 = .ok (.istore_n 3, 1) := by decide +kernel
theorem dM_measure_83 : decode cM_measure 83 = .ok (.iconst 0, 1) := by decide +kernel
theorem dM_measure_84 : decode cM_measure 84 = .ok (.istore 5, 2) := by decide +kernel
theorem dM_measure_86 : decode cM_measure 86 = .ok (.iload 5, 2) := by decide +kernel
theorem dM_measure_88 : decode cM_measure 88 = .ok (.sipush 576, 3) := by decide +kernel
theorem dM_measure_91 : decode cM_measure 91 = .ok (.if_icmp .ge 104, 3) := by decide +kernel
theorem dM_measure_94 : decode cM_measure 94 = .ok (.aload_n 0, 1) := by decide +kernel
theorem dM_measure_95 : decode cM_measure 95 = .ok (.getfield 7, 3) := by decide +kernel
theorem dM_measure_98 : decode cM_measure 98 = .ok (.iload 5, 2) := by decide +kernel
theorem dM_measure_100 : decode cM_measure 100 = .ok (.iconst 2, 1) := by decide +kernel
theorem dM_measure_101 : decode cM_measure 101 = .ok (.idiv, 1) := by decide +kernel
theorem dM_measure_102 : decode cM_measure 102 = .ok (.baload, 1) := by decide +kernel
theorem dM_measure_103 : decode cM_measure 103 = .ok (.ifCond .eq 86, 3) := by decide +kernel
theorem dM_measure_106 : decode cM_measure 106 = .ok (.iload 5, 2) := by decide +kernel
theorem dM_measure_108 : decode cM_measure 108 = .ok (.iconst 2, 1) := by decide +kernel
theorem dM_measure_109 : decode cM_measure 109 = .ok (.idiv, 1) := by decide +kernel
theorem dM_measure_110 : decode cM_measure 110 = .ok (.aload_n 0, 1) := by decide +kernel
theorem dM_measure_111 : decode cM_measure 111 = .ok (.getfield 17, 3) := by decide +kernel
theorem dM_measure_114 : decode cM_measure 114 = .ok (.iload_n 1, 1) := by decide +kernel
theorem dM_measure_115 : decode cM_measure 115 = .ok (.iaload, 1) := by decide +kernel
theorem dM_measure_116 : decode cM_measure 116 = .ok (.if_icmp .eq 73, 3) := by decide +kernel
theorem dM_measure_119 : decode cM_measure 119 = .ok (.aload_n 0, 1) := by decide +kernel
theorem dM_measure_120 : decode cM_measure 120 = .ok (.iload 5, 2) := by decide +kernel
theorem dM_measure_122 : decode cM_measure 122 = .ok (.iload_n 1, 1) := by decide +kernel
theorem dM_measure_123 : decode cM_measure 123 = .ok (.invokevirtual 120, 3) := by decide +kernel
theorem dM_measure_126 : decode cM_measure 126 = .ok (.istore 6, 2) := by decide +kernel
theorem dM_measure_128 : decode cM_measure 128 = .ok (.iload_n 3, 1) := by decide +kernel
theorem dM_measure_129 : decode cM_measure 129 = .ok (.ifCond .ne 17, 3) := by decide +kernel
theorem dM_measure_132 : decode cM_measure 132 = .ok (.iload 6, 2) := by decide +kernel
theorem dM_measure_134 : decode cM_measure 134 = .ok (.aload_n 0, 1) := by decide +kernel
theorem dM_measure_135 : decode cM_measure 135 = .ok (.getfield 29, 3) := by decide +kernel
theorem dM_measure_138 : decode cM_measure 138 = .ok (.iload_n 2, 1) := by decide +kernel
theorem dM_measure_139 : decode cM_measure 139 = .ok (.iload 5, 2) := by decide +kernel
theorem dM_measure_141 : decode cM_measure 141 = .ok (.iadd, 1) := by decide +kernel
theorem dM_measure_142 : decode cM_measure 142 = .ok (.iaload, 1) := by decide +kernel
theorem dM_measure_143 : decode cM_measure 143 = .ok (.if_icmp .ge 7, 3) := by decide +kernel
theorem dM_measure_146 : decode cM_measure 146 = .ok (.iconst 1, 1) := by decide +kernel
theorem dM_measure_147 : decode cM_measure 147 = .ok (.goto 4, 3) := by decide +kernel
theorem dM_measure_150 : decode cM_measure 150 = .ok (.iconst 0, 1) := by decide +kernel
theorem dM_measure_151 : decode cM_measure 151 = .ok (.istore_n 3, 1) := by decide +kernel
theorem dM_measure_152 : decode cM_measure 152 = .ok (.aload_n 0, 1) := by decide +kernel
theorem dM_measure_153 : decode cM_measure 153 = .ok (.getfield 29, 3) := by decide +kernel
theorem dM_measure_156 : decode cM_measure 156 = .ok (.iload_n 2, 1) := by decide +kernel
theorem dM_measure_157 : decode cM_measure 157 = .ok (.iload 5, 2) := by decide +kernel
theorem dM_measure_159 : decode cM_measure 159 = .ok (.iadd, 1) := by decide +kernel
theorem dM_measure_160 : decode cM_measure 160 = .ok (.iload 6, 2) := by decide +kernel
theorem dM_measure_162 : decode cM_measure 162 = .ok (.aload_n 0, 1) := by decide +kernel
theorem dM_measure_163 : decode cM_measure 163 = .ok (.getfield 29, 3) := by decide +kernel
theorem dM_measure_166 : decode cM_measure 166 = .ok (.iload_n 2, 1) := by decide +kernel
theorem dM_measure_167 : decode cM_measure 167 = .ok (.iload 5, 2) := by decide +kernel
theorem dM_measure_169 : decode cM_measure 169 = .ok (.iadd, 1) := by decide +kernel
theorem dM_measure_170 : decode cM_measure 170 = .ok (.iaload, 1) := by decide +kernel
theorem dM_measure_171 : decode cM_measure 171 = .ok (.if_icmp .ge 8, 3) := by decide +kernel
theorem dM_measure_174 : decode cM_measure 174 = .ok (.iload 6, 2) := by decide +kernel
theorem dM_measure_176 : decode cM_measure 176 = .ok (.goto 12, 3) := by decide +kernel
theorem dM_measure_179 : decode cM_measure 179 = .ok (.aload_n 0, 1) := by decide +kernel
theorem dM_measure_180 : decode cM_measure 180 = .ok (.getfield 29, 3) := by decide +kernel
theorem dM_measure_183 : decode cM_measure 183 = .ok (.iload_n 2, 1) := by decide +kernel
theorem dM_measure_184 : decode cM_measure 184 = .ok (.iload 5, 2) := by decide +kernel
theorem dM_measure_186 : decode cM_measure 186 = .ok (.iadd, 1) := by decide +kernel
theorem dM_measure_187 : decode cM_measure 187 = .ok (.iaload, 1) := by decide +kernel
theorem dM_measure_188 : decode cM_measure 188 = .ok (.iastore, 1) := by decide +kernel
theorem dM_measure_189 : decode cM_measure 189 = .ok (.iinc 5 1, 3) := by decide +kernel
theorem dM_measure_192 : decode cM_measure 192 = .ok (.goto (-106), 3) := by decide +kernel
theorem dM_measure_195 : decode cM_measure 195 = .ok (.iinc 4 1, 3) := by decide +kernel
theorem dM_measure_198 : decode cM_measure 198 = .ok (.goto (-129), 3) := by decide +kernel
theorem dM_measure_201 : decode cM_measure 201 = .ok (.return_, 1) := by decide +kernel
theorem lfM_26 : Cond.fieldLink R_M 26 "RailYardModel" "known" "[Z" ∈ bigW := bw 640 (by decide +kernel) rfl
/-- the ways on in the model's numbering, to station s -/
noncomputable def edM (w : RW) (s : Int) : ED := fun q k => if k < 0 ∨ 6 ≤ k ∨ w 78 (q / 2) = 0 ∨ q / 2 = w 80 s ∨ bhd w q k = -1 then none else some (if bhd w q k / 2 = w 80 s then none else some (bhd w q k), mco (w 79 (bhd w q k / 2)) (bhd w q k))
def fh (w : RW) (s : Int) : Int → Int := fun q => if q / 2 = w 80 s then 1000000000 else w 84 (576 * s + q)
theorem edM_c {w u : RW} (h1 : u 77 = w 77) (h2 : u 78 = w 78) (h3 : u 79 = w 79) (h4 : u 80 = w 80) (s : Int) : edM u s = edM w s := by
  unfold edM bhd bhB bhT
  rw [h1, h2, h3, h4]
theorem edM_ok {w : RW} (hm : mOK w) (s : Int) : okE (576 : Nat) (edM w s) := by
  intro q k t c h
  unfold edM at h
  by_cases hc : k < 0 ∨ 6 ≤ k ∨ w 78 (q / 2) = 0 ∨ q / 2 = w 80 s ∨ bhd w q k = -1
  · rw [if_pos hc] at h; cases h
  · rw [if_neg hc] at h
    simp only [Option.some.injEq, Prod.mk.injEq] at h
    have hb := bhd_rng (q := q) (k := k) hm (by omega)
    have hr := mco_rng (m := w 79 (bhd w q k / 2)) (q := bhd w q k)
    refine ⟨by omega, by omega, fun b hb2 => ?_⟩
    rw [← h.1] at hb2
    by_cases hg : bhd w q k / 2 = w 80 s
    · rw [if_pos hg] at hb2; cases hb2
    · rw [if_neg hg] at hb2
      have := Option.some.inj hb2
      omega
theorem gJu_upd {F n : Int} {ed : ED} {f : Int → Int} {q v : Int} (h : gJu F n ed f) (hv : v ≤ f q) (hj : v < F → v < f q → ∃ k t c, (0 ≤ k ∧ k < 6) ∧ ed q k = some (t, c) ∧ ((t = none ∧ c ≤ v) ∨ ∃ b, t = some b ∧ b ≠ q ∧ f b < F ∧ c + f b ≤ v)) : gJu F n ed (fun x => if x = q then v else f x) := by
  have hle : ∀ x, (if x = q then v else f x) ≤ f x := fun x => by
    by_cases hx : x = q
    · rw [if_pos hx, hx]; exact hv
    · rw [if_neg hx]; omega
  intro x x1 x2 x3
  have keep : f x < F → f x ≤ (if x = q then v else f x) → ∃ k t c, (0 ≤ k ∧ k < 6) ∧ ed x k = some (t, c) ∧ ((t = none ∧ c ≤ (if x = q then v else f x)) ∨ ∃ b, t = some b ∧ (if b = q then v else f b) < F ∧ c + (if b = q then v else f b) ≤ (if x = q then v else f x)) := by
    intro g1 g2
    obtain ⟨k, t, c, hk, he, hc⟩ := h x x1 x2 g1
    refine ⟨k, t, c, hk, he, ?_⟩
    rcases hc with ⟨c1, c2⟩ | ⟨b, c1, c2, c3⟩
    · exact Or.inl ⟨c1, by omega⟩
    · have := hle b
      exact Or.inr ⟨b, c1, by omega, by omega⟩
  by_cases hx : x = q
  · subst hx
    have x3' : v < F := by simpa using x3
    by_cases hlt : v < f x
    · obtain ⟨k, t, c, hk, he, hc⟩ := hj x3' hlt
      refine ⟨k, t, c, hk, he, ?_⟩
      rcases hc with ⟨c1, c2⟩ | ⟨b, c1, c2, c3, c4⟩
      · exact Or.inl ⟨c1, by simpa using c2⟩
      · exact Or.inr ⟨b, c1, by simpa [c2] using c3, by simpa [c2] using c4⟩
    · exact keep (by omega) (by simp; omega)
  · have x3' : f x < F := by simpa [hx] using x3
    exact keep x3' (by rw [if_neg hx]; omega)
theorem nfN_mono {n : Nat} {ed : ED} {f0 f1 : Int → Int} (hle : ∀ q : Int, 0 ≤ q → q < n → f1 q ≤ f0 q) : nfN n ed f1 ≤ nfN n ed f0 := by
  unfold nfN
  refine g_filter_le2 _ _ _ (fun x hx hp => ?_)
  obtain ⟨d, h1, h2⟩ := nfB_iff.mp hp
  have hx' := List.mem_range.mp hx
  have := hle (x : Int) (by omega) (by omega)
  exact nfB_iff.mpr ⟨d, h1, by omega⟩
theorem fh_up {u : RW} {s q v : Int} (hg : ¬ q / 2 = u 80 s) : fh (upw u 84 (576 * s + q) v) s = fun x => if x = q then v else fh u s x := by
  funext x
  unfold fh
  rw [upw_k (by decide)]
  by_cases hx : x = q
  · rw [if_neg (by rw [hx]; exact hg), if_pos hx, hx, upw_s]
  · rw [if_neg hx]
    by_cases h2 : x / 2 = u 80 s
    · rw [if_pos h2, if_pos h2]
    · rw [if_neg h2, if_neg h2, upw_i (by omega)]
/-- what the table says while it is made -/
def msA (w u : RW) (s : Int) : Prop := ((∀ j, j ≠ 83 → j ≠ 84 → u j = w j) ∧ u 83 = upw w 83 s 1 83 ∧ ∀ i, ¬ (576 * s ≤ i ∧ i < 576 * s + 576) → u 84 i = w 84 i) ∧ frR u s ∧ (∀ q, 0 ≤ q → q < 576 → q / 2 = w 80 s → u 84 (576 * s + q) = 0) ∧ gJu 1000000000 576 (edM w s) (fh u s)
def msJ (w u0 u : RW) (s q : Int) : Prop := ∀ (x k : Int) (t : Option Int) (c : Int), 0 ≤ x → x < q → 0 ≤ k → k < 6 → edM w s x k = some (t, c) → (t = none → fh u s x ≤ c) ∧ ∀ b, t = some b → fh u0 s b < 1000000000 → fh u s x ≤ c + fh u0 s b
def msI (w u0 u : RW) (s q more : Int) : Prop := msA w u s ∧ (∀ x, 0 ≤ x → x < 576 → fh u s x ≤ fh u0 s x) ∧ msJ w u0 u s q ∧ ((more = 0 ∧ fh u s = fh u0 s) ∨ more = 1)
theorem msA_mOK {w u : RW} {s : Int} (h : msA w u s) (hm : mOK w) : mOK u := by
  obtain ⟨⟨hf, -, -⟩, -⟩ := h
  unfold mOK
  rw [hf 77 (by decide) (by decide), hf 78 (by decide) (by decide), hf 79 (by decide) (by decide), hf 80 (by decide) (by decide), hf 81 (by decide) (by decide), hf 82 (by decide) (by decide), hf 85 (by decide) (by decide), hf 86 (by decide) (by decide), hf 87 (by decide) (by decide), hf 88 (by decide) (by decide), hf 89 (by decide) (by decide), hf 90 (by decide) (by decide), hf 91 (by decide) (by decide), hf 92 (by decide) (by decide), hf 93 (by decide) (by decide), hf 94 (by decide) (by decide)]
  exact hm
theorem bhd_c {w u : RW} (h1 : u 77 = w 77) (h2 : u 78 = w 78) (h3 : u 79 = w 79) (q k : Int) : bhd u q k = bhd w q k := by
  unfold bhd bhB bhT
  rw [h1, h2, h3]
/-- a node that isn't laid, or is the goal's: no way on -/
theorem msI_skip {w u0 u : RW} {s q more : Int} (h : msI w u0 u s q more) (hq : w 78 (q / 2) = 0 ∨ q / 2 = w 80 s) : msI w u0 u s (q + 1) more := by
  obtain ⟨h1, h2, h3, h4⟩ := h
  refine ⟨h1, h2, fun x k t c x1 x2 k1 k2 he => ?_, h4⟩
  by_cases hx : x = q
  · subst hx
    unfold edM at he
    rw [if_pos (by rcases hq with hq | hq
                   · exact Or.inr (Or.inr (Or.inl hq))
                   · exact Or.inr (Or.inr (Or.inr (Or.inl hq))))] at he
    cases he
  · exact h3 x k t c x1 (by omega) k1 k2 he
/-- a node gets the least of its sums -/
theorem msI_step {w u0 u : RW} {s q more more' r v : Int} (hm : mOK w) (hs : 0 ≤ s ∧ s < 6) (hq : 0 ≤ q ∧ q < 576) (h : msI w u0 u s q more) (hl : ¬ w 78 (q / 2) = 0) (hg : ¬ q / 2 = w 80 s) (hP : onP u s q 6 r) (hv : (r < u 84 (576 * s + q) ∧ v = r ∧ more' = 1) ∨ (¬ r < u 84 (576 * s + q) ∧ v = u 84 (576 * s + q) ∧ more' = more)) : msI w u0 (upw u 84 (576 * s + q) v) s (q + 1) more' := by
  obtain ⟨⟨⟨f1, f2, f3⟩, a1, a2, a3⟩, h2, h3, h4⟩ := h
  have e77 := f1 77 (by decide) (by decide)
  have e78 := f1 78 (by decide) (by decide)
  have e79 := f1 79 (by decide) (by decide)
  have e80 := f1 80 (by decide) (by decide)
  have hgu : ¬ q / 2 = u 80 s := by rw [e80]; exact hg
  have hfq : fh u s q = u 84 (576 * s + q) := by unfold fh; rw [if_neg hgu]
  have hup := fh_up (u := u) (s := s) (q := q) (v := v) hgu
  have hvle : v ≤ fh u s q := by rw [hfq]; omega
  have hrng := a1 q hq.1 hq.2
  have hv0 : 0 ≤ v ∧ v ≤ 1000000000 := by have := hP.1; omega
  have hvr : v ≤ r := by omega
  have hfb : ∀ k, 0 ≤ k → k < 6 → 0 ≤ bhd w q k → ¬ bhd w q k / 2 = w 80 s → fh u s (bhd w q k) = u 84 (576 * s + bhd w q k) := fun k _ _ _ h9 => by
    unfold fh; rw [if_neg (by rw [e80]; exact h9)]
  have hon : ∀ k, bhd u q k = bhd w q k := fun k => bhd_c e77 e78 e79 q k
  have honS : ∀ k, onS6 u s q k = u 84 (576 * s + bhd w q k) + mco (w 79 (bhd w q k / 2)) (bhd w q k) := fun k => by
    unfold onS6; rw [hon k, e79]
  refine ⟨⟨⟨fun j j1 j2 => ?_, ?_, fun i hi => ?_⟩, fun x x1 x2 => ?_, fun x x1 x2 x3 => ?_, ?_⟩, fun x x1 x2 => ?_, fun x k t c x1 x2 k1 k2 he => ?_, ?_⟩
  · rw [upw_f j2]; exact f1 j j1 j2
  · rw [upw_f (by decide)]; exact f2
  · rw [upw_i (by omega)]; exact f3 i hi
  · by_cases hx : x = q
    · rw [hx, upw_s]; exact hv0
    · rw [upw_i (by omega)]; exact a1 x x1 x2
  · rw [upw_i (by intro e; have : x = q := by omega
                  exact hg (by rw [← this]; exact x3))]
    exact a2 x x1 x2 x3
  · rw [hup]
    refine gJu_upd a3 hvle (fun v1 v2 => ?_)
    have hvr2 : v = r := by rw [hfq] at v2; omega
    obtain ⟨k, k1, k2, k3, k4⟩ := hP.2.2 (by omega)
    have hb0 : 0 ≤ bhd w q k := by rw [← hon k]; exact k3.1
    have hbr := bhd_rng (q := q) hm ⟨k1, k2⟩
    have hbf : u 84 (576 * s + bhd w q k) < 1000000000 := by rw [← hon k]; exact k3.2
    rw [honS k] at k4
    have he : edM w s q k = some (if bhd w q k / 2 = w 80 s then none else some (bhd w q k), mco (w 79 (bhd w q k / 2)) (bhd w q k)) := by
      unfold edM
      rw [if_neg (by omega)]
    refine ⟨k, _, _, ⟨k1, k2⟩, he, ?_⟩
    have hfr0 := a1 (bhd w q k) (by omega) (by omega)
    by_cases hgb : bhd w q k / 2 = w 80 s
    · rw [if_pos hgb]
      exact Or.inl ⟨rfl, by omega⟩
    · rw [if_neg hgb]
      have e := hfb k k1 k2 hb0 hgb
      have hc := mco_rng (m := w 79 (bhd w q k / 2)) (q := bhd w q k)
      refine Or.inr ⟨bhd w q k, rfl, fun hbq => ?_, by rw [e]; exact hbf, by rw [e]; omega⟩
      rw [hbq] at k4
      rw [hfq] at v2
      rw [hbq] at hc
      omega
  · rw [hup]
    by_cases hx : x = q
    · rw [hx]; simp only [if_true]; have := h2 q hq.1 hq.2; omega
    · simp only [hx, if_false]; exact h2 x x1 x2
  · rw [hup]
    by_cases hx : x = q
    · subst hx
      simp only [if_true]
      have he2 := he
      unfold edM at he2
      by_cases hc : k < 0 ∨ 6 ≤ k ∨ w 78 (x / 2) = 0 ∨ x / 2 = w 80 s ∨ bhd w x k = -1
      · rw [if_pos hc] at he2; cases he2
      · rw [if_neg hc] at he2
        simp only [Option.some.injEq, Prod.mk.injEq] at he2
        have hbr := bhd_rng (q := x) hm ⟨k1, k2⟩
        have hfr0 := a1 (bhd w x k) (by omega) (by omega)
        by_cases hgb : bhd w x k / 2 = w 80 s
        · rw [if_pos hgb] at he2
          have h0 := a2 (bhd w x k) (by omega) (by omega) hgb
          have := hP.2.1 k k1 k2 ⟨by rw [hon k]; omega, by rw [hon k]; omega⟩
          rw [honS k] at this
          refine ⟨fun _ => by omega, fun b hb => ?_⟩
          rw [← he2.1] at hb
          cases hb
        · rw [if_neg hgb] at he2
          refine ⟨fun ht => ?_, fun b hb hbF => ?_⟩
          · rw [ht] at he2; cases he2.1
          · rw [← he2.1] at hb
            have hb' := Option.some.inj hb
            have e := hfb k k1 k2 (by omega) hgb
            have hle0 := h2 b (by omega) (by omega)
            rw [← hb'] at hle0 hbF ⊢
            have := hP.2.1 k k1 k2 ⟨by rw [hon k]; omega, by rw [hon k]; omega⟩
            rw [honS k] at this
            omega
    · simp only [hx, if_false]
      exact h3 x k t c x1 (by omega) k1 k2 he
  · rcases hv with ⟨_, _, hv⟩ | ⟨v1, v2, v3⟩
    · exact Or.inr hv
    · rw [v3]
      rcases h4 with ⟨h5, h6⟩ | h5
      · refine Or.inl ⟨h5, ?_⟩
        rw [hup, ← h6]
        funext x
        by_cases hx : x = q
        · rw [if_pos hx, hx, hfq, v2]
        · rw [if_neg hx]
      · exact Or.inr h5
def frOK (w : RW) (s : Int) : Prop := frR w s ∧ (∀ q, 0 ≤ q → q < 576 → q / 2 = w 80 s → w 84 (576 * s + q) = 0) ∧ gJu 1000000000 576 (edM w s) (fh w s) ∧ gRl 1000000000 576 (edM w s) (fh w s)
def msP (w u : RW) (s : Int) : Prop := (w 83 s = 1 ∧ w = u) ∨ (w 83 s = 0 ∧ ((∀ j, j ≠ 83 → j ≠ 84 → u j = w j) ∧ u 83 = upw w 83 s 1 83 ∧ ∀ i, ¬ (576 * s ≤ i ∧ i < 576 * s + 576) → u 84 i = w 84 i) ∧ frOK u s)
theorem msA_pos {w u : RW} {s : Int} (h : msA w u s) : gPos 576 (fh u s) := by
  intro q h1 h2
  have := h.2.1 q h1 h2
  unfold fh
  split <;> omega
theorem msA_F {w u : RW} {s : Int} (h : msA w u s) : ∀ q : Int, 0 ≤ q → q < 576 → fh u s q ≤ 1000000000 := by
  intro q h1 h2
  have := h.2.1 q h1 h2
  unfold fh
  split <;> omega
theorem lpM_sweep {G : vG} {X : vX} {Q : State → Prop} {w u0 : RW} {s : Int} (hs : 0 ≤ s ∧ s < 6) (hm : mOK w) (F : FX G X cM_measure yM_measure.cls 7 4) {rd : Int} (K : ∀ (more q : Int) (o : Option RV) (u : RW), msI w u0 u s 576 more → V G X 7 Q 195 [some (.inr 77), some (.inl s), some (.inl (576 * s)), some (.inl more), some (.inl rd), some (.inl q), o] [] u) : ∀ (m : Nat) (q more : Int) (o : Option RV) (u : RW), 0 ≤ q → q ≤ 576 → 576 - q < m → msI w u0 u s q more → V G X 7 Q 86 [some (.inr 77), some (.inl s), some (.inl (576 * s)), some (.inl more), some (.inl rd), some (.inl q), o] [] u := by
  intro m
  induction m with
  | zero => intro q more o u h1 h2 h3; omega
  | succ m ih =>
    intro q more o u h1 h2 h3 hI
    have hmo : more = 0 ∨ more = 1 := by rcases hI.2.2.2 with h | h
                                         · exact Or.inl h.1
                                         · exact Or.inr h
    refine V_iload F dM_measure_86 rfl ?_
    refine V_sipush F dM_measure_88 (by decide) ?_
    refine V_icmp_ge F 195 dM_measure_91 (by decide) (fun h91 => ?_) (fun h91 => ?_)
    · rw [show q = 576 by omega] at hI
      exact K _ _ _ _ hI
    · have e78 := hI.1.1.1 78 (by decide) (by decide)
      have e80 := hI.1.1.1 80 (by decide) (by decide)
      have hfr := hI.1.2.1 q h1 (by omega)
      refine V_aload_n (i := 0) F dM_measure_94 rfl rfl ?_
      refine V_getr (ci := 7) (C := R_M) (T := T_M) (N := 32) F dM_measure_95 (by first | rfl | assumption) rfl (j := 2) (by decide) rfl lfM_7 ?_
      refine V_iload F dM_measure_98 rfl ?_
      refine V_iconst F dM_measure_100 (by decide) ?_
      refine V_idiv F dM_measure_101 (by omega) ?_
      refine V_zald F dM_measure_102 (by first | rfl | assumption) rfl (by omega) ?_
      rw [e78]
      refine V_if_eq F 189 dM_measure_103 (by decide) (fun h103 => ?_) (fun h103 => ?_)
      · refine V_iinc F dM_measure_189 (by decide) rfl (by omega) (by simp only [List.set_cons_zero, List.set_cons_succ]; exact rfl) ?_
        refine V_goto F 86 dM_measure_192 (by decide) ?_
        first
        | exact ih (q + 1) _ _ _ (by omega) (by omega) (by omega) (msI_skip hI (Or.inl (by assumption)))
        | exact ih (q + 1) _ _ _ (by omega) (by omega) (by omega) (msI_skip hI (Or.inr (by assumption)))
        | exact ih (q + 1) _ _ _ (by omega) (by omega) (by omega) (msI_step hm hs ⟨h1, by omega⟩ hI h103 h116 hP (Or.inl ⟨by omega, rfl, by first | rfl | (have := hI.2.2.2; omega)⟩))
        | exact ih (q + 1) _ _ _ (by omega) (by omega) (by omega) (msI_step hm hs ⟨h1, by omega⟩ hI h103 h116 hP (Or.inr ⟨by omega, rfl, by first | rfl | (have := hI.2.2.2; omega)⟩))
        | (exfalso; omega)
      · refine V_iload F dM_measure_106 rfl ?_
        refine V_iconst F dM_measure_108 (by decide) ?_
        refine V_idiv F dM_measure_109 (by omega) ?_
        refine V_aload_n (i := 0) F dM_measure_110 rfl rfl ?_
        refine V_getr (ci := 7) (C := R_M) (T := T_M) (N := 32) F dM_measure_111 (by first | rfl | assumption) rfl (j := 5) (by decide) rfl lfM_17 ?_
        refine V_iload_n (i := 1) F dM_measure_114 rfl rfl ?_
        first
          | refine V_sald F dM_measure_115 (by decide) (by omega) (stt_in _ _) ?_
          | refine V_iald F dM_measure_115 (by first | rfl | assumption) rfl (by omega) ?_
        rw [e80]
        refine V_icmp_eq F 189 dM_measure_116 (by decide) (fun h116 => ?_) (fun h116 => ?_)
        · refine V_iinc F dM_measure_189 (by decide) rfl (by omega) (by simp only [List.set_cons_zero, List.set_cons_succ]; exact rfl) ?_
          refine V_goto F 86 dM_measure_192 (by decide) ?_
          first
          | exact ih (q + 1) _ _ _ (by omega) (by omega) (by omega) (msI_skip hI (Or.inl (by assumption)))
          | exact ih (q + 1) _ _ _ (by omega) (by omega) (by omega) (msI_skip hI (Or.inr (by assumption)))
          | exact ih (q + 1) _ _ _ (by omega) (by omega) (by omega) (msI_step hm hs ⟨h1, by omega⟩ hI h103 h116 hP (Or.inl ⟨by omega, rfl, by first | rfl | (have := hI.2.2.2; omega)⟩))
          | exact ih (q + 1) _ _ _ (by omega) (by omega) (by omega) (msI_step hm hs ⟨h1, by omega⟩ hI h103 h116 hP (Or.inr ⟨by omega, rfl, by first | rfl | (have := hI.2.2.2; omega)⟩))
          | (exfalso; omega)
        · refine V_aload_n (i := 0) F dM_measure_119 rfl rfl ?_
          refine V_iload F dM_measure_120 rfl ?_
          refine V_iload_n (i := 1) F dM_measure_122 rfl rfl ?_
          refine V_callVi F dM_measure_123 lmM_120 miM_onward mvM_onward (ctM_onward ⟨h1, by omega⟩ hs (msA_mOK hI.1 hm) hI.1.2.1) (by decide) (by first | rfl | assumption) rfl rfl (Nat.le_of_ble_eq_true rfl) (fun r u hr => ?_)
          obtain ⟨hP, rfl⟩ := hr
          refine V_istore F dM_measure_126 (by decide) (by simp only [List.set_cons_zero, List.set_cons_succ]; exact rfl) ?_
          refine V_iload_n (i := 3) F dM_measure_128 rfl rfl ?_
          refine V_if_ne F 146 dM_measure_129 (by decide) (fun h129 => ?_) (fun h129 => ?_)
          · refine V_iconst F dM_measure_146 (by decide) ?_
            refine V_goto F 151 dM_measure_147 (by decide) ?_
            refine V_istore_n (i := 3) F dM_measure_151 rfl (by decide) (by simp only [List.set_cons_zero, List.set_cons_succ]; exact rfl) ?_
            refine V_aload_n (i := 0) F dM_measure_152 rfl rfl ?_
            refine V_getr (ci := 7) (C := R_M) (T := T_M) (N := 32) F dM_measure_153 (by first | rfl | assumption) rfl (j := 9) (by decide) rfl lfM_29 ?_
            refine V_iload_n (i := 2) F dM_measure_156 rfl rfl ?_
            refine V_iload F dM_measure_157 rfl ?_
            refine V_iadd F dM_measure_159 (by omega) ?_
            refine V_iload F dM_measure_160 rfl ?_
            refine V_aload_n (i := 0) F dM_measure_162 rfl rfl ?_
            refine V_getr (ci := 7) (C := R_M) (T := T_M) (N := 32) F dM_measure_163 (by first | rfl | assumption) rfl (j := 9) (by decide) rfl lfM_29 ?_
            refine V_iload_n (i := 2) F dM_measure_166 rfl rfl ?_
            refine V_iload F dM_measure_167 rfl ?_
            refine V_iadd F dM_measure_169 (by omega) ?_
            first
              | refine V_sald F dM_measure_170 (by decide) (by omega) (stt_in _ _) ?_
              | refine V_iald F dM_measure_170 (by first | rfl | assumption) rfl (by omega) ?_
            refine V_icmp_ge F 179 dM_measure_171 (by decide) (fun h171 => ?_) (fun h171 => ?_)
            · refine V_aload_n (i := 0) F dM_measure_179 rfl rfl ?_
              refine V_getr (ci := 7) (C := R_M) (T := T_M) (N := 32) F dM_measure_180 (by first | rfl | assumption) rfl (j := 9) (by decide) rfl lfM_29 ?_
              refine V_iload_n (i := 2) F dM_measure_183 rfl rfl ?_
              refine V_iload F dM_measure_184 rfl ?_
              refine V_iadd F dM_measure_186 (by omega) ?_
              first
                | refine V_sald F dM_measure_187 (by decide) (by omega) (stt_in _ _) ?_
                | refine V_iald F dM_measure_187 (by first | rfl | assumption) rfl (by omega) ?_
              refine V_iast F dM_measure_188 (by first | rfl | assumption) rfl (by omega) ?_
              refine V_iinc F dM_measure_189 (by decide) rfl (by omega) (by simp only [List.set_cons_zero, List.set_cons_succ]; exact rfl) ?_
              refine V_goto F 86 dM_measure_192 (by decide) ?_
              first
              | exact ih (q + 1) _ _ _ (by omega) (by omega) (by omega) (msI_skip hI (Or.inl (by assumption)))
              | exact ih (q + 1) _ _ _ (by omega) (by omega) (by omega) (msI_skip hI (Or.inr (by assumption)))
              | exact ih (q + 1) _ _ _ (by omega) (by omega) (by omega) (msI_step hm hs ⟨h1, by omega⟩ hI h103 h116 hP (Or.inl ⟨by omega, rfl, by first | rfl | (have := hI.2.2.2; omega)⟩))
              | exact ih (q + 1) _ _ _ (by omega) (by omega) (by omega) (msI_step hm hs ⟨h1, by omega⟩ hI h103 h116 hP (Or.inr ⟨by omega, rfl, by first | rfl | (have := hI.2.2.2; omega)⟩))
              | (exfalso; omega)
            · refine V_iload F dM_measure_174 rfl ?_
              refine V_goto F 188 dM_measure_176 (by decide) ?_
              refine V_iast F dM_measure_188 (by first | rfl | assumption) rfl (by omega) ?_
              refine V_iinc F dM_measure_189 (by decide) rfl (by omega) (by simp only [List.set_cons_zero, List.set_cons_succ]; exact rfl) ?_
              refine V_goto F 86 dM_measure_192 (by decide) ?_
              first
              | exact ih (q + 1) _ _ _ (by omega) (by omega) (by omega) (msI_skip hI (Or.inl (by assumption)))
              | exact ih (q + 1) _ _ _ (by omega) (by omega) (by omega) (msI_skip hI (Or.inr (by assumption)))
              | exact ih (q + 1) _ _ _ (by omega) (by omega) (by omega) (msI_step hm hs ⟨h1, by omega⟩ hI h103 h116 hP (Or.inl ⟨by omega, rfl, by first | rfl | (have := hI.2.2.2; omega)⟩))
              | exact ih (q + 1) _ _ _ (by omega) (by omega) (by omega) (msI_step hm hs ⟨h1, by omega⟩ hI h103 h116 hP (Or.inr ⟨by omega, rfl, by first | rfl | (have := hI.2.2.2; omega)⟩))
              | (exfalso; omega)
          · refine V_iload F dM_measure_132 rfl ?_
            refine V_aload_n (i := 0) F dM_measure_134 rfl rfl ?_
            refine V_getr (ci := 7) (C := R_M) (T := T_M) (N := 32) F dM_measure_135 (by first | rfl | assumption) rfl (j := 9) (by decide) rfl lfM_29 ?_
            refine V_iload_n (i := 2) F dM_measure_138 rfl rfl ?_
            refine V_iload F dM_measure_139 rfl ?_
            refine V_iadd F dM_measure_141 (by omega) ?_
            first
              | refine V_sald F dM_measure_142 (by decide) (by omega) (stt_in _ _) ?_
              | refine V_iald F dM_measure_142 (by first | rfl | assumption) rfl (by omega) ?_
            refine V_icmp_ge F 150 dM_measure_143 (by decide) (fun h143 => ?_) (fun h143 => ?_)
            · refine V_iconst F dM_measure_150 (by decide) ?_
              refine V_istore_n (i := 3) F dM_measure_151 rfl (by decide) (by simp only [List.set_cons_zero, List.set_cons_succ]; exact rfl) ?_
              refine V_aload_n (i := 0) F dM_measure_152 rfl rfl ?_
              refine V_getr (ci := 7) (C := R_M) (T := T_M) (N := 32) F dM_measure_153 (by first | rfl | assumption) rfl (j := 9) (by decide) rfl lfM_29 ?_
              refine V_iload_n (i := 2) F dM_measure_156 rfl rfl ?_
              refine V_iload F dM_measure_157 rfl ?_
              refine V_iadd F dM_measure_159 (by omega) ?_
              refine V_iload F dM_measure_160 rfl ?_
              refine V_aload_n (i := 0) F dM_measure_162 rfl rfl ?_
              refine V_getr (ci := 7) (C := R_M) (T := T_M) (N := 32) F dM_measure_163 (by first | rfl | assumption) rfl (j := 9) (by decide) rfl lfM_29 ?_
              refine V_iload_n (i := 2) F dM_measure_166 rfl rfl ?_
              refine V_iload F dM_measure_167 rfl ?_
              refine V_iadd F dM_measure_169 (by omega) ?_
              first
                | refine V_sald F dM_measure_170 (by decide) (by omega) (stt_in _ _) ?_
                | refine V_iald F dM_measure_170 (by first | rfl | assumption) rfl (by omega) ?_
              refine V_icmp_ge F 179 dM_measure_171 (by decide) (fun h171 => ?_) (fun h171 => ?_)
              · refine V_aload_n (i := 0) F dM_measure_179 rfl rfl ?_
                refine V_getr (ci := 7) (C := R_M) (T := T_M) (N := 32) F dM_measure_180 (by first | rfl | assumption) rfl (j := 9) (by decide) rfl lfM_29 ?_
                refine V_iload_n (i := 2) F dM_measure_183 rfl rfl ?_
                refine V_iload F dM_measure_184 rfl ?_
                refine V_iadd F dM_measure_186 (by omega) ?_
                first
                  | refine V_sald F dM_measure_187 (by decide) (by omega) (stt_in _ _) ?_
                  | refine V_iald F dM_measure_187 (by first | rfl | assumption) rfl (by omega) ?_
                refine V_iast F dM_measure_188 (by first | rfl | assumption) rfl (by omega) ?_
                refine V_iinc F dM_measure_189 (by decide) rfl (by omega) (by simp only [List.set_cons_zero, List.set_cons_succ]; exact rfl) ?_
                refine V_goto F 86 dM_measure_192 (by decide) ?_
                first
                | exact ih (q + 1) _ _ _ (by omega) (by omega) (by omega) (msI_skip hI (Or.inl (by assumption)))
                | exact ih (q + 1) _ _ _ (by omega) (by omega) (by omega) (msI_skip hI (Or.inr (by assumption)))
                | exact ih (q + 1) _ _ _ (by omega) (by omega) (by omega) (msI_step hm hs ⟨h1, by omega⟩ hI h103 h116 hP (Or.inl ⟨by omega, rfl, by first | rfl | (have := hI.2.2.2; omega)⟩))
                | exact ih (q + 1) _ _ _ (by omega) (by omega) (by omega) (msI_step hm hs ⟨h1, by omega⟩ hI h103 h116 hP (Or.inr ⟨by omega, rfl, by first | rfl | (have := hI.2.2.2; omega)⟩))
                | (exfalso; omega)
              · refine V_iload F dM_measure_174 rfl ?_
                refine V_goto F 188 dM_measure_176 (by decide) ?_
                refine V_iast F dM_measure_188 (by first | rfl | assumption) rfl (by omega) ?_
                refine V_iinc F dM_measure_189 (by decide) rfl (by omega) (by simp only [List.set_cons_zero, List.set_cons_succ]; exact rfl) ?_
                refine V_goto F 86 dM_measure_192 (by decide) ?_
                first
                | exact ih (q + 1) _ _ _ (by omega) (by omega) (by omega) (msI_skip hI (Or.inl (by assumption)))
                | exact ih (q + 1) _ _ _ (by omega) (by omega) (by omega) (msI_skip hI (Or.inr (by assumption)))
                | exact ih (q + 1) _ _ _ (by omega) (by omega) (by omega) (msI_step hm hs ⟨h1, by omega⟩ hI h103 h116 hP (Or.inl ⟨by omega, rfl, by first | rfl | (have := hI.2.2.2; omega)⟩))
                | exact ih (q + 1) _ _ _ (by omega) (by omega) (by omega) (msI_step hm hs ⟨h1, by omega⟩ hI h103 h116 hP (Or.inr ⟨by omega, rfl, by first | rfl | (have := hI.2.2.2; omega)⟩))
                | (exfalso; omega)
            · refine V_iconst F dM_measure_146 (by decide) ?_
              refine V_goto F 151 dM_measure_147 (by decide) ?_
              refine V_istore_n (i := 3) F dM_measure_151 rfl (by decide) (by simp only [List.set_cons_zero, List.set_cons_succ]; exact rfl) ?_
              refine V_aload_n (i := 0) F dM_measure_152 rfl rfl ?_
              refine V_getr (ci := 7) (C := R_M) (T := T_M) (N := 32) F dM_measure_153 (by first | rfl | assumption) rfl (j := 9) (by decide) rfl lfM_29 ?_
              refine V_iload_n (i := 2) F dM_measure_156 rfl rfl ?_
              refine V_iload F dM_measure_157 rfl ?_
              refine V_iadd F dM_measure_159 (by omega) ?_
              refine V_iload F dM_measure_160 rfl ?_
              refine V_aload_n (i := 0) F dM_measure_162 rfl rfl ?_
              refine V_getr (ci := 7) (C := R_M) (T := T_M) (N := 32) F dM_measure_163 (by first | rfl | assumption) rfl (j := 9) (by decide) rfl lfM_29 ?_
              refine V_iload_n (i := 2) F dM_measure_166 rfl rfl ?_
              refine V_iload F dM_measure_167 rfl ?_
              refine V_iadd F dM_measure_169 (by omega) ?_
              first
                | refine V_sald F dM_measure_170 (by decide) (by omega) (stt_in _ _) ?_
                | refine V_iald F dM_measure_170 (by first | rfl | assumption) rfl (by omega) ?_
              refine V_icmp_ge F 179 dM_measure_171 (by decide) (fun h171 => ?_) (fun h171 => ?_)
              · refine V_aload_n (i := 0) F dM_measure_179 rfl rfl ?_
                refine V_getr (ci := 7) (C := R_M) (T := T_M) (N := 32) F dM_measure_180 (by first | rfl | assumption) rfl (j := 9) (by decide) rfl lfM_29 ?_
                refine V_iload_n (i := 2) F dM_measure_183 rfl rfl ?_
                refine V_iload F dM_measure_184 rfl ?_
                refine V_iadd F dM_measure_186 (by omega) ?_
                first
                  | refine V_sald F dM_measure_187 (by decide) (by omega) (stt_in _ _) ?_
                  | refine V_iald F dM_measure_187 (by first | rfl | assumption) rfl (by omega) ?_
                refine V_iast F dM_measure_188 (by first | rfl | assumption) rfl (by omega) ?_
                refine V_iinc F dM_measure_189 (by decide) rfl (by omega) (by simp only [List.set_cons_zero, List.set_cons_succ]; exact rfl) ?_
                refine V_goto F 86 dM_measure_192 (by decide) ?_
                first
                | exact ih (q + 1) _ _ _ (by omega) (by omega) (by omega) (msI_skip hI (Or.inl (by assumption)))
                | exact ih (q + 1) _ _ _ (by omega) (by omega) (by omega) (msI_skip hI (Or.inr (by assumption)))
                | exact ih (q + 1) _ _ _ (by omega) (by omega) (by omega) (msI_step hm hs ⟨h1, by omega⟩ hI h103 h116 hP (Or.inl ⟨by omega, rfl, by first | rfl | (have := hI.2.2.2; omega)⟩))
                | exact ih (q + 1) _ _ _ (by omega) (by omega) (by omega) (msI_step hm hs ⟨h1, by omega⟩ hI h103 h116 hP (Or.inr ⟨by omega, rfl, by first | rfl | (have := hI.2.2.2; omega)⟩))
                | (exfalso; omega)
              · refine V_iload F dM_measure_174 rfl ?_
                refine V_goto F 188 dM_measure_176 (by decide) ?_
                refine V_iast F dM_measure_188 (by first | rfl | assumption) rfl (by omega) ?_
                refine V_iinc F dM_measure_189 (by decide) rfl (by omega) (by simp only [List.set_cons_zero, List.set_cons_succ]; exact rfl) ?_
                refine V_goto F 86 dM_measure_192 (by decide) ?_
                first
                | exact ih (q + 1) _ _ _ (by omega) (by omega) (by omega) (msI_skip hI (Or.inl (by assumption)))
                | exact ih (q + 1) _ _ _ (by omega) (by omega) (by omega) (msI_skip hI (Or.inr (by assumption)))
                | exact ih (q + 1) _ _ _ (by omega) (by omega) (by omega) (msI_step hm hs ⟨h1, by omega⟩ hI h103 h116 hP (Or.inl ⟨by omega, rfl, by first | rfl | (have := hI.2.2.2; omega)⟩))
                | exact ih (q + 1) _ _ _ (by omega) (by omega) (by omega) (msI_step hm hs ⟨h1, by omega⟩ hI h103 h116 hP (Or.inr ⟨by omega, rfl, by first | rfl | (have := hI.2.2.2; omega)⟩))
                | (exfalso; omega)
theorem lpM_rounds {G : vG} {X : vX} {Q : State → Prop} {w : RW} {s : Int} (hs : 0 ≤ s ∧ s < 6) (hm : mOK w) (hk0 : w 83 s = 0) (F : FX G X cM_measure yM_measure.cls 7 4) (hR : RetV G X cM_measure 7 Q (fun u => msP w u s)) : ∀ (m : Nat) (rd more : Int) (o1 o2 : Option RV) (u0 : RW), 0 ≤ rd → rd ≤ 600 → 600 - rd < m → msA w u0 s → (more = 0 ∨ more = 1) → ((nfN 576 (edM w s) (fh u0 s) : Int) + rd ≤ 576 ∨ nfN 576 (edM w s) (fh u0 s) = 0) → (more = 0 → gRl 1000000000 576 (edM w s) (fh u0 s)) → V G X 7 Q 69 [some (.inr 77), some (.inl s), some (.inl (576 * s)), some (.inl more), some (.inl rd), o1, o2] [] u0 := by
  intro m
  induction m with
  | zero => intro rd more o1 o2 u0 h1 h2 h3; omega
  | succ m ih =>
    intro rd more o1 o2 u0 h1 h2 h3 hA hmo hN hz
    refine V_iload F dM_measure_69 rfl ?_
    refine V_sipush F dM_measure_71 (by decide) ?_
    refine V_icmp_ge F 201 dM_measure_74 (by decide) (fun h74 => ?_) (fun h74 => ?_)
    · exact hR _ _ _ dM_measure_201 (by
        refine Or.inr ⟨hk0, hA.1, hA.2.1, ?_, ?_, ?_⟩
        · rw [hA.1.1 80 (by decide) (by decide)]; exact hA.2.2.1
        · rw [edM_c (hA.1.1 77 (by decide) (by decide)) (hA.1.1 78 (by decide) (by decide)) (hA.1.1 79 (by decide) (by decide)) (hA.1.1 80 (by decide) (by decide))]; exact hA.2.2.2
        · rw [edM_c (hA.1.1 77 (by decide) (by decide)) (hA.1.1 78 (by decide) (by decide)) (hA.1.1 79 (by decide) (by decide)) (hA.1.1 80 (by decide) (by decide))]
          first
          | exact hz (by omega)
          | exact gRl_of_fin (edM_ok hm s) hA.2.2.2 (msA_pos hA) (fun q d q1 q2 hd => nfN_0 (n := 576) (by omega) q1 q2 hd))
    · refine V_iload_n (i := 3) F dM_measure_77 rfl rfl ?_
      refine V_if_eq F 201 dM_measure_78 (by decide) (fun h78 => ?_) (fun h78 => ?_)
      · exact hR _ _ _ dM_measure_201 (by
          refine Or.inr ⟨hk0, hA.1, hA.2.1, ?_, ?_, ?_⟩
          · rw [hA.1.1 80 (by decide) (by decide)]; exact hA.2.2.1
          · rw [edM_c (hA.1.1 77 (by decide) (by decide)) (hA.1.1 78 (by decide) (by decide)) (hA.1.1 79 (by decide) (by decide)) (hA.1.1 80 (by decide) (by decide))]; exact hA.2.2.2
          · rw [edM_c (hA.1.1 77 (by decide) (by decide)) (hA.1.1 78 (by decide) (by decide)) (hA.1.1 79 (by decide) (by decide)) (hA.1.1 80 (by decide) (by decide))]
            first
            | exact hz (by omega)
            | exact gRl_of_fin (edM_ok hm s) hA.2.2.2 (msA_pos hA) (fun q d q1 q2 hd => nfN_0 (n := 576) (by omega) q1 q2 hd))
      · refine V_iconst F dM_measure_81 (by decide) ?_
        refine V_istore_n (i := 3) F dM_measure_82 rfl (by decide) (by simp only [List.set_cons_zero, List.set_cons_succ]; exact rfl) ?_
        refine V_iconst F dM_measure_83 (by decide) ?_
        refine V_istore F dM_measure_84 (by decide) (by simp only [List.set_cons_zero, List.set_cons_succ]; exact rfl) ?_
        refine lpM_sweep hs hm F (w := w) (u0 := u0) (fun more2 q2 o2 u2 hI2 => ?_) 577 0 0 _ u0 (by omega) (by omega) (by omega) ⟨hA, fun _ _ _ => by omega, fun x k t c x1 x2 => by omega, Or.inl ⟨rfl, rfl⟩⟩
        obtain ⟨hA2, hle2, hJ2, hmo2⟩ := hI2
        refine V_iinc F dM_measure_195 (by decide) rfl (by omega) (by simp only [List.set_cons_zero, List.set_cons_succ]; exact rfl) ?_
        refine V_goto F 69 dM_measure_198 (by decide) ?_
        refine ih (rd + 1) _ _ _ _ (by omega) (by omega) (by omega) hA2 ?_ ?_ ?_
        · rcases hmo2 with h | h
          · exact Or.inl h.1
          · exact Or.inr h
        · have hmn := nfN_mono (n := 576) (ed := edM w s) (f0 := fh u0 s) (f1 := fh u2 s) hle2
          rcases hN with hN | hN
          · by_cases h0 : 0 < nfN 576 (edM w s) (fh u0 s)
            · have := g_sweep (edM_ok hm s) (msA_F hA) hle2 hJ2 h0
              exact Or.inl (by omega)
            · exact Or.inr (by omega)
          · exact Or.inr (by omega)
        · intro hz
          rcases hmo2 with ⟨_, h⟩ | h
          · intro x k t c x1 x2 k1 k2 he
            have := hJ2 x k t c x1 x2 k1 k2 he
            rw [h] at this ⊢
            exact this
          · omega
def msF (w u : RW) (s n : Int) : Prop := ((∀ j, j ≠ 83 → j ≠ 84 → u j = w j) ∧ u 83 = upw w 83 s 1 83 ∧ ∀ i, ¬ (576 * s ≤ i ∧ i < 576 * s + n) → u 84 i = w 84 i) ∧ ∀ q, 0 ≤ q → q < n → u 84 (576 * s + q) = if q / 2 = w 80 s then 0 else 1000000000
theorem msF_A {w u : RW} {s : Int} (h : msF w u s 576) : msA w u s := by
  refine ⟨h.1, fun q h1 h2 => ?_, fun q h1 h2 h3 => ?_, fun q h1 h2 h3 => ?_⟩
  · rw [h.2 q h1 h2]; split <;> omega
  · rw [h.2 q h1 h2, if_pos h3]
  · exfalso
    unfold fh at h3
    rw [h.1.1 80 (by decide) (by decide)] at h3
    by_cases hq : q / 2 = w 80 s
    · rw [if_pos hq] at h3; omega
    · rw [if_neg hq, h.2 q h1 h2, if_neg hq] at h3; omega
theorem lpM_fill {G : vG} {X : vX} {Q : State → Prop} {w : RW} {s : Int} (hs : 0 ≤ s ∧ s < 6) (hm : mOK w) (hk0 : w 83 s = 0) (F : FX G X cM_measure yM_measure.cls 7 4) (hR : RetV G X cM_measure 7 Q (fun u => msP w u s)) : ∀ (m : Nat) (q : Int) (u0 : RW), 0 ≤ q → q ≤ 576 → 576 - q < m → msF w u0 s q → V G X 7 Q 25 [some (.inr 77), some (.inl s), some (.inl (576 * s)), some (.inl q), none, none, none] [] u0 := by
  intro m
  induction m with
  | zero => intro q u0 h1 h2 h3; omega
  | succ m ih =>
    intro q u0 h1 h2 h3 hI
    refine V_iload_n (i := 3) F dM_measure_25 rfl rfl ?_
    refine V_sipush F dM_measure_26 (by decide) ?_
    refine V_icmp_ge F 64 dM_measure_29 (by decide) (fun h29 => ?_) (fun h29 => ?_)
    · refine V_iconst F dM_measure_64 (by decide) ?_
      refine V_istore_n (i := 3) F dM_measure_65 rfl (by decide) (by simp only [List.set_cons_zero, List.set_cons_succ]; exact rfl) ?_
      refine V_iconst F dM_measure_66 (by decide) ?_
      refine V_istore F dM_measure_67 (by decide) (by simp only [List.set_cons_zero, List.set_cons_succ]; exact rfl) ?_
      rw [show q = 576 by omega] at hI
      exact lpM_rounds hs hm hk0 F hR 601 0 1 _ _ _ (by omega) (by omega) (by omega) (msF_A hI) (Or.inr rfl) (Or.inl (by have := nfN_le 576 (edM w s) (fh u0 s); omega)) (fun h => by omega)
    · refine V_aload_n (i := 0) F dM_measure_32 rfl rfl ?_
      refine V_getr (ci := 7) (C := R_M) (T := T_M) (N := 32) F dM_measure_33 (by first | rfl | assumption) rfl (j := 9) (by decide) rfl lfM_29 ?_
      refine V_iload_n (i := 2) F dM_measure_36 rfl rfl ?_
      refine V_iload_n (i := 3) F dM_measure_37 rfl rfl ?_
      refine V_iadd F dM_measure_38 (by omega) ?_
      refine V_iload_n (i := 3) F dM_measure_39 rfl rfl ?_
      refine V_iconst F dM_measure_40 (by decide) ?_
      refine V_idiv F dM_measure_41 (by omega) ?_
      refine V_aload_n (i := 0) F dM_measure_42 rfl rfl ?_
      refine V_getr (ci := 7) (C := R_M) (T := T_M) (N := 32) F dM_measure_43 (by first | rfl | assumption) rfl (j := 5) (by decide) rfl lfM_17 ?_
      refine V_iload_n (i := 1) F dM_measure_46 rfl rfl ?_
      first
        | refine V_sald F dM_measure_47 (by decide) (by omega) (stt_in _ _) ?_
        | refine V_iald F dM_measure_47 (by first | rfl | assumption) rfl (by omega) ?_
      rw [hI.1.1 80 (by decide) (by decide)]
      refine V_icmp_ne F 55 dM_measure_48 (by decide) (fun h48 => ?_) (fun h48 => ?_)
      · refine V_ldc F dM_measure_55 lcM_119 ⟨by decide, by decide⟩ ?_
        refine V_iast F dM_measure_57 (by first | rfl | assumption) rfl (by omega) ?_
        refine V_iinc F dM_measure_58 (by decide) rfl (by omega) (by simp only [List.set_cons_zero, List.set_cons_succ]; exact rfl) ?_
        refine V_goto F 25 dM_measure_61 (by decide) ?_
        refine ih (q + 1) _ (by omega) (by omega) (by omega) ⟨⟨fun j j1 j2 => ?_, ?_, fun i hi => ?_⟩, fun x x1 x2 => ?_⟩
        · rw [upw_f j2]; exact hI.1.1 j j1 j2
        · rw [upw_f (by decide)]; exact hI.1.2.1
        · rw [upw_i (by omega)]; exact hI.1.2.2 i (by omega)
        · by_cases hx : x = q
          · rw [hx, upw_s]
            first
            | rw [if_pos (by assumption)]
            | rw [if_neg (by assumption)]
          · rw [upw_i (by omega)]; exact hI.2 x x1 (by omega)
      · refine V_iconst F dM_measure_51 (by decide) ?_
        refine V_goto F 57 dM_measure_52 (by decide) ?_
        refine V_iast F dM_measure_57 (by first | rfl | assumption) rfl (by omega) ?_
        refine V_iinc F dM_measure_58 (by decide) rfl (by omega) (by simp only [List.set_cons_zero, List.set_cons_succ]; exact rfl) ?_
        refine V_goto F 25 dM_measure_61 (by decide) ?_
        refine ih (q + 1) _ (by omega) (by omega) (by omega) ⟨⟨fun j j1 j2 => ?_, ?_, fun i hi => ?_⟩, fun x x1 x2 => ?_⟩
        · rw [upw_f j2]; exact hI.1.1 j j1 j2
        · rw [upw_f (by decide)]; exact hI.1.2.1
        · rw [upw_i (by omega)]; exact hI.1.2.2 i (by omega)
        · by_cases hx : x = q
          · rw [hx, upw_s]
            first
            | rw [if_pos (by assumption)]
            | rw [if_neg (by assumption)]
          · rw [upw_i (by omega)]; exact hI.2 x x1 (by omega)
theorem ctM_measure {G : vG} {l : Launch} {w : RW} {s : Int} (hs : 0 ≤ s ∧ s < 6) (hm : mOK w) (hk : w 83 s = 0 ∨ w 83 s = 1) : CTv G l yM_measure cM_measure 7 4 [.inr 77, .inl s] w (fun u => msP w u s) := by
  refine CTv.intro (by decide) (Nat.le_of_ble_eq_true rfl) ?_
  intro X Q F hX hR
  subst hX
  show V G X 7 Q 0 [some (.inr 77), some (.inl s), none, none, none, none, none] [] w
  refine V_aload_n (i := 0) F dM_measure_0 rfl rfl ?_
  refine V_getr (ci := 7) (C := R_M) (T := T_M) (N := 32) F dM_measure_1 (by first | rfl | assumption) rfl (j := 8) (by decide) rfl lfM_26 ?_
  refine V_iload_n (i := 1) F dM_measure_4 rfl rfl ?_
  refine V_zald F dM_measure_5 (by first | rfl | assumption) rfl (by omega) ?_
  refine V_if_eq F 10 dM_measure_6 (by decide) (fun h6 => ?_) (fun h6 => ?_)
  · refine V_aload_n (i := 0) F dM_measure_10 rfl rfl ?_
    refine V_getr (ci := 7) (C := R_M) (T := T_M) (N := 32) F dM_measure_11 (by first | rfl | assumption) rfl (j := 8) (by decide) rfl lfM_26 ?_
    refine V_iload_n (i := 1) F dM_measure_14 rfl rfl ?_
    refine V_iconst F dM_measure_15 (by decide) ?_
    refine V_zast F dM_measure_16 (by first | rfl | assumption) rfl (by omega) (by first | exact Or.inl rfl | exact Or.inr rfl | exact bz_01 _ | assumption) ?_
    refine V_sipush F dM_measure_17 (by decide) ?_
    refine V_iload_n (i := 1) F dM_measure_20 rfl rfl ?_
    refine V_imul F dM_measure_21 (by omega) ?_
    refine V_istore_n (i := 2) F dM_measure_22 rfl (by decide) (by simp only [List.set_cons_zero, List.set_cons_succ]; exact rfl) ?_
    refine V_iconst F dM_measure_23 (by decide) ?_
    refine V_istore_n (i := 3) F dM_measure_24 rfl (by decide) (by simp only [List.set_cons_zero, List.set_cons_succ]; exact rfl) ?_
    exact lpM_fill hs hm (by omega) F hR 577 0 _ (by omega) (by omega) (by omega) ⟨⟨fun j j1 j2 => upw_f j1, rfl, fun i _ => upw_k (by decide)⟩, fun q q1 q2 => by omega⟩
  · exact hR _ _ _ dM_measure_9 (Or.inl ⟨by omega, rfl⟩)
end
section
/-! the class's ways: geometry, the queue, the offers -/
theorem isT_val {W H t : Int} (hW : W ≤ 8) (hH : H ≤ 6) (h : isT W H (t % 8) (t / 8)) (h0 : 0 ≤ t) : t < 48 := by
  unfold isT at h; omega
theorem acr_val {W H t e : Int} (hW : W ≤ 8) (h : ¬ acr W H t e = -1) : isT W H (acr W H t e % 8) (acr W H t e / 8) := by
  by_cases hc : isT W H (acX t e) (acY t e)
  · have e1 : acr W H t e = acX t e + 8 * acY t e := cif_t hc
    rw [e1]
    have hc2 := hc
    unfold isT at hc2
    rw [show (acX t e + 8 * acY t e) % 8 = acX t e by omega, show (acX t e + 8 * acY t e) / 8 = acY t e by omega]
    exact hc
  · exact absurd (cif_f hc) h
theorem acr_back {W H t e : Int} (hW : W ≤ 8) (hH : H ≤ 6) (he : 0 ≤ e ∧ e < 4) (ht : 0 ≤ t) (hv : isT W H (t % 8) (t / 8)) (h : ¬ acr W H t e = -1) : acr W H (acr W H t e) ((e + 2) % 4) = t := by
  by_cases hc : isT W H (acX t e) (acY t e)
  · have e1 : acr W H t e = acX t e + 8 * acY t e := cif_t hc
    have hc2 := hc
    unfold isT at hc2
    have hm : (acX t e + 8 * acY t e) % 8 = acX t e := by omega
    have hd : (acX t e + 8 * acY t e) / 8 = acY t e := by omega
    rw [e1]
    have hx : acX (acX t e + 8 * acY t e) ((e + 2) % 4) = t % 8 := by
      rcases (show e = 0 ∨ e = 1 ∨ e = 2 ∨ e = 3 by omega) with rfl | rfl | rfl | rfl
      · show (acX t 0 + 8 * acY t 0) % 8 = _
        rw [hm]; rfl
      · show (acX t 1 + 8 * acY t 1) % 8 + -1 = _
        rw [hm]; show t % 8 + 1 + -1 = _; omega
      · show (acX t 2 + 8 * acY t 2) % 8 = _
        rw [hm]; rfl
      · show (acX t 3 + 8 * acY t 3) % 8 + 1 = _
        rw [hm]; show t % 8 + -1 + 1 = _; omega
    have hy : acY (acX t e + 8 * acY t e) ((e + 2) % 4) = t / 8 := by
      rcases (show e = 0 ∨ e = 1 ∨ e = 2 ∨ e = 3 by omega) with rfl | rfl | rfl | rfl
      · show (acX t 0 + 8 * acY t 0) / 8 + 1 = _
        rw [hd]; show t / 8 + -1 + 1 = _; omega
      · show (acX t 1 + 8 * acY t 1) / 8 = _
        rw [hd]; rfl
      · show (acX t 2 + 8 * acY t 2) / 8 + -1 = _
        rw [hd]; show t / 8 + 1 + -1 = _; omega
      · show (acX t 3 + 8 * acY t 3) / 8 = _
        rw [hd]; rfl
    unfold acr
    rw [hx, hy, cif_t hv]
    omega
  · exact absurd (cif_f hc) h
/-- a run with the exit e -/
def exX (e : Int) : Int := e % 64 + 512 * (e / 64)
theorem exX_m {e : Int} : exX e % 64 = e % 64 ∧ exX e / 512 = e / 64 := by unfold exX; omega
theorem nxT_ex (w : RW) (e : Int) : nxT w (exX e) = acr (w 2 0) (w 2 1) (e % 64) (e / 64) := by
  unfold nxT; rw [exX_m.1, exX_m.2]
theorem nxE_ex (e : Int) : nxE (exX e) = (e / 64 + 2) % 4 := by unfold nxE; rw [exX_m.2]
def edV (w : RW) (e k : Int) : Prop := (0 ≤ k ∧ k < 6) ∧ (0 ≤ e ∧ e < 256) ∧ isT (w 2 0) (w 2 1) (e % 64 % 8) (e % 64 / 8) ∧ ¬ nxT w (exX e) = -1 ∧ nxP w (exX e) k ∧ gco (w 4 (nxR w (exX e) k % 512)) (nxR w (exX e) k) < 1048576
noncomputable def edC (w : RW) (g : Int) : ED := fun e k => @ite _ (edV w e k) (Classical.propDecidable _) (some (if nxR w (exX e) k % 512 = g then none else some (nxR w (exX e) k % 64 + 64 * (nxR w (exX e) k / 512)), gco (w 4 (nxR w (exX e) k % 512)) (nxR w (exX e) k))) none
theorem edC_t {w : RW} {g e k : Int} (h : edV w e k) : edC w g e k = some (if nxR w (exX e) k % 512 = g then none else some (nxR w (exX e) k % 64 + 64 * (nxR w (exX e) k / 512)), gco (w 4 (nxR w (exX e) k % 512)) (nxR w (exX e) k)) := by
  unfold edC; exact @if_pos _ (Classical.propDecidable _) h _ _ _
theorem edC_v {w : RW} {g e k c : Int} {t : Option Int} (h : edC w g e k = some (t, c)) : edV w e k := by
  apply Classical.byContradiction
  intro hc
  have : edC w g e k = none := by unfold edC; exact @if_neg _ (Classical.propDecidable _) hc _ _ _
  rw [this] at h
  cases h
theorem edC_c {w u : RW} (h2 : u 2 = w 2) (h3 : u 3 = w 3) (h4 : u 4 = w 4) (g : Int) : edC u g = edC w g := by
  unfold edC edV nxP nxR nxT
  rw [h2, h3, h4]
theorem gco_small {lit x : Int} (h : gco lit x < 1048576) : gco lit x ≤ 15 := by
  unfold gco at h ⊢
  by_cases h0 : lit = 0
  · rw [if_pos h0]; split <;> omega
  · rw [if_neg h0] at h ⊢
    by_cases h2 : tb lit (x / 512)
    · rw [cif_t h2]; split <;> omega
    · rw [cif_f h2] at h; omega
theorem nxT_rng {w : RW} {x : Int} (hb : w 2 0 ≤ 8 ∧ w 2 1 ≤ 6) : nxT w x = -1 ∨ (0 ≤ nxT w x ∧ nxT w x < 48) := acr_rng (by omega) (by omega)
theorem edC_ok {w : RW} (hb : w 2 0 ≤ 8 ∧ w 2 1 ≤ 6) (g : Int) : okE (256 : Nat) (edC w g) := by
  intro e k t c h
  have hv := edC_v h
  rw [edC_t hv] at h
  obtain ⟨v1, v2, v3, v4, v5, v6⟩ := hv
  have hT := nxT_rng (x := exX e) hb
  have hx0 : 0 ≤ exX e := by unfold exX; omega
  obtain ⟨⟨y1, y2, y3, y4, y5⟩, z1, z2, z3, z4⟩ := nxR_ok (w := w) (x := exX e) (p := k) hx0 (by omega) v1 v5.2
  simp only [Option.some.injEq, Prod.mk.injEq] at h
  have h1 := gco_small v6
  have h2 := (gco_rng (lit := w 4 (nxR w (exX e) k % 512)) (x := nxR w (exX e) k)).1
  refine ⟨by omega, by omega, fun b hb2 => ?_⟩
  rw [← h.1] at hb2
  by_cases hg : nxR w (exX e) k % 512 = g
  · rw [if_pos hg] at hb2; cases hb2
  · rw [if_neg hg] at hb2
    have := Option.some.inj hb2
    omega
/-- the node that a laid run betters, and the way on from it -/
theorem of_edge {w : RW} {x : Int} (hb : w 2 0 ≤ 8 ∧ w 2 1 ≤ 6) (hx : okR x) (hv : isT (w 2 0) (w 2 1) (x % 64 % 8) (x % 64 / 8)) (hl : tb (w 3 (x % 64)) (x % 512 / 64)) (hT : ¬ fbT w x = -1) :
    (0 ≤ ofX w x ∧ ofX w x < 256) ∧ nxR w (exX (ofX w x)) (x % 512 / 64) = x ∧ (gco (w 4 (x % 512)) x < 1048576 → edV w (ofX w x) (x % 512 / 64)) := by
  obtain ⟨x1, x2, x3, x4, x5⟩ := hx
  have hO := otE_rng (by omega) x5
  have hF : fbT w x = -1 ∨ (0 ≤ fbT w x ∧ fbT w x < 48) := acr_rng (by omega) (by omega)
  have hE : 0 ≤ fbE x ∧ fbE x < 4 := by unfold fbE; omega
  have hX : ofX w x = fbT w x + 64 * fbE x := rfl
  have m1 : ofX w x % 64 = fbT w x := by omega
  have m2 : ofX w x / 64 = fbE x := by omega
  have hval : isT (w 2 0) (w 2 1) (fbT w x % 8) (fbT w x / 8) := acr_val hb.1 hT
  have hback : acr (w 2 0) (w 2 1) (fbT w x) (fbE x) = x % 64 := acr_back hb.1 hb.2 hO (by omega) hv hT
  have nT : nxT w (exX (ofX w x)) = x % 64 := by rw [nxT_ex, m1, m2, hback]
  have nE : nxE (exX (ofX w x)) = otE (x % 512 / 64) (x / 512) := by rw [nxE_ex, m2]; unfold fbE; omega
  have hR : nxR w (exX (ofX w x)) (x % 512 / 64) = x := by
    unfold nxR
    rw [nT, nE]
    have : otE (x % 512 / 64) (otE (x % 512 / 64) (x / 512)) = x / 512 := by unfold otE; omega
    rw [this]
    omega
  refine ⟨by omega, hR, fun hg => ⟨by omega, by omega, by rw [m1]; exact hval, by rw [nT]; omega, ⟨by rw [nT]; exact hl, ?_⟩, by rw [hR]; exact hg⟩⟩
  rw [nE]
  unfold hsE otE
  unfold hsE at x5
  omega
/-- a way on comes from the run that is offered -/
theorem edge_of {w : RW} {q k : Int} (hb : w 2 0 ≤ 8 ∧ w 2 1 ≤ 6) (h : edV w q k) : okR (nxR w (exX q) k) ∧ isT (w 2 0) (w 2 1) (nxR w (exX q) k % 64 % 8) (nxR w (exX q) k % 64 / 8) ∧ tb (w 3 (nxR w (exX q) k % 64)) k ∧ nxR w (exX q) k % 512 / 64 = k ∧ ofX w (nxR w (exX q) k) = q ∧ ¬ fbT w (nxR w (exX q) k) = -1 := by
  obtain ⟨v1, v2, v3, v4, v5, v6⟩ := h
  have hT := nxT_rng (x := exX q) hb
  have hx0 : 0 ≤ exX q := by unfold exX; omega
  obtain ⟨hok, z1, z2, z3, z4⟩ := nxR_ok (w := w) (x := exX q) (p := k) hx0 (by omega) v1 v5.2
  have hv : isT (w 2 0) (w 2 1) (nxT w (exX q) % 8) (nxT w (exX q) / 8) := acr_val hb.1 v4
  have hent : otE (nxR w (exX q) k % 512 / 64) (nxR w (exX q) k / 512) = (q / 64 + 2) % 4 := by
    rw [z2, z3, ← nxE_ex q]
    unfold otE
    omega
  have hback : acr (w 2 0) (w 2 1) (nxT w (exX q)) ((q / 64 + 2) % 4) = q % 64 := by
    rw [nxT_ex] at v4 ⊢
    exact acr_back hb.1 hb.2 (by omega) (by omega) v3 v4
  have hF : fbT w (nxR w (exX q) k) = q % 64 := by
    unfold fbT
    rw [hent, z1, hback]
  refine ⟨hok, by rw [z1]; exact hv, by rw [z1]; exact v5.1, z2, ?_, by rw [hF]; omega⟩
  show fbT w (nxR w (exX q) k) + 64 * fbE (nxR w (exX q) k) = q
  rw [hF]
  unfold fbE
  rw [hent]
  omega
/-! the ring -/
def qL (u : RW) : List Int := (List.range (u 63 5).toNat).map (fun (i : Nat) => u 71 ((u 63 4 + (i : Int)) % 256))
def QI (u : RW) : Prop := (0 ≤ u 63 4 ∧ u 63 4 < 256) ∧ (0 ≤ u 63 5 ∧ u 63 5 ≤ 256) ∧ (qL u).Nodup ∧ (∀ x ∈ qL u, 0 ≤ x ∧ x < 256) ∧ ∀ e, 0 ≤ e → e < 256 → (u 72 e = 0 ∧ e ∉ qL u) ∨ (u 72 e = 1 ∧ e ∈ qL u)
theorem qL_len (u : RW) : (qL u).length = (u 63 5).toNat := by unfold qL; simp
theorem pig {l : List Int} {e : Int} (hn : l.Nodup) (hr : ∀ x ∈ l, 0 ≤ x ∧ x < 256) (he : 0 ≤ e ∧ e < 256) (h : e ∉ l) : l.length < 256 := by
  have h1 : (e :: l).Nodup := List.nodup_cons.mpr ⟨h, hn⟩
  have h2 : (e :: l) ⊆ (List.range 256).map (fun (i : Nat) => (i : Int)) := by
    intro x hx
    have hxr : 0 ≤ x ∧ x < 256 := by
      rcases List.mem_cons.mp hx with rfl | hx
      · exact he
      · exact hr x hx
    exact List.mem_map.mpr ⟨x.toNat, List.mem_range.mpr (by omega), Int.toNat_of_nonneg hxr.1⟩
  have h3 := List.Nodup.length_le_of_subset h1 h2
  simp at h3
  omega
theorem qL_c {w u : RW} (h1 : u 63 4 = w 63 4) (h2 : u 63 5 = w 63 5) (h3 : u 71 = w 71) : qL u = qL w := by
  unfold qL; rw [h1, h2, h3]
theorem put_ok {w u : RW} {e : Int} (hQ : QI w) (he : 0 ≤ e ∧ e < 256) (h : putQ w e u) : QI u ∧ (∀ j, j ≠ 63 → j ≠ 71 → j ≠ 72 → u j = w j) ∧ (∀ f, f ≠ 5 → u 63 f = w 63 f) ∧ ((e ∈ qL w ∧ qL u = qL w) ∨ (e ∉ qL w ∧ qL u = qL w ++ [e])) := by
  obtain ⟨q1, q2, q3, q4, q5⟩ := hQ
  rcases h with ⟨a1, a2, rfl⟩ | ⟨a1, rfl⟩
  · have hne : e ∉ qL w := by rcases q5 e he.1 he.2 with h | h
                              · exact h.2
                              · omega
    have hlen := pig q3 q4 he hne
    rw [qL_len] at hlen
    have hl : qL (upw (upw (upw w 72 e 1) 71 ((w 63 4 + w 63 5) % 256) e) 63 5 (w 63 5 + 1)) = qL w ++ [e] := by
      unfold qL
      rw [upw_s, upw_i (by decide), upw_k (by decide), upw_k (by decide), upw_f (by decide), show (w 63 5 + 1).toNat = (w 63 5).toNat + 1 by omega, List.range_succ, List.map_append]
      congr 1
      · apply List.map_congr_left
        intro i hi
        have hi' := List.mem_range.mp hi
        rw [upw_i (by omega), upw_k (by decide)]
      · simp only [List.map_cons, List.map_nil]
        rw [show ((w 63 5).toNat : Int) = w 63 5 by omega, upw_s]
    refine ⟨⟨?_, ?_, ?_, ?_, ?_⟩, ?_, ?_, Or.inr ⟨hne, hl⟩⟩
    · rw [upw_i (by decide), upw_k (by decide), upw_k (by decide)]; exact q1
    · rw [upw_s]; omega
    · rw [hl]
      exact List.nodup_append.mpr ⟨q3, by simp, fun a ha b hb => by
        simp only [List.mem_singleton] at hb
        subst hb
        exact fun z => hne (z ▸ ha)⟩
    · rw [hl]
      intro x hx
      rcases List.mem_append.mp hx with hx | hx
      · exact q4 x hx
      · simp only [List.mem_singleton] at hx; rw [hx]; exact he
    · intro x x1 x2
      rw [hl, upw_f (by decide), upw_f (by decide)]
      by_cases hx : x = e
      · rw [hx, upw_s]; exact Or.inr ⟨rfl, by simp⟩
      · rw [upw_i hx]
        rcases q5 x x1 x2 with h | h
        · exact Or.inl ⟨h.1, by simp [h.2, hx]⟩
        · exact Or.inr ⟨h.1, by simp [h.2]⟩
    · intro j j1 j2 j3
      rw [upw_f j1, upw_f j2, upw_f j3]
    · intro f hf
      rw [upw_i hf, upw_k (by decide), upw_k (by decide)]
  · refine ⟨⟨q1, q2, q3, q4, q5⟩, fun j _ _ _ => rfl, fun f _ => rfl, Or.inl ⟨?_, rfl⟩⟩
    apply Classical.byContradiction
    intro hne
    have hlen := pig q3 q4 he hne
    rw [qL_len] at hlen
    rcases q5 e he.1 he.2 with h | h
    · exact a1 ⟨h.1, by omega⟩
    · exact hne h.2
theorem take_ok {w u : RW} (hQ : QI w) (hc : 0 < w 63 5) (h : upw (upw (upw w 63 4 ((w 63 4 + 1) % 256)) 63 5 (w 63 5 - 1)) 72 (w 71 (w 63 4)) 0 = u) : QI u ∧ (∀ j, j ≠ 63 → j ≠ 72 → u j = w j) ∧ (∀ f, f ≠ 4 → f ≠ 5 → u 63 f = w 63 f) ∧ qL w = w 71 (w 63 4) :: qL u := by
  subst h
  obtain ⟨q1, q2, q3, q4, q5⟩ := hQ
  have hl : qL w = w 71 (w 63 4) :: qL (upw (upw (upw w 63 4 ((w 63 4 + 1) % 256)) 63 5 (w 63 5 - 1)) 72 (w 71 (w 63 4)) 0) := by
    have e4 : upw (upw (upw w 63 4 ((w 63 4 + 1) % 256)) 63 5 (w 63 5 - 1)) 72 (w 71 (w 63 4)) 0 63 4 = (w 63 4 + 1) % 256 := by rw [upw_k (by decide), upw_i (by decide), upw_s]
    have e5 : upw (upw (upw w 63 4 ((w 63 4 + 1) % 256)) 63 5 (w 63 5 - 1)) 72 (w 71 (w 63 4)) 0 63 5 = w 63 5 - 1 := by rw [upw_k (by decide), upw_s]
    have e7 : upw (upw (upw w 63 4 ((w 63 4 + 1) % 256)) 63 5 (w 63 5 - 1)) 72 (w 71 (w 63 4)) 0 71 = w 71 := by rw [upw_f (by decide), upw_f (by decide), upw_f (by decide)]
    unfold qL
    rw [e4, e5, e7]
    obtain ⟨n, hn⟩ : ∃ n, (w 63 5).toNat = n + 1 := ⟨(w 63 5).toNat - 1, by omega⟩
    rw [hn, show (w 63 5 - 1).toNat = n by omega, List.range_succ_eq_map, List.map_cons, List.map_map]
    congr 1
    · congr 1
      omega
    · apply List.map_congr_left
      intro i _
      show w 71 ((w 63 4 + ((i + 1 : Nat) : Int)) % 256) = w 71 (((w 63 4 + 1) % 256 + (i : Int)) % 256)
      congr 1
      omega
  have hnd := q3
  rw [hl] at hnd
  have hnd2 := List.nodup_cons.mp hnd
  refine ⟨⟨?_, ?_, hnd2.2, ?_, ?_⟩, ?_, ?_, hl⟩
  · rw [upw_k (by decide), upw_i (by decide), upw_s]; omega
  · rw [upw_k (by decide), upw_s]; omega
  · intro x hx
    exact q4 x (by rw [hl]; exact List.mem_cons_of_mem _ hx)
  · intro x x1 x2
    by_cases hx : x = w 71 (w 63 4)
    · rw [hx, upw_s]
      exact Or.inl ⟨rfl, hnd2.1⟩
    · rw [upw_i hx, upw_k (by decide), upw_k (by decide)]
      rcases q5 x x1 x2 with h | h
      · refine Or.inl ⟨h.1, fun z => h.2 (by rw [hl]; exact List.mem_cons_of_mem _ z)⟩
      · refine Or.inr ⟨h.1, ?_⟩
        have := h.2
        rw [hl] at this
        rcases List.mem_cons.mp this with z | z
        · exact absurd z hx
        · exact z
  · intro j j1 j2
    rw [upw_f j2, upw_f j1, upw_f j1]
  · intro f f1 f2
    rw [upw_k (by decide), upw_i f2, upw_i f1]
end
section
/-! learn: the offers against the graph -/
theorem QI_c {w u : RW} (h1 : u 63 = w 63) (h2 : u 71 = w 71) (h3 : u 72 = w 72) (h : QI w) : QI u ∧ qL u = qL w := by
  have e : qL u = qL w := qL_c (by rw [h1]) (by rw [h1]) h2
  refine ⟨?_, e⟩
  unfold QI
  rw [e, h1, h3]
  exact h
/-- one offer -/
theorem of_step {w u : RW} {s x z : Int} (hs : 0 ≤ s ∧ s < 6) (hb : w 2 0 ≤ 8 ∧ w 2 1 ≤ 6) (hQ : QI w) (hx : okR x) (hv : isT (w 2 0) (w 2 1) (x % 64 % 8) (x % 64 / 8)) (hl : tb (w 3 (x % 64)) (x % 512 / 64)) (hz : 0 ≤ z) (hF : ∀ e, 0 ≤ e → e < 256 → w (65 + s.toNat) e ≤ 1048576) (h : ofR w s x z u) :
    (w = u ∧ (fbT w x = -1 ∨ w (65 + s.toNat) (ofX w x) ≤ gco (w 4 (x % 512)) x + z)) ∨
    (¬ fbT w x = -1 ∧ (0 ≤ ofX w x ∧ ofX w x < 256) ∧ gco (w 4 (x % 512)) x + z < w (65 + s.toNat) (ofX w x) ∧ edV w (ofX w x) (x % 512 / 64) ∧ (∀ j, j ≠ 63 → j ≠ 71 → j ≠ 72 → j ≠ 65 + s.toNat → u j = w j) ∧ (∀ f, f ≠ 5 → u 63 f = w 63 f) ∧ QI u ∧ (u (65 + s.toNat) = fun y => if y = ofX w x then gco (w 4 (x % 512)) x + z else w (65 + s.toNat) y) ∧ ((ofX w x ∈ qL w ∧ qL u = qL w) ∨ (ofX w x ∉ qL w ∧ qL u = qL w ++ [ofX w x]))) := by
  rcases h with ⟨h1, h2⟩ | ⟨h1, h2, h3⟩
  · refine Or.inl ⟨h2, ?_⟩
    rcases h1 with h1 | h1
    · exact Or.inl h1
    · refine Or.inr ?_
      unfold ofS at h1
      omega
  · obtain ⟨e1, e2, e3⟩ := of_edge hb hx hv hl h1
    have hS : ofS w x z = gco (w 4 (x % 512)) x + z := rfl
    rw [hS] at h2 h3
    have hF1 := hF _ e1.1 e1.2
    have hne : (65 + s.toNat) ≠ 63 ∧ (65 + s.toNat) ≠ 71 ∧ (65 + s.toNat) ≠ 72 := by omega
    obtain ⟨q1, q2⟩ := QI_c (u := upw w (65 + s.toNat) (ofX w x) (gco (w 4 (x % 512)) x + z)) (upw_f (Ne.symm hne.1)) (upw_f (Ne.symm hne.2.1)) (upw_f (Ne.symm hne.2.2)) hQ
    obtain ⟨p1, p2, p3, p4⟩ := put_ok q1 e1 h3
    rw [q2] at p4
    refine Or.inr ⟨h1, e1, h2, e3 (by omega), fun j j1 j2 j3 j4 => ?_, fun f hf => ?_, p1, ?_, p4⟩
    · rw [p2 j j1 j2 j3, upw_f j4]
    · rw [p3 f hf, upw_k (Ne.symm hne.1)]
    · rw [p2 _ hne.1 hne.2.1 hne.2.2]
      funext y
      by_cases hy : y = ofX w x
      · rw [if_pos hy, hy, upw_s]
      · rw [if_neg hy, upw_i hy]
def lnF (w u : RW) (s : Int) : Prop := (∀ j, j ≠ 63 → j ≠ 71 → j ≠ 72 → j ≠ 65 + s.toNat → u j = w j) ∧ u 63 1 = ior (w 63 1) (p2 s)
theorem lnF_ed {w u : RW} {s : Int} (hs : 0 ≤ s ∧ s < 6) (h : lnF w u s) : u 2 = w 2 ∧ u 3 = w 3 ∧ u 4 = w 4 := ⟨h.1 2 (by decide) (by decide) (by decide) (by omega), h.1 3 (by decide) (by decide) (by decide) (by omega), h.1 4 (by decide) (by decide) (by decide) (by omega)⟩
theorem ofX_c {w u : RW} (h2 : u 2 = w 2) (x : Int) : ofX u x = ofX w x ∧ fbT u x = fbT w x := by
  unfold ofX fbT
  rw [h2]
  exact ⟨rfl, rfl⟩
theorem edV_c {w u : RW} (h2 : u 2 = w 2) (h3 : u 3 = w 3) (h4 : u 4 = w 4) (e k : Int) : edV u e k ↔ edV w e k := by
  unfold edV nxP nxR nxT
  rw [h2, h3, h4]
def lnI (w u0 u : RW) (s g e0 i : Int) : Prop := lnF w u s ∧ QI u ∧ (∀ q, 0 ≤ q → q < 256 → u (65 + s.toNat) q ≤ u0 (65 + s.toNat) q) ∧ gJu 1048576 256 (edC w g) (u (65 + s.toNat)) ∧ gPos 256 (u (65 + s.toNat)) ∧ u (65 + s.toNat) e0 = u0 (65 + s.toNat) e0 ∧
  (∃ new, qL u = qL u0 ++ new ∧ ∀ x ∈ new, (0 ≤ x ∧ x < 256) ∧ u (65 + s.toNat) x < u0 (65 + s.toNat) x) ∧ (∀ q, 0 ≤ q → q < 256 → u (65 + s.toNat) q < u0 (65 + s.toNat) q → q ∈ qL u) ∧
  ∀ q k c, 0 ≤ q → q < 256 → 0 ≤ k → k < i → edC w g q k = some (some e0, c) → u (65 + s.toNat) q ≤ c + u0 (65 + s.toNat) e0
/-- the run into e0 over piece k -/
theorem edC_in {w : RW} {g q k c e0 : Int} (hb : w 2 0 ≤ 8 ∧ w 2 1 ≤ 6) (h : edC w g q k = some (some e0, c)) : edV w q k ∧ nxR w (exX q) k = e0 % 64 + 64 * k + 512 * (e0 / 64) ∧ ¬ nxR w (exX q) k % 512 = g ∧ c = gco (w 4 (nxR w (exX q) k % 512)) (nxR w (exX q) k) := by
  have hv := edC_v h
  rw [edC_t hv] at h
  simp only [Option.some.injEq, Prod.mk.injEq] at h
  obtain ⟨⟨y1, y2, y3, y4, y5⟩, -, -, y6, -, -⟩ := edge_of hb hv
  by_cases hg : nxR w (exX q) k % 512 = g
  · rw [if_pos hg] at h; cases h.1
  · rw [if_neg hg] at h
    have h1 := Option.some.inj h.1
    exact ⟨hv, by omega, hg, h.2.symm⟩
theorem lnI_skip {w u0 u : RW} {s g e0 i : Int} (hb : w 2 0 ≤ 8 ∧ w 2 1 ≤ 6) (he : 0 ≤ e0 ∧ e0 < 256) (hi : 0 ≤ i ∧ i < 6) (h : lnI w u0 u s g e0 i) (hno : ¬ (tb (w 3 (e0 % 64)) i ∧ hsE i (e0 / 64))) : lnI w u0 u s g e0 (i + 1) := by
  obtain ⟨h1, h2, h3, h4, h5, h6, h7, h8, h9⟩ := h
  refine ⟨h1, h2, h3, h4, h5, h6, h7, h8, fun q k c q1 q2 k1 k2 hed => ?_⟩
  by_cases hk : k = i
  · subst hk
    exfalso
    obtain ⟨hv, hr, -, -⟩ := edC_in hb hed
    obtain ⟨⟨y1, y2, y3, y4, y5⟩, -, y6, y7, -, -⟩ := edge_of hb hv
    rw [hr] at y5 y6
    rw [show (e0 % 64 + 64 * k + 512 * (e0 / 64)) % 64 = e0 % 64 by omega] at y6
    rw [show (e0 % 64 + 64 * k + 512 * (e0 / 64)) % 512 / 64 = k by omega, show (e0 % 64 + 64 * k + 512 * (e0 / 64)) / 512 = e0 / 64 by omega] at y5
    exact hno ⟨y6, y5⟩
  · exact h9 q k c q1 q2 k1 (by omega) hed
theorem lnI_step {w u0 u u' : RW} {s g e0 i : Int} (hs : 0 ≤ s ∧ s < 6) (hb : w 2 0 ≤ 8 ∧ w 2 1 ≤ 6) (he : 0 ≤ e0 ∧ e0 < 256) (hi : 0 ≤ i ∧ i < 6) (hval : isT (w 2 0) (w 2 1) (e0 % 64 % 8) (e0 % 64 / 8)) (hF0 : ∀ e, 0 ≤ e → e < 256 → u0 (65 + s.toNat) e ≤ 1048576) (he0 : u0 (65 + s.toNat) e0 < 1048576) (hg0 : ∀ q k c, 0 ≤ q → q < 256 → 0 ≤ k → k < 6 → edC w g q k = some (none, c) → u0 (65 + s.toNat) q ≤ c)
    (h : lnI w u0 u s g e0 i) (hy : tb (w 3 (e0 % 64)) i ∧ hsE i (e0 / 64)) (ho : ofR u s (e0 % 64 + 64 * i + 512 * (e0 / 64)) (u (65 + s.toNat) e0) u') : lnI w u0 u' s g e0 (i + 1) := by
  obtain ⟨h1, h2, h3, h4, h5, h6, h7, h8, h9⟩ := h
  obtain ⟨c2, c3, c4⟩ := lnF_ed hs h1
  have ht48 := isT_val hb.1 hb.2 hval (by omega)
  have m1 : (e0 % 64 + 64 * i + 512 * (e0 / 64)) % 64 = e0 % 64 := by omega
  have m2 : (e0 % 64 + 64 * i + 512 * (e0 / 64)) % 512 / 64 = i := by omega
  have m3 : (e0 % 64 + 64 * i + 512 * (e0 / 64)) / 512 = e0 / 64 := by omega
  have hok : okR (e0 % 64 + 64 * i + 512 * (e0 / 64)) := ⟨by omega, by omega, by omega, by omega, by rw [m2, m3]; exact hy.2⟩
  have hz0 : 0 ≤ u (65 + s.toNat) e0 := h5 e0 he.1 he.2
  obtain ⟨oX, oT⟩ := ofX_c c2 (e0 % 64 + 64 * i + 512 * (e0 / 64))
  have hstep := of_step hs (by rw [c2]; exact hb) h2 hok (by rw [c2, m1]; exact hval) (by rw [c3, m1, m2]; exact hy.1) hz0 (fun e a b => by have := h3 e a b; have := hF0 e a b; omega) ho
  rw [oX, oT, c4, m2] at hstep
  have hrelN : ∀ q c, 0 ≤ q → q < 256 → edC w g q i = some (some e0, c) → ¬ fbT w (e0 % 64 + 64 * i + 512 * (e0 / 64)) = -1 ∧ ofX w (e0 % 64 + 64 * i + 512 * (e0 / 64)) = q ∧ c = gco (w 4 ((e0 % 64 + 64 * i + 512 * (e0 / 64)) % 512)) (e0 % 64 + 64 * i + 512 * (e0 / 64)) := by
    intro q c q1 q2 hed
    obtain ⟨hv, hr, -, hc⟩ := edC_in hb hed
    obtain ⟨-, -, -, -, y8, y9⟩ := edge_of hb hv
    rw [hr] at y8 y9 hc
    exact ⟨y9, y8, hc⟩
  rcases hstep with ⟨hu, hc⟩ | ⟨g1, g2, g3, g4, g5, g6, g7, g8, g9⟩
  · subst hu
    refine ⟨h1, h2, h3, h4, h5, h6, h7, h8, fun q k c q1 q2 k1 k2 hed => ?_⟩
    by_cases hk : k = i
    · subst hk
      obtain ⟨r1, r2, r3⟩ := hrelN q c q1 q2 hed
      rcases hc with hc | hc
      · exact absurd hc r1
      · rw [r2] at hc
        rw [r3, ← h6]
        omega
    · exact h9 q k c q1 q2 k1 (by omega) hed
  · have hv : edV w (ofX w (e0 % 64 + 64 * i + 512 * (e0 / 64))) i := (edV_c c2 c3 c4 _ _).mp g4
    have hed := edC_t (g := g) hv
    obtain ⟨-, hRr, -⟩ := of_edge (w := w) hb hok (by rw [m1]; exact hval) (by rw [m1, m2]; exact hy.1) g1
    rw [m2] at hRr
    rw [hRr] at hed
    have hgpos := (gco_rng (lit := w 4 ((e0 % 64 + 64 * i + 512 * (e0 / 64)) % 512)) (x := e0 % 64 + 64 * i + 512 * (e0 / 64))).1
    have hng : ¬ (e0 % 64 + 64 * i + 512 * (e0 / 64)) % 512 = g := by
      intro hg
      rw [if_pos hg] at hed
      have a1 := hg0 _ i _ g2.1 g2.2 hi.1 hi.2 hed
      have a2 := h3 _ g2.1 g2.2
      omega
    rw [if_neg hng, m1, m3, show e0 % 64 + 64 * (e0 / 64) = e0 by omega] at hed
    have hne : ¬ e0 = ofX w (e0 % 64 + 64 * i + 512 * (e0 / 64)) := by
      intro e
      rw [← e] at g3
      omega
    have hle' : ∀ q, u' (65 + s.toNat) q ≤ u (65 + s.toNat) q := by
      intro q
      rw [g8]
      by_cases hq : q = ofX w (e0 % 64 + 64 * i + 512 * (e0 / 64))
      · simp only [hq, if_true]; omega
      · simp only [hq, if_false]; omega
    refine ⟨⟨fun j j1 j2 j3 j4 => by rw [g5 j j1 j2 j3 j4]; exact h1.1 j j1 j2 j3 j4, by rw [g6 1 (by decide)]; exact h1.2⟩, g7, fun q q1 q2 => by have := hle' q; have := h3 q q1 q2; omega, ?_, ?_, ?_, ?_, ?_, ?_⟩
    · rw [g8]
      refine gJu_upd h4 (by omega) (fun _ _ => ⟨i, some e0, _, hi, hed, Or.inr ⟨e0, rfl, hne, by omega, by omega⟩⟩)
    · intro q q1 q2
      rw [g8]
      by_cases hq : q = ofX w (e0 % 64 + 64 * i + 512 * (e0 / 64))
      · simp only [hq, if_true]; omega
      · simp only [hq, if_false]; exact h5 q q1 q2
    · rw [g8]; simp only [hne, if_false]; exact h6
    · obtain ⟨new, n1, n2⟩ := h7
      have n2' : ∀ x ∈ new, (0 ≤ x ∧ x < 256) ∧ u' (65 + s.toNat) x < u0 (65 + s.toNat) x := fun x hx => by
        have := n2 x hx; have := hle' x; omega
      rcases g9 with ⟨_, g9⟩ | ⟨_, g9⟩
      · exact ⟨new, by rw [g9, n1], n2'⟩
      · refine ⟨new ++ [ofX w (e0 % 64 + 64 * i + 512 * (e0 / 64))], by rw [g9, n1, List.append_assoc], fun x hx => ?_⟩
        rcases List.mem_append.mp hx with hx | hx
        · exact n2' x hx
        · simp only [List.mem_singleton] at hx
          rw [hx]
          refine ⟨g2, ?_⟩
          rw [g8]
          simp only [if_true]
          have := h3 _ g2.1 g2.2
          omega
    · intro q q1 q2 q3
      have hmono : ∀ y, y ∈ qL u → y ∈ qL u' := fun y hy2 => by
        rcases g9 with ⟨_, g9⟩ | ⟨_, g9⟩
        · rw [g9]; exact hy2
        · rw [g9]; exact List.mem_append_left _ hy2
      by_cases hq : q = ofX w (e0 % 64 + 64 * i + 512 * (e0 / 64))
      · rcases g9 with ⟨g10, g9⟩ | ⟨_, g9⟩
        · rw [g9, hq]; exact g10
        · rw [g9, hq]; exact List.mem_append_right _ (by simp)
      · apply hmono
        apply h8 q q1 q2
        rw [g8] at q3
        simpa only [hq, if_false] using q3
    · intro q k c q1 q2 k1 k2 hed2
      by_cases hk : k = i
      · subst hk
        obtain ⟨r1, r2, r3⟩ := hrelN q c q1 q2 hed2
        rw [g8, ← r2]
        simp only [if_true]
        rw [r3, ← h6]
        omega
      · have := h9 q k c q1 q2 k1 (by omega) hed2
        have := hle' q
        omega
/-- behind the start: the goal's two runs -/
def lnG (w u : RW) (s g : Int) (D : Int → Prop) : Prop := lnF w u s ∧ QI u ∧ gJu 1048576 256 (edC w g) (u (65 + s.toNat)) ∧ (∀ q, 0 ≤ q → q < 256 → 0 ≤ u (65 + s.toNat) q ∧ u (65 + s.toNat) q ≤ 1048576) ∧ (∀ q, 0 ≤ q → q < 256 → u (65 + s.toNat) q < 1048576 → q ∈ qL u) ∧ (∀ x ∈ qL u, u (65 + s.toNat) x < 1048576) ∧ ∀ q k c, 0 ≤ q → q < 256 → 0 ≤ k → k < 6 → edC w g q k = some (none, c) → D (nxR w (exX q) k) → u (65 + s.toNat) q ≤ c
theorem lnG_step {w u u' : RW} {s g x : Int} {D : Int → Prop} (hs : 0 ≤ s ∧ s < 6) (hb : w 2 0 ≤ 8 ∧ w 2 1 ≤ 6) (hx : okR x) (hv : isT (w 2 0) (w 2 1) (x % 64 % 8) (x % 64 / 8)) (hl : tb (w 3 (x % 64)) (x % 512 / 64)) (hg : x % 512 = g) (h : lnG w u s g D) (ho : ofR u s x 0 u') : lnG w u' s g (fun y => D y ∨ y = x) := by
  obtain ⟨h1, h2, h3, h4, h5, h6, h7⟩ := h
  obtain ⟨c2, c3, c4⟩ := lnF_ed hs h1
  obtain ⟨oX, oT⟩ := ofX_c c2 x
  have hstep := of_step hs (by rw [c2]; exact hb) h2 hx (by rw [c2]; exact hv) (by rw [c3]; exact hl) (Int.le_refl 0) (fun e a b => (h4 e a b).2) ho
  rw [oX, oT, c4] at hstep
  have hx2 := hx
  obtain ⟨x1, x2, x3, x4, x5⟩ := hx2
  have hrel : ∀ q k c, edC w g q k = some (none, c) → nxR w (exX q) k = x → ¬ fbT w x = -1 ∧ ofX w x = q ∧ c = gco (w 4 (x % 512)) x := by
    intro q k c hed hr
    have hvv := edC_v hed
    obtain ⟨-, -, -, -, y8, y9⟩ := edge_of hb hvv
    rw [edC_t hvv] at hed
    simp only [Option.some.injEq, Prod.mk.injEq] at hed
    rw [hr] at y8 y9 hed
    exact ⟨y9, y8, hed.2.symm⟩
  rcases hstep with ⟨hu, hc⟩ | ⟨g1, g2, g3, g4, g5, g6, g7, g8, g9⟩
  · subst hu
    refine ⟨h1, h2, h3, h4, h5, h6, fun q k c q1 q2 k1 k2 hed hD => ?_⟩
    rcases hD with hD | hD
    · exact h7 q k c q1 q2 k1 k2 hed hD
    · obtain ⟨r1, r2, r3⟩ := hrel q k c hed hD
      rcases hc with hc | hc
      · exact absurd hc r1
      · rw [r2] at hc; rw [r3]; omega
  · have hvv : edV w (ofX w x) (x % 512 / 64) := (edV_c c2 c3 c4 _ _).mp g4
    have hed := edC_t (g := g) hvv
    obtain ⟨-, hRr, -⟩ := of_edge (w := w) hb hx hv hl g1
    rw [hRr, if_pos hg] at hed
    have hgpos := (gco_rng (lit := w 4 (x % 512)) (x := x)).1
    have hle' : ∀ q, u' (65 + s.toNat) q ≤ u (65 + s.toNat) q := by
      intro q
      rw [g8]
      by_cases hq : q = ofX w x
      · simp only [hq, if_true]; omega
      · simp only [hq, if_false]; omega
    have hmono : ∀ y, y ∈ qL u → y ∈ qL u' := fun y hy2 => by
      rcases g9 with ⟨_, g9⟩ | ⟨_, g9⟩
      · rw [g9]; exact hy2
      · rw [g9]; exact List.mem_append_left _ hy2
    have hqq := h4 _ g2.1 g2.2
    refine ⟨⟨fun j j1 j2 j3 j4 => by rw [g5 j j1 j2 j3 j4]; exact h1.1 j j1 j2 j3 j4, by rw [g6 1 (by decide)]; exact h1.2⟩, g7, ?_, fun q q1 q2 => ?_, fun q q1 q2 q3 => ?_, fun y hy2 => ?_, fun q k c q1 q2 k1 k2 hed2 hD => ?_⟩
    · rw [g8]
      exact gJu_upd h3 (by omega) (fun _ _ => ⟨x % 512 / 64, none, _, by omega, hed, Or.inl ⟨rfl, by omega⟩⟩)
    · rw [g8]
      by_cases hq : q = ofX w x
      · simp only [hq, if_true]; omega
      · simp only [hq, if_false]; exact h4 q q1 q2
    · by_cases hq : q = ofX w x
      · rcases g9 with ⟨g10, g9⟩ | ⟨_, g9⟩
        · rw [g9, hq]; exact g10
        · rw [g9, hq]; exact List.mem_append_right _ (by simp)
      · apply hmono
        apply h5 q q1 q2
        rw [g8] at q3
        simpa only [hq, if_false] using q3
    · have hlx := hle' y
      rcases g9 with ⟨g10, g9⟩ | ⟨_, g9⟩
      · rw [g9] at hy2; have := h6 y hy2; omega
      · rw [g9] at hy2
        rcases List.mem_append.mp hy2 with hy3 | hy3
        · have := h6 y hy3; omega
        · simp only [List.mem_singleton] at hy3
          rw [hy3, g8]
          simp only [if_true]
          omega
    · have hlq := hle' q
      rcases hD with hD | hD
      · have := h7 q k c q1 q2 k1 k2 hed2 hD; omega
      · obtain ⟨r1, r2, r3⟩ := hrel q k c hed2 hD
        rw [g8, ← r2]
        simp only [if_true]
        rw [r3]
        omega
theorem lnG_Q {w u : RW} {s g : Int} (h : lnG w u s g (fun y => y % 512 = g)) (hb : w 2 0 ≤ 8 ∧ w 2 1 ≤ 6) : gQ 1048576 256 (edC w g) (u (65 + s.toNat)) (qL u) := by
  obtain ⟨h1, h2, h3, h4, h5, h6, h7⟩ := h
  refine ⟨h3, fun q q1 q2 => (h4 q q1 q2).1, fun q q1 q2 => (h4 q q1 q2).2, fun x hx => ⟨h2.2.2.2.1 x hx, h6 x hx⟩, by rw [qL_len]; have := h2.2.1; omega, fun q k t c q1 q2 k1 k2 hed => ⟨fun ht => ?_, fun b ht hbn hbF => ?_⟩⟩
  · subst ht
    refine h7 q k c q1 q2 k1 k2 hed ?_
    have hvv := edC_v hed
    rw [edC_t hvv] at hed
    simp only [Option.some.injEq, Prod.mk.injEq] at hed
    by_cases hg : nxR w (exX q) k % 512 = g
    · exact hg
    · rw [if_neg hg] at hed; cases hed.1
  · obtain ⟨-, -, hbr⟩ := edC_ok hb g q k t c hed
    obtain ⟨b1, b2⟩ := hbr b ht
    exact absurd (h5 b b1 b2 hbF) hbn
theorem QI_c2 {w u : RW} (h1 : u 63 4 = w 63 4) (h2 : u 63 5 = w 63 5) (h3 : u 71 = w 71) (h4 : u 72 = w 72) (h : QI w) : QI u ∧ qL u = qL w := by
  have e : qL u = qL w := qL_c h1 h2 h3
  refine ⟨?_, e⟩
  unfold QI
  rw [e, h1, h2, h4]
  exact h
theorem lnG_weak {w u : RW} {s g : Int} {D D' : Int → Prop} (hb : w 2 0 ≤ 8 ∧ w 2 1 ≤ 6) (hD : ∀ y, okR y → D' y → D y) (h : lnG w u s g D) : lnG w u s g D' := by
  obtain ⟨h1, h2, h3, h4, h5, h6, h7⟩ := h
  refine ⟨h1, h2, h3, h4, h5, h6, fun q k c q1 q2 k1 k2 hed hd => h7 q k c q1 q2 k1 k2 hed (hD _ (edge_of hb (edC_v hed)).1 hd)⟩
def lsOK (w : RW) (s g : Int) : Prop := (∀ e, 0 ≤ e → e < 256 → 0 ≤ w (65 + s.toNat) e ∧ w (65 + s.toNat) e ≤ 1048576) ∧ gJu 1048576 256 (edC w g) (w (65 + s.toNat)) ∧ gRl 1048576 256 (edC w g) (w (65 + s.toNat))
def lnP (w u : RW) (s g : Int) : Prop := (tb (w 63 1) s ∧ w = u) ∨ (¬ tb (w 63 1) s ∧ lnF w u s ∧ QI u ∧ u 63 5 = 0 ∧ lsOK u s g)
/-- at the queue's head -/
def lnO (w u : RW) (s g tk : Int) : Prop := lnF w u s ∧ QI u ∧ gQ 1048576 256 (edC w g) (u (65 + s.toNat)) (qL u) ∧ gPot 256 (edC w g) (u (65 + s.toNat)) (qL u) (65536 - tk)
theorem lnO_end {w u : RW} {s g tk : Int} (hs : 0 ≤ s ∧ s < 6) (h : lnO w u s g tk) (hc : u 63 5 ≤ 0 ∨ 65536 ≤ tk) : u 63 5 = 0 ∧ lsOK u s g := by
  obtain ⟨h1, h2, h3, h4⟩ := h
  obtain ⟨c2, c3, c4⟩ := lnF_ed hs h1
  have hq : qL u = [] := by
    rcases h4 with h4 | ⟨a, p, q0, d, b1, b2, b3, _⟩
    · exact h4
    · rcases hc with hc | hc
      · have := qL_len u
        have h0 : (qL u).length = 0 := by omega
        exact List.length_eq_zero_iff.mp h0
      · exfalso
        have : (0 : Int) ≤ ((256 : Nat) : Int) * (a : Int) := Int.mul_nonneg (by omega) (by omega)
        omega
  have h5 : u 63 5 = 0 := by
    have := qL_len u
    rw [hq] at this
    have := h2.2.1
    simp at *
    omega
  refine ⟨h5, fun e e1 e2 => ⟨h3.2.1 e e1 e2, h3.2.2.1 e e1 e2⟩, ?_, ?_⟩
  · rw [edC_c c2 c3 c4]; exact h3.1
  · rw [edC_c c2 c3 c4]
    rw [hq] at h3
    exact gQ_end h3
/-- a node is taken and its runs are offered -/
theorem lnO_take {w v u0 u : RW} {s g tk e0 : Int} (hs : 0 ≤ s ∧ s < 6) (hb : w 2 0 ≤ 8 ∧ w 2 1 ≤ 6) (h : lnO w v s g tk) (hl : qL v = e0 :: qL u0) (hL : u0 (65 + s.toNat) = v (65 + s.toNat)) (hI : lnI w u0 u s g e0 6) : lnO w u s g (tk + 1) := by
  obtain ⟨h1, h2, h3, h4⟩ := h
  obtain ⟨i1, i2, i3, i4, i5, i6, ⟨new, n1, n2⟩, i8, i9⟩ := hI
  rw [hl] at h3 h4
  rw [hL] at i3 i6 i9 n2 i8
  have hnd : (e0 :: qL u0).Nodup := by rw [← hl]; exact h2.2.2.1
  have := gQ_take (f' := u (65 + s.toNat)) (new := new) (edC_ok hb g) h3 h4 hnd i3 i4 i5 (fun x hx => ⟨(n2 x hx).1, (n2 x hx).2⟩) (fun q q1 q2 q3 => by rw [← n1]; exact i8 q q1 q2 q3) (by rw [← n1, qL_len]; have := i2.2.1; omega) (fun q k c q1 q2 k1 k2 hed => i9 q k c q1 q2 k1 k2 hed)
  rw [← n1, show 65536 - tk - 1 = 65536 - (tk + 1) by omega] at this
  exact ⟨i1, i2, this.1, this.2⟩
end
section
theorem dW_learn_0 : decode cW_learn 0 = .ok (.aload_n 0, 1) := by decide +kernel
theorem dW_learn_1 : decode cW_learn 1 = .ok (.getfield 23, 3) := by decide +kernel
theorem dW_learn_4 : decode cW_learn 4 = .ok (.iload_n 2, 1) := by decide +kernel
theorem dW_learn_5 : decode cW_learn 5 = .ok (.ishr, 1) := by decide +kernel
theorem dW_learn_6 : decode cW_learn 6 = .ok (.iconst 1, 1) := by decide +kernel
theorem dW_learn_7 : decode cW_learn 7 = .ok (.iand, 1) := by decide +kernel
theorem dW_learn_8 : decode cW_learn 8 = .ok (.ifCond .eq 4, 3) := by decide +kernel
theorem dW_learn_11 : decode cW_learn 11 = .ok (.return_, 1) := by decide +kernel
theorem dW_learn_12 : decode cW_learn 12 = .ok (.aload_n 0, 1) := by decide +kernel
theorem dW_learn_13 : decode cW_learn 13 = .ok (.dup, 1) := by decide +kernel
theorem dW_learn_14 : decode cW_learn 14 = .ok (.getfield 23, 3) := by decide +kernel
theorem dW_learn_17 : decode cW_learn 17 = .ok (.iconst 1, 1) := by decide +kernel
theorem dW_learn_18 : decode cW_learn 18 = .ok (.iload_n 2, 1) := by decide +kernel
theorem dW_learn_19 : decode cW_learn 19 = .ok (.ishl, 1) := by decide +kernel
theorem dW_learn_20 : decode cW_learn 20 = .ok (.ior, 1) := by decide +kernel
theorem dW_learn_21 : decode cW_learn 21 = .ok (.putfield 23, 3) := by decide +kernel
theorem dW_learn_24 : decode cW_learn 24 = .ok (.aload_n 0, 1) := by decide +kernel
theorem dW_learn_25 : decode cW_learn 25 = .ok (.getfield 11, 3) := by decide +kernel
theorem dW_learn_28 : decode cW_learn 28 = .ok (.iload_n 2, 1) := by decide +kernel
theorem dW_learn_29 : decode cW_learn 29 = .ok (.aaload, 1) := by decide +kernel
theorem dW_learn_30 : decode cW_learn 30 = .ok (.ldc 51, 2) := by decide +kernel
theorem dW_learn_32 : decode cW_learn 32 = .ok (.invokestatic 72, 3) := by decide +kernel
theorem dW_learn_35 : decode cW_learn 35 = .ok (.iload_n 3, 1) := by decide +kernel
theorem dW_learn_36 : decode cW_learn 36 = .ok (.invokestatic 78, 3) := by decide +kernel
theorem dW_learn_39 : decode cW_learn 39 = .ok (.istore 4, 2) := by decide +kernel
theorem dW_learn_41 : decode cW_learn 41 = .ok (.aload_n 0, 1) := by decide +kernel
theorem dW_learn_42 : decode cW_learn 42 = .ok (.aload_n 1, 1) := by decide +kernel
theorem dW_learn_43 : decode cW_learn 43 = .ok (.iload_n 2, 1) := by decide +kernel
theorem dW_learn_44 : decode cW_learn 44 = .ok (.iload_n 3, 1) := by decide +kernel
theorem dW_learn_45 : decode cW_learn 45 = .ok (.getstatic 81, 3) := by decide +kernel
theorem dW_learn_48 : decode cW_learn 48 = .ok (.iload 4, 2) := by decide +kernel
theorem dW_learn_50 : decode cW_learn 50 = .ok (.iaload, 1) := by decide +kernel
theorem dW_learn_51 : decode cW_learn 51 = .ok (.invokestatic 62, 3) := by decide +kernel
theorem dW_learn_54 : decode cW_learn 54 = .ok (.iconst 0, 1) := by decide +kernel
theorem dW_learn_55 : decode cW_learn 55 = .ok (.invokevirtual 84, 3) := by decide +kernel
theorem dW_learn_58 : decode cW_learn 58 = .ok (.aload_n 0, 1) := by decide +kernel
theorem dW_learn_59 : decode cW_learn 59 = .ok (.aload_n 1, 1) := by decide +kernel
theorem dW_learn_60 : decode cW_learn 60 = .ok (.iload_n 2, 1) := by decide +kernel
theorem dW_learn_61 : decode cW_learn 61 = .ok (.iload_n 3, 1) := by decide +kernel
theorem dW_learn_62 : decode cW_learn 62 = .ok (.getstatic 88, 3) := by decide +kernel
theorem dW_learn_65 : decode cW_learn 65 = .ok (.iload 4, 2) := by decide +kernel
theorem dW_learn_67 : decode cW_learn 67 = .ok (.iaload, 1) := by decide +kernel
theorem dW_learn_68 : decode cW_learn 68 = .ok (.invokestatic 62, 3) := by decide +kernel
theorem dW_learn_71 : decode cW_learn 71 = .ok (.iconst 0, 1) := by decide +kernel
theorem dW_learn_72 : decode cW_learn 72 = .ok (.invokevirtual 84, 3) := by decide +kernel
theorem dW_learn_75 : decode cW_learn 75 = .ok (.iconst 0, 1) := by decide +kernel
theorem dW_learn_76 : decode cW_learn 76 = .ok (.istore 5, 2) := by decide +kernel
theorem dW_learn_78 : decode cW_learn 78 = .ok (.aload_n 0, 1) := by decide +kernel
theorem dW_learn_79 : decode cW_learn 79 = .ok (.getfield 91, 3) := by decide +kernel
theorem dW_learn_82 : decode cW_learn 82 = .ok (.ifCond .le 92, 3) := by decide +kernel
theorem dW_learn_85 : decode cW_learn 85 = .ok (.iload 5, 2) := by decide +kernel
theorem dW_learn_87 : decode cW_learn 87 = .ok (.ldc 94, 2) := by decide +kernel
theorem dW_learn_89 : decode cW_learn 89 = .ok (.if_icmp .ge 85, 3) := by decide +kernel
theorem dW_learn_92 : decode cW_learn 92 = .ok (.aload_n 0, 1) := by decide +kernel
theorem dW_learn_93 : decode cW_learn 93 = .ok (.invokevirtual 95, 3) := by decide +kernel
theorem dW_learn_96 : decode cW_learn 96 = .ok (.istore 6, 2) := by decide +kernel
theorem dW_learn_98 : decode cW_learn 98 = .ok (.iload 6, 2) := by decide +kernel
theorem dW_learn_100 : decode cW_learn 100 = .ok (.bipush 64, 2) := by decide +kernel
theorem dW_learn_102 : decode cW_learn 102 = .ok (.irem, 1) := by decide +kernel
theorem dW_learn_103 : decode cW_learn 103 = .ok (.istore 7, 2) := by decide +kernel
theorem dW_learn_105 : decode cW_learn 105 = .ok (.iload 6, 2) := by decide +kernel
theorem dW_learn_107 : decode cW_learn 107 = .ok (.bipush 64, 2) := by decide +kernel
theorem dW_learn_109 : decode cW_learn 109 = .ok (.idiv, 1) := by decide +kernel
theorem dW_learn_110 : decode cW_learn 110 = .ok (.istore 8, 2) := by decide +kernel
theorem dW_learn_112 : decode cW_learn 112 = .ok (.iconst 0, 1) := by decide +kernel
theorem dW_learn_113 : decode cW_learn 113 = .ok (.istore 9, 2) := by decide +kernel
theorem dW_learn_115 : decode cW_learn 115 = .ok (.iload 9, 2) := by decide +kernel
theorem dW_learn_117 : decode cW_learn 117 = .ok (.bipush 6, 2) := by decide +kernel
theorem dW_learn_119 : decode cW_learn 119 = .ok (.if_icmp .ge 49, 3) := by decide +kernel
theorem dW_learn_122 : decode cW_learn 122 = .ok (.aload_n 1, 1) := by decide +kernel
theorem dW_learn_123 : decode cW_learn 123 = .ok (.iload 7, 2) := by decide +kernel
theorem dW_learn_125 : decode cW_learn 125 = .ok (.iload 9, 2) := by decide +kernel
theorem dW_learn_127 : decode cW_learn 127 = .ok (.iload 8, 2) := by decide +kernel
theorem dW_learn_129 : decode cW_learn 129 = .ok (.invokevirtual 52, 3) := by decide +kernel
theorem dW_learn_132 : decode cW_learn 132 = .ok (.ifCond .eq 30, 3) := by decide +kernel
theorem dW_learn_135 : decode cW_learn 135 = .ok (.aload_n 0, 1) := by decide +kernel
theorem dW_learn_136 : decode cW_learn 136 = .ok (.aload_n 1, 1) := by decide +kernel
theorem dW_learn_137 : decode cW_learn 137 = .ok (.iload_n 2, 1) := by decide +kernel
theorem dW_learn_138 : decode cW_learn 138 = .ok (.iload 7, 2) := by decide +kernel
theorem dW_learn_140 : decode cW_learn 140 = .ok (.iload 9, 2) := by decide +kernel
theorem dW_learn_142 : decode cW_learn 142 = .ok (.invokestatic 56, 3) := by decide +kernel
theorem dW_learn_145 : decode cW_learn 145 = .ok (.iload 8, 2) := by decide +kernel
theorem dW_learn_147 : decode cW_learn 147 = .ok (.invokestatic 62, 3) := by decide +kernel
theorem dW_learn_150 : decode cW_learn 150 = .ok (.aload_n 0, 1) := by decide +kernel
theorem dW_learn_151 : decode cW_learn 151 = .ok (.getfield 11, 3) := by decide +kernel
theorem dW_learn_154 : decode cW_learn 154 = .ok (.iload_n 2, 1) := by decide +kernel
theorem dW_learn_155 : decode cW_learn 155 = .ok (.aaload, 1) := by decide +kernel
theorem dW_learn_156 : decode cW_learn 156 = .ok (.iload 6, 2) := by decide +kernel
theorem dW_learn_158 : decode cW_learn 158 = .ok (.iaload, 1) := by decide +kernel
theorem dW_learn_159 : decode cW_learn 159 = .ok (.invokevirtual 84, 3) := by decide +kernel
theorem dW_learn_162 : decode cW_learn 162 = .ok (.iinc 9 1, 3) := by decide +kernel
theorem dW_learn_165 : decode cW_learn 165 = .ok (.goto (-50), 3) := by decide +kernel
theorem dW_learn_168 : decode cW_learn 168 = .ok (.iinc 5 1, 3) := by decide +kernel
theorem dW_learn_171 : decode cW_learn 171 = .ok (.goto (-93), 3) := by decide +kernel
theorem dW_learn_174 : decode cW_learn 174 = .ok (.return_, 1) := by decide +kernel
theorem lmW_84 : Cond.methodLink R_W 84 yW_offer ∈ bigW := bw 480 (by decide +kernel) rfl
theorem lcW_94 : Cond.constant R_W 94 (Int32.ofInt 65536) ∈ bigW := bw 502 (by decide +kernel) rfl
theorem lmW_95 : Cond.methodLink R_W 95 yW_takeFromQueue ∈ bigW := bw 503 (by decide +kernel) rfl
theorem lmW_72 : Cond.methodLink R_W 72 yA_fill ∈ bigW := bw 476 (by decide +kernel) rfl
theorem lmW_78 : Cond.methodLink R_W 78 yS_pieceOf ∈ bigW := bw 477 (by decide +kernel) rfl
theorem lfW_81 : Cond.fieldLinkNest R_W 81 "RailYard$Spot" "FIRST_EDGE" "[I" hostN ∈ nestW := nw 478 (by decide +kernel) rfl
theorem lfW_88 : Cond.fieldLinkNest R_W 88 "RailYard$Spot" "SECOND_EDGE" "[I" hostN ∈ nestW := nw 501 (by decide +kernel) rfl
theorem miW_offer : MI yW_offer cW_offer 9 none 4 := ⟨bw 483 (by decide +kernel) rfl, bw 40 (by decide +kernel) rfl, ⟨by decide +kernel, by decide +kernel⟩, by decide +kernel, by decide⟩
theorem mvW_offer : MV yW_offer := ⟨bw 482 (by decide +kernel) rfl, bw 5 (by decide +kernel) rfl⟩
theorem miW_takeFromQueue : MI yW_takeFromQueue cW_takeFromQueue 2 (some .int) 0 := ⟨bw 506 (by decide +kernel) rfl, bw 40 (by decide +kernel) rfl, ⟨by decide +kernel, by decide +kernel⟩, by decide +kernel, by decide⟩
theorem mvW_takeFromQueue : MV yW_takeFromQueue := ⟨bw 505 (by decide +kernel) rfl, bw 7 (by decide +kernel) rfl⟩
theorem lpW_learnI {G : vG} {X : vX} {Q : State → Prop} {w u0 : RW} {gp : Option RV} {tk e0 : Int} {s g : Int} (hs : 0 ≤ s ∧ s < 6) (hb : w 2 0 ≤ 8 ∧ w 2 1 ≤ 6) (hw : ∀ t, 0 ≤ t → t < 48 → 0 ≤ w 3 t) (hl : ∀ p, 0 ≤ p → p < 384 → 0 ≤ w 4 p) (he : 0 ≤ e0 ∧ e0 < 256) (hval : isT (w 2 0) (w 2 1) (e0 % 64 % 8) (e0 % 64 / 8)) (hF0 : ∀ e, 0 ≤ e → e < 256 → u0 (65 + s.toNat) e ≤ 1048576) (he0 : u0 (65 + s.toNat) e0 < 1048576) (hg0 : ∀ q k c, 0 ≤ q → q < 256 → 0 ≤ k → k < 6 → edC w g q k = some (none, c) → u0 (65 + s.toNat) q ≤ c) (F : FX G X cW_learn yW_learn.cls 10 3) (K : ∀ (u : RW) (p : Option RV), lnI w u0 u s g e0 6 → V G X 10 Q 168 [some (.inr 63), some (.inr 2), some (.inl s), some (.inl g), gp, some (.inl tk), some (.inl (e0)), some (.inl (e0 % 64)), some (.inl (e0 / 64)), p] [] u) : ∀ (m : Nat) (i : Int) (u : RW), 0 ≤ i → i ≤ 6 → 6 - i < m → lnI w u0 u s g e0 i → V G X 10 Q 115 [some (.inr 63), some (.inr 2), some (.inl s), some (.inl g), gp, some (.inl tk), some (.inl (e0)), some (.inl (e0 % 64)), some (.inl (e0 / 64)), some (.inl (i))] [] u := by
  have ht48 := isT_val hb.1 hb.2 hval (by omega)
  intro m
  induction m with
  | zero => intro i u h1 h2 h3; omega
  | succ m ih =>
    intro i u h1 h2 h3 hI
    obtain ⟨c2, c3, c4⟩ := lnF_ed hs hI.1
    have a1 := ls65_at hs
    have a2 := ls65_sh hs
    refine V_iload F dW_learn_115 rfl ?_
    refine V_bipush F dW_learn_117 (by decide) ?_
    refine V_icmp_ge F 168 dW_learn_119 (by decide) (fun h119 => ?_) (fun h119 => ?_)
    · first | (replace h119 := bz_ne0.mp h119) | (replace h119 := bz_eq0.mp h119) | skip
      rw [show i = 6 by omega] at hI
      exact K u _ hI
    · first | (replace h119 := bz_ne0.mp h119) | (replace h119 := bz_eq0.mp h119) | skip
      refine V_aload_n (i := 1) F dW_learn_122 rfl rfl ?_
      refine V_iload F dW_learn_123 rfl ?_
      refine V_iload F dW_learn_125 rfl ?_
      refine V_iload F dW_learn_127 rfl ?_
      refine V_callVi F dW_learn_129 lmW_52 miG_meets mvG_meets (ctG_meets (w := u) (by omega) (by omega) (by rw [c3]; exact hw _ (by omega) (by omega))) (by decide) (by first | rfl | assumption) rfl rfl (Nat.le_of_ble_eq_true rfl) (fun r u hr => ?_)
      obtain ⟨rfl, rfl⟩ := hr
      refine V_if_eq F 162 dW_learn_132 (by decide) (fun h132 => ?_) (fun h132 => ?_)
      · first | (replace h132 := bz_ne0.mp h132) | (replace h132 := bz_eq0.mp h132) | skip
        refine V_iinc F dW_learn_162 (by decide) rfl (by omega) (by simp only [List.set_cons_zero, List.set_cons_succ]; exact rfl) ?_
        refine V_goto F 115 dW_learn_165 (by decide) ?_
        first
        | exact ih (i + 1) _ (by omega) (by omega) (by omega) (lnI_step hs hb he (by omega) hval hF0 he0 hg0 hI (by rw [c3] at h132; exact h132) hr)
        | exact ih (i + 1) _ (by omega) (by omega) (by omega) (lnI_skip hb he (by omega) hI (by rw [c3] at h132; exact h132))
      · first | (replace h132 := bz_ne0.mp h132) | (replace h132 := bz_eq0.mp h132) | skip
        refine V_aload_n (i := 0) F dW_learn_135 rfl rfl ?_
        refine V_aload_n (i := 1) F dW_learn_136 rfl rfl ?_
        refine V_iload_n (i := 2) F dW_learn_137 rfl rfl ?_
        refine V_iload F dW_learn_138 rfl ?_
        refine V_iload F dW_learn_140 rfl ?_
        refine V_callSi F dW_learn_142 lmW_56 miS_place msS_place (ctS_place (w := u) (by omega)) (by decide) rfl (Nat.le_of_ble_eq_true rfl) (fun r u hr => ?_)
        obtain ⟨rfl, rfl⟩ := hr
        refine V_iload F dW_learn_145 rfl ?_
        refine V_callSi F dW_learn_147 lmW_62 miS_run msS_run (ctS_run (w := u) (by omega)) (by decide) rfl (Nat.le_of_ble_eq_true rfl) (fun r u hr => ?_)
        obtain ⟨rfl, rfl⟩ := hr
        refine V_aload_n (i := 0) F dW_learn_150 rfl rfl ?_
        refine V_getr (ci := 4) (C := R_W) (T := T_W) (N := 6) F dW_learn_151 (by first | rfl | assumption) rfl (j := 0) (by decide) rfl lfW_11 ?_
        refine V_iload_n (i := 2) F dW_learn_154 rfl rfl ?_
        first
          | refine V_aald F dW_learn_155 (by first | rfl | assumption) rfl (by omega) (by first | rfl | assumption) ?_
          | refine V_aaldA F dW_learn_155 (by first | rfl | assumption) rfl (by omega) (by first | rfl | assumption) ?_
        refine V_iload F dW_learn_156 rfl ?_
        first
          | refine V_sald F dW_learn_158 (by decide) (by omega) (stt_in _ _) ?_
          | refine V_iald F dW_learn_158 (by first | rfl | assumption) rfl (by omega) ?_
        refine V_callVv F dW_learn_159 lmW_84 miW_offer mvW_offer (ctW_offer (w := u) (s := s) (x := e0 % 64 + 64 * i + 512 * (e0 / 64)) (z := u (65 + s.toNat) e0) ⟨by omega, by omega, by omega, by omega, by rw [show (e0 % 64 + 64 * i + 512 * (e0 / 64)) % 512 / 64 = i by omega, show (e0 % 64 + 64 * i + 512 * (e0 / 64)) / 512 = e0 / 64 by omega]; exact h132.2⟩ ⟨by have := hI.2.2.2.2.1 e0 he.1 he.2; omega, by have := hI.2.2.2.2.2.1; omega⟩ (by rw [c2]; exact hb) (by rw [c4]; exact hl) hs (by have := hI.2.1.1; have := hI.2.1.2.1; omega)) (by decide) (by first | rfl | assumption) rfl rfl (Nat.le_of_ble_eq_true rfl) (fun u hr => ?_)
        skip
        refine V_iinc F dW_learn_162 (by decide) rfl (by omega) (by simp only [List.set_cons_zero, List.set_cons_succ]; exact rfl) ?_
        refine V_goto F 115 dW_learn_165 (by decide) ?_
        first
        | exact ih (i + 1) _ (by omega) (by omega) (by omega) (lnI_step hs hb he (by omega) hval hF0 he0 hg0 hI (by rw [c3] at h132; exact h132) hr)
        | exact ih (i + 1) _ (by omega) (by omega) (by omega) (lnI_skip hb he (by omega) hI (by rw [c3] at h132; exact h132))
theorem lpW_learnO {G : vG} {X : vX} {Q : State → Prop} {w : RW} {gp : Option RV} {s g : Int} (hs : 0 ≤ s ∧ s < 6) (hb : w 2 0 ≤ 8 ∧ w 2 1 ≤ 6) (hw : ∀ t, 0 ≤ t → t < 48 → 0 ≤ w 3 t) (hl : ∀ p, 0 ≤ p → p < 384 → 0 ≤ w 4 p) (hk0 : ¬ tb (w 63 1) s) (F : FX G X cW_learn yW_learn.cls 10 3) (hR : RetV G X cW_learn 10 Q (fun u => lnP w u s g)) : ∀ (m : Nat) (tk : Int) (v : RW) (o1 o2 o3 o4 : Option RV), 0 ≤ tk → tk ≤ 65536 → 65536 - tk < m → lnO w v s g tk → V G X 10 Q 78 [some (.inr 63), some (.inr 2), some (.inl s), some (.inl g), gp, some (.inl tk), o1, o2, o3, o4] [] v := by
  intro m
  induction m with
  | zero => intro tk v o1 o2 o3 o4 h1 h2 h3; omega
  | succ m ih =>
    intro tk v o1 o2 o3 o4 h1 h2 h3 hO
    have hhead : 0 < v 63 5 → 0 ≤ v 71 (v 63 4) ∧ v 71 (v 63 4) < 256 := fun hc => hO.2.1.2.2.2.1 _ (by
      unfold qL
      refine List.mem_map.mpr ⟨0, List.mem_range.mpr (by omega), ?_⟩
      have := hO.2.1.1
      show v 71 ((v 63 4 + 0) % 256) = _
      congr 1
      omega)
    refine V_aload_n (i := 0) F dW_learn_78 rfl rfl ?_
    refine V_geti (ci := 4) (C := R_W) (T := T_W) (N := 6) F dW_learn_79 (by first | rfl | assumption) rfl (j := 5) 5 rfl (by decide) rfl lfW_91 ?_
    refine V_if_le F 174 dW_learn_82 (by decide) (fun h82 => ?_) (fun h82 => ?_)
    · exact hR _ _ _ dW_learn_174 (Or.inr ⟨hk0, hO.1, hO.2.1, lnO_end hs hO (by omega)⟩)
    · refine V_iload F dW_learn_85 rfl ?_
      refine V_ldc F dW_learn_87 lcW_94 ⟨by decide, by decide⟩ ?_
      refine V_icmp_ge F 174 dW_learn_89 (by decide) (fun h89 => ?_) (fun h89 => ?_)
      · exact hR _ _ _ dW_learn_174 (Or.inr ⟨hk0, hO.1, hO.2.1, lnO_end hs hO (by omega)⟩)
      · refine V_aload_n (i := 0) F dW_learn_92 rfl rfl ?_
        refine V_callVi F dW_learn_93 lmW_95 miW_takeFromQueue mvW_takeFromQueue (ctW_takeFromQueue (w := v) (by have := hO.2.1.1; have := hO.2.1.2.1; omega) (hhead (by omega))) (by decide) (by first | rfl | assumption) rfl rfl (Nat.le_of_ble_eq_true rfl) (fun r u hr => ?_)
        obtain ⟨rfl, hu0⟩ := hr
        obtain ⟨t1, t2, t3, t4⟩ := take_ok hO.2.1 (by omega) hu0
        refine V_istore F dW_learn_96 (by decide) (by simp only [List.set_cons_zero, List.set_cons_succ]; exact rfl) ?_
        refine V_iload F dW_learn_98 rfl ?_
        refine V_bipush F dW_learn_100 (by decide) ?_
        refine V_irem F dW_learn_102 (by omega) ?_
        refine V_istore F dW_learn_103 (by decide) (by simp only [List.set_cons_zero, List.set_cons_succ]; exact rfl) ?_
        refine V_iload F dW_learn_105 rfl ?_
        refine V_bipush F dW_learn_107 (by decide) ?_
        refine V_idiv F dW_learn_109 (by omega) ?_
        refine V_istore F dW_learn_110 (by decide) (by simp only [List.set_cons_zero, List.set_cons_succ]; exact rfl) ?_
        refine V_iconst F dW_learn_112 (by decide) ?_
        refine V_istore F dW_learn_113 (by decide) (by simp only [List.set_cons_zero, List.set_cons_succ]; exact rfl) ?_
        have hmem : v 71 (v 63 4) ∈ qL v := by rw [t4]; exact List.mem_cons_self
        obtain ⟨he, heF⟩ := hO.2.2.1.2.2.2.1 _ hmem
        have hLe : ∀ x, x = v (65 + s.toNat) → True := fun _ _ => trivial
        have hneL : 65 + s.toNat ≠ 63 ∧ 65 + s.toNat ≠ 72 := by omega
        have hL := t2 _ hneL.1 hneL.2
        have hval : isT (w 2 0) (w 2 1) (v 71 (v 63 4) % 64 % 8) (v 71 (v 63 4) % 64 / 8) := by
          obtain ⟨k, t, c, -, hed, -⟩ := hO.2.2.1.1 _ he.1 he.2 heF
          exact (edC_v hed).2.2.1
        refine lpW_learnI (u0 := _) hs hb hw hl he hval (fun e a b => by rw [hL]; exact hO.2.2.1.2.2.1 e a b) (by rw [hL]; exact heF) (fun q k c q1 q2 k1 k2 hed => by rw [hL]; exact (hO.2.2.1.2.2.2.2.2 q k none c q1 q2 k1 k2 hed).1 rfl) F (fun u2 p2 hI2 => ?_) 7 0 _ (by omega) (by omega) (by omega) ⟨⟨fun j j1 j2 j3 j4 => by rw [t2 j j1 j3]; exact hO.1.1 j j1 j2 j3 j4, by rw [t3 1 (by decide) (by decide)]; exact hO.1.2⟩, t1, fun q _ _ => Int.le_refl _, by rw [hL]; exact hO.2.2.1.1, by rw [hL]; exact hO.2.2.1.2.1, rfl, ⟨[], by simp, fun x hx => absurd hx List.not_mem_nil⟩, fun q _ _ h => absurd h (Int.lt_irrefl _), fun q k c q1 q2 k1 k2 => by omega⟩
        refine V_iinc F dW_learn_168 (by decide) rfl (by omega) (by simp only [List.set_cons_zero, List.set_cons_succ]; exact rfl) ?_
        refine V_goto F 78 dW_learn_171 (by decide) ?_
        exact ih (tk + 1) u2 _ _ _ _ (by omega) (by omega) (by omega) (lnO_take hs hb hO t4 hL hI2)
theorem ctW_learn {G : vG} {l : Launch} {w : RW} {s g : Int} (hs : 0 ≤ s ∧ s < 6) (hb : w 2 0 ≤ 8 ∧ w 2 1 ≤ 6) (hw : ∀ t, 0 ≤ t → t < 48 → 0 ≤ w 3 t) (hl : ∀ p, 0 ≤ p → p < 384 → 0 ≤ w 4 p) (hg : 0 ≤ g ∧ g < 384) (hgv : isT (w 2 0) (w 2 1) (g % 64 % 8) (g % 64 / 8)) (hgl : tb (w 3 (g % 64)) (g / 64)) (hk : 0 ≤ w 63 1 ∧ w 63 1 < 64) (hQ : QI w ∧ w 63 5 = 0) : CTv G l yW_learn cW_learn 10 3 [.inr 63, .inr 2, .inl s, .inl g] w (fun u => lnP w u s g) := by
  refine CTv.intro (by decide) (Nat.le_of_ble_eq_true rfl) ?_
  intro X Q F hX hR
  subst hX
  show V G X 10 Q 0 [some (.inr 63), some (.inr 2), some (.inl s), some (.inl g), none, none, none, none, none, none] [] w
  have ht48 := isT_val hb.1 hb.2 hgv (by omega)
  have s0 := stt_e (i := 0) (by omega) (show 0 ≤ g % 512 / 64 ∧ g % 512 / 64 < 6 by omega)
  have s1 := stt_e (i := 1) (by omega) (show 0 ≤ g % 512 / 64 ∧ g % 512 / 64 < 6 by omega)
  have hgl2 : tb (w 3 (g % 64)) (g % 512 / 64) := by rw [show g % 512 / 64 = g / 64 by omega]; exact hgl
  have m1 : (g + 512 * stt 0 (g % 512 / 64)) % 64 = g % 64 := by omega
  have m2 : (g + 512 * stt 0 (g % 512 / 64)) % 512 / 64 = g % 512 / 64 := by omega
  have m3 : (g + 512 * stt 0 (g % 512 / 64)) / 512 = stt 0 (g % 512 / 64) := by omega
  have m4 : (g + 512 * stt 0 (g % 512 / 64)) % 512 = g := by omega
  have ok0 : okR (g + 512 * stt 0 (g % 512 / 64)) := ⟨by omega, by omega, by omega, by omega, by rw [m2, m3]; exact Or.inl rfl⟩
  have n1 : (g + 512 * stt 1 (g % 512 / 64)) % 64 = g % 64 := by omega
  have n2 : (g + 512 * stt 1 (g % 512 / 64)) % 512 / 64 = g % 512 / 64 := by omega
  have n3 : (g + 512 * stt 1 (g % 512 / 64)) / 512 = stt 1 (g % 512 / 64) := by omega
  have n4 : (g + 512 * stt 1 (g % 512 / 64)) % 512 = g := by omega
  have ok1 : okR (g + 512 * stt 1 (g % 512 / 64)) := ⟨by omega, by omega, by omega, by omega, by rw [n2, n3]; exact Or.inr rfl⟩
  refine V_aload_n (i := 0) F dW_learn_0 rfl rfl ?_
  refine V_geti (ci := 4) (C := R_W) (T := T_W) (N := 6) F dW_learn_1 (by first | rfl | assumption) rfl (j := 1) 1 rfl (by decide) rfl lfW_23 ?_
  refine V_iload_n (i := 2) F dW_learn_4 rfl rfl ?_
  refine V_ishr F _ dW_learn_5 rfl ?_
  refine V_iconst F dW_learn_6 (by decide) ?_
  refine V_iand F _ dW_learn_7 (bit_1 (by omega) (by omega)) ?_
  refine V_if_eq F 12 dW_learn_8 (by decide) (fun h8 => ?_) (fun h8 => ?_)
  · first | (replace h8 := bz_ne0.mp h8) | (replace h8 := bz_eq0.mp h8) | skip
    have a1 := ls65_at hs
    have a2 := ls65_sh hs
    refine V_aload_n (i := 0) F dW_learn_12 rfl rfl ?_
    refine V_dup F dW_learn_13 ?_
    refine V_geti (ci := 4) (C := R_W) (T := T_W) (N := 6) F dW_learn_14 (by first | rfl | assumption) rfl (j := 1) 1 rfl (by decide) rfl lfW_23 ?_
    refine V_iconst F dW_learn_17 (by decide) ?_
    refine V_iload_n (i := 2) F dW_learn_18 rfl rfl ?_
    refine V_ishl F _ dW_learn_19 (ishl_1 (by omega)) ?_
    refine V_ior F _ dW_learn_20 rfl ?_
    refine V_puti (ci := 4) (C := R_W) (T := T_W) (N := 6) F dW_learn_21 (by first | rfl | assumption) rfl (j := 1) 1 rfl (by decide) rfl rfl rfl lfW_23 ?_
    refine V_aload_n (i := 0) F dW_learn_24 rfl rfl ?_
    refine V_getr (ci := 4) (C := R_W) (T := T_W) (N := 6) F dW_learn_25 (by first | rfl | assumption) rfl (j := 0) (by decide) rfl lfW_11 ?_
    refine V_iload_n (i := 2) F dW_learn_28 rfl rfl ?_
    first
      | refine V_aald F dW_learn_29 (by first | rfl | assumption) rfl (by omega) (by first | rfl | assumption) ?_
      | refine V_aaldA F dW_learn_29 (by first | rfl | assumption) rfl (by omega) (by first | rfl | assumption) ?_
    refine V_ldc F dW_learn_30 lcW_51 ⟨by decide, by decide⟩ ?_
    refine V_callSv F dW_learn_32 lmW_72 miA_fill msA_fill (ctA_fill (k := 65 + s.toNat) (n := 256) a2 (by decide)) (by decide) rfl (Nat.le_of_ble_eq_true rfl) (fun u hr => ?_)
    subst hr
    obtain ⟨u1, hu1⟩ : ∃ u1, u1 = flw (upw w 63 1 (ior (w 63 1) (p2 s))) (65 + s.toNat) ((256 : Nat) : Int) 1048576 := ⟨_, rfl⟩
    rw [← hu1]
    have f1 : ∀ j, j ≠ 65 + s.toNat → u1 j = upw w 63 1 (ior (w 63 1) (p2 s)) j := fun j hj => by rw [hu1]; funext q; unfold flw; rw [if_neg (fun z => hj z.1)]
    have f2 : ∀ q, 0 ≤ q → q < 256 → u1 (65 + s.toNat) q = 1048576 := fun q q1 q2 => by rw [hu1]; unfold flw; rw [if_pos ⟨rfl, q1, by omega⟩]
    have f63 : ∀ f, f ≠ 1 → u1 63 f = w 63 f := fun f hf => by rw [f1 63 (by omega), upw_i hf]
    obtain ⟨qI, qE⟩ := QI_c2 (w := w) (u := u1) (f63 4 (by decide)) (f63 5 (by decide)) (by rw [f1 71 (by omega), upw_f (by decide)]) (by rw [f1 72 (by omega), upw_f (by decide)]) hQ.1
    have qN : qL u1 = [] := by rw [qE]; exact List.length_eq_zero_iff.mp (by rw [qL_len, hQ.2]; rfl)
    have g1 : lnG w u1 s g (fun _ => False) := ⟨⟨fun j j1 j2 j3 j4 => by rw [f1 j j4, upw_f j1], by rw [f1 63 (by omega), upw_s]⟩, qI, fun q q1 q2 q3 => by rw [f2 q q1 q2] at q3; omega, fun q q1 q2 => by rw [f2 q q1 q2]; omega, fun q q1 q2 q3 => by rw [f2 q q1 q2] at q3; omega, fun x hx => by rw [qN] at hx; exact absurd hx List.not_mem_nil, fun q k c _ _ _ _ _ hd => absurd hd (fun z => z)⟩
    refine V_iload_n (i := 3) F dW_learn_35 rfl rfl ?_
    refine V_callSi F dW_learn_36 lmW_78 miS_pieceOf msS_pieceOf (ctS_pieceOf (by omega)) (by decide) rfl (Nat.le_of_ble_eq_true rfl) (fun r u hr => ?_)
    obtain ⟨rfl, rfl⟩ := hr
    refine V_istore F dW_learn_39 (by decide) (by simp only [List.set_cons_zero, List.set_cons_succ]; exact rfl) ?_
    refine V_aload_n (i := 0) F dW_learn_41 rfl rfl ?_
    refine V_aload_n (i := 1) F dW_learn_42 rfl rfl ?_
    refine V_iload_n (i := 2) F dW_learn_43 rfl rfl ?_
    refine V_iload_n (i := 3) F dW_learn_44 rfl rfl ?_
    refine V_getsN F 0 dW_learn_45 (by decide) lfW_81 ?_
    refine V_iload F dW_learn_48 rfl ?_
    first
      | refine V_sald F dW_learn_50 (by decide) (by omega) (stt_in _ _) ?_
      | refine V_iald F dW_learn_50 (by first | rfl | assumption) rfl (by omega) ?_
    refine V_callSi F dW_learn_51 lmW_62 miS_run msS_run (ctS_run (by omega)) (by decide) rfl (Nat.le_of_ble_eq_true rfl) (fun r u hr => ?_)
    obtain ⟨rfl, rfl⟩ := hr
    refine V_iconst F dW_learn_54 (by decide) ?_
    refine V_callVv F dW_learn_55 lmW_84 miW_offer mvW_offer (ctW_offer (w := u1) (s := s) (z := 0) ok0 (by omega) (by rw [(lnF_ed hs g1.1).1]; exact hb) (by rw [(lnF_ed hs g1.1).2.2]; exact hl) hs (by have := g1.2.1.1; have := g1.2.1.2.1; omega)) (by decide) (by first | rfl | assumption) rfl rfl (Nat.le_of_ble_eq_true rfl) (fun u hr => ?_)
    have g2 := lnG_step hs hb ok0 (by rw [m1]; exact hgv) (by rw [m1, m2]; exact hgl2) m4 g1 hr
    refine V_aload_n (i := 0) F dW_learn_58 rfl rfl ?_
    refine V_aload_n (i := 1) F dW_learn_59 rfl rfl ?_
    refine V_iload_n (i := 2) F dW_learn_60 rfl rfl ?_
    refine V_iload_n (i := 3) F dW_learn_61 rfl rfl ?_
    refine V_getsN F 1 dW_learn_62 (by decide) lfW_88 ?_
    refine V_iload F dW_learn_65 rfl ?_
    first
      | refine V_sald F dW_learn_67 (by decide) (by omega) (stt_in _ _) ?_
      | refine V_iald F dW_learn_67 (by first | rfl | assumption) rfl (by omega) ?_
    refine V_callSi F dW_learn_68 lmW_62 miS_run msS_run (ctS_run (by omega)) (by decide) rfl (Nat.le_of_ble_eq_true rfl) (fun r u hr => ?_)
    obtain ⟨rfl, rfl⟩ := hr
    refine V_iconst F dW_learn_71 (by decide) ?_
    refine V_callVv F dW_learn_72 lmW_84 miW_offer mvW_offer (ctW_offer (s := s) (z := 0) ok1 (by omega) (by rw [(lnF_ed hs g2.1).1]; exact hb) (by rw [(lnF_ed hs g2.1).2.2]; exact hl) hs (by have := g2.2.1.1; have := g2.2.1.2.1; omega)) (by decide) (by first | rfl | assumption) rfl rfl (Nat.le_of_ble_eq_true rfl) (fun u hr => ?_)
    have g3 := lnG_step hs hb ok1 (by rw [n1]; exact hgv) (by rw [n1, n2]; exact hgl2) n4 g2 hr
    refine V_iconst F dW_learn_75 (by decide) ?_
    refine V_istore F dW_learn_76 (by decide) (by simp only [List.set_cons_zero, List.set_cons_succ]; exact rfl) ?_
    have g4 := lnG_weak hb (D' := fun y => y % 512 = g) (fun y hy hyg => by
      obtain ⟨y1, y2, y3, y4, y5⟩ := hy
      have e1 : y % 512 / 64 = g % 512 / 64 := by rw [hyg]; omega
      rw [e1] at y5
      unfold hsE at y5
      rcases y5 with y5 | y5
      · exact Or.inl (Or.inr (by omega))
      · exact Or.inr (by omega)) g3
    have hgq := lnG_Q g4 hb
    have hp := gPot_start (edC_ok hb g) hgq
    have hle := usN_le 256 (edC w g) (u (65 + s.toNat)) (qL u)
    refine lpW_learnO hs hb hw hl h8 F hR 65537 0 _ _ _ _ _ (by omega) (by omega) (by omega) ⟨g4.1, g4.2.1, hgq, ?_⟩
    rcases hp with hp | ⟨a, p, q0, d, p1, p2', p3⟩
    · exact Or.inl hp
    · exact Or.inr ⟨a, p, q0, d, by omega, p2', p3⟩
  · first | (replace h8 := bz_ne0.mp h8) | (replace h8 := bz_eq0.mp h8) | skip
    exact hR _ _ _ dW_learn_11 (Or.inl ⟨h8, rfl⟩)
end
section
theorem dX_pieces_0 : decode cX_pieces 0 = .ok (.aload_n 0, 1) := by decide +kernel
theorem dX_pieces_1 : decode cX_pieces 1 = .ok (.getfield 41, 3) := by decide +kernel
theorem dX_pieces_4 : decode cX_pieces 4 = .ok (.getfield 48, 3) := by decide +kernel
theorem dX_pieces_7 : decode cX_pieces 7 = .ok (.iload_n 1, 1) := by decide +kernel
theorem dX_pieces_8 : decode cX_pieces 8 = .ok (.iload_n 2, 1) := by decide +kernel
theorem dX_pieces_9 : decode cX_pieces 9 = .ok (.invokevirtual 52, 3) := by decide +kernel
theorem dX_pieces_12 : decode cX_pieces 12 = .ok (.ifCond .eq 22, 3) := by decide +kernel
theorem dX_pieces_15 : decode cX_pieces 15 = .ok (.aload_n 0, 1) := by decide +kernel
theorem dX_pieces_16 : decode cX_pieces 16 = .ok (.getfield 41, 3) := by decide +kernel
theorem dX_pieces_19 : decode cX_pieces 19 = .ok (.getfield 48, 3) := by decide +kernel
theorem dX_pieces_22 : decode cX_pieces 22 = .ok (.getfield 77, 3) := by decide +kernel
theorem dX_pieces_25 : decode cX_pieces 25 = .ok (.iload_n 1, 1) := by decide +kernel
theorem dX_pieces_26 : decode cX_pieces 26 = .ok (.iload_n 2, 1) := by decide +kernel
theorem dX_pieces_27 : decode cX_pieces 27 = .ok (.invokestatic 58, 3) := by decide +kernel
theorem dX_pieces_30 : decode cX_pieces 30 = .ok (.iaload, 1) := by decide +kernel
theorem dX_pieces_31 : decode cX_pieces 31 = .ok (.goto 4, 3) := by decide +kernel
theorem dX_pieces_34 : decode cX_pieces 34 = .ok (.iconst (-1), 1) := by decide +kernel
theorem dX_pieces_35 : decode cX_pieces 35 = .ok (.ireturn, 1) := by decide +kernel
theorem dX_holder_0 : decode cX_holder 0 = .ok (.aload_n 0, 1) := by decide +kernel
theorem dX_holder_1 : decode cX_holder 1 = .ok (.getfield 41, 3) := by decide +kernel
theorem dX_holder_4 : decode cX_holder 4 = .ok (.getfield 48, 3) := by decide +kernel
theorem dX_holder_7 : decode cX_holder 7 = .ok (.iload_n 1, 1) := by decide +kernel
theorem dX_holder_8 : decode cX_holder 8 = .ok (.iload_n 2, 1) := by decide +kernel
theorem dX_holder_9 : decode cX_holder 9 = .ok (.iload_n 3, 1) := by decide +kernel
theorem dX_holder_10 : decode cX_holder 10 = .ok (.invokevirtual 86, 3) := by decide +kernel
theorem dX_holder_13 : decode cX_holder 13 = .ok (.ifCond .ne 5, 3) := by decide +kernel
theorem dX_holder_16 : decode cX_holder 16 = .ok (.iconst (-1), 1) := by decide +kernel
theorem dX_holder_17 : decode cX_holder 17 = .ok (.ireturn, 1) := by decide +kernel
theorem dX_holder_18 : decode cX_holder 18 = .ok (.aload_n 0, 1) := by decide +kernel
theorem dX_holder_19 : decode cX_holder 19 = .ok (.getfield 41, 3) := by decide +kernel
theorem dX_holder_22 : decode cX_holder 22 = .ok (.getfield 48, 3) := by decide +kernel
theorem dX_holder_25 : decode cX_holder 25 = .ok (.getfield 190, 3) := by decide +kernel
theorem dX_holder_28 : decode cX_holder 28 = .ok (.iload_n 1, 1) := by decide +kernel
theorem dX_holder_29 : decode cX_holder 29 = .ok (.iload_n 2, 1) := by decide +kernel
theorem dX_holder_30 : decode cX_holder 30 = .ok (.invokestatic 58, 3) := by decide +kernel
theorem dX_holder_33 : decode cX_holder 33 = .ok (.iload_n 3, 1) := by decide +kernel
theorem dX_holder_34 : decode cX_holder 34 = .ok (.invokestatic 63, 3) := by decide +kernel
theorem dX_holder_37 : decode cX_holder 37 = .ok (.iaload, 1) := by decide +kernel
theorem dX_holder_38 : decode cX_holder 38 = .ok (.ireturn, 1) := by decide +kernel
theorem dX_signals_0 : decode cX_signals 0 = .ok (.aload_n 0, 1) := by decide +kernel
theorem dX_signals_1 : decode cX_signals 1 = .ok (.getfield 41, 3) := by decide +kernel
theorem dX_signals_4 : decode cX_signals 4 = .ok (.getfield 48, 3) := by decide +kernel
theorem dX_signals_7 : decode cX_signals 7 = .ok (.iload_n 1, 1) := by decide +kernel
theorem dX_signals_8 : decode cX_signals 8 = .ok (.iload_n 2, 1) := by decide +kernel
theorem dX_signals_9 : decode cX_signals 9 = .ok (.iload_n 3, 1) := by decide +kernel
theorem dX_signals_10 : decode cX_signals 10 = .ok (.invokevirtual 86, 3) := by decide +kernel
theorem dX_signals_13 : decode cX_signals 13 = .ok (.ifCond .ne 5, 3) := by decide +kernel
theorem dX_signals_16 : decode cX_signals 16 = .ok (.iconst (-1), 1) := by decide +kernel
theorem dX_signals_17 : decode cX_signals 17 = .ok (.ireturn, 1) := by decide +kernel
theorem dX_signals_18 : decode cX_signals 18 = .ok (.aload_n 0, 1) := by decide +kernel
theorem dX_signals_19 : decode cX_signals 19 = .ok (.getfield 41, 3) := by decide +kernel
theorem dX_signals_22 : decode cX_signals 22 = .ok (.getfield 48, 3) := by decide +kernel
theorem dX_signals_25 : decode cX_signals 25 = .ok (.getfield 80, 3) := by decide +kernel
theorem dX_signals_28 : decode cX_signals 28 = .ok (.iload_n 1, 1) := by decide +kernel
theorem dX_signals_29 : decode cX_signals 29 = .ok (.iload_n 2, 1) := by decide +kernel
theorem dX_signals_30 : decode cX_signals 30 = .ok (.invokestatic 58, 3) := by decide +kernel
theorem dX_signals_33 : decode cX_signals 33 = .ok (.iload_n 3, 1) := by decide +kernel
theorem dX_signals_34 : decode cX_signals 34 = .ok (.invokestatic 63, 3) := by decide +kernel
theorem dX_signals_37 : decode cX_signals 37 = .ok (.iaload, 1) := by decide +kernel
theorem dX_signals_38 : decode cX_signals 38 = .ok (.istore 4, 2) := by decide +kernel
theorem dX_signals_40 : decode cX_signals 40 = .ok (.iload 4, 2) := by decide +kernel
theorem dX_signals_42 : decode cX_signals 42 = .ok (.getstatic 184, 3) := by decide +kernel
theorem dX_signals_45 : decode cX_signals 45 = .ok (.iload_n 3, 1) := by decide +kernel
theorem dX_signals_46 : decode cX_signals 46 = .ok (.iaload, 1) := by decide +kernel
theorem dX_signals_47 : decode cX_signals 47 = .ok (.ishr, 1) := by decide +kernel
theorem dX_signals_48 : decode cX_signals 48 = .ok (.iconst 1, 1) := by decide +kernel
theorem dX_signals_49 : decode cX_signals 49 = .ok (.iand, 1) := by decide +kernel
theorem dX_signals_50 : decode cX_signals 50 = .ok (.istore 5, 2) := by decide +kernel
theorem dX_signals_52 : decode cX_signals 52 = .ok (.iload 4, 2) := by decide +kernel
theorem dX_signals_54 : decode cX_signals 54 = .ok (.getstatic 187, 3) := by decide +kernel
theorem dX_signals_57 : decode cX_signals 57 = .ok (.iload_n 3, 1) := by decide +kernel
theorem dX_signals_58 : decode cX_signals 58 = .ok (.iaload, 1) := by decide +kernel
theorem dX_signals_59 : decode cX_signals 59 = .ok (.ishr, 1) := by decide +kernel
theorem dX_signals_60 : decode cX_signals 60 = .ok (.iconst 1, 1) := by decide +kernel
theorem dX_signals_61 : decode cX_signals 61 = .ok (.iand, 1) := by decide +kernel
theorem dX_signals_62 : decode cX_signals 62 = .ok (.istore 6, 2) := by decide +kernel
theorem dX_signals_64 : decode cX_signals 64 = .ok (.iload 5, 2) := by decide +kernel
theorem dX_signals_66 : decode cX_signals 66 = .ok (.iconst 2, 1) := by decide +kernel
theorem dX_signals_67 : decode cX_signals 67 = .ok (.iload 6, 2) := by decide +kernel
theorem dX_signals_69 : decode cX_signals 69 = .ok (.imul, 1) := by decide +kernel
theorem dX_signals_70 : decode cX_signals 70 = .ok (.iadd, 1) := by decide +kernel
theorem dX_signals_71 : decode cX_signals 71 = .ok (.ireturn, 1) := by decide +kernel
theorem dX_held_0 : decode cX_held 0 = .ok (.aload_n 0, 1) := by decide +kernel
theorem dX_held_1 : decode cX_held 1 = .ok (.getfield 41, 3) := by decide +kernel
theorem dX_held_4 : decode cX_held 4 = .ok (.iload_n 1, 1) := by decide +kernel
theorem dX_held_5 : decode cX_held 5 = .ok (.invokevirtual 143, 3) := by decide +kernel
theorem dX_held_8 : decode cX_held 8 = .ok (.ifCond .eq 23, 3) := by decide +kernel
theorem dX_held_11 : decode cX_held 11 = .ok (.iload_n 2, 1) := by decide +kernel
theorem dX_held_12 : decode cX_held 12 = .ok (.ifCond .lt 19, 3) := by decide +kernel
theorem dX_held_15 : decode cX_held 15 = .ok (.iload_n 2, 1) := by decide +kernel
theorem dX_held_16 : decode cX_held 16 = .ok (.aload_n 0, 1) := by decide +kernel
theorem dX_held_17 : decode cX_held 17 = .ok (.getfield 41, 3) := by decide +kernel
theorem dX_held_20 : decode cX_held 20 = .ok (.getfield 129, 3) := by decide +kernel
theorem dX_held_23 : decode cX_held 23 = .ok (.iload_n 1, 1) := by decide +kernel
theorem dX_held_24 : decode cX_held 24 = .ok (.aaload, 1) := by decide +kernel
theorem dX_held_25 : decode cX_held 25 = .ok (.getfield 165, 3) := by decide +kernel
theorem dX_held_28 : decode cX_held 28 = .ok (.if_icmp .lt 5, 3) := by decide +kernel
theorem dX_held_31 : decode cX_held 31 = .ok (.iconst (-1), 1) := by decide +kernel
theorem dX_held_32 : decode cX_held 32 = .ok (.ireturn, 1) := by decide +kernel
theorem dX_held_33 : decode cX_held 33 = .ok (.aload_n 0, 1) := by decide +kernel
theorem dX_held_34 : decode cX_held 34 = .ok (.getfield 41, 3) := by decide +kernel
theorem dX_held_37 : decode cX_held 37 = .ok (.getfield 129, 3) := by decide +kernel
theorem dX_held_40 : decode cX_held 40 = .ok (.iload_n 1, 1) := by decide +kernel
theorem dX_held_41 : decode cX_held 41 = .ok (.aaload, 1) := by decide +kernel
theorem dX_held_42 : decode cX_held 42 = .ok (.getfield 166, 3) := by decide +kernel
theorem dX_held_45 : decode cX_held 45 = .ok (.iload_n 2, 1) := by decide +kernel
theorem dX_held_46 : decode cX_held 46 = .ok (.iaload, 1) := by decide +kernel
theorem dX_held_47 : decode cX_held 47 = .ok (.ireturn, 1) := by decide +kernel
theorem dX_motion_0 : decode cX_motion 0 = .ok (.aload_n 0, 1) := by decide +kernel
theorem dX_motion_1 : decode cX_motion 1 = .ok (.getfield 41, 3) := by decide +kernel
theorem dX_motion_4 : decode cX_motion 4 = .ok (.iload_n 1, 1) := by decide +kernel
theorem dX_motion_5 : decode cX_motion 5 = .ok (.invokevirtual 143, 3) := by decide +kernel
theorem dX_motion_8 : decode cX_motion 8 = .ok (.ifCond .ne 5, 3) := by decide +kernel
theorem dX_motion_11 : decode cX_motion 11 = .ok (.iconst (-1), 1) := by decide +kernel
theorem dX_motion_12 : decode cX_motion 12 = .ok (.ireturn, 1) := by decide +kernel
theorem dX_motion_13 : decode cX_motion 13 = .ok (.aload_n 0, 1) := by decide +kernel
theorem dX_motion_14 : decode cX_motion 14 = .ok (.getfield 41, 3) := by decide +kernel
theorem dX_motion_17 : decode cX_motion 17 = .ok (.getfield 129, 3) := by decide +kernel
theorem dX_motion_20 : decode cX_motion 20 = .ok (.iload_n 1, 1) := by decide +kernel
theorem dX_motion_21 : decode cX_motion 21 = .ok (.aaload, 1) := by decide +kernel
theorem dX_motion_22 : decode cX_motion 22 = .ok (.astore_n 2, 1) := by decide +kernel
theorem dX_motion_23 : decode cX_motion 23 = .ok (.aload_n 2, 1) := by decide +kernel
theorem dX_motion_24 : decode cX_motion 24 = .ok (.invokevirtual 161, 3) := by decide +kernel
theorem dX_motion_27 : decode cX_motion 27 = .ok (.sipush 1000, 3) := by decide +kernel
theorem dX_motion_30 : decode cX_motion 30 = .ok (.aload_n 2, 1) := by decide +kernel
theorem dX_motion_31 : decode cX_motion 31 = .ok (.getfield 155, 3) := by decide +kernel
theorem dX_motion_34 : decode cX_motion 34 = .ok (.imul, 1) := by decide +kernel
theorem dX_motion_35 : decode cX_motion 35 = .ok (.iadd, 1) := by decide +kernel
theorem dX_motion_36 : decode cX_motion 36 = .ok (.sipush 10000, 3) := by decide +kernel
theorem dX_motion_39 : decode cX_motion 39 = .ok (.aload_n 2, 1) := by decide +kernel
theorem dX_motion_40 : decode cX_motion 40 = .ok (.getfield 158, 3) := by decide +kernel
theorem dX_motion_43 : decode cX_motion 43 = .ok (.imul, 1) := by decide +kernel
theorem dX_motion_44 : decode cX_motion 44 = .ok (.iadd, 1) := by decide +kernel
theorem dX_motion_45 : decode cX_motion 45 = .ok (.ireturn, 1) := by decide +kernel
theorem dX_load_0 : decode cX_load 0 = .ok (.aload_n 0, 1) := by decide +kernel
theorem dX_load_1 : decode cX_load 1 = .ok (.getfield 41, 3) := by decide +kernel
theorem dX_load_4 : decode cX_load 4 = .ok (.iload_n 1, 1) := by decide +kernel
theorem dX_load_5 : decode cX_load 5 = .ok (.invokevirtual 143, 3) := by decide +kernel
theorem dX_load_8 : decode cX_load 8 = .ok (.ifCond .eq 18, 3) := by decide +kernel
theorem dX_load_11 : decode cX_load 11 = .ok (.aload_n 0, 1) := by decide +kernel
theorem dX_load_12 : decode cX_load 12 = .ok (.getfield 41, 3) := by decide +kernel
theorem dX_load_15 : decode cX_load 15 = .ok (.getfield 129, 3) := by decide +kernel
theorem dX_load_18 : decode cX_load 18 = .ok (.iload_n 1, 1) := by decide +kernel
theorem dX_load_19 : decode cX_load 19 = .ok (.aaload, 1) := by decide +kernel
theorem dX_load_20 : decode cX_load 20 = .ok (.getfield 203, 3) := by decide +kernel
theorem dX_load_23 : decode cX_load 23 = .ok (.goto 4, 3) := by decide +kernel
theorem dX_load_26 : decode cX_load 26 = .ok (.iconst (-1), 1) := by decide +kernel
theorem dX_load_27 : decode cX_load 27 = .ok (.ireturn, 1) := by decide +kernel
theorem dX_target_0 : decode cX_target 0 = .ok (.aload_n 0, 1) := by decide +kernel
theorem dX_target_1 : decode cX_target 1 = .ok (.getfield 41, 3) := by decide +kernel
theorem dX_target_4 : decode cX_target 4 = .ok (.iload_n 1, 1) := by decide +kernel
theorem dX_target_5 : decode cX_target 5 = .ok (.invokevirtual 143, 3) := by decide +kernel
theorem dX_target_8 : decode cX_target 8 = .ok (.ifCond .eq 18, 3) := by decide +kernel
theorem dX_target_11 : decode cX_target 11 = .ok (.aload_n 0, 1) := by decide +kernel
theorem dX_target_12 : decode cX_target 12 = .ok (.getfield 41, 3) := by decide +kernel
theorem dX_target_15 : decode cX_target 15 = .ok (.getfield 129, 3) := by decide +kernel
theorem dX_target_18 : decode cX_target 18 = .ok (.iload_n 1, 1) := by decide +kernel
theorem dX_target_19 : decode cX_target 19 = .ok (.aaload, 1) := by decide +kernel
theorem dX_target_20 : decode cX_target 20 = .ok (.invokevirtual 206, 3) := by decide +kernel
theorem dX_target_23 : decode cX_target 23 = .ok (.goto 4, 3) := by decide +kernel
theorem dX_target_26 : decode cX_target 26 = .ok (.iconst (-1), 1) := by decide +kernel
theorem dX_target_27 : decode cX_target 27 = .ok (.ireturn, 1) := by decide +kernel
theorem dX_waiting_0 : decode cX_waiting 0 = .ok (.aload_n 0, 1) := by decide +kernel
theorem dX_waiting_1 : decode cX_waiting 1 = .ok (.getfield 41, 3) := by decide +kernel
theorem dX_waiting_4 : decode cX_waiting 4 = .ok (.iload_n 1, 1) := by decide +kernel
theorem dX_waiting_5 : decode cX_waiting 5 = .ok (.invokevirtual 146, 3) := by decide +kernel
theorem dX_waiting_8 : decode cX_waiting 8 = .ok (.ifCond .eq 18, 3) := by decide +kernel
theorem dX_waiting_11 : decode cX_waiting 11 = .ok (.aload_n 0, 1) := by decide +kernel
theorem dX_waiting_12 : decode cX_waiting 12 = .ok (.getfield 41, 3) := by decide +kernel
theorem dX_waiting_15 : decode cX_waiting 15 = .ok (.getfield 106, 3) := by decide +kernel
theorem dX_waiting_18 : decode cX_waiting 18 = .ok (.iload_n 1, 1) := by decide +kernel
theorem dX_waiting_19 : decode cX_waiting 19 = .ok (.aaload, 1) := by decide +kernel
theorem dX_waiting_20 : decode cX_waiting 20 = .ok (.getfield 209, 3) := by decide +kernel
theorem dX_waiting_23 : decode cX_waiting 23 = .ok (.goto 4, 3) := by decide +kernel
theorem dX_waiting_26 : decode cX_waiting 26 = .ok (.iconst (-1), 1) := by decide +kernel
theorem dX_waiting_27 : decode cX_waiting 27 = .ok (.ireturn, 1) := by decide +kernel
theorem dX_produced_0 : decode cX_produced 0 = .ok (.aload_n 0, 1) := by decide +kernel
theorem dX_produced_1 : decode cX_produced 1 = .ok (.getfield 41, 3) := by decide +kernel
theorem dX_produced_4 : decode cX_produced 4 = .ok (.getfield 210, 3) := by decide +kernel
theorem dX_produced_7 : decode cX_produced 7 = .ok (.ireturn, 1) := by decide +kernel
theorem dX_delivered_0 : decode cX_delivered 0 = .ok (.aload_n 0, 1) := by decide +kernel
theorem dX_delivered_1 : decode cX_delivered 1 = .ok (.getfield 41, 3) := by decide +kernel
theorem dX_delivered_4 : decode cX_delivered 4 = .ok (.getfield 213, 3) := by decide +kernel
theorem dX_delivered_7 : decode cX_delivered 7 = .ok (.ireturn, 1) := by decide +kernel
theorem dX_clock_0 : decode cX_clock 0 = .ok (.aload_n 0, 1) := by decide +kernel
theorem dX_clock_1 : decode cX_clock 1 = .ok (.getfield 41, 3) := by decide +kernel
theorem dX_clock_4 : decode cX_clock 4 = .ok (.getfield 181, 3) := by decide +kernel
theorem dX_clock_7 : decode cX_clock 7 = .ok (.ireturn, 1) := by decide +kernel
theorem dX_track_0 : decode cX_track 0 = .ok (.aload_n 0, 1) := by decide +kernel
theorem dX_track_1 : decode cX_track 1 = .ok (.getfield 41, 3) := by decide +kernel
theorem dX_track_4 : decode cX_track 4 = .ok (.getfield 48, 3) := by decide +kernel
theorem dX_track_7 : decode cX_track 7 = .ok (.iload_n 1, 1) := by decide +kernel
theorem dX_track_8 : decode cX_track 8 = .ok (.iload_n 2, 1) := by decide +kernel
theorem dX_track_9 : decode cX_track 9 = .ok (.invokevirtual 52, 3) := by decide +kernel
theorem dX_track_12 : decode cX_track 12 = .ok (.ifCond .eq 13, 3) := by decide +kernel
theorem dX_track_15 : decode cX_track 15 = .ok (.iload_n 3, 1) := by decide +kernel
theorem dX_track_16 : decode cX_track 16 = .ok (.ifCond .lt 9, 3) := by decide +kernel
theorem dX_track_19 : decode cX_track 19 = .ok (.iload_n 3, 1) := by decide +kernel
theorem dX_track_20 : decode cX_track 20 = .ok (.bipush 6, 2) := by decide +kernel
theorem dX_track_22 : decode cX_track 22 = .ok (.if_icmp .lt 5, 3) := by decide +kernel
theorem dX_track_25 : decode cX_track 25 = .ok (.iconst 0, 1) := by decide +kernel
theorem dX_track_26 : decode cX_track 26 = .ok (.ireturn, 1) := by decide +kernel
theorem dX_track_27 : decode cX_track 27 = .ok (.iload_n 1, 1) := by decide +kernel
theorem dX_track_28 : decode cX_track 28 = .ok (.iload_n 2, 1) := by decide +kernel
theorem dX_track_29 : decode cX_track 29 = .ok (.invokestatic 58, 3) := by decide +kernel
theorem dX_track_32 : decode cX_track 32 = .ok (.istore 5, 2) := by decide +kernel
theorem dX_track_34 : decode cX_track 34 = .ok (.iload 5, 2) := by decide +kernel
theorem dX_track_36 : decode cX_track 36 = .ok (.iload_n 3, 1) := by decide +kernel
theorem dX_track_37 : decode cX_track 37 = .ok (.invokestatic 63, 3) := by decide +kernel
theorem dX_track_40 : decode cX_track 40 = .ok (.istore 6, 2) := by decide +kernel
theorem dX_track_42 : decode cX_track 42 = .ok (.aload_n 0, 1) := by decide +kernel
theorem dX_track_43 : decode cX_track 43 = .ok (.getfield 41, 3) := by decide +kernel
theorem dX_track_46 : decode cX_track 46 = .ok (.getfield 48, 3) := by decide +kernel
theorem dX_track_49 : decode cX_track 49 = .ok (.iload 5, 2) := by decide +kernel
theorem dX_track_51 : decode cX_track 51 = .ok (.invokevirtual 66, 3) := by decide +kernel
theorem dX_track_54 : decode cX_track 54 = .ok (.ifCond .ne 21, 3) := by decide +kernel
theorem dX_track_57 : decode cX_track 57 = .ok (.aload_n 0, 1) := by decide +kernel
theorem dX_track_58 : decode cX_track 58 = .ok (.getfield 41, 3) := by decide +kernel
theorem dX_track_61 : decode cX_track 61 = .ok (.getfield 48, 3) := by decide +kernel
theorem dX_track_64 : decode cX_track 64 = .ok (.iload 5, 2) := by decide +kernel
theorem dX_track_66 : decode cX_track 66 = .ok (.iload_n 3, 1) := by decide +kernel
theorem dX_track_67 : decode cX_track 67 = .ok (.invokevirtual 70, 3) := by decide +kernel
theorem dX_track_70 : decode cX_track 70 = .ok (.iload 4, 2) := by decide +kernel
theorem dX_track_72 : decode cX_track 72 = .ok (.if_icmp .ne 5, 3) := by decide +kernel
theorem dX_track_75 : decode cX_track 75 = .ok (.iconst 0, 1) := by decide +kernel
theorem dX_track_76 : decode cX_track 76 = .ok (.ireturn, 1) := by decide +kernel
theorem dX_track_77 : decode cX_track 77 = .ok (.iload 4, 2) := by decide +kernel
theorem dX_track_79 : decode cX_track 79 = .ok (.ifCond .ne 18, 3) := by decide +kernel
theorem dX_track_82 : decode cX_track 82 = .ok (.aload_n 0, 1) := by decide +kernel
theorem dX_track_83 : decode cX_track 83 = .ok (.getfield 41, 3) := by decide +kernel
theorem dX_track_86 : decode cX_track 86 = .ok (.iload 6, 2) := by decide +kernel
theorem dX_track_88 : decode cX_track 88 = .ok (.invokevirtual 73, 3) := by decide +kernel
theorem dX_track_91 : decode cX_track 91 = .ok (.iconst (-1), 1) := by decide +kernel
theorem dX_track_92 : decode cX_track 92 = .ok (.if_icmp .eq 5, 3) := by decide +kernel
theorem dX_track_95 : decode cX_track 95 = .ok (.iconst 0, 1) := by decide +kernel
theorem dX_track_96 : decode cX_track 96 = .ok (.ireturn, 1) := by decide +kernel
theorem dX_track_97 : decode cX_track 97 = .ok (.aload_n 0, 1) := by decide +kernel
theorem dX_track_98 : decode cX_track 98 = .ok (.getfield 41, 3) := by decide +kernel
theorem dX_track_101 : decode cX_track 101 = .ok (.getfield 48, 3) := by decide +kernel
theorem dX_track_104 : decode cX_track 104 = .ok (.getfield 77, 3) := by decide +kernel
theorem dX_track_107 : decode cX_track 107 = .ok (.iload 5, 2) := by decide +kernel
theorem dX_track_109 : decode cX_track 109 = .ok (.dup2, 1) := by decide +kernel
theorem dX_track_110 : decode cX_track 110 = .ok (.iaload, 1) := by decide +kernel
theorem dX_track_111 : decode cX_track 111 = .ok (.iconst 1, 1) := by decide +kernel
theorem dX_track_112 : decode cX_track 112 = .ok (.iload_n 3, 1) := by decide +kernel
theorem dX_track_113 : decode cX_track 113 = .ok (.ishl, 1) := by decide +kernel
theorem dX_track_114 : decode cX_track 114 = .ok (.ixor, 1) := by decide +kernel
theorem dX_track_115 : decode cX_track 115 = .ok (.iastore, 1) := by decide +kernel
theorem dX_track_116 : decode cX_track 116 = .ok (.aload_n 0, 1) := by decide +kernel
theorem dX_track_117 : decode cX_track 117 = .ok (.getfield 41, 3) := by decide +kernel
theorem dX_track_120 : decode cX_track 120 = .ok (.getfield 48, 3) := by decide +kernel
theorem dX_track_123 : decode cX_track 123 = .ok (.getfield 80, 3) := by decide +kernel
theorem dX_track_126 : decode cX_track 126 = .ok (.iload 6, 2) := by decide +kernel
theorem dX_track_128 : decode cX_track 128 = .ok (.iconst 0, 1) := by decide +kernel
theorem dX_track_129 : decode cX_track 129 = .ok (.iastore, 1) := by decide +kernel
theorem dX_track_130 : decode cX_track 130 = .ok (.aload_n 0, 1) := by decide +kernel
theorem dX_track_131 : decode cX_track 131 = .ok (.getfield 12, 3) := by decide +kernel
theorem dX_track_134 : decode cX_track 134 = .ok (.invokevirtual 83, 3) := by decide +kernel
theorem dX_track_137 : decode cX_track 137 = .ok (.iconst 1, 1) := by decide +kernel
theorem dX_track_138 : decode cX_track 138 = .ok (.ireturn, 1) := by decide +kernel
theorem dX_signal_0 : decode cX_signal 0 = .ok (.aload_n 0, 1) := by decide +kernel
theorem dX_signal_1 : decode cX_signal 1 = .ok (.getfield 41, 3) := by decide +kernel
theorem dX_signal_4 : decode cX_signal 4 = .ok (.getfield 48, 3) := by decide +kernel
theorem dX_signal_7 : decode cX_signal 7 = .ok (.iload_n 1, 1) := by decide +kernel
theorem dX_signal_8 : decode cX_signal 8 = .ok (.iload_n 2, 1) := by decide +kernel
theorem dX_signal_9 : decode cX_signal 9 = .ok (.iload_n 3, 1) := by decide +kernel
theorem dX_signal_10 : decode cX_signal 10 = .ok (.invokevirtual 86, 3) := by decide +kernel
theorem dX_signal_13 : decode cX_signal 13 = .ok (.ifCond .eq 12, 3) := by decide +kernel
theorem dX_signal_16 : decode cX_signal 16 = .ok (.iload_n 3, 1) := by decide +kernel
theorem dX_signal_17 : decode cX_signal 17 = .ok (.iload 4, 2) := by decide +kernel
theorem dX_signal_19 : decode cX_signal 19 = .ok (.invokestatic 90, 3) := by decide +kernel
theorem dX_signal_22 : decode cX_signal 22 = .ok (.ifCond .ne 5, 3) := by decide +kernel
theorem dX_signal_25 : decode cX_signal 25 = .ok (.iconst 0, 1) := by decide +kernel
theorem dX_signal_26 : decode cX_signal 26 = .ok (.ireturn, 1) := by decide +kernel
theorem dX_signal_27 : decode cX_signal 27 = .ok (.iload_n 1, 1) := by decide +kernel
theorem dX_signal_28 : decode cX_signal 28 = .ok (.iload_n 2, 1) := by decide +kernel
theorem dX_signal_29 : decode cX_signal 29 = .ok (.invokestatic 58, 3) := by decide +kernel
theorem dX_signal_32 : decode cX_signal 32 = .ok (.istore 6, 2) := by decide +kernel
theorem dX_signal_34 : decode cX_signal 34 = .ok (.iload 6, 2) := by decide +kernel
theorem dX_signal_36 : decode cX_signal 36 = .ok (.iload_n 3, 1) := by decide +kernel
theorem dX_signal_37 : decode cX_signal 37 = .ok (.invokestatic 63, 3) := by decide +kernel
theorem dX_signal_40 : decode cX_signal 40 = .ok (.istore 7, 2) := by decide +kernel
theorem dX_signal_42 : decode cX_signal 42 = .ok (.aload_n 0, 1) := by decide +kernel
theorem dX_signal_43 : decode cX_signal 43 = .ok (.getfield 41, 3) := by decide +kernel
theorem dX_signal_46 : decode cX_signal 46 = .ok (.getfield 48, 3) := by decide +kernel
theorem dX_signal_49 : decode cX_signal 49 = .ok (.iload 6, 2) := by decide +kernel
theorem dX_signal_51 : decode cX_signal 51 = .ok (.invokevirtual 66, 3) := by decide +kernel
theorem dX_signal_54 : decode cX_signal 54 = .ok (.ifCond .ne 16, 3) := by decide +kernel
theorem dX_signal_57 : decode cX_signal 57 = .ok (.aload_n 0, 1) := by decide +kernel
theorem dX_signal_58 : decode cX_signal 58 = .ok (.getfield 41, 3) := by decide +kernel
theorem dX_signal_61 : decode cX_signal 61 = .ok (.iload 7, 2) := by decide +kernel
theorem dX_signal_63 : decode cX_signal 63 = .ok (.invokevirtual 73, 3) := by decide +kernel
theorem dX_signal_66 : decode cX_signal 66 = .ok (.iconst (-1), 1) := by decide +kernel
theorem dX_signal_67 : decode cX_signal 67 = .ok (.if_icmp .eq 5, 3) := by decide +kernel
theorem dX_signal_70 : decode cX_signal 70 = .ok (.iconst 0, 1) := by decide +kernel
theorem dX_signal_71 : decode cX_signal 71 = .ok (.ireturn, 1) := by decide +kernel
theorem dX_signal_72 : decode cX_signal 72 = .ok (.aload_n 0, 1) := by decide +kernel
theorem dX_signal_73 : decode cX_signal 73 = .ok (.getfield 41, 3) := by decide +kernel
theorem dX_signal_76 : decode cX_signal 76 = .ok (.getfield 48, 3) := by decide +kernel
theorem dX_signal_79 : decode cX_signal 79 = .ok (.iload 7, 2) := by decide +kernel
theorem dX_signal_81 : decode cX_signal 81 = .ok (.iload 4, 2) := by decide +kernel
theorem dX_signal_83 : decode cX_signal 83 = .ok (.invokestatic 93, 3) := by decide +kernel
theorem dX_signal_86 : decode cX_signal 86 = .ok (.invokevirtual 96, 3) := by decide +kernel
theorem dX_signal_89 : decode cX_signal 89 = .ok (.iload 5, 2) := by decide +kernel
theorem dX_signal_91 : decode cX_signal 91 = .ok (.if_icmp .ne 5, 3) := by decide +kernel
theorem dX_signal_94 : decode cX_signal 94 = .ok (.iconst 0, 1) := by decide +kernel
theorem dX_signal_95 : decode cX_signal 95 = .ok (.ireturn, 1) := by decide +kernel
theorem dX_signal_96 : decode cX_signal 96 = .ok (.aload_n 0, 1) := by decide +kernel
theorem dX_signal_97 : decode cX_signal 97 = .ok (.getfield 41, 3) := by decide +kernel
theorem dX_signal_100 : decode cX_signal 100 = .ok (.getfield 48, 3) := by decide +kernel
theorem dX_signal_103 : decode cX_signal 103 = .ok (.getfield 80, 3) := by decide +kernel
theorem dX_signal_106 : decode cX_signal 106 = .ok (.iload 7, 2) := by decide +kernel
theorem dX_signal_108 : decode cX_signal 108 = .ok (.dup2, 1) := by decide +kernel
theorem dX_signal_109 : decode cX_signal 109 = .ok (.iaload, 1) := by decide +kernel
theorem dX_signal_110 : decode cX_signal 110 = .ok (.iconst 1, 1) := by decide +kernel
theorem dX_signal_111 : decode cX_signal 111 = .ok (.iload 4, 2) := by decide +kernel
theorem dX_signal_113 : decode cX_signal 113 = .ok (.ishl, 1) := by decide +kernel
theorem dX_signal_114 : decode cX_signal 114 = .ok (.ixor, 1) := by decide +kernel
theorem dX_signal_115 : decode cX_signal 115 = .ok (.iastore, 1) := by decide +kernel
theorem dX_signal_116 : decode cX_signal 116 = .ok (.aload_n 0, 1) := by decide +kernel
theorem dX_signal_117 : decode cX_signal 117 = .ok (.getfield 12, 3) := by decide +kernel
theorem dX_signal_120 : decode cX_signal 120 = .ok (.invokevirtual 83, 3) := by decide +kernel
theorem dX_signal_123 : decode cX_signal 123 = .ok (.iconst 1, 1) := by decide +kernel
theorem dX_signal_124 : decode cX_signal 124 = .ok (.ireturn, 1) := by decide +kernel
theorem dX_station_0 : decode cX_station 0 = .ok (.iload 4, 2) := by decide +kernel
theorem dX_station_2 : decode cX_station 2 = .ok (.ifCond .lt 31, 3) := by decide +kernel
theorem dX_station_5 : decode cX_station 5 = .ok (.iload 4, 2) := by decide +kernel
theorem dX_station_7 : decode cX_station 7 = .ok (.bipush 50, 2) := by decide +kernel
theorem dX_station_9 : decode cX_station 9 = .ok (.if_icmp .gt 24, 3) := by decide +kernel
theorem dX_station_12 : decode cX_station 12 = .ok (.iload_n 3, 1) := by decide +kernel
theorem dX_station_13 : decode cX_station 13 = .ok (.iconst 1, 1) := by decide +kernel
theorem dX_station_14 : decode cX_station 14 = .ok (.if_icmp .gt 19, 3) := by decide +kernel
theorem dX_station_17 : decode cX_station 17 = .ok (.aload_n 0, 1) := by decide +kernel
theorem dX_station_18 : decode cX_station 18 = .ok (.getfield 41, 3) := by decide +kernel
theorem dX_station_21 : decode cX_station 21 = .ok (.getfield 48, 3) := by decide +kernel
theorem dX_station_24 : decode cX_station 24 = .ok (.iload_n 1, 1) := by decide +kernel
theorem dX_station_25 : decode cX_station 25 = .ok (.iload_n 2, 1) := by decide +kernel
theorem dX_station_26 : decode cX_station 26 = .ok (.iload_n 3, 1) := by decide +kernel
theorem dX_station_27 : decode cX_station 27 = .ok (.invokevirtual 86, 3) := by decide +kernel
theorem dX_station_30 : decode cX_station 30 = .ok (.ifCond .ne 5, 3) := by decide +kernel
theorem dX_station_33 : decode cX_station 33 = .ok (.iconst (-1), 1) := by decide +kernel
theorem dX_station_34 : decode cX_station 34 = .ok (.ireturn, 1) := by decide +kernel
theorem dX_station_35 : decode cX_station 35 = .ok (.iload_n 1, 1) := by decide +kernel
theorem dX_station_36 : decode cX_station 36 = .ok (.iload_n 2, 1) := by decide +kernel
theorem dX_station_37 : decode cX_station 37 = .ok (.invokestatic 58, 3) := by decide +kernel
theorem dX_station_40 : decode cX_station 40 = .ok (.istore 5, 2) := by decide +kernel
theorem dX_station_42 : decode cX_station 42 = .ok (.iload 5, 2) := by decide +kernel
theorem dX_station_44 : decode cX_station 44 = .ok (.iload_n 3, 1) := by decide +kernel
theorem dX_station_45 : decode cX_station 45 = .ok (.invokestatic 63, 3) := by decide +kernel
theorem dX_station_48 : decode cX_station 48 = .ok (.istore 6, 2) := by decide +kernel
theorem dX_station_50 : decode cX_station 50 = .ok (.aload_n 0, 1) := by decide +kernel
theorem dX_station_51 : decode cX_station 51 = .ok (.getfield 41, 3) := by decide +kernel
theorem dX_station_54 : decode cX_station 54 = .ok (.getfield 48, 3) := by decide +kernel
theorem dX_station_57 : decode cX_station 57 = .ok (.getfield 80, 3) := by decide +kernel
theorem dX_station_60 : decode cX_station 60 = .ok (.iload 6, 2) := by decide +kernel
theorem dX_station_62 : decode cX_station 62 = .ok (.iaload, 1) := by decide +kernel
theorem dX_station_63 : decode cX_station 63 = .ok (.ifCond .ne 30, 3) := by decide +kernel
theorem dX_station_66 : decode cX_station 66 = .ok (.aload_n 0, 1) := by decide +kernel
theorem dX_station_67 : decode cX_station 67 = .ok (.getfield 41, 3) := by decide +kernel
theorem dX_station_70 : decode cX_station 70 = .ok (.getfield 48, 3) := by decide +kernel
theorem dX_station_73 : decode cX_station 73 = .ok (.iload 5, 2) := by decide +kernel
theorem dX_station_75 : decode cX_station 75 = .ok (.invokevirtual 66, 3) := by decide +kernel
theorem dX_station_78 : decode cX_station 78 = .ok (.ifCond .ne 15, 3) := by decide +kernel
theorem dX_station_81 : decode cX_station 81 = .ok (.aload_n 0, 1) := by decide +kernel
theorem dX_station_82 : decode cX_station 82 = .ok (.getfield 41, 3) := by decide +kernel
theorem dX_station_85 : decode cX_station 85 = .ok (.iload 5, 2) := by decide +kernel
theorem dX_station_87 : decode cX_station 87 = .ok (.invokevirtual 99, 3) := by decide +kernel
theorem dX_station_90 : decode cX_station 90 = .ok (.ifCond .eq 5, 3) := by decide +kernel
theorem dX_station_93 : decode cX_station 93 = .ok (.iconst (-1), 1) := by decide +kernel
theorem dX_station_94 : decode cX_station 94 = .ok (.ireturn, 1) := by decide +kernel
theorem dX_station_95 : decode cX_station 95 = .ok (.aload_n 0, 1) := by decide +kernel
theorem dX_station_96 : decode cX_station 96 = .ok (.getfield 41, 3) := by decide +kernel
theorem dX_station_99 : decode cX_station 99 = .ok (.getfield 102, 3) := by decide +kernel
theorem dX_station_102 : decode cX_station 102 = .ok (.bipush 6, 2) := by decide +kernel
theorem dX_station_104 : decode cX_station 104 = .ok (.if_icmp .lt 6, 3) := by decide +kernel
theorem dX_station_107 : decode cX_station 107 = .ok (.bipush (-2), 2) := by decide +kernel
theorem dX_station_109 : decode cX_station 109 = .ok (.ireturn, 1) := by decide +kernel
theorem dX_station_110 : decode cX_station 110 = .ok (.aload_n 0, 1) := by decide +kernel
theorem dX_station_111 : decode cX_station 111 = .ok (.getfield 41, 3) := by decide +kernel
theorem dX_station_114 : decode cX_station 114 = .ok (.getfield 102, 3) := by decide +kernel
theorem dX_station_117 : decode cX_station 117 = .ok (.istore 7, 2) := by decide +kernel
theorem dX_station_119 : decode cX_station 119 = .ok (.aload_n 0, 1) := by decide +kernel
theorem dX_station_120 : decode cX_station 120 = .ok (.getfield 41, 3) := by decide +kernel
theorem dX_station_123 : decode cX_station 123 = .ok (.getfield 106, 3) := by decide +kernel
theorem dX_station_126 : decode cX_station 126 = .ok (.iload 7, 2) := by decide +kernel
theorem dX_station_128 : decode cX_station 128 = .ok (.aaload, 1) := by decide +kernel
theorem dX_station_129 : decode cX_station 129 = .ok (.iload 6, 2) := by decide +kernel
theorem dX_station_131 : decode cX_station 131 = .ok (.iload 4, 2) := by decide +kernel
theorem dX_station_133 : decode cX_station 133 = .ok (.invokevirtual 110, 3) := by decide +kernel
theorem dX_station_136 : decode cX_station 136 = .ok (.aload_n 0, 1) := by decide +kernel
theorem dX_station_137 : decode cX_station 137 = .ok (.getfield 41, 3) := by decide +kernel
theorem dX_station_140 : decode cX_station 140 = .ok (.dup, 1) := by decide +kernel
theorem dX_station_141 : decode cX_station 141 = .ok (.getfield 102, 3) := by decide +kernel
theorem dX_station_144 : decode cX_station 144 = .ok (.iconst 1, 1) := by decide +kernel
theorem dX_station_145 : decode cX_station 145 = .ok (.iadd, 1) := by decide +kernel
theorem dX_station_146 : decode cX_station 146 = .ok (.putfield 102, 3) := by decide +kernel
theorem dX_station_149 : decode cX_station 149 = .ok (.iload 7, 2) := by decide +kernel
theorem dX_station_151 : decode cX_station 151 = .ok (.ireturn, 1) := by decide +kernel
theorem dX_order_0 : decode cX_order 0 = .ok (.aload_n 0, 1) := by decide +kernel
theorem dX_order_1 : decode cX_order 1 = .ok (.getfield 41, 3) := by decide +kernel
theorem dX_order_4 : decode cX_order 4 = .ok (.iload_n 1, 1) := by decide +kernel
theorem dX_order_5 : decode cX_order 5 = .ok (.invokevirtual 143, 3) := by decide +kernel
theorem dX_order_8 : decode cX_order 8 = .ok (.ifCond .eq 31, 3) := by decide +kernel
theorem dX_order_11 : decode cX_order 11 = .ok (.aload_n 0, 1) := by decide +kernel
theorem dX_order_12 : decode cX_order 12 = .ok (.getfield 41, 3) := by decide +kernel
theorem dX_order_15 : decode cX_order 15 = .ok (.iload_n 2, 1) := by decide +kernel
theorem dX_order_16 : decode cX_order 16 = .ok (.invokevirtual 146, 3) := by decide +kernel
theorem dX_order_19 : decode cX_order 19 = .ok (.ifCond .eq 20, 3) := by decide +kernel
theorem dX_order_22 : decode cX_order 22 = .ok (.aload_n 0, 1) := by decide +kernel
theorem dX_order_23 : decode cX_order 23 = .ok (.getfield 41, 3) := by decide +kernel
theorem dX_order_26 : decode cX_order 26 = .ok (.getfield 129, 3) := by decide +kernel
theorem dX_order_29 : decode cX_order 29 = .ok (.iload_n 1, 1) := by decide +kernel
theorem dX_order_30 : decode cX_order 30 = .ok (.aaload, 1) := by decide +kernel
theorem dX_order_31 : decode cX_order 31 = .ok (.getfield 149, 3) := by decide +kernel
theorem dX_order_34 : decode cX_order 34 = .ok (.bipush 6, 2) := by decide +kernel
theorem dX_order_36 : decode cX_order 36 = .ok (.if_icmp .lt 5, 3) := by decide +kernel
theorem dX_order_39 : decode cX_order 39 = .ok (.iconst 0, 1) := by decide +kernel
theorem dX_order_40 : decode cX_order 40 = .ok (.ireturn, 1) := by decide +kernel
theorem dX_order_41 : decode cX_order 41 = .ok (.aload_n 0, 1) := by decide +kernel
theorem dX_order_42 : decode cX_order 42 = .ok (.getfield 41, 3) := by decide +kernel
theorem dX_order_45 : decode cX_order 45 = .ok (.getfield 129, 3) := by decide +kernel
theorem dX_order_48 : decode cX_order 48 = .ok (.iload_n 1, 1) := by decide +kernel
theorem dX_order_49 : decode cX_order 49 = .ok (.aaload, 1) := by decide +kernel
theorem dX_order_50 : decode cX_order 50 = .ok (.astore_n 3, 1) := by decide +kernel
theorem dX_order_51 : decode cX_order 51 = .ok (.aload_n 3, 1) := by decide +kernel
theorem dX_order_52 : decode cX_order 52 = .ok (.getfield 152, 3) := by decide +kernel
theorem dX_order_55 : decode cX_order 55 = .ok (.aload_n 3, 1) := by decide +kernel
theorem dX_order_56 : decode cX_order 56 = .ok (.getfield 149, 3) := by decide +kernel
theorem dX_order_59 : decode cX_order 59 = .ok (.iload_n 2, 1) := by decide +kernel
theorem dX_order_60 : decode cX_order 60 = .ok (.iastore, 1) := by decide +kernel
theorem dX_order_61 : decode cX_order 61 = .ok (.aload_n 3, 1) := by decide +kernel
theorem dX_order_62 : decode cX_order 62 = .ok (.dup, 1) := by decide +kernel
theorem dX_order_63 : decode cX_order 63 = .ok (.getfield 149, 3) := by decide +kernel
theorem dX_order_66 : decode cX_order 66 = .ok (.iconst 1, 1) := by decide +kernel
theorem dX_order_67 : decode cX_order 67 = .ok (.iadd, 1) := by decide +kernel
theorem dX_order_68 : decode cX_order 68 = .ok (.putfield 149, 3) := by decide +kernel
theorem dX_order_71 : decode cX_order 71 = .ok (.iconst 1, 1) := by decide +kernel
theorem dX_order_72 : decode cX_order 72 = .ok (.ireturn, 1) := by decide +kernel
theorem dX_toGo_0 : decode cX_toGo 0 = .ok (.aload_n 0, 1) := by decide +kernel
theorem dX_toGo_1 : decode cX_toGo 1 = .ok (.getfield 41, 3) := by decide +kernel
theorem dX_toGo_4 : decode cX_toGo 4 = .ok (.getfield 48, 3) := by decide +kernel
theorem dX_toGo_7 : decode cX_toGo 7 = .ok (.iload_n 1, 1) := by decide +kernel
theorem dX_toGo_8 : decode cX_toGo 8 = .ok (.iload_n 2, 1) := by decide +kernel
theorem dX_toGo_9 : decode cX_toGo 9 = .ok (.iload_n 3, 1) := by decide +kernel
theorem dX_toGo_10 : decode cX_toGo 10 = .ok (.invokevirtual 86, 3) := by decide +kernel
theorem dX_toGo_13 : decode cX_toGo 13 = .ok (.ifCond .eq 24, 3) := by decide +kernel
theorem dX_toGo_16 : decode cX_toGo 16 = .ok (.iload_n 3, 1) := by decide +kernel
theorem dX_toGo_17 : decode cX_toGo 17 = .ok (.iload 4, 2) := by decide +kernel
theorem dX_toGo_19 : decode cX_toGo 19 = .ok (.invokestatic 90, 3) := by decide +kernel
theorem dX_toGo_22 : decode cX_toGo 22 = .ok (.ifCond .eq 15, 3) := by decide +kernel
theorem dX_toGo_25 : decode cX_toGo 25 = .ok (.aload_n 0, 1) := by decide +kernel
theorem dX_toGo_26 : decode cX_toGo 26 = .ok (.getfield 41, 3) := by decide +kernel
theorem dX_toGo_29 : decode cX_toGo 29 = .ok (.iload 5, 2) := by decide +kernel
theorem dX_toGo_31 : decode cX_toGo 31 = .ok (.invokevirtual 146, 3) := by decide +kernel
theorem dX_toGo_34 : decode cX_toGo 34 = .ok (.ifCond .ne 5, 3) := by decide +kernel
theorem dX_toGo_37 : decode cX_toGo 37 = .ok (.iconst (-1), 1) := by decide +kernel
theorem dX_toGo_38 : decode cX_toGo 38 = .ok (.ireturn, 1) := by decide +kernel
theorem dX_toGo_39 : decode cX_toGo 39 = .ok (.aload_n 0, 1) := by decide +kernel
theorem dX_toGo_40 : decode cX_toGo 40 = .ok (.getfield 41, 3) := by decide +kernel
theorem dX_toGo_43 : decode cX_toGo 43 = .ok (.getfield 106, 3) := by decide +kernel
theorem dX_toGo_46 : decode cX_toGo 46 = .ok (.iload 5, 2) := by decide +kernel
theorem dX_toGo_48 : decode cX_toGo 48 = .ok (.aaload, 1) := by decide +kernel
theorem dX_toGo_49 : decode cX_toGo 49 = .ok (.getfield 193, 3) := by decide +kernel
theorem dX_toGo_52 : decode cX_toGo 52 = .ok (.istore 6, 2) := by decide +kernel
theorem dX_toGo_54 : decode cX_toGo 54 = .ok (.aload_n 0, 1) := by decide +kernel
theorem dX_toGo_55 : decode cX_toGo 55 = .ok (.getfield 12, 3) := by decide +kernel
theorem dX_toGo_58 : decode cX_toGo 58 = .ok (.aload_n 0, 1) := by decide +kernel
theorem dX_toGo_59 : decode cX_toGo 59 = .ok (.getfield 41, 3) := by decide +kernel
theorem dX_toGo_62 : decode cX_toGo 62 = .ok (.getfield 48, 3) := by decide +kernel
theorem dX_toGo_65 : decode cX_toGo 65 = .ok (.iload 5, 2) := by decide +kernel
theorem dX_toGo_67 : decode cX_toGo 67 = .ok (.iload 6, 2) := by decide +kernel
theorem dX_toGo_69 : decode cX_toGo 69 = .ok (.invokevirtual 195, 3) := by decide +kernel
theorem dX_toGo_72 : decode cX_toGo 72 = .ok (.aload_n 0, 1) := by decide +kernel
theorem dX_toGo_73 : decode cX_toGo 73 = .ok (.getfield 12, 3) := by decide +kernel
theorem dX_toGo_76 : decode cX_toGo 76 = .ok (.iload_n 1, 1) := by decide +kernel
theorem dX_toGo_77 : decode cX_toGo 77 = .ok (.iload_n 2, 1) := by decide +kernel
theorem dX_toGo_78 : decode cX_toGo 78 = .ok (.invokestatic 58, 3) := by decide +kernel
theorem dX_toGo_81 : decode cX_toGo 81 = .ok (.iload_n 3, 1) := by decide +kernel
theorem dX_toGo_82 : decode cX_toGo 82 = .ok (.invokestatic 63, 3) := by decide +kernel
theorem dX_toGo_85 : decode cX_toGo 85 = .ok (.iload 4, 2) := by decide +kernel
theorem dX_toGo_87 : decode cX_toGo 87 = .ok (.invokestatic 93, 3) := by decide +kernel
theorem dX_toGo_90 : decode cX_toGo 90 = .ok (.iload 5, 2) := by decide +kernel
theorem dX_toGo_92 : decode cX_toGo 92 = .ok (.iload 6, 2) := by decide +kernel
theorem dX_toGo_94 : decode cX_toGo 94 = .ok (.invokevirtual 198, 3) := by decide +kernel
theorem dX_toGo_97 : decode cX_toGo 97 = .ok (.istore 7, 2) := by decide +kernel
theorem dX_toGo_99 : decode cX_toGo 99 = .ok (.iload 7, 2) := by decide +kernel
theorem dX_toGo_101 : decode cX_toGo 101 = .ok (.ldc 202, 2) := by decide +kernel
theorem dX_toGo_103 : decode cX_toGo 103 = .ok (.if_icmp .ge 8, 3) := by decide +kernel
theorem dX_toGo_106 : decode cX_toGo 106 = .ok (.iload 7, 2) := by decide +kernel
theorem dX_toGo_108 : decode cX_toGo 108 = .ok (.goto 4, 3) := by decide +kernel
theorem dX_toGo_111 : decode cX_toGo 111 = .ok (.iconst (-1), 1) := by decide +kernel
theorem dX_toGo_112 : decode cX_toGo 112 = .ok (.ireturn, 1) := by decide +kernel
theorem lfX_41 : Cond.fieldLink R_X 41 "RailYard" "now" "LRailYard$Yard;" ∈ bigW := bw 247 (by decide +kernel) rfl
theorem lfX_48 : Cond.fieldLinkNest R_X 48 "RailYard$Yard" "grid" "LRailYard$Grid;" hostN ∈ nestW := nw 215 (by decide +kernel) rfl
theorem lmX_52 : Cond.methodLink R_X 52 yG_hasTile ∈ bigW := bw 267 (by decide +kernel) rfl
theorem lfX_77 : Cond.fieldLinkNest R_X 77 "RailYard$Grid" "tracks" "[I" hostN ∈ nestW := nw 134 (by decide +kernel) rfl
theorem lmX_58 : Cond.methodLink R_X 58 yS_tile ∈ bigW := bw 271 (by decide +kernel) rfl
theorem lmX_86 : Cond.methodLink R_X 86 yG_hasTrack ∈ bigW := bw 298 (by decide +kernel) rfl
theorem lfX_190 : Cond.fieldLinkNest R_X 190 "RailYard$Grid" "holders" "[I" hostN ∈ nestW := nw 139 (by decide +kernel) rfl
theorem lmX_63 : Cond.methodLink R_X 63 yS_place ∈ bigW := bw 274 (by decide +kernel) rfl
theorem lfX_80 : Cond.fieldLinkNest R_X 80 "RailYard$Grid" "lights" "[I" hostN ∈ nestW := nw 136 (by decide +kernel) rfl
theorem lfX_184 : Cond.fieldLinkNest R_X 184 "RailYard$Spot" "FIRST_EDGE" "[I" hostN ∈ nestW := nw 546 (by decide +kernel) rfl
theorem lfX_187 : Cond.fieldLinkNest R_X 187 "RailYard$Spot" "SECOND_EDGE" "[I" hostN ∈ nestW := nw 547 (by decide +kernel) rfl
theorem lmX_143 : Cond.methodLink R_X 143 yY_hasTrain ∈ bigW := bw 402 (by decide +kernel) rfl
theorem lfX_129 : Cond.fieldLinkNest R_X 129 "RailYard$Yard" "trains" "[LRailYard$Train;" hostN ∈ nestW := nw 219 (by decide +kernel) rfl
theorem lfX_165 : Cond.fieldLinkNest R_X 165 "RailYard$Train" "count" "I" hostN ∈ nestW := nw 177 (by decide +kernel) rfl
theorem lfX_166 : Cond.fieldLinkNest R_X 166 "RailYard$Train" "runs" "[I" hostN ∈ nestW := nw 175 (by decide +kernel) rfl
theorem lmX_161 : Cond.methodLink R_X 161 yN_ahead ∈ bigW := bw 414 (by decide +kernel) rfl
theorem lfX_155 : Cond.fieldLinkNest R_X 155 "RailYard$Train" "speed" "I" hostN ∈ nestW := nw 181 (by decide +kernel) rfl
theorem lfX_158 : Cond.fieldLinkNest R_X 158 "RailYard$Train" "loading" "I" hostN ∈ nestW := nw 183 (by decide +kernel) rfl
theorem lfX_203 : Cond.fieldLinkNest R_X 203 "RailYard$Train" "cargo" "I" hostN ∈ nestW := nw 185 (by decide +kernel) rfl
theorem lmX_206 : Cond.methodLink R_X 206 yN_goesFor ∈ bigW := bw 447 (by decide +kernel) rfl
theorem lmX_146 : Cond.methodLink R_X 146 yY_isStation ∈ bigW := bw 406 (by decide +kernel) rfl
theorem lfX_106 : Cond.fieldLinkNest R_X 106 "RailYard$Yard" "stations" "[LRailYard$Station;" hostN ∈ nestW := nw 217 (by decide +kernel) rfl
theorem lfX_209 : Cond.fieldLinkNest R_X 209 "RailYard$Station" "cargo" "I" hostN ∈ nestW := nw 161 (by decide +kernel) rfl
theorem lfX_210 : Cond.fieldLinkNest R_X 210 "RailYard$Yard" "madeCargo" "I" hostN ∈ nestW := nw 225 (by decide +kernel) rfl
theorem lfX_213 : Cond.fieldLinkNest R_X 213 "RailYard$Yard" "broughtCargo" "I" hostN ∈ nestW := nw 227 (by decide +kernel) rfl
theorem lfX_181 : Cond.fieldLinkNest R_X 181 "RailYard$Yard" "time" "I" hostN ∈ nestW := nw 229 (by decide +kernel) rfl
theorem lmX_66 : Cond.methodLink R_X 66 yG_isHeld ∈ bigW := bw 277 (by decide +kernel) rfl
theorem lmX_70 : Cond.methodLink R_X 70 yG_hasPiece ∈ bigW := bw 282 (by decide +kernel) rfl
theorem lfX_12 : Cond.fieldLink R_X 12 "RailYard" "ways" "LRailYard$Ways;" ∈ bigW := bw 249 (by decide +kernel) rfl
theorem lmX_83 : Cond.methodLink R_X 83 yW_forget ∈ bigW := bw 290 (by decide +kernel) rfl
theorem lmX_73 : Cond.methodLink R_X 73 yY_stationOn ∈ bigW := bw 286 (by decide +kernel) rfl
theorem lmX_90 : Cond.methodLink R_X 90 yS_hasEdge ∈ bigW := bw 305 (by decide +kernel) rfl
theorem lmX_93 : Cond.methodLink R_X 93 yS_run ∈ bigW := bw 312 (by decide +kernel) rfl
theorem lmX_96 : Cond.methodLink R_X 96 yG_isLit ∈ bigW := bw 315 (by decide +kernel) rfl
theorem lmX_99 : Cond.methodLink R_X 99 yY_hasStation ∈ bigW := bw 329 (by decide +kernel) rfl
theorem lfX_102 : Cond.fieldLinkNest R_X 102 "RailYard$Yard" "stationCount" "I" hostN ∈ nestW := nw 221 (by decide +kernel) rfl
theorem lmX_110 : Cond.methodLink R_X 110 yT_open ∈ bigW := bw 335 (by decide +kernel) rfl
theorem lfX_149 : Cond.fieldLinkNest R_X 149 "RailYard$Train" "orderCount" "I" hostN ∈ nestW := nw 189 (by decide +kernel) rfl
theorem lfX_152 : Cond.fieldLinkNest R_X 152 "RailYard$Train" "orders" "[I" hostN ∈ nestW := nw 187 (by decide +kernel) rfl
theorem lfX_193 : Cond.fieldLinkNest R_X 193 "RailYard$Station" "place" "I" hostN ∈ nestW := nw 158 (by decide +kernel) rfl
theorem lmX_195 : Cond.methodLink R_X 195 yW_learn ∈ bigW := bw 471 (by decide +kernel) rfl
theorem lmX_198 : Cond.methodLink R_X 198 yW_rest ∈ bigW := bw 556 (by decide +kernel) rfl
theorem lcX_202 : Cond.constant R_X 202 (Int32.ofInt 1048576) ∈ bigW := bw 557 (by decide +kernel) rfl
theorem miG_hasTrack : MI yG_hasTrack cG_hasTrack 4 (some .boolean) 3 := ⟨bw 301 (by decide +kernel) rfl, bw 44 (by decide +kernel) rfl, ⟨by decide +kernel, by decide +kernel⟩, by decide +kernel, by decide⟩
theorem mvG_hasTrack : MV yG_hasTrack := ⟨bw 299 (by decide +kernel) rfl, bw 300 (by decide +kernel) rfl⟩
theorem miY_hasTrain : MI yY_hasTrain cY_hasTrain 2 (some .boolean) 1 := ⟨bw 405 (by decide +kernel) rfl, bw 43 (by decide +kernel) rfl, ⟨by decide +kernel, by decide +kernel⟩, by decide +kernel, by decide⟩
theorem mvY_hasTrain : MV yY_hasTrain := ⟨bw 403 (by decide +kernel) rfl, bw 404 (by decide +kernel) rfl⟩
theorem miN_goesFor : MI yN_goesFor cN_goesFor 1 (some .int) 0 := ⟨bw 450 (by decide +kernel) rfl, bw 47 (by decide +kernel) rfl, ⟨by decide +kernel, by decide +kernel⟩, by decide +kernel, by decide⟩
theorem mvN_goesFor : MV yN_goesFor := ⟨bw 448 (by decide +kernel) rfl, bw 449 (by decide +kernel) rfl⟩
theorem miY_isStation : MI yY_isStation cY_isStation 2 (some .boolean) 1 := ⟨bw 409 (by decide +kernel) rfl, bw 43 (by decide +kernel) rfl, ⟨by decide +kernel, by decide +kernel⟩, by decide +kernel, by decide⟩
theorem mvY_isStation : MV yY_isStation := ⟨bw 407 (by decide +kernel) rfl, bw 408 (by decide +kernel) rfl⟩
theorem miG_isHeld : MI yG_isHeld cG_isHeld 3 (some .boolean) 1 := ⟨bw 280 (by decide +kernel) rfl, bw 44 (by decide +kernel) rfl, ⟨by decide +kernel, by decide +kernel⟩, by decide +kernel, by decide⟩
theorem mvG_isHeld : MV yG_isHeld := ⟨bw 278 (by decide +kernel) rfl, bw 279 (by decide +kernel) rfl⟩
theorem miW_forget : MI yW_forget cW_forget 1 none 0 := ⟨bw 293 (by decide +kernel) rfl, bw 40 (by decide +kernel) rfl, ⟨by decide +kernel, by decide +kernel⟩, by decide +kernel, by decide⟩
theorem mvW_forget : MV yW_forget := ⟨bw 291 (by decide +kernel) rfl, bw 292 (by decide +kernel) rfl⟩
theorem miG_isLit : MI yG_isLit cG_isLit 2 (some .boolean) 1 := ⟨bw 318 (by decide +kernel) rfl, bw 44 (by decide +kernel) rfl, ⟨by decide +kernel, by decide +kernel⟩, by decide +kernel, by decide⟩
theorem mvG_isLit : MV yG_isLit := ⟨bw 316 (by decide +kernel) rfl, bw 317 (by decide +kernel) rfl⟩
theorem miY_hasStation : MI yY_hasStation cY_hasStation 2 (some .boolean) 1 := ⟨bw 332 (by decide +kernel) rfl, bw 43 (by decide +kernel) rfl, ⟨by decide +kernel, by decide +kernel⟩, by decide +kernel, by decide⟩
theorem mvY_hasStation : MV yY_hasStation := ⟨bw 330 (by decide +kernel) rfl, bw 331 (by decide +kernel) rfl⟩
theorem miT_open : MI yT_open cT_open 3 none 2 := ⟨bw 338 (by decide +kernel) rfl, bw 46 (by decide +kernel) rfl, ⟨by decide +kernel, by decide +kernel⟩, by decide +kernel, by decide⟩
theorem mvT_open : MV yT_open := ⟨bw 336 (by decide +kernel) rfl, bw 337 (by decide +kernel) rfl⟩
theorem miW_learn : MI yW_learn cW_learn 10 none 3 := ⟨bw 474 (by decide +kernel) rfl, bw 40 (by decide +kernel) rfl, ⟨by decide +kernel, by decide +kernel⟩, by decide +kernel, by decide⟩
theorem mvW_learn : MV yW_learn := ⟨bw 472 (by decide +kernel) rfl, bw 473 (by decide +kernel) rfl⟩
/-- the class's numbers are in their ranges -/
def gok (w : RW) (g : Int) : Prop := (0 ≤ g ∧ g < 384) ∧ isT (w 2 0) (w 2 1) (g % 64 % 8) (g % 64 / 8) ∧ tb (w 3 (g % 64)) (g / 64)
def tok (w : RW) (k r o : Nat) (ns : Int) : Prop := (1 ≤ w k 2 ∧ w k 2 ≤ 5 ∧ w k 2 ≤ w k 1 ∧ w k 1 ≤ 96) ∧ (0 ≤ w k 3 ∧ w k 3 ≤ 3 ∧ 0 ≤ w k 4 ∧ w k 4 ≤ 2 ∧ 0 ≤ w k 5 ∧ w k 5 ≤ 100) ∧ (0 ≤ w k 7 ∧ w k 7 ≤ 6 ∧ 0 ≤ w k 8 ∧ (w k 8 < w k 7 ∨ (w k 7 = 0 ∧ w k 8 = 0)) ∧ (w k 9 = 0 ∨ w k 9 = 1)) ∧ (∀ i, 0 ≤ i → i < w k 1 → okR (w r i)) ∧ ∀ i, 0 ≤ i → i < w k 7 → 0 ≤ w o i ∧ w o i < ns
def cOK (w : RW) : Prop :=
  (3 ≤ w 2 0 ∧ w 2 0 ≤ 8 ∧ 3 ≤ w 2 1 ∧ w 2 1 ≤ 6) ∧
  (∀ t, 0 ≤ t → t < 64 → 0 ≤ w 3 t ∧ w 3 t < 64) ∧
  (∀ p, 0 ≤ p → p < 384 → 0 ≤ w 4 p ∧ w 4 p < 16 ∧ -1 ≤ w 5 p ∧ w 5 p < 6) ∧
  (0 ≤ w 1 3 ∧ w 1 3 ≤ 6 ∧ 0 ≤ w 1 4 ∧ w 1 4 ≤ 6) ∧
  (∀ s, 0 ≤ s → s < w 1 3 → gok w (w (7 + s.toNat) 0) ∧ 0 ≤ w (7 + s.toNat) 1 ∧ w (7 + s.toNat) 1 ≤ 50 ∧ 0 ≤ w (7 + s.toNat) 2 ∧ w (7 + s.toNat) 2 ≤ 500) ∧
  ∀ t, 0 ≤ t → t < w 1 4 → tok w (14 + t.toNat) (20 + t.toNat) (26 + t.toNat) (w 1 3)
def hTr (w : RW) (x y p : Int) : Prop := isT (w 2 0) (w 2 1) x y ∧ (0 ≤ p ∧ p < 6) ∧ tb (w 3 (x + 8 * y)) p
theorem ctX_pieces {G : vG} {l : Launch} {w : RW} {x y : Int} (hc : cOK w) : CTi G l yX_pieces cX_pieces 3 .int 1 [.inr 0, .inl x, .inl y] w (fun r u => r = cif (isT (w 2 0) (w 2 1) x y) (w 3 (x + 8 * y)) (-1) ∧ w = u) := by
  refine CTi.int (by decide) (Nat.le_of_ble_eq_true rfl) ?_
  intro X Q F hX hR
  subst hX
  show V G X 3 Q 0 [some (.inr 0), some (.inl x), some (.inl y)] [] w
  obtain ⟨k1, k2, k3, k4, k5, k6⟩ := hc
  refine V_aload_n (i := 0) F dX_pieces_0 rfl rfl ?_
  refine V_getr (ci := 6) (C := R_X) (T := T_X) (N := 5) F dX_pieces_1 (by first | rfl | assumption) rfl (j := 0) (by decide) rfl lfX_41 ?_
  refine V_getrN (ci := 5) (C := R_Y) (T := T_Y) (N := 8) F dX_pieces_4 (by first | rfl | assumption) rfl (j := 0) (by decide) rfl lfX_48 ?_
  refine V_iload_n (i := 1) F dX_pieces_7 rfl rfl ?_
  refine V_iload_n (i := 2) F dX_pieces_8 rfl rfl ?_
  refine V_callVi F dX_pieces_9 lmX_52 miG_hasTile mvG_hasTile (ctG_hasTile) (by decide) (by first | rfl | assumption) rfl rfl (Nat.le_of_ble_eq_true rfl) (fun r u hr => ?_)
  obtain ⟨rfl, rfl⟩ := hr
  refine V_if_eq F 34 dX_pieces_12 (by decide) (fun h12 => ?_) (fun h12 => ?_)
  · first | (replace h12 := bz_ne0.mp h12) | (replace h12 := bz_eq0.mp h12) | skip
    refine V_iconst F dX_pieces_34 (by decide) ?_
    exact hR _ _ _ _ dX_pieces_35 (by first | exact ⟨(cif_t h12).symm, rfl⟩ | exact ⟨(cif_f h12).symm, rfl⟩)
  · first | (replace h12 := bz_ne0.mp h12) | (replace h12 := bz_eq0.mp h12) | skip
    have hh := h12
    unfold isT at hh
    refine V_aload_n (i := 0) F dX_pieces_15 rfl rfl ?_
    refine V_getr (ci := 6) (C := R_X) (T := T_X) (N := 5) F dX_pieces_16 (by first | rfl | assumption) rfl (j := 0) (by decide) rfl lfX_41 ?_
    refine V_getrN (ci := 5) (C := R_Y) (T := T_Y) (N := 8) F dX_pieces_19 (by first | rfl | assumption) rfl (j := 0) (by decide) rfl lfX_48 ?_
    refine V_getrN (ci := 0) (C := R_G) (T := T_G) (N := 5) F dX_pieces_22 (by first | rfl | assumption) rfl (j := 2) (by decide) rfl lfX_77 ?_
    refine V_iload_n (i := 1) F dX_pieces_25 rfl rfl ?_
    refine V_iload_n (i := 2) F dX_pieces_26 rfl rfl ?_
    refine V_callSi F dX_pieces_27 lmX_58 miS_tile msS_tile (ctS_tile (by omega)) (by decide) rfl (Nat.le_of_ble_eq_true rfl) (fun r u hr => ?_)
    obtain ⟨rfl, rfl⟩ := hr
    first
      | refine V_sald F dX_pieces_30 (by decide) (by omega) (stt_in _ _) ?_
      | refine V_iald F dX_pieces_30 (by first | rfl | assumption) rfl (by omega) ?_
    refine V_goto F 35 dX_pieces_31 (by decide) ?_
    exact hR _ _ _ _ dX_pieces_35 (by first | exact ⟨(cif_t h12).symm, rfl⟩ | exact ⟨(cif_f h12).symm, rfl⟩)
theorem ctX_holder {G : vG} {l : Launch} {w : RW} {x y p : Int} (hc : cOK w) : CTi G l yX_holder cX_holder 4 .int 2 [.inr 0, .inl x, .inl y, .inl p] w (fun r u => r = cif (hTr w x y p) (w 5 (x + 8 * y + 64 * p)) (-1) ∧ w = u) := by
  refine CTi.int (by decide) (Nat.le_of_ble_eq_true rfl) ?_
  intro X Q F hX hR
  subst hX
  show V G X 4 Q 0 [some (.inr 0), some (.inl x), some (.inl y), some (.inl p)] [] w
  obtain ⟨k1, k2, k3, k4, k5, k6⟩ := hc
  refine V_aload_n (i := 0) F dX_holder_0 rfl rfl ?_
  refine V_getr (ci := 6) (C := R_X) (T := T_X) (N := 5) F dX_holder_1 (by first | rfl | assumption) rfl (j := 0) (by decide) rfl lfX_41 ?_
  refine V_getrN (ci := 5) (C := R_Y) (T := T_Y) (N := 8) F dX_holder_4 (by first | rfl | assumption) rfl (j := 0) (by decide) rfl lfX_48 ?_
  refine V_iload_n (i := 1) F dX_holder_7 rfl rfl ?_
  refine V_iload_n (i := 2) F dX_holder_8 rfl rfl ?_
  refine V_iload_n (i := 3) F dX_holder_9 rfl rfl ?_
  refine V_callVi F dX_holder_10 lmX_86 miG_hasTrack mvG_hasTrack (ctG_hasTrack (by omega) (fun t t1 t2 => (k2 t t1 t2).1)) (by decide) (by first | rfl | assumption) rfl rfl (Nat.le_of_ble_eq_true rfl) (fun r u hr => ?_)
  obtain ⟨rfl, rfl⟩ := hr
  show V _ _ _ _ _ _ (.inl (bz (hTr w x y p)) :: _) _
  refine V_if_ne F 18 dX_holder_13 (by decide) (fun h13 => ?_) (fun h13 => ?_)
  · first | (replace h13 := bz_ne0.mp h13) | (replace h13 := bz_eq0.mp h13) | skip
    have hh := h13.1
    unfold isT at hh
    have hp := h13.2.1
    refine V_aload_n (i := 0) F dX_holder_18 rfl rfl ?_
    refine V_getr (ci := 6) (C := R_X) (T := T_X) (N := 5) F dX_holder_19 (by first | rfl | assumption) rfl (j := 0) (by decide) rfl lfX_41 ?_
    refine V_getrN (ci := 5) (C := R_Y) (T := T_Y) (N := 8) F dX_holder_22 (by first | rfl | assumption) rfl (j := 0) (by decide) rfl lfX_48 ?_
    refine V_getrN (ci := 0) (C := R_G) (T := T_G) (N := 5) F dX_holder_25 (by first | rfl | assumption) rfl (j := 4) (by decide) rfl lfX_190 ?_
    refine V_iload_n (i := 1) F dX_holder_28 rfl rfl ?_
    refine V_iload_n (i := 2) F dX_holder_29 rfl rfl ?_
    refine V_callSi F dX_holder_30 lmX_58 miS_tile msS_tile (ctS_tile (by omega)) (by decide) rfl (Nat.le_of_ble_eq_true rfl) (fun r u hr => ?_)
    obtain ⟨rfl, rfl⟩ := hr
    refine V_iload_n (i := 3) F dX_holder_33 rfl rfl ?_
    refine V_callSi F dX_holder_34 lmX_63 miS_place msS_place (ctS_place (by omega)) (by decide) rfl (Nat.le_of_ble_eq_true rfl) (fun r u hr => ?_)
    obtain ⟨rfl, rfl⟩ := hr
    first
      | refine V_sald F dX_holder_37 (by decide) (by omega) (stt_in _ _) ?_
      | refine V_iald F dX_holder_37 (by first | rfl | assumption) rfl (by omega) ?_
    exact hR _ _ _ _ dX_holder_38 (by first | exact ⟨(cif_t h13).symm, rfl⟩ | exact ⟨(cif_f h13).symm, rfl⟩)
  · first | (replace h13 := bz_ne0.mp h13) | (replace h13 := bz_eq0.mp h13) | skip
    refine V_iconst F dX_holder_16 (by decide) ?_
    exact hR _ _ _ _ dX_holder_17 (by first | exact ⟨(cif_t h13).symm, rfl⟩ | exact ⟨(cif_f h13).symm, rfl⟩)
theorem ctX_signals {G : vG} {l : Launch} {w : RW} {x y p : Int} (hc : cOK w) : CTi G l yX_signals cX_signals 7 .int 2 [.inr 0, .inl x, .inl y, .inl p] w (fun r u => r = cif (hTr w x y p) (bz (tb (w 4 (x + 8 * y + 64 * p)) (stt 0 p)) + 2 * bz (tb (w 4 (x + 8 * y + 64 * p)) (stt 1 p))) (-1) ∧ w = u) := by
  refine CTi.int (by decide) (Nat.le_of_ble_eq_true rfl) ?_
  intro X Q F hX hR
  subst hX
  show V G X 7 Q 0 [some (.inr 0), some (.inl x), some (.inl y), some (.inl p), none, none, none] [] w
  obtain ⟨k1, k2, k3, k4, k5, k6⟩ := hc
  refine V_aload_n (i := 0) F dX_signals_0 rfl rfl ?_
  refine V_getr (ci := 6) (C := R_X) (T := T_X) (N := 5) F dX_signals_1 (by first | rfl | assumption) rfl (j := 0) (by decide) rfl lfX_41 ?_
  refine V_getrN (ci := 5) (C := R_Y) (T := T_Y) (N := 8) F dX_signals_4 (by first | rfl | assumption) rfl (j := 0) (by decide) rfl lfX_48 ?_
  refine V_iload_n (i := 1) F dX_signals_7 rfl rfl ?_
  refine V_iload_n (i := 2) F dX_signals_8 rfl rfl ?_
  refine V_iload_n (i := 3) F dX_signals_9 rfl rfl ?_
  refine V_callVi F dX_signals_10 lmX_86 miG_hasTrack mvG_hasTrack (ctG_hasTrack (by omega) (fun t t1 t2 => (k2 t t1 t2).1)) (by decide) (by first | rfl | assumption) rfl rfl (Nat.le_of_ble_eq_true rfl) (fun r u hr => ?_)
  obtain ⟨rfl, rfl⟩ := hr
  show V _ _ _ _ _ _ (.inl (bz (hTr w x y p)) :: _) _
  refine V_if_ne F 18 dX_signals_13 (by decide) (fun h13 => ?_) (fun h13 => ?_)
  · first | (replace h13 := bz_ne0.mp h13) | (replace h13 := bz_eq0.mp h13) | skip
    have hh := h13.1
    unfold isT at hh
    have hp := h13.2.1
    have s0 := stt_e (i := 0) (by omega) hp
    have s1 := stt_e (i := 1) (by omega) hp
    have hl := k3 (x + 8 * y + 64 * p) (by omega) (by omega)
    have z0 := bz_01 (tb (w 4 (x + 8 * y + 64 * p)) (stt 0 p))
    have z1 := bz_01 (tb (w 4 (x + 8 * y + 64 * p)) (stt 1 p))
    refine V_aload_n (i := 0) F dX_signals_18 rfl rfl ?_
    refine V_getr (ci := 6) (C := R_X) (T := T_X) (N := 5) F dX_signals_19 (by first | rfl | assumption) rfl (j := 0) (by decide) rfl lfX_41 ?_
    refine V_getrN (ci := 5) (C := R_Y) (T := T_Y) (N := 8) F dX_signals_22 (by first | rfl | assumption) rfl (j := 0) (by decide) rfl lfX_48 ?_
    refine V_getrN (ci := 0) (C := R_G) (T := T_G) (N := 5) F dX_signals_25 (by first | rfl | assumption) rfl (j := 3) (by decide) rfl lfX_80 ?_
    refine V_iload_n (i := 1) F dX_signals_28 rfl rfl ?_
    refine V_iload_n (i := 2) F dX_signals_29 rfl rfl ?_
    refine V_callSi F dX_signals_30 lmX_58 miS_tile msS_tile (ctS_tile (by omega)) (by decide) rfl (Nat.le_of_ble_eq_true rfl) (fun r u hr => ?_)
    obtain ⟨rfl, rfl⟩ := hr
    refine V_iload_n (i := 3) F dX_signals_33 rfl rfl ?_
    refine V_callSi F dX_signals_34 lmX_63 miS_place msS_place (ctS_place (by omega)) (by decide) rfl (Nat.le_of_ble_eq_true rfl) (fun r u hr => ?_)
    obtain ⟨rfl, rfl⟩ := hr
    first
      | refine V_sald F dX_signals_37 (by decide) (by omega) (stt_in _ _) ?_
      | refine V_iald F dX_signals_37 (by first | rfl | assumption) rfl (by omega) ?_
    refine V_istore F dX_signals_38 (by decide) (by simp only [List.set_cons_zero, List.set_cons_succ]; exact rfl) ?_
    refine V_iload F dX_signals_40 rfl ?_
    refine V_getsN F 0 dX_signals_42 (by decide) lfX_184 ?_
    refine V_iload_n (i := 3) F dX_signals_45 rfl rfl ?_
    first
      | refine V_sald F dX_signals_46 (by decide) (by omega) (stt_in _ _) ?_
      | refine V_iald F dX_signals_46 (by first | rfl | assumption) rfl (by omega) ?_
    refine V_ishr F _ dX_signals_47 rfl ?_
    refine V_iconst F dX_signals_48 (by decide) ?_
    refine V_iand F _ dX_signals_49 (bit_1 (by omega) (by omega)) ?_
    refine V_istore F dX_signals_50 (by decide) (by simp only [List.set_cons_zero, List.set_cons_succ]; exact rfl) ?_
    refine V_iload F dX_signals_52 rfl ?_
    refine V_getsN F 1 dX_signals_54 (by decide) lfX_187 ?_
    refine V_iload_n (i := 3) F dX_signals_57 rfl rfl ?_
    first
      | refine V_sald F dX_signals_58 (by decide) (by omega) (stt_in _ _) ?_
      | refine V_iald F dX_signals_58 (by first | rfl | assumption) rfl (by omega) ?_
    refine V_ishr F _ dX_signals_59 rfl ?_
    refine V_iconst F dX_signals_60 (by decide) ?_
    refine V_iand F _ dX_signals_61 (bit_1 (by omega) (by omega)) ?_
    refine V_istore F dX_signals_62 (by decide) (by simp only [List.set_cons_zero, List.set_cons_succ]; exact rfl) ?_
    refine V_iload F dX_signals_64 rfl ?_
    refine V_iconst F dX_signals_66 (by decide) ?_
    refine V_iload F dX_signals_67 rfl ?_
    refine V_imul F dX_signals_69 (by omega) ?_
    refine V_iadd F dX_signals_70 (by omega) ?_
    exact hR _ _ _ _ dX_signals_71 (by first | exact ⟨(cif_t h13).symm, rfl⟩ | exact ⟨(cif_f h13).symm, rfl⟩)
  · first | (replace h13 := bz_ne0.mp h13) | (replace h13 := bz_eq0.mp h13) | skip
    refine V_iconst F dX_signals_16 (by decide) ?_
    exact hR _ _ _ _ dX_signals_17 (by first | exact ⟨(cif_t h13).symm, rfl⟩ | exact ⟨(cif_f h13).symm, rfl⟩)
theorem ctX_held {G : vG} {l : Launch} {w : RW} {t k : Int} (hc : cOK w) : CTi G l yX_held cX_held 3 .int 1 [.inr 0, .inl t, .inl k] w (fun r u => r = cif ((0 ≤ t ∧ t < w 1 4) ∧ 0 ≤ k ∧ k < w (14 + t.toNat) 1) (w (20 + t.toNat) k) (-1) ∧ w = u) := by
  refine CTi.int (by decide) (Nat.le_of_ble_eq_true rfl) ?_
  intro X Q F hX hR
  subst hX
  show V G X 3 Q 0 [some (.inr 0), some (.inl t), some (.inl k)] [] w
  obtain ⟨k1, k2, k3, k4, k5, k6⟩ := hc
  refine V_aload_n (i := 0) F dX_held_0 rfl rfl ?_
  refine V_getr (ci := 6) (C := R_X) (T := T_X) (N := 5) F dX_held_1 (by first | rfl | assumption) rfl (j := 0) (by decide) rfl lfX_41 ?_
  refine V_iload_n (i := 1) F dX_held_4 rfl rfl ?_
  refine V_callVi F dX_held_5 lmX_143 miY_hasTrain mvY_hasTrain (ctY_hasTrain) (by decide) (by first | rfl | assumption) rfl rfl (Nat.le_of_ble_eq_true rfl) (fun r u hr => ?_)
  obtain ⟨rfl, rfl⟩ := hr
  refine V_if_eq F 31 dX_held_8 (by decide) (fun h8 => ?_) (fun h8 => ?_)
  · first | (replace h8 := bz_ne0.mp h8) | (replace h8 := bz_eq0.mp h8) | skip
    refine V_iconst F dX_held_31 (by decide) ?_
    exact hR _ _ _ _ dX_held_32 (by first | exact ⟨(cif_t (by omega)).symm, rfl⟩ | exact ⟨(cif_f (by omega)).symm, rfl⟩)
  · first | (replace h8 := bz_ne0.mp h8) | (replace h8 := bz_eq0.mp h8) | skip
    have ht := k6 t (by omega) (by omega)
    obtain ⟨t1, t2, t3, t4, t5⟩ := ht
    have b1 := tr14_at (i := t) (by omega)
    have b2 := tr14_sh (i := t) (by omega)
    have b3 := rn20_sh (i := t) (by omega)
    have b4 := od26_sh (i := t) (by omega)
    refine V_iload_n (i := 2) F dX_held_11 rfl rfl ?_
    refine V_if_lt F 31 dX_held_12 (by decide) (fun h12 => ?_) (fun h12 => ?_)
    · first | (replace h12 := bz_ne0.mp h12) | (replace h12 := bz_eq0.mp h12) | skip
      refine V_iconst F dX_held_31 (by decide) ?_
      exact hR _ _ _ _ dX_held_32 (by first | exact ⟨(cif_t (by omega)).symm, rfl⟩ | exact ⟨(cif_f (by omega)).symm, rfl⟩)
    · first | (replace h12 := bz_ne0.mp h12) | (replace h12 := bz_eq0.mp h12) | skip
      refine V_iload_n (i := 2) F dX_held_15 rfl rfl ?_
      refine V_aload_n (i := 0) F dX_held_16 rfl rfl ?_
      refine V_getr (ci := 6) (C := R_X) (T := T_X) (N := 5) F dX_held_17 (by first | rfl | assumption) rfl (j := 0) (by decide) rfl lfX_41 ?_
      refine V_getrN (ci := 5) (C := R_Y) (T := T_Y) (N := 8) F dX_held_20 (by first | rfl | assumption) rfl (j := 2) (by decide) rfl lfX_129 ?_
      refine V_iload_n (i := 1) F dX_held_23 rfl rfl ?_
      first
        | refine V_aald F dX_held_24 (by first | rfl | assumption) rfl (by omega) (by first | rfl | assumption) ?_
        | refine V_aaldA F dX_held_24 (by first | rfl | assumption) rfl (by omega) (by first | rfl | assumption) ?_
      refine V_getiN (ci := 3) (C := R_N) (T := T_N) (N := 10) F dX_held_25 (by first | rfl | assumption) rfl (j := 1) 1 rfl (by decide) rfl lfX_165 ?_
      refine V_icmp_lt F 33 dX_held_28 (by decide) (fun h28 => ?_) (fun h28 => ?_)
      · first | (replace h28 := bz_ne0.mp h28) | (replace h28 := bz_eq0.mp h28) | skip
        refine V_aload_n (i := 0) F dX_held_33 rfl rfl ?_
        refine V_getr (ci := 6) (C := R_X) (T := T_X) (N := 5) F dX_held_34 (by first | rfl | assumption) rfl (j := 0) (by decide) rfl lfX_41 ?_
        refine V_getrN (ci := 5) (C := R_Y) (T := T_Y) (N := 8) F dX_held_37 (by first | rfl | assumption) rfl (j := 2) (by decide) rfl lfX_129 ?_
        refine V_iload_n (i := 1) F dX_held_40 rfl rfl ?_
        first
          | refine V_aald F dX_held_41 (by first | rfl | assumption) rfl (by omega) (by first | rfl | assumption) ?_
          | refine V_aaldA F dX_held_41 (by first | rfl | assumption) rfl (by omega) (by first | rfl | assumption) ?_
        refine V_getrN (ci := 3) (C := R_N) (T := T_N) (N := 10) F dX_held_42 (by first | rfl | assumption) rfl (j := 0) (by decide) rfl lfX_166 ?_
        refine V_iload_n (i := 2) F dX_held_45 rfl rfl ?_
        first
          | refine V_sald F dX_held_46 (by decide) (by omega) (stt_in _ _) ?_
          | refine V_iald F dX_held_46 (by first | rfl | assumption) rfl (by omega) ?_
        exact hR _ _ _ _ dX_held_47 (by first | exact ⟨(cif_t (by omega)).symm, rfl⟩ | exact ⟨(cif_f (by omega)).symm, rfl⟩)
      · first | (replace h28 := bz_ne0.mp h28) | (replace h28 := bz_eq0.mp h28) | skip
        refine V_iconst F dX_held_31 (by decide) ?_
        exact hR _ _ _ _ dX_held_32 (by first | exact ⟨(cif_t (by omega)).symm, rfl⟩ | exact ⟨(cif_f (by omega)).symm, rfl⟩)
theorem ctX_motion {G : vG} {l : Launch} {w : RW} {t : Int} (hc : cOK w) : CTi G l yX_motion cX_motion 3 .int 1 [.inr 0, .inl t] w (fun r u => r = cif (0 ≤ t ∧ t < w 1 4) (w (14 + t.toNat) 1 - w (14 + t.toNat) 2 + 1000 * w (14 + t.toNat) 3 + 10000 * w (14 + t.toNat) 4) (-1) ∧ w = u) := by
  refine CTi.int (by decide) (Nat.le_of_ble_eq_true rfl) ?_
  intro X Q F hX hR
  subst hX
  show V G X 3 Q 0 [some (.inr 0), some (.inl t), none] [] w
  obtain ⟨k1, k2, k3, k4, k5, k6⟩ := hc
  refine V_aload_n (i := 0) F dX_motion_0 rfl rfl ?_
  refine V_getr (ci := 6) (C := R_X) (T := T_X) (N := 5) F dX_motion_1 (by first | rfl | assumption) rfl (j := 0) (by decide) rfl lfX_41 ?_
  refine V_iload_n (i := 1) F dX_motion_4 rfl rfl ?_
  refine V_callVi F dX_motion_5 lmX_143 miY_hasTrain mvY_hasTrain (ctY_hasTrain) (by decide) (by first | rfl | assumption) rfl rfl (Nat.le_of_ble_eq_true rfl) (fun r u hr => ?_)
  obtain ⟨rfl, rfl⟩ := hr
  refine V_if_ne F 13 dX_motion_8 (by decide) (fun h8 => ?_) (fun h8 => ?_)
  · first | (replace h8 := bz_ne0.mp h8) | (replace h8 := bz_eq0.mp h8) | skip
    have ht := k6 t (by omega) (by omega)
    obtain ⟨t1, t2, t3, t4, t5⟩ := ht
    have b1 := tr14_at (i := t) (by omega)
    have b2 := tr14_sh (i := t) (by omega)
    have b3 := rn20_sh (i := t) (by omega)
    have b4 := od26_sh (i := t) (by omega)
    refine V_aload_n (i := 0) F dX_motion_13 rfl rfl ?_
    refine V_getr (ci := 6) (C := R_X) (T := T_X) (N := 5) F dX_motion_14 (by first | rfl | assumption) rfl (j := 0) (by decide) rfl lfX_41 ?_
    refine V_getrN (ci := 5) (C := R_Y) (T := T_Y) (N := 8) F dX_motion_17 (by first | rfl | assumption) rfl (j := 2) (by decide) rfl lfX_129 ?_
    refine V_iload_n (i := 1) F dX_motion_20 rfl rfl ?_
    first
      | refine V_aald F dX_motion_21 (by first | rfl | assumption) rfl (by omega) (by first | rfl | assumption) ?_
      | refine V_aaldA F dX_motion_21 (by first | rfl | assumption) rfl (by omega) (by first | rfl | assumption) ?_
    refine V_astore_n (i := 2) F dX_motion_22 rfl (by decide) (by simp only [List.set_cons_zero, List.set_cons_succ]; exact rfl) ?_
    refine V_aload_n (i := 2) F dX_motion_23 rfl rfl ?_
    refine V_callVi F dX_motion_24 lmX_161 miN_ahead mvN_ahead (ctN_ahead b2 b3 b4 (by omega)) (by decide) (by first | rfl | assumption) rfl rfl (Nat.le_of_ble_eq_true rfl) (fun r u hr => ?_)
    obtain ⟨rfl, rfl⟩ := hr
    refine V_sipush F dX_motion_27 (by decide) ?_
    refine V_aload_n (i := 2) F dX_motion_30 rfl rfl ?_
    refine V_getiN (ci := 3) (C := R_N) (T := T_N) (N := 10) F dX_motion_31 (by first | rfl | assumption) rfl (j := 3) 3 rfl (by decide) rfl lfX_155 ?_
    refine V_imul F dX_motion_34 (by omega) ?_
    refine V_iadd F dX_motion_35 (by omega) ?_
    refine V_sipush F dX_motion_36 (by decide) ?_
    refine V_aload_n (i := 2) F dX_motion_39 rfl rfl ?_
    refine V_getiN (ci := 3) (C := R_N) (T := T_N) (N := 10) F dX_motion_40 (by first | rfl | assumption) rfl (j := 4) 4 rfl (by decide) rfl lfX_158 ?_
    refine V_imul F dX_motion_43 (by omega) ?_
    refine V_iadd F dX_motion_44 (by omega) ?_
    exact hR _ _ _ _ dX_motion_45 (by first | exact ⟨(cif_t h8).symm, rfl⟩ | exact ⟨(cif_f h8).symm, rfl⟩)
  · first | (replace h8 := bz_ne0.mp h8) | (replace h8 := bz_eq0.mp h8) | skip
    refine V_iconst F dX_motion_11 (by decide) ?_
    exact hR _ _ _ _ dX_motion_12 (by first | exact ⟨(cif_t h8).symm, rfl⟩ | exact ⟨(cif_f h8).symm, rfl⟩)
theorem ctX_load {G : vG} {l : Launch} {w : RW} {t : Int} (hc : cOK w) : CTi G l yX_load cX_load 2 .int 1 [.inr 0, .inl t] w (fun r u => r = cif (0 ≤ t ∧ t < w 1 4) (w (14 + t.toNat) 5) (-1) ∧ w = u) := by
  refine CTi.int (by decide) (Nat.le_of_ble_eq_true rfl) ?_
  intro X Q F hX hR
  subst hX
  show V G X 2 Q 0 [some (.inr 0), some (.inl t)] [] w
  obtain ⟨k1, k2, k3, k4, k5, k6⟩ := hc
  refine V_aload_n (i := 0) F dX_load_0 rfl rfl ?_
  refine V_getr (ci := 6) (C := R_X) (T := T_X) (N := 5) F dX_load_1 (by first | rfl | assumption) rfl (j := 0) (by decide) rfl lfX_41 ?_
  refine V_iload_n (i := 1) F dX_load_4 rfl rfl ?_
  refine V_callVi F dX_load_5 lmX_143 miY_hasTrain mvY_hasTrain (ctY_hasTrain) (by decide) (by first | rfl | assumption) rfl rfl (Nat.le_of_ble_eq_true rfl) (fun r u hr => ?_)
  obtain ⟨rfl, rfl⟩ := hr
  refine V_if_eq F 26 dX_load_8 (by decide) (fun h8 => ?_) (fun h8 => ?_)
  · first | (replace h8 := bz_ne0.mp h8) | (replace h8 := bz_eq0.mp h8) | skip
    refine V_iconst F dX_load_26 (by decide) ?_
    exact hR _ _ _ _ dX_load_27 (by first | exact ⟨(cif_t h8).symm, rfl⟩ | exact ⟨(cif_f h8).symm, rfl⟩)
  · first | (replace h8 := bz_ne0.mp h8) | (replace h8 := bz_eq0.mp h8) | skip
    have ht := k6 t (by omega) (by omega)
    obtain ⟨t1, t2, t3, t4, t5⟩ := ht
    have b1 := tr14_at (i := t) (by omega)
    have b2 := tr14_sh (i := t) (by omega)
    have b3 := rn20_sh (i := t) (by omega)
    have b4 := od26_sh (i := t) (by omega)
    refine V_aload_n (i := 0) F dX_load_11 rfl rfl ?_
    refine V_getr (ci := 6) (C := R_X) (T := T_X) (N := 5) F dX_load_12 (by first | rfl | assumption) rfl (j := 0) (by decide) rfl lfX_41 ?_
    refine V_getrN (ci := 5) (C := R_Y) (T := T_Y) (N := 8) F dX_load_15 (by first | rfl | assumption) rfl (j := 2) (by decide) rfl lfX_129 ?_
    refine V_iload_n (i := 1) F dX_load_18 rfl rfl ?_
    first
      | refine V_aald F dX_load_19 (by first | rfl | assumption) rfl (by omega) (by first | rfl | assumption) ?_
      | refine V_aaldA F dX_load_19 (by first | rfl | assumption) rfl (by omega) (by first | rfl | assumption) ?_
    refine V_getiN (ci := 3) (C := R_N) (T := T_N) (N := 10) F dX_load_20 (by first | rfl | assumption) rfl (j := 5) 5 rfl (by decide) rfl lfX_203 ?_
    refine V_goto F 27 dX_load_23 (by decide) ?_
    exact hR _ _ _ _ dX_load_27 (by first | exact ⟨(cif_t h8).symm, rfl⟩ | exact ⟨(cif_f h8).symm, rfl⟩)
theorem ctX_target {G : vG} {l : Launch} {w : RW} {t : Int} (hc : cOK w) : CTi G l yX_target cX_target 2 .int 1 [.inr 0, .inl t] w (fun r u => r = cif (0 ≤ t ∧ t < w 1 4) (if 0 < w (14 + t.toNat) 7 then w (26 + t.toNat) (w (14 + t.toNat) 8) else -1) (-1) ∧ w = u) := by
  refine CTi.int (by decide) (Nat.le_of_ble_eq_true rfl) ?_
  intro X Q F hX hR
  subst hX
  show V G X 2 Q 0 [some (.inr 0), some (.inl t)] [] w
  obtain ⟨k1, k2, k3, k4, k5, k6⟩ := hc
  refine V_aload_n (i := 0) F dX_target_0 rfl rfl ?_
  refine V_getr (ci := 6) (C := R_X) (T := T_X) (N := 5) F dX_target_1 (by first | rfl | assumption) rfl (j := 0) (by decide) rfl lfX_41 ?_
  refine V_iload_n (i := 1) F dX_target_4 rfl rfl ?_
  refine V_callVi F dX_target_5 lmX_143 miY_hasTrain mvY_hasTrain (ctY_hasTrain) (by decide) (by first | rfl | assumption) rfl rfl (Nat.le_of_ble_eq_true rfl) (fun r u hr => ?_)
  obtain ⟨rfl, rfl⟩ := hr
  refine V_if_eq F 26 dX_target_8 (by decide) (fun h8 => ?_) (fun h8 => ?_)
  · first | (replace h8 := bz_ne0.mp h8) | (replace h8 := bz_eq0.mp h8) | skip
    refine V_iconst F dX_target_26 (by decide) ?_
    exact hR _ _ _ _ dX_target_27 (by first | exact ⟨(cif_t h8).symm, rfl⟩ | exact ⟨(cif_f h8).symm, rfl⟩)
  · first | (replace h8 := bz_ne0.mp h8) | (replace h8 := bz_eq0.mp h8) | skip
    have ht := k6 t (by omega) (by omega)
    obtain ⟨t1, t2, t3, t4, t5⟩ := ht
    have b1 := tr14_at (i := t) (by omega)
    have b2 := tr14_sh (i := t) (by omega)
    have b3 := rn20_sh (i := t) (by omega)
    have b4 := od26_sh (i := t) (by omega)
    refine V_aload_n (i := 0) F dX_target_11 rfl rfl ?_
    refine V_getr (ci := 6) (C := R_X) (T := T_X) (N := 5) F dX_target_12 (by first | rfl | assumption) rfl (j := 0) (by decide) rfl lfX_41 ?_
    refine V_getrN (ci := 5) (C := R_Y) (T := T_Y) (N := 8) F dX_target_15 (by first | rfl | assumption) rfl (j := 2) (by decide) rfl lfX_129 ?_
    refine V_iload_n (i := 1) F dX_target_18 rfl rfl ?_
    first
      | refine V_aald F dX_target_19 (by first | rfl | assumption) rfl (by omega) (by first | rfl | assumption) ?_
      | refine V_aaldA F dX_target_19 (by first | rfl | assumption) rfl (by omega) (by first | rfl | assumption) ?_
    refine V_callVi F dX_target_20 lmX_206 miN_goesFor mvN_goesFor (ctN_goesFor b2 b3 b4 (by omega)) (by decide) (by first | rfl | assumption) rfl rfl (Nat.le_of_ble_eq_true rfl) (fun r u hr => ?_)
    obtain ⟨rfl, rfl⟩ := hr
    refine V_goto F 27 dX_target_23 (by decide) ?_
    exact hR _ _ _ _ dX_target_27 (by first | exact ⟨(cif_t h8).symm, rfl⟩ | exact ⟨(cif_f h8).symm, rfl⟩)
theorem ctX_waiting {G : vG} {l : Launch} {w : RW} {s : Int} (hc : cOK w) : CTi G l yX_waiting cX_waiting 2 .int 1 [.inr 0, .inl s] w (fun r u => r = cif (0 ≤ s ∧ s < w 1 3) (w (7 + s.toNat) 2) (-1) ∧ w = u) := by
  refine CTi.int (by decide) (Nat.le_of_ble_eq_true rfl) ?_
  intro X Q F hX hR
  subst hX
  show V G X 2 Q 0 [some (.inr 0), some (.inl s)] [] w
  obtain ⟨k1, k2, k3, k4, k5, k6⟩ := hc
  refine V_aload_n (i := 0) F dX_waiting_0 rfl rfl ?_
  refine V_getr (ci := 6) (C := R_X) (T := T_X) (N := 5) F dX_waiting_1 (by first | rfl | assumption) rfl (j := 0) (by decide) rfl lfX_41 ?_
  refine V_iload_n (i := 1) F dX_waiting_4 rfl rfl ?_
  refine V_callVi F dX_waiting_5 lmX_146 miY_isStation mvY_isStation (ctY_isStation) (by decide) (by first | rfl | assumption) rfl rfl (Nat.le_of_ble_eq_true rfl) (fun r u hr => ?_)
  obtain ⟨rfl, rfl⟩ := hr
  refine V_if_eq F 26 dX_waiting_8 (by decide) (fun h8 => ?_) (fun h8 => ?_)
  · first | (replace h8 := bz_ne0.mp h8) | (replace h8 := bz_eq0.mp h8) | skip
    refine V_iconst F dX_waiting_26 (by decide) ?_
    exact hR _ _ _ _ dX_waiting_27 (by first | exact ⟨(cif_t h8).symm, rfl⟩ | exact ⟨(cif_f h8).symm, rfl⟩)
  · first | (replace h8 := bz_ne0.mp h8) | (replace h8 := bz_eq0.mp h8) | skip
    have b1 := st7_at (i := s) (by omega)
    have b2 := st7_sh (i := s) (by omega)
    refine V_aload_n (i := 0) F dX_waiting_11 rfl rfl ?_
    refine V_getr (ci := 6) (C := R_X) (T := T_X) (N := 5) F dX_waiting_12 (by first | rfl | assumption) rfl (j := 0) (by decide) rfl lfX_41 ?_
    refine V_getrN (ci := 5) (C := R_Y) (T := T_Y) (N := 8) F dX_waiting_15 (by first | rfl | assumption) rfl (j := 1) (by decide) rfl lfX_106 ?_
    refine V_iload_n (i := 1) F dX_waiting_18 rfl rfl ?_
    first
      | refine V_aald F dX_waiting_19 (by first | rfl | assumption) rfl (by omega) (by first | rfl | assumption) ?_
      | refine V_aaldA F dX_waiting_19 (by first | rfl | assumption) rfl (by omega) (by first | rfl | assumption) ?_
    refine V_getiN (ci := 1) (C := R_T) (T := T_T) (N := 3) F dX_waiting_20 (by first | rfl | assumption) rfl (j := 2) 2 rfl (by decide) rfl lfX_209 ?_
    refine V_goto F 27 dX_waiting_23 (by decide) ?_
    exact hR _ _ _ _ dX_waiting_27 (by first | exact ⟨(cif_t h8).symm, rfl⟩ | exact ⟨(cif_f h8).symm, rfl⟩)
theorem ctX_produced {G : vG} {l : Launch} {w : RW}  : CTi G l yX_produced cX_produced 1 .int 0 [.inr 0] w (fun r u => r = w 1 5 ∧ w = u) := by
  refine CTi.int (by decide) (Nat.le_of_ble_eq_true rfl) ?_
  intro X Q F hX hR
  subst hX
  show V G X 1 Q 0 [some (.inr 0)] [] w
  refine V_aload_n (i := 0) F dX_produced_0 rfl rfl ?_
  refine V_getr (ci := 6) (C := R_X) (T := T_X) (N := 5) F dX_produced_1 (by first | rfl | assumption) rfl (j := 0) (by decide) rfl lfX_41 ?_
  refine V_getiN (ci := 5) (C := R_Y) (T := T_Y) (N := 8) F dX_produced_4 (by first | rfl | assumption) rfl (j := 5) 5 rfl (by decide) rfl lfX_210 ?_
  exact hR _ _ _ _ dX_produced_7 (⟨rfl, rfl⟩)
theorem ctX_delivered {G : vG} {l : Launch} {w : RW}  : CTi G l yX_delivered cX_delivered 1 .int 0 [.inr 0] w (fun r u => r = w 1 6 ∧ w = u) := by
  refine CTi.int (by decide) (Nat.le_of_ble_eq_true rfl) ?_
  intro X Q F hX hR
  subst hX
  show V G X 1 Q 0 [some (.inr 0)] [] w
  refine V_aload_n (i := 0) F dX_delivered_0 rfl rfl ?_
  refine V_getr (ci := 6) (C := R_X) (T := T_X) (N := 5) F dX_delivered_1 (by first | rfl | assumption) rfl (j := 0) (by decide) rfl lfX_41 ?_
  refine V_getiN (ci := 5) (C := R_Y) (T := T_Y) (N := 8) F dX_delivered_4 (by first | rfl | assumption) rfl (j := 6) 6 rfl (by decide) rfl lfX_213 ?_
  exact hR _ _ _ _ dX_delivered_7 (⟨rfl, rfl⟩)
theorem ctX_clock {G : vG} {l : Launch} {w : RW}  : CTi G l yX_clock cX_clock 1 .int 0 [.inr 0] w (fun r u => r = w 1 7 ∧ w = u) := by
  refine CTi.int (by decide) (Nat.le_of_ble_eq_true rfl) ?_
  intro X Q F hX hR
  subst hX
  show V G X 1 Q 0 [some (.inr 0)] [] w
  refine V_aload_n (i := 0) F dX_clock_0 rfl rfl ?_
  refine V_getr (ci := 6) (C := R_X) (T := T_X) (N := 5) F dX_clock_1 (by first | rfl | assumption) rfl (j := 0) (by decide) rfl lfX_41 ?_
  refine V_getiN (ci := 5) (C := R_Y) (T := T_Y) (N := 8) F dX_clock_4 (by first | rfl | assumption) rfl (j := 7) 7 rfl (by decide) rfl lfX_181 ?_
  exact hR _ _ _ _ dX_clock_7 (⟨rfl, rfl⟩)
def trOK (w : RW) (x y p b : Int) : Prop := isT (w 2 0) (w 2 1) x y ∧ (0 ≤ p ∧ p < 6) ∧ ¬ hdT w (x + 8 * y) ∧ ¬ bz (tb (w 3 (x + 8 * y)) p) = b ∧ ¬ (b = 0 ∧ onS w (x + 8 * y + 64 * p))
def trW (w : RW) (x y p : Int) : RW := upw (upw (upw w 3 (x + 8 * y) (ixor (w 3 (x + 8 * y)) (p2 p))) 4 (x + 8 * y + 64 * p) 0) 63 1 0
theorem ctX_track {G : vG} {l : Launch} {w : RW} {x y p b : Int} (hb : b = 0 ∨ b = 1) (hc : cOK w) : CTi G l yX_track cX_track 7 .boolean 2 [.inr 0, .inl x, .inl y, .inl p, .inl b] w (fun r u => (trOK w x y p b ∧ r = 1 ∧ trW w x y p = u) ∨ (¬ trOK w x y p b ∧ r = 0 ∧ w = u)) := by
  refine CTi.bool (by decide) (Nat.le_of_ble_eq_true rfl) ?_
  intro X Q F hX hR
  subst hX
  show V G X 7 Q 0 [some (.inr 0), some (.inl x), some (.inl y), some (.inl p), some (.inl b), none, none] [] w
  obtain ⟨k1, k2, k3, k4, k5, k6⟩ := hc
  refine V_aload_n (i := 0) F dX_track_0 rfl rfl ?_
  refine V_getr (ci := 6) (C := R_X) (T := T_X) (N := 5) F dX_track_1 (by first | rfl | assumption) rfl (j := 0) (by decide) rfl lfX_41 ?_
  refine V_getrN (ci := 5) (C := R_Y) (T := T_Y) (N := 8) F dX_track_4 (by first | rfl | assumption) rfl (j := 0) (by decide) rfl lfX_48 ?_
  refine V_iload_n (i := 1) F dX_track_7 rfl rfl ?_
  refine V_iload_n (i := 2) F dX_track_8 rfl rfl ?_
  refine V_callVi F dX_track_9 lmX_52 miG_hasTile mvG_hasTile (ctG_hasTile) (by decide) (by first | rfl | assumption) rfl rfl (Nat.le_of_ble_eq_true rfl) (fun r u hr => ?_)
  obtain ⟨rfl, rfl⟩ := hr
  refine V_if_eq F 25 dX_track_12 (by decide) (fun h12 => ?_) (fun h12 => ?_)
  · first | (replace h12 := bz_ne0.mp h12) | (replace h12 := bz_eq0.mp h12) | skip
    refine V_iconst F dX_track_25 (by decide) ?_
    exact hR _ _ _ _ dX_track_26 (by first | exact Or.inl rfl | exact Or.inr rfl | exact bz_01 _ | assumption) (by
      first
      | exact Or.inr ⟨fun z => h12 z.1, rfl, rfl⟩
      | exact Or.inr ⟨fun z => by have := z.2.1; omega, rfl, rfl⟩
      | exact Or.inr ⟨fun z => z.2.2.1 h54, rfl, rfl⟩
      | exact Or.inr ⟨fun z => z.2.2.2.1 h72, rfl, rfl⟩
      | exact Or.inr ⟨fun z => z.2.2.2.2 ⟨h79, Classical.byContradiction (fun q => h92 (hon.mpr q))⟩, rfl, rfl⟩
      | exact Or.inl ⟨⟨h12, by omega, h54, h72, fun z => h79 z.1⟩, rfl, rfl⟩
      | exact Or.inl ⟨⟨h12, by omega, h54, h72, fun z => (hon.mp h92) z.2⟩, rfl, rfl⟩)
  · first | (replace h12 := bz_ne0.mp h12) | (replace h12 := bz_eq0.mp h12) | skip
    have hh := h12
    unfold isT at hh
    refine V_iload_n (i := 3) F dX_track_15 rfl rfl ?_
    refine V_if_lt F 25 dX_track_16 (by decide) (fun h16 => ?_) (fun h16 => ?_)
    · first | (replace h16 := bz_ne0.mp h16) | (replace h16 := bz_eq0.mp h16) | skip
      refine V_iconst F dX_track_25 (by decide) ?_
      exact hR _ _ _ _ dX_track_26 (by first | exact Or.inl rfl | exact Or.inr rfl | exact bz_01 _ | assumption) (by
        first
        | exact Or.inr ⟨fun z => h12 z.1, rfl, rfl⟩
        | exact Or.inr ⟨fun z => by have := z.2.1; omega, rfl, rfl⟩
        | exact Or.inr ⟨fun z => z.2.2.1 h54, rfl, rfl⟩
        | exact Or.inr ⟨fun z => z.2.2.2.1 h72, rfl, rfl⟩
        | exact Or.inr ⟨fun z => z.2.2.2.2 ⟨h79, Classical.byContradiction (fun q => h92 (hon.mpr q))⟩, rfl, rfl⟩
        | exact Or.inl ⟨⟨h12, by omega, h54, h72, fun z => h79 z.1⟩, rfl, rfl⟩
        | exact Or.inl ⟨⟨h12, by omega, h54, h72, fun z => (hon.mp h92) z.2⟩, rfl, rfl⟩)
    · first | (replace h16 := bz_ne0.mp h16) | (replace h16 := bz_eq0.mp h16) | skip
      refine V_iload_n (i := 3) F dX_track_19 rfl rfl ?_
      refine V_bipush F dX_track_20 (by decide) ?_
      refine V_icmp_lt F 27 dX_track_22 (by decide) (fun h22 => ?_) (fun h22 => ?_)
      · first | (replace h22 := bz_ne0.mp h22) | (replace h22 := bz_eq0.mp h22) | skip
        refine V_iload_n (i := 1) F dX_track_27 rfl rfl ?_
        refine V_iload_n (i := 2) F dX_track_28 rfl rfl ?_
        refine V_callSi F dX_track_29 lmX_58 miS_tile msS_tile (ctS_tile (by omega)) (by decide) rfl (Nat.le_of_ble_eq_true rfl) (fun r u hr => ?_)
        obtain ⟨rfl, rfl⟩ := hr
        refine V_istore F dX_track_32 (by decide) (by simp only [List.set_cons_zero, List.set_cons_succ]; exact rfl) ?_
        refine V_iload F dX_track_34 rfl ?_
        refine V_iload_n (i := 3) F dX_track_36 rfl rfl ?_
        refine V_callSi F dX_track_37 lmX_63 miS_place msS_place (ctS_place (by omega)) (by decide) rfl (Nat.le_of_ble_eq_true rfl) (fun r u hr => ?_)
        obtain ⟨rfl, rfl⟩ := hr
        refine V_istore F dX_track_40 (by decide) (by simp only [List.set_cons_zero, List.set_cons_succ]; exact rfl) ?_
        refine V_aload_n (i := 0) F dX_track_42 rfl rfl ?_
        refine V_getr (ci := 6) (C := R_X) (T := T_X) (N := 5) F dX_track_43 (by first | rfl | assumption) rfl (j := 0) (by decide) rfl lfX_41 ?_
        refine V_getrN (ci := 5) (C := R_Y) (T := T_Y) (N := 8) F dX_track_46 (by first | rfl | assumption) rfl (j := 0) (by decide) rfl lfX_48 ?_
        refine V_iload F dX_track_49 rfl ?_
        refine V_callVi F dX_track_51 lmX_66 miG_isHeld mvG_isHeld (ctG_isHeld (by omega)) (by decide) (by first | rfl | assumption) rfl rfl (Nat.le_of_ble_eq_true rfl) (fun r u hr => ?_)
        obtain ⟨rfl, rfl⟩ := hr
        refine V_if_ne F 75 dX_track_54 (by decide) (fun h54 => ?_) (fun h54 => ?_)
        · first | (replace h54 := bz_ne0.mp h54) | (replace h54 := bz_eq0.mp h54) | skip
          refine V_iconst F dX_track_75 (by decide) ?_
          exact hR _ _ _ _ dX_track_76 (by first | exact Or.inl rfl | exact Or.inr rfl | exact bz_01 _ | assumption) (by
            first
            | exact Or.inr ⟨fun z => h12 z.1, rfl, rfl⟩
            | exact Or.inr ⟨fun z => by have := z.2.1; omega, rfl, rfl⟩
            | exact Or.inr ⟨fun z => z.2.2.1 h54, rfl, rfl⟩
            | exact Or.inr ⟨fun z => z.2.2.2.1 h72, rfl, rfl⟩
            | exact Or.inr ⟨fun z => z.2.2.2.2 ⟨h79, Classical.byContradiction (fun q => h92 (hon.mpr q))⟩, rfl, rfl⟩
            | exact Or.inl ⟨⟨h12, by omega, h54, h72, fun z => h79 z.1⟩, rfl, rfl⟩
            | exact Or.inl ⟨⟨h12, by omega, h54, h72, fun z => (hon.mp h92) z.2⟩, rfl, rfl⟩)
        · first | (replace h54 := bz_ne0.mp h54) | (replace h54 := bz_eq0.mp h54) | skip
          refine V_aload_n (i := 0) F dX_track_57 rfl rfl ?_
          refine V_getr (ci := 6) (C := R_X) (T := T_X) (N := 5) F dX_track_58 (by first | rfl | assumption) rfl (j := 0) (by decide) rfl lfX_41 ?_
          refine V_getrN (ci := 5) (C := R_Y) (T := T_Y) (N := 8) F dX_track_61 (by first | rfl | assumption) rfl (j := 0) (by decide) rfl lfX_48 ?_
          refine V_iload F dX_track_64 rfl ?_
          refine V_iload_n (i := 3) F dX_track_66 rfl rfl ?_
          refine V_callVi F dX_track_67 lmX_70 miG_hasPiece mvG_hasPiece (ctG_hasPiece (by omega) (by omega) (k2 _ (by omega) (by omega)).1) (by decide) (by first | rfl | assumption) rfl rfl (Nat.le_of_ble_eq_true rfl) (fun r u hr => ?_)
          obtain ⟨rfl, rfl⟩ := hr
          refine V_iload F dX_track_70 rfl ?_
          refine V_icmp_ne F 77 dX_track_72 (by decide) (fun h72 => ?_) (fun h72 => ?_)
          · first | (replace h72 := bz_ne0.mp h72) | (replace h72 := bz_eq0.mp h72) | skip
            refine V_iload F dX_track_77 rfl ?_
            refine V_if_ne F 97 dX_track_79 (by decide) (fun h79 => ?_) (fun h79 => ?_)
            · first | (replace h79 := bz_ne0.mp h79) | (replace h79 := bz_eq0.mp h79) | skip
              refine V_aload_n (i := 0) F dX_track_97 rfl rfl ?_
              refine V_getr (ci := 6) (C := R_X) (T := T_X) (N := 5) F dX_track_98 (by first | rfl | assumption) rfl (j := 0) (by decide) rfl lfX_41 ?_
              refine V_getrN (ci := 5) (C := R_Y) (T := T_Y) (N := 8) F dX_track_101 (by first | rfl | assumption) rfl (j := 0) (by decide) rfl lfX_48 ?_
              refine V_getrN (ci := 0) (C := R_G) (T := T_G) (N := 5) F dX_track_104 (by first | rfl | assumption) rfl (j := 2) (by decide) rfl lfX_77 ?_
              refine V_iload F dX_track_107 rfl ?_
              refine V_dup2 F dX_track_109 ?_
              first
                | refine V_sald F dX_track_110 (by decide) (by omega) (stt_in _ _) ?_
                | refine V_iald F dX_track_110 (by first | rfl | assumption) rfl (by omega) ?_
              refine V_iconst F dX_track_111 (by decide) ?_
              refine V_iload_n (i := 3) F dX_track_112 rfl rfl ?_
              refine V_ishl F _ dX_track_113 (ishl_1 (by omega)) ?_
              refine V_ixor F _ dX_track_114 rfl ?_
              refine V_iast F dX_track_115 (by first | rfl | assumption) rfl (by omega) ?_
              refine V_aload_n (i := 0) F dX_track_116 rfl rfl ?_
              refine V_getr (ci := 6) (C := R_X) (T := T_X) (N := 5) F dX_track_117 (by first | rfl | assumption) rfl (j := 0) (by decide) rfl lfX_41 ?_
              refine V_getrN (ci := 5) (C := R_Y) (T := T_Y) (N := 8) F dX_track_120 (by first | rfl | assumption) rfl (j := 0) (by decide) rfl lfX_48 ?_
              refine V_getrN (ci := 0) (C := R_G) (T := T_G) (N := 5) F dX_track_123 (by first | rfl | assumption) rfl (j := 3) (by decide) rfl lfX_80 ?_
              refine V_iload F dX_track_126 rfl ?_
              refine V_iconst F dX_track_128 (by decide) ?_
              refine V_iast F dX_track_129 (by first | rfl | assumption) rfl (by omega) ?_
              refine V_aload_n (i := 0) F dX_track_130 rfl rfl ?_
              refine V_getr (ci := 6) (C := R_X) (T := T_X) (N := 5) F dX_track_131 (by first | rfl | assumption) rfl (j := 2) (by decide) rfl lfX_12 ?_
              refine V_callVv F dX_track_134 lmX_83 miW_forget mvW_forget (ctW_forget) (by decide) (by first | rfl | assumption) rfl rfl (Nat.le_of_ble_eq_true rfl) (fun u hr => ?_)
              subst hr
              refine V_iconst F dX_track_137 (by decide) ?_
              exact hR _ _ _ _ dX_track_138 (by first | exact Or.inl rfl | exact Or.inr rfl | exact bz_01 _ | assumption) (by
                first
                | exact Or.inr ⟨fun z => h12 z.1, rfl, rfl⟩
                | exact Or.inr ⟨fun z => by have := z.2.1; omega, rfl, rfl⟩
                | exact Or.inr ⟨fun z => z.2.2.1 h54, rfl, rfl⟩
                | exact Or.inr ⟨fun z => z.2.2.2.1 h72, rfl, rfl⟩
                | exact Or.inr ⟨fun z => z.2.2.2.2 ⟨h79, Classical.byContradiction (fun q => h92 (hon.mpr q))⟩, rfl, rfl⟩
                | exact Or.inl ⟨⟨h12, by omega, h54, h72, fun z => h79 z.1⟩, rfl, rfl⟩
                | exact Or.inl ⟨⟨h12, by omega, h54, h72, fun z => (hon.mp h92) z.2⟩, rfl, rfl⟩)
            · first | (replace h79 := bz_ne0.mp h79) | (replace h79 := bz_eq0.mp h79) | skip
              refine V_aload_n (i := 0) F dX_track_82 rfl rfl ?_
              refine V_getr (ci := 6) (C := R_X) (T := T_X) (N := 5) F dX_track_83 (by first | rfl | assumption) rfl (j := 0) (by decide) rfl lfX_41 ?_
              refine V_iload F dX_track_86 rfl ?_
              refine V_callVi F dX_track_88 lmX_73 miY_stationOn mvY_stationOn (ctY_stationOn (by omega)) (by decide) (by first | rfl | assumption) rfl rfl (Nat.le_of_ble_eq_true rfl) (fun r u hr => ?_)
              obtain ⟨hon, rfl⟩ := hr
              refine V_iconst F dX_track_91 (by decide) ?_
              refine V_icmp_eq F 97 dX_track_92 (by decide) (fun h92 => ?_) (fun h92 => ?_)
              · first | (replace h92 := bz_ne0.mp h92) | (replace h92 := bz_eq0.mp h92) | skip
                refine V_aload_n (i := 0) F dX_track_97 rfl rfl ?_
                refine V_getr (ci := 6) (C := R_X) (T := T_X) (N := 5) F dX_track_98 (by first | rfl | assumption) rfl (j := 0) (by decide) rfl lfX_41 ?_
                refine V_getrN (ci := 5) (C := R_Y) (T := T_Y) (N := 8) F dX_track_101 (by first | rfl | assumption) rfl (j := 0) (by decide) rfl lfX_48 ?_
                refine V_getrN (ci := 0) (C := R_G) (T := T_G) (N := 5) F dX_track_104 (by first | rfl | assumption) rfl (j := 2) (by decide) rfl lfX_77 ?_
                refine V_iload F dX_track_107 rfl ?_
                refine V_dup2 F dX_track_109 ?_
                first
                  | refine V_sald F dX_track_110 (by decide) (by omega) (stt_in _ _) ?_
                  | refine V_iald F dX_track_110 (by first | rfl | assumption) rfl (by omega) ?_
                refine V_iconst F dX_track_111 (by decide) ?_
                refine V_iload_n (i := 3) F dX_track_112 rfl rfl ?_
                refine V_ishl F _ dX_track_113 (ishl_1 (by omega)) ?_
                refine V_ixor F _ dX_track_114 rfl ?_
                refine V_iast F dX_track_115 (by first | rfl | assumption) rfl (by omega) ?_
                refine V_aload_n (i := 0) F dX_track_116 rfl rfl ?_
                refine V_getr (ci := 6) (C := R_X) (T := T_X) (N := 5) F dX_track_117 (by first | rfl | assumption) rfl (j := 0) (by decide) rfl lfX_41 ?_
                refine V_getrN (ci := 5) (C := R_Y) (T := T_Y) (N := 8) F dX_track_120 (by first | rfl | assumption) rfl (j := 0) (by decide) rfl lfX_48 ?_
                refine V_getrN (ci := 0) (C := R_G) (T := T_G) (N := 5) F dX_track_123 (by first | rfl | assumption) rfl (j := 3) (by decide) rfl lfX_80 ?_
                refine V_iload F dX_track_126 rfl ?_
                refine V_iconst F dX_track_128 (by decide) ?_
                refine V_iast F dX_track_129 (by first | rfl | assumption) rfl (by omega) ?_
                refine V_aload_n (i := 0) F dX_track_130 rfl rfl ?_
                refine V_getr (ci := 6) (C := R_X) (T := T_X) (N := 5) F dX_track_131 (by first | rfl | assumption) rfl (j := 2) (by decide) rfl lfX_12 ?_
                refine V_callVv F dX_track_134 lmX_83 miW_forget mvW_forget (ctW_forget) (by decide) (by first | rfl | assumption) rfl rfl (Nat.le_of_ble_eq_true rfl) (fun u hr => ?_)
                subst hr
                refine V_iconst F dX_track_137 (by decide) ?_
                exact hR _ _ _ _ dX_track_138 (by first | exact Or.inl rfl | exact Or.inr rfl | exact bz_01 _ | assumption) (by
                  first
                  | exact Or.inr ⟨fun z => h12 z.1, rfl, rfl⟩
                  | exact Or.inr ⟨fun z => by have := z.2.1; omega, rfl, rfl⟩
                  | exact Or.inr ⟨fun z => z.2.2.1 h54, rfl, rfl⟩
                  | exact Or.inr ⟨fun z => z.2.2.2.1 h72, rfl, rfl⟩
                  | exact Or.inr ⟨fun z => z.2.2.2.2 ⟨h79, Classical.byContradiction (fun q => h92 (hon.mpr q))⟩, rfl, rfl⟩
                  | exact Or.inl ⟨⟨h12, by omega, h54, h72, fun z => h79 z.1⟩, rfl, rfl⟩
                  | exact Or.inl ⟨⟨h12, by omega, h54, h72, fun z => (hon.mp h92) z.2⟩, rfl, rfl⟩)
              · first | (replace h92 := bz_ne0.mp h92) | (replace h92 := bz_eq0.mp h92) | skip
                refine V_iconst F dX_track_95 (by decide) ?_
                exact hR _ _ _ _ dX_track_96 (by first | exact Or.inl rfl | exact Or.inr rfl | exact bz_01 _ | assumption) (by
                  first
                  | exact Or.inr ⟨fun z => h12 z.1, rfl, rfl⟩
                  | exact Or.inr ⟨fun z => by have := z.2.1; omega, rfl, rfl⟩
                  | exact Or.inr ⟨fun z => z.2.2.1 h54, rfl, rfl⟩
                  | exact Or.inr ⟨fun z => z.2.2.2.1 h72, rfl, rfl⟩
                  | exact Or.inr ⟨fun z => z.2.2.2.2 ⟨h79, Classical.byContradiction (fun q => h92 (hon.mpr q))⟩, rfl, rfl⟩
                  | exact Or.inl ⟨⟨h12, by omega, h54, h72, fun z => h79 z.1⟩, rfl, rfl⟩
                  | exact Or.inl ⟨⟨h12, by omega, h54, h72, fun z => (hon.mp h92) z.2⟩, rfl, rfl⟩)
          · first | (replace h72 := bz_ne0.mp h72) | (replace h72 := bz_eq0.mp h72) | skip
            refine V_iconst F dX_track_75 (by decide) ?_
            exact hR _ _ _ _ dX_track_76 (by first | exact Or.inl rfl | exact Or.inr rfl | exact bz_01 _ | assumption) (by
              first
              | exact Or.inr ⟨fun z => h12 z.1, rfl, rfl⟩
              | exact Or.inr ⟨fun z => by have := z.2.1; omega, rfl, rfl⟩
              | exact Or.inr ⟨fun z => z.2.2.1 h54, rfl, rfl⟩
              | exact Or.inr ⟨fun z => z.2.2.2.1 h72, rfl, rfl⟩
              | exact Or.inr ⟨fun z => z.2.2.2.2 ⟨h79, Classical.byContradiction (fun q => h92 (hon.mpr q))⟩, rfl, rfl⟩
              | exact Or.inl ⟨⟨h12, by omega, h54, h72, fun z => h79 z.1⟩, rfl, rfl⟩
              | exact Or.inl ⟨⟨h12, by omega, h54, h72, fun z => (hon.mp h92) z.2⟩, rfl, rfl⟩)
      · first | (replace h22 := bz_ne0.mp h22) | (replace h22 := bz_eq0.mp h22) | skip
        refine V_iconst F dX_track_25 (by decide) ?_
        exact hR _ _ _ _ dX_track_26 (by first | exact Or.inl rfl | exact Or.inr rfl | exact bz_01 _ | assumption) (by
          first
          | exact Or.inr ⟨fun z => h12 z.1, rfl, rfl⟩
          | exact Or.inr ⟨fun z => by have := z.2.1; omega, rfl, rfl⟩
          | exact Or.inr ⟨fun z => z.2.2.1 h54, rfl, rfl⟩
          | exact Or.inr ⟨fun z => z.2.2.2.1 h72, rfl, rfl⟩
          | exact Or.inr ⟨fun z => z.2.2.2.2 ⟨h79, Classical.byContradiction (fun q => h92 (hon.mpr q))⟩, rfl, rfl⟩
          | exact Or.inl ⟨⟨h12, by omega, h54, h72, fun z => h79 z.1⟩, rfl, rfl⟩
          | exact Or.inl ⟨⟨h12, by omega, h54, h72, fun z => (hon.mp h92) z.2⟩, rfl, rfl⟩)
def sgOK (w : RW) (x y p e b : Int) : Prop := hTr w x y p ∧ hsE p e ∧ ¬ hdT w (x + 8 * y) ∧ ¬ onS w (x + 8 * y + 64 * p) ∧ ¬ bz (tb (w 4 (x + 8 * y + 64 * p)) e) = b
def sgW (w : RW) (x y p e : Int) : RW := upw (upw w 4 (x + 8 * y + 64 * p) (ixor (w 4 (x + 8 * y + 64 * p)) (p2 e))) 63 1 0
theorem hsE_rng {p e : Int} (hp : 0 ≤ p ∧ p < 6) (h : hsE p e) : 0 ≤ e ∧ e < 4 := by
  have h0 := stt_e (i := 0) (by omega) hp
  have h1 := stt_e (i := 1) (by omega) hp
  unfold hsE at h
  omega
theorem ctX_signal {G : vG} {l : Launch} {w : RW} {x y p e b : Int} (hb : b = 0 ∨ b = 1) (hc : cOK w) : CTi G l yX_signal cX_signal 8 .boolean 2 [.inr 0, .inl x, .inl y, .inl p, .inl e, .inl b] w (fun r u => (sgOK w x y p e b ∧ r = 1 ∧ sgW w x y p e = u) ∨ (¬ sgOK w x y p e b ∧ r = 0 ∧ w = u)) := by
  refine CTi.bool (by decide) (Nat.le_of_ble_eq_true rfl) ?_
  intro X Q F hX hR
  subst hX
  show V G X 8 Q 0 [some (.inr 0), some (.inl x), some (.inl y), some (.inl p), some (.inl e), some (.inl b), none, none] [] w
  obtain ⟨k1, k2, k3, k4, k5, k6⟩ := hc
  refine V_aload_n (i := 0) F dX_signal_0 rfl rfl ?_
  refine V_getr (ci := 6) (C := R_X) (T := T_X) (N := 5) F dX_signal_1 (by first | rfl | assumption) rfl (j := 0) (by decide) rfl lfX_41 ?_
  refine V_getrN (ci := 5) (C := R_Y) (T := T_Y) (N := 8) F dX_signal_4 (by first | rfl | assumption) rfl (j := 0) (by decide) rfl lfX_48 ?_
  refine V_iload_n (i := 1) F dX_signal_7 rfl rfl ?_
  refine V_iload_n (i := 2) F dX_signal_8 rfl rfl ?_
  refine V_iload_n (i := 3) F dX_signal_9 rfl rfl ?_
  refine V_callVi F dX_signal_10 lmX_86 miG_hasTrack mvG_hasTrack (ctG_hasTrack (by omega) (fun t t1 t2 => (k2 t t1 t2).1)) (by decide) (by first | rfl | assumption) rfl rfl (Nat.le_of_ble_eq_true rfl) (fun r u hr => ?_)
  obtain ⟨rfl, rfl⟩ := hr
  show V _ _ _ _ _ _ (.inl (bz (hTr w x y p)) :: _) _
  refine V_if_eq F 25 dX_signal_13 (by decide) (fun h13 => ?_) (fun h13 => ?_)
  · first | (replace h13 := bz_ne0.mp h13) | (replace h13 := bz_eq0.mp h13) | skip
    refine V_iconst F dX_signal_25 (by decide) ?_
    exact hR _ _ _ _ dX_signal_26 (by first | exact Or.inl rfl | exact Or.inr rfl | exact bz_01 _ | assumption) (by
      first
      | exact Or.inr ⟨fun z => h13 z.1, rfl, rfl⟩
      | exact Or.inr ⟨fun z => h22 z.2.1, rfl, rfl⟩
      | exact Or.inr ⟨fun z => z.2.2.1 h54, rfl, rfl⟩
      | exact Or.inr ⟨fun z => h67 (hon.mpr z.2.2.2.1), rfl, rfl⟩
      | exact Or.inr ⟨fun z => z.2.2.2.2 h91, rfl, rfl⟩
      | exact Or.inl ⟨⟨h13, h22, h54, hon.mp h67, h91⟩, rfl, rfl⟩)
  · first | (replace h13 := bz_ne0.mp h13) | (replace h13 := bz_eq0.mp h13) | skip
    have hh := h13.1
    unfold isT at hh
    have hp := h13.2.1
    refine V_iload_n (i := 3) F dX_signal_16 rfl rfl ?_
    refine V_iload F dX_signal_17 rfl ?_
    refine V_callSi F dX_signal_19 lmX_90 miS_hasEdge msS_hasEdge (ctS_hasEdge (by omega)) (by decide) rfl (Nat.le_of_ble_eq_true rfl) (fun r u hr => ?_)
    obtain ⟨rfl, rfl⟩ := hr
    refine V_if_ne F 27 dX_signal_22 (by decide) (fun h22 => ?_) (fun h22 => ?_)
    · first | (replace h22 := bz_ne0.mp h22) | (replace h22 := bz_eq0.mp h22) | skip
      have hE := hsE_rng hp h22
      have m1 : (x + 8 * y + 64 * p + 512 * e) % 512 = x + 8 * y + 64 * p := by omega
      have m2 : (x + 8 * y + 64 * p + 512 * e) / 512 = e := by omega
      refine V_iload_n (i := 1) F dX_signal_27 rfl rfl ?_
      refine V_iload_n (i := 2) F dX_signal_28 rfl rfl ?_
      refine V_callSi F dX_signal_29 lmX_58 miS_tile msS_tile (ctS_tile (by omega)) (by decide) rfl (Nat.le_of_ble_eq_true rfl) (fun r u hr => ?_)
      obtain ⟨rfl, rfl⟩ := hr
      refine V_istore F dX_signal_32 (by decide) (by simp only [List.set_cons_zero, List.set_cons_succ]; exact rfl) ?_
      refine V_iload F dX_signal_34 rfl ?_
      refine V_iload_n (i := 3) F dX_signal_36 rfl rfl ?_
      refine V_callSi F dX_signal_37 lmX_63 miS_place msS_place (ctS_place (by omega)) (by decide) rfl (Nat.le_of_ble_eq_true rfl) (fun r u hr => ?_)
      obtain ⟨rfl, rfl⟩ := hr
      refine V_istore F dX_signal_40 (by decide) (by simp only [List.set_cons_zero, List.set_cons_succ]; exact rfl) ?_
      refine V_aload_n (i := 0) F dX_signal_42 rfl rfl ?_
      refine V_getr (ci := 6) (C := R_X) (T := T_X) (N := 5) F dX_signal_43 (by first | rfl | assumption) rfl (j := 0) (by decide) rfl lfX_41 ?_
      refine V_getrN (ci := 5) (C := R_Y) (T := T_Y) (N := 8) F dX_signal_46 (by first | rfl | assumption) rfl (j := 0) (by decide) rfl lfX_48 ?_
      refine V_iload F dX_signal_49 rfl ?_
      refine V_callVi F dX_signal_51 lmX_66 miG_isHeld mvG_isHeld (ctG_isHeld (by omega)) (by decide) (by first | rfl | assumption) rfl rfl (Nat.le_of_ble_eq_true rfl) (fun r u hr => ?_)
      obtain ⟨rfl, rfl⟩ := hr
      refine V_if_ne F 70 dX_signal_54 (by decide) (fun h54 => ?_) (fun h54 => ?_)
      · first | (replace h54 := bz_ne0.mp h54) | (replace h54 := bz_eq0.mp h54) | skip
        refine V_iconst F dX_signal_70 (by decide) ?_
        exact hR _ _ _ _ dX_signal_71 (by first | exact Or.inl rfl | exact Or.inr rfl | exact bz_01 _ | assumption) (by
          first
          | exact Or.inr ⟨fun z => h13 z.1, rfl, rfl⟩
          | exact Or.inr ⟨fun z => h22 z.2.1, rfl, rfl⟩
          | exact Or.inr ⟨fun z => z.2.2.1 h54, rfl, rfl⟩
          | exact Or.inr ⟨fun z => h67 (hon.mpr z.2.2.2.1), rfl, rfl⟩
          | exact Or.inr ⟨fun z => z.2.2.2.2 h91, rfl, rfl⟩
          | exact Or.inl ⟨⟨h13, h22, h54, hon.mp h67, h91⟩, rfl, rfl⟩)
      · first | (replace h54 := bz_ne0.mp h54) | (replace h54 := bz_eq0.mp h54) | skip
        refine V_aload_n (i := 0) F dX_signal_57 rfl rfl ?_
        refine V_getr (ci := 6) (C := R_X) (T := T_X) (N := 5) F dX_signal_58 (by first | rfl | assumption) rfl (j := 0) (by decide) rfl lfX_41 ?_
        refine V_iload F dX_signal_61 rfl ?_
        refine V_callVi F dX_signal_63 lmX_73 miY_stationOn mvY_stationOn (ctY_stationOn (by omega)) (by decide) (by first | rfl | assumption) rfl rfl (Nat.le_of_ble_eq_true rfl) (fun r u hr => ?_)
        obtain ⟨hon, rfl⟩ := hr
        refine V_iconst F dX_signal_66 (by decide) ?_
        refine V_icmp_eq F 72 dX_signal_67 (by decide) (fun h67 => ?_) (fun h67 => ?_)
        · first | (replace h67 := bz_ne0.mp h67) | (replace h67 := bz_eq0.mp h67) | skip
          refine V_aload_n (i := 0) F dX_signal_72 rfl rfl ?_
          refine V_getr (ci := 6) (C := R_X) (T := T_X) (N := 5) F dX_signal_73 (by first | rfl | assumption) rfl (j := 0) (by decide) rfl lfX_41 ?_
          refine V_getrN (ci := 5) (C := R_Y) (T := T_Y) (N := 8) F dX_signal_76 (by first | rfl | assumption) rfl (j := 0) (by decide) rfl lfX_48 ?_
          refine V_iload F dX_signal_79 rfl ?_
          refine V_iload F dX_signal_81 rfl ?_
          refine V_callSi F dX_signal_83 lmX_93 miS_run msS_run (ctS_run (by omega)) (by decide) rfl (Nat.le_of_ble_eq_true rfl) (fun r u hr => ?_)
          obtain ⟨rfl, rfl⟩ := hr
          refine V_callVi F dX_signal_86 lmX_96 miG_isLit mvG_isLit (ctG_isLit (by omega) (by omega) (k3 _ (by omega) (by omega)).1) (by decide) (by first | rfl | assumption) rfl rfl (Nat.le_of_ble_eq_true rfl) (fun r u hr => ?_)
          obtain ⟨rfl, rfl⟩ := hr
          rw [m1, m2]
          refine V_iload F dX_signal_89 rfl ?_
          refine V_icmp_ne F 96 dX_signal_91 (by decide) (fun h91 => ?_) (fun h91 => ?_)
          · first | (replace h91 := bz_ne0.mp h91) | (replace h91 := bz_eq0.mp h91) | skip
            refine V_aload_n (i := 0) F dX_signal_96 rfl rfl ?_
            refine V_getr (ci := 6) (C := R_X) (T := T_X) (N := 5) F dX_signal_97 (by first | rfl | assumption) rfl (j := 0) (by decide) rfl lfX_41 ?_
            refine V_getrN (ci := 5) (C := R_Y) (T := T_Y) (N := 8) F dX_signal_100 (by first | rfl | assumption) rfl (j := 0) (by decide) rfl lfX_48 ?_
            refine V_getrN (ci := 0) (C := R_G) (T := T_G) (N := 5) F dX_signal_103 (by first | rfl | assumption) rfl (j := 3) (by decide) rfl lfX_80 ?_
            refine V_iload F dX_signal_106 rfl ?_
            refine V_dup2 F dX_signal_108 ?_
            first
              | refine V_sald F dX_signal_109 (by decide) (by omega) (stt_in _ _) ?_
              | refine V_iald F dX_signal_109 (by first | rfl | assumption) rfl (by omega) ?_
            refine V_iconst F dX_signal_110 (by decide) ?_
            refine V_iload F dX_signal_111 rfl ?_
            refine V_ishl F _ dX_signal_113 (ishl_1 (by omega)) ?_
            refine V_ixor F _ dX_signal_114 rfl ?_
            refine V_iast F dX_signal_115 (by first | rfl | assumption) rfl (by omega) ?_
            refine V_aload_n (i := 0) F dX_signal_116 rfl rfl ?_
            refine V_getr (ci := 6) (C := R_X) (T := T_X) (N := 5) F dX_signal_117 (by first | rfl | assumption) rfl (j := 2) (by decide) rfl lfX_12 ?_
            refine V_callVv F dX_signal_120 lmX_83 miW_forget mvW_forget (ctW_forget) (by decide) (by first | rfl | assumption) rfl rfl (Nat.le_of_ble_eq_true rfl) (fun u hr => ?_)
            subst hr
            refine V_iconst F dX_signal_123 (by decide) ?_
            exact hR _ _ _ _ dX_signal_124 (by first | exact Or.inl rfl | exact Or.inr rfl | exact bz_01 _ | assumption) (by
              first
              | exact Or.inr ⟨fun z => h13 z.1, rfl, rfl⟩
              | exact Or.inr ⟨fun z => h22 z.2.1, rfl, rfl⟩
              | exact Or.inr ⟨fun z => z.2.2.1 h54, rfl, rfl⟩
              | exact Or.inr ⟨fun z => h67 (hon.mpr z.2.2.2.1), rfl, rfl⟩
              | exact Or.inr ⟨fun z => z.2.2.2.2 h91, rfl, rfl⟩
              | exact Or.inl ⟨⟨h13, h22, h54, hon.mp h67, h91⟩, rfl, rfl⟩)
          · first | (replace h91 := bz_ne0.mp h91) | (replace h91 := bz_eq0.mp h91) | skip
            refine V_iconst F dX_signal_94 (by decide) ?_
            exact hR _ _ _ _ dX_signal_95 (by first | exact Or.inl rfl | exact Or.inr rfl | exact bz_01 _ | assumption) (by
              first
              | exact Or.inr ⟨fun z => h13 z.1, rfl, rfl⟩
              | exact Or.inr ⟨fun z => h22 z.2.1, rfl, rfl⟩
              | exact Or.inr ⟨fun z => z.2.2.1 h54, rfl, rfl⟩
              | exact Or.inr ⟨fun z => h67 (hon.mpr z.2.2.2.1), rfl, rfl⟩
              | exact Or.inr ⟨fun z => z.2.2.2.2 h91, rfl, rfl⟩
              | exact Or.inl ⟨⟨h13, h22, h54, hon.mp h67, h91⟩, rfl, rfl⟩)
        · first | (replace h67 := bz_ne0.mp h67) | (replace h67 := bz_eq0.mp h67) | skip
          refine V_iconst F dX_signal_70 (by decide) ?_
          exact hR _ _ _ _ dX_signal_71 (by first | exact Or.inl rfl | exact Or.inr rfl | exact bz_01 _ | assumption) (by
            first
            | exact Or.inr ⟨fun z => h13 z.1, rfl, rfl⟩
            | exact Or.inr ⟨fun z => h22 z.2.1, rfl, rfl⟩
            | exact Or.inr ⟨fun z => z.2.2.1 h54, rfl, rfl⟩
            | exact Or.inr ⟨fun z => h67 (hon.mpr z.2.2.2.1), rfl, rfl⟩
            | exact Or.inr ⟨fun z => z.2.2.2.2 h91, rfl, rfl⟩
            | exact Or.inl ⟨⟨h13, h22, h54, hon.mp h67, h91⟩, rfl, rfl⟩)
    · first | (replace h22 := bz_ne0.mp h22) | (replace h22 := bz_eq0.mp h22) | skip
      refine V_iconst F dX_signal_25 (by decide) ?_
      exact hR _ _ _ _ dX_signal_26 (by first | exact Or.inl rfl | exact Or.inr rfl | exact bz_01 _ | assumption) (by
        first
        | exact Or.inr ⟨fun z => h13 z.1, rfl, rfl⟩
        | exact Or.inr ⟨fun z => h22 z.2.1, rfl, rfl⟩
        | exact Or.inr ⟨fun z => z.2.2.1 h54, rfl, rfl⟩
        | exact Or.inr ⟨fun z => h67 (hon.mpr z.2.2.2.1), rfl, rfl⟩
        | exact Or.inr ⟨fun z => z.2.2.2.2 h91, rfl, rfl⟩
        | exact Or.inl ⟨⟨h13, h22, h54, hon.mp h67, h91⟩, rfl, rfl⟩)
def stOK (w : RW) (x y p c : Int) : Prop := (0 ≤ c ∧ c ≤ 50 ∧ p ≤ 1) ∧ hTr w x y p ∧ w 4 (x + 8 * y + 64 * p) = 0 ∧ ¬ hdT w (x + 8 * y) ∧ ¬ (onS w (x + 8 * y) ∨ onS w (x + 8 * y + 64))
def stW (w : RW) (x y p c : Int) : RW := upw (upw (upw (upw w (7 + (w 1 3).toNat) 0 (x + 8 * y + 64 * p)) (7 + (w 1 3).toNat) 1 c) (7 + (w 1 3).toNat) 2 0) 1 3 (w 1 3 + 1)
theorem ctX_station {G : vG} {l : Launch} {w : RW} {x y p c : Int} (hc : cOK w) : CTi G l yX_station cX_station 8 .int 2 [.inr 0, .inl x, .inl y, .inl p, .inl c] w (fun r u => (¬ stOK w x y p c ∧ r = -1 ∧ w = u) ∨ (stOK w x y p c ∧ 6 ≤ w 1 3 ∧ r = -2 ∧ w = u) ∨ (stOK w x y p c ∧ w 1 3 < 6 ∧ r = w 1 3 ∧ stW w x y p c = u)) := by
  refine CTi.int (by decide) (Nat.le_of_ble_eq_true rfl) ?_
  intro X Q F hX hR
  subst hX
  show V G X 8 Q 0 [some (.inr 0), some (.inl x), some (.inl y), some (.inl p), some (.inl c), none, none, none] [] w
  obtain ⟨k1, k2, k3, k4, k5, k6⟩ := hc
  refine V_iload F dX_station_0 rfl ?_
  refine V_if_lt F 33 dX_station_2 (by decide) (fun h2 => ?_) (fun h2 => ?_)
  · first | (replace h2 := bz_ne0.mp h2) | (replace h2 := bz_eq0.mp h2) | skip
    refine V_iconst F dX_station_33 (by decide) ?_
    exact hR _ _ _ _ dX_station_34 (by
      first
      | exact Or.inl ⟨fun z => by have := z.1; omega, rfl, rfl⟩
      | exact Or.inl ⟨fun z => h30 z.2.1, rfl, rfl⟩
      | exact Or.inl ⟨fun z => h63 z.2.2.1, rfl, rfl⟩
      | exact Or.inl ⟨fun z => z.2.2.2.1 h78, rfl, rfl⟩
      | exact Or.inl ⟨fun z => z.2.2.2.2 h90, rfl, rfl⟩
      | exact Or.inr (Or.inl ⟨⟨by omega, h30, h63, h78, h90⟩, by omega, rfl, rfl⟩)
      | exact Or.inr (Or.inr ⟨⟨by omega, h30, h63, h78, h90⟩, by omega, rfl, rfl⟩))
  · first | (replace h2 := bz_ne0.mp h2) | (replace h2 := bz_eq0.mp h2) | skip
    refine V_iload F dX_station_5 rfl ?_
    refine V_bipush F dX_station_7 (by decide) ?_
    refine V_icmp_gt F 33 dX_station_9 (by decide) (fun h9 => ?_) (fun h9 => ?_)
    · first | (replace h9 := bz_ne0.mp h9) | (replace h9 := bz_eq0.mp h9) | skip
      refine V_iconst F dX_station_33 (by decide) ?_
      exact hR _ _ _ _ dX_station_34 (by
        first
        | exact Or.inl ⟨fun z => by have := z.1; omega, rfl, rfl⟩
        | exact Or.inl ⟨fun z => h30 z.2.1, rfl, rfl⟩
        | exact Or.inl ⟨fun z => h63 z.2.2.1, rfl, rfl⟩
        | exact Or.inl ⟨fun z => z.2.2.2.1 h78, rfl, rfl⟩
        | exact Or.inl ⟨fun z => z.2.2.2.2 h90, rfl, rfl⟩
        | exact Or.inr (Or.inl ⟨⟨by omega, h30, h63, h78, h90⟩, by omega, rfl, rfl⟩)
        | exact Or.inr (Or.inr ⟨⟨by omega, h30, h63, h78, h90⟩, by omega, rfl, rfl⟩))
    · first | (replace h9 := bz_ne0.mp h9) | (replace h9 := bz_eq0.mp h9) | skip
      refine V_iload_n (i := 3) F dX_station_12 rfl rfl ?_
      refine V_iconst F dX_station_13 (by decide) ?_
      refine V_icmp_gt F 33 dX_station_14 (by decide) (fun h14 => ?_) (fun h14 => ?_)
      · first | (replace h14 := bz_ne0.mp h14) | (replace h14 := bz_eq0.mp h14) | skip
        refine V_iconst F dX_station_33 (by decide) ?_
        exact hR _ _ _ _ dX_station_34 (by
          first
          | exact Or.inl ⟨fun z => by have := z.1; omega, rfl, rfl⟩
          | exact Or.inl ⟨fun z => h30 z.2.1, rfl, rfl⟩
          | exact Or.inl ⟨fun z => h63 z.2.2.1, rfl, rfl⟩
          | exact Or.inl ⟨fun z => z.2.2.2.1 h78, rfl, rfl⟩
          | exact Or.inl ⟨fun z => z.2.2.2.2 h90, rfl, rfl⟩
          | exact Or.inr (Or.inl ⟨⟨by omega, h30, h63, h78, h90⟩, by omega, rfl, rfl⟩)
          | exact Or.inr (Or.inr ⟨⟨by omega, h30, h63, h78, h90⟩, by omega, rfl, rfl⟩))
      · first | (replace h14 := bz_ne0.mp h14) | (replace h14 := bz_eq0.mp h14) | skip
        refine V_aload_n (i := 0) F dX_station_17 rfl rfl ?_
        refine V_getr (ci := 6) (C := R_X) (T := T_X) (N := 5) F dX_station_18 (by first | rfl | assumption) rfl (j := 0) (by decide) rfl lfX_41 ?_
        refine V_getrN (ci := 5) (C := R_Y) (T := T_Y) (N := 8) F dX_station_21 (by first | rfl | assumption) rfl (j := 0) (by decide) rfl lfX_48 ?_
        refine V_iload_n (i := 1) F dX_station_24 rfl rfl ?_
        refine V_iload_n (i := 2) F dX_station_25 rfl rfl ?_
        refine V_iload_n (i := 3) F dX_station_26 rfl rfl ?_
        refine V_callVi F dX_station_27 lmX_86 miG_hasTrack mvG_hasTrack (ctG_hasTrack (by omega) (fun t t1 t2 => (k2 t t1 t2).1)) (by decide) (by first | rfl | assumption) rfl rfl (Nat.le_of_ble_eq_true rfl) (fun r u hr => ?_)
        obtain ⟨rfl, rfl⟩ := hr
        show V _ _ _ _ _ _ (.inl (bz (hTr w x y p)) :: _) _
        refine V_if_ne F 35 dX_station_30 (by decide) (fun h30 => ?_) (fun h30 => ?_)
        · first | (replace h30 := bz_ne0.mp h30) | (replace h30 := bz_eq0.mp h30) | skip
          have hh := h30.1
          unfold isT at hh
          have hp := h30.2.1
          refine V_iload_n (i := 1) F dX_station_35 rfl rfl ?_
          refine V_iload_n (i := 2) F dX_station_36 rfl rfl ?_
          refine V_callSi F dX_station_37 lmX_58 miS_tile msS_tile (ctS_tile (by omega)) (by decide) rfl (Nat.le_of_ble_eq_true rfl) (fun r u hr => ?_)
          obtain ⟨rfl, rfl⟩ := hr
          refine V_istore F dX_station_40 (by decide) (by simp only [List.set_cons_zero, List.set_cons_succ]; exact rfl) ?_
          refine V_iload F dX_station_42 rfl ?_
          refine V_iload_n (i := 3) F dX_station_44 rfl rfl ?_
          refine V_callSi F dX_station_45 lmX_63 miS_place msS_place (ctS_place (by omega)) (by decide) rfl (Nat.le_of_ble_eq_true rfl) (fun r u hr => ?_)
          obtain ⟨rfl, rfl⟩ := hr
          refine V_istore F dX_station_48 (by decide) (by simp only [List.set_cons_zero, List.set_cons_succ]; exact rfl) ?_
          refine V_aload_n (i := 0) F dX_station_50 rfl rfl ?_
          refine V_getr (ci := 6) (C := R_X) (T := T_X) (N := 5) F dX_station_51 (by first | rfl | assumption) rfl (j := 0) (by decide) rfl lfX_41 ?_
          refine V_getrN (ci := 5) (C := R_Y) (T := T_Y) (N := 8) F dX_station_54 (by first | rfl | assumption) rfl (j := 0) (by decide) rfl lfX_48 ?_
          refine V_getrN (ci := 0) (C := R_G) (T := T_G) (N := 5) F dX_station_57 (by first | rfl | assumption) rfl (j := 3) (by decide) rfl lfX_80 ?_
          refine V_iload F dX_station_60 rfl ?_
          first
            | refine V_sald F dX_station_62 (by decide) (by omega) (stt_in _ _) ?_
            | refine V_iald F dX_station_62 (by first | rfl | assumption) rfl (by omega) ?_
          refine V_if_ne F 93 dX_station_63 (by decide) (fun h63 => ?_) (fun h63 => ?_)
          · first | (replace h63 := bz_ne0.mp h63) | (replace h63 := bz_eq0.mp h63) | skip
            refine V_iconst F dX_station_93 (by decide) ?_
            exact hR _ _ _ _ dX_station_94 (by
              first
              | exact Or.inl ⟨fun z => by have := z.1; omega, rfl, rfl⟩
              | exact Or.inl ⟨fun z => h30 z.2.1, rfl, rfl⟩
              | exact Or.inl ⟨fun z => h63 z.2.2.1, rfl, rfl⟩
              | exact Or.inl ⟨fun z => z.2.2.2.1 h78, rfl, rfl⟩
              | exact Or.inl ⟨fun z => z.2.2.2.2 h90, rfl, rfl⟩
              | exact Or.inr (Or.inl ⟨⟨by omega, h30, h63, h78, h90⟩, by omega, rfl, rfl⟩)
              | exact Or.inr (Or.inr ⟨⟨by omega, h30, h63, h78, h90⟩, by omega, rfl, rfl⟩))
          · first | (replace h63 := bz_ne0.mp h63) | (replace h63 := bz_eq0.mp h63) | skip
            refine V_aload_n (i := 0) F dX_station_66 rfl rfl ?_
            refine V_getr (ci := 6) (C := R_X) (T := T_X) (N := 5) F dX_station_67 (by first | rfl | assumption) rfl (j := 0) (by decide) rfl lfX_41 ?_
            refine V_getrN (ci := 5) (C := R_Y) (T := T_Y) (N := 8) F dX_station_70 (by first | rfl | assumption) rfl (j := 0) (by decide) rfl lfX_48 ?_
            refine V_iload F dX_station_73 rfl ?_
            refine V_callVi F dX_station_75 lmX_66 miG_isHeld mvG_isHeld (ctG_isHeld (by omega)) (by decide) (by first | rfl | assumption) rfl rfl (Nat.le_of_ble_eq_true rfl) (fun r u hr => ?_)
            obtain ⟨rfl, rfl⟩ := hr
            refine V_if_ne F 93 dX_station_78 (by decide) (fun h78 => ?_) (fun h78 => ?_)
            · first | (replace h78 := bz_ne0.mp h78) | (replace h78 := bz_eq0.mp h78) | skip
              refine V_iconst F dX_station_93 (by decide) ?_
              exact hR _ _ _ _ dX_station_94 (by
                first
                | exact Or.inl ⟨fun z => by have := z.1; omega, rfl, rfl⟩
                | exact Or.inl ⟨fun z => h30 z.2.1, rfl, rfl⟩
                | exact Or.inl ⟨fun z => h63 z.2.2.1, rfl, rfl⟩
                | exact Or.inl ⟨fun z => z.2.2.2.1 h78, rfl, rfl⟩
                | exact Or.inl ⟨fun z => z.2.2.2.2 h90, rfl, rfl⟩
                | exact Or.inr (Or.inl ⟨⟨by omega, h30, h63, h78, h90⟩, by omega, rfl, rfl⟩)
                | exact Or.inr (Or.inr ⟨⟨by omega, h30, h63, h78, h90⟩, by omega, rfl, rfl⟩))
            · first | (replace h78 := bz_ne0.mp h78) | (replace h78 := bz_eq0.mp h78) | skip
              refine V_aload_n (i := 0) F dX_station_81 rfl rfl ?_
              refine V_getr (ci := 6) (C := R_X) (T := T_X) (N := 5) F dX_station_82 (by first | rfl | assumption) rfl (j := 0) (by decide) rfl lfX_41 ?_
              refine V_iload F dX_station_85 rfl ?_
              refine V_callVi F dX_station_87 lmX_99 miY_hasStation mvY_hasStation (ctY_hasStation (by omega) (by omega)) (by decide) (by first | rfl | assumption) rfl rfl (Nat.le_of_ble_eq_true rfl) (fun r u hr => ?_)
              obtain ⟨rfl, rfl⟩ := hr
              refine V_if_eq F 95 dX_station_90 (by decide) (fun h90 => ?_) (fun h90 => ?_)
              · first | (replace h90 := bz_ne0.mp h90) | (replace h90 := bz_eq0.mp h90) | skip
                refine V_aload_n (i := 0) F dX_station_95 rfl rfl ?_
                refine V_getr (ci := 6) (C := R_X) (T := T_X) (N := 5) F dX_station_96 (by first | rfl | assumption) rfl (j := 0) (by decide) rfl lfX_41 ?_
                refine V_getiN (ci := 5) (C := R_Y) (T := T_Y) (N := 8) F dX_station_99 (by first | rfl | assumption) rfl (j := 3) 3 rfl (by decide) rfl lfX_102 ?_
                refine V_bipush F dX_station_102 (by decide) ?_
                refine V_icmp_lt F 110 dX_station_104 (by decide) (fun h104 => ?_) (fun h104 => ?_)
                · first | (replace h104 := bz_ne0.mp h104) | (replace h104 := bz_eq0.mp h104) | skip
                  refine V_aload_n (i := 0) F dX_station_110 rfl rfl ?_
                  refine V_getr (ci := 6) (C := R_X) (T := T_X) (N := 5) F dX_station_111 (by first | rfl | assumption) rfl (j := 0) (by decide) rfl lfX_41 ?_
                  refine V_getiN (ci := 5) (C := R_Y) (T := T_Y) (N := 8) F dX_station_114 (by first | rfl | assumption) rfl (j := 3) 3 rfl (by decide) rfl lfX_102 ?_
                  refine V_istore F dX_station_117 (by decide) (by simp only [List.set_cons_zero, List.set_cons_succ]; exact rfl) ?_
                  have b1 := st7_at (i := w 1 3) (by omega)
                  have b2 := st7_sh (i := w 1 3) (by omega)
                  refine V_aload_n (i := 0) F dX_station_119 rfl rfl ?_
                  refine V_getr (ci := 6) (C := R_X) (T := T_X) (N := 5) F dX_station_120 (by first | rfl | assumption) rfl (j := 0) (by decide) rfl lfX_41 ?_
                  refine V_getrN (ci := 5) (C := R_Y) (T := T_Y) (N := 8) F dX_station_123 (by first | rfl | assumption) rfl (j := 1) (by decide) rfl lfX_106 ?_
                  refine V_iload F dX_station_126 rfl ?_
                  first
                    | refine V_aald F dX_station_128 (by first | rfl | assumption) rfl (by omega) (by first | rfl | assumption) ?_
                    | refine V_aaldA F dX_station_128 (by first | rfl | assumption) rfl (by omega) (by first | rfl | assumption) ?_
                  refine V_iload F dX_station_129 rfl ?_
                  refine V_iload F dX_station_131 rfl ?_
                  refine V_callVv F dX_station_133 lmX_110 miT_open mvT_open (ctT_open b2) (by decide) (by first | rfl | assumption) rfl rfl (Nat.le_of_ble_eq_true rfl) (fun u hr => ?_)
                  subst hr
                  refine V_aload_n (i := 0) F dX_station_136 rfl rfl ?_
                  refine V_getr (ci := 6) (C := R_X) (T := T_X) (N := 5) F dX_station_137 (by first | rfl | assumption) rfl (j := 0) (by decide) rfl lfX_41 ?_
                  refine V_dup F dX_station_140 ?_
                  refine V_getiN (ci := 5) (C := R_Y) (T := T_Y) (N := 8) F dX_station_141 (by first | rfl | assumption) rfl (j := 3) 3 rfl (by decide) rfl lfX_102 ?_
                  rw [upw_k (by omega), upw_k (by omega), upw_k (by omega)]
                  refine V_iconst F dX_station_144 (by decide) ?_
                  refine V_iadd F dX_station_145 (by omega) ?_
                  refine V_putiN (ci := 5) (C := R_Y) (T := T_Y) (N := 8) F dX_station_146 (by first | rfl | assumption) rfl (j := 3) 3 rfl (by decide) rfl rfl rfl lfX_102 ?_
                  refine V_iload F dX_station_149 rfl ?_
                  exact hR _ _ _ _ dX_station_151 (by
                    first
                    | exact Or.inl ⟨fun z => by have := z.1; omega, rfl, rfl⟩
                    | exact Or.inl ⟨fun z => h30 z.2.1, rfl, rfl⟩
                    | exact Or.inl ⟨fun z => h63 z.2.2.1, rfl, rfl⟩
                    | exact Or.inl ⟨fun z => z.2.2.2.1 h78, rfl, rfl⟩
                    | exact Or.inl ⟨fun z => z.2.2.2.2 h90, rfl, rfl⟩
                    | exact Or.inr (Or.inl ⟨⟨by omega, h30, h63, h78, h90⟩, by omega, rfl, rfl⟩)
                    | exact Or.inr (Or.inr ⟨⟨by omega, h30, h63, h78, h90⟩, by omega, rfl, rfl⟩))
                · first | (replace h104 := bz_ne0.mp h104) | (replace h104 := bz_eq0.mp h104) | skip
                  refine V_bipush F dX_station_107 (by decide) ?_
                  exact hR _ _ _ _ dX_station_109 (by
                    first
                    | exact Or.inl ⟨fun z => by have := z.1; omega, rfl, rfl⟩
                    | exact Or.inl ⟨fun z => h30 z.2.1, rfl, rfl⟩
                    | exact Or.inl ⟨fun z => h63 z.2.2.1, rfl, rfl⟩
                    | exact Or.inl ⟨fun z => z.2.2.2.1 h78, rfl, rfl⟩
                    | exact Or.inl ⟨fun z => z.2.2.2.2 h90, rfl, rfl⟩
                    | exact Or.inr (Or.inl ⟨⟨by omega, h30, h63, h78, h90⟩, by omega, rfl, rfl⟩)
                    | exact Or.inr (Or.inr ⟨⟨by omega, h30, h63, h78, h90⟩, by omega, rfl, rfl⟩))
              · first | (replace h90 := bz_ne0.mp h90) | (replace h90 := bz_eq0.mp h90) | skip
                refine V_iconst F dX_station_93 (by decide) ?_
                exact hR _ _ _ _ dX_station_94 (by
                  first
                  | exact Or.inl ⟨fun z => by have := z.1; omega, rfl, rfl⟩
                  | exact Or.inl ⟨fun z => h30 z.2.1, rfl, rfl⟩
                  | exact Or.inl ⟨fun z => h63 z.2.2.1, rfl, rfl⟩
                  | exact Or.inl ⟨fun z => z.2.2.2.1 h78, rfl, rfl⟩
                  | exact Or.inl ⟨fun z => z.2.2.2.2 h90, rfl, rfl⟩
                  | exact Or.inr (Or.inl ⟨⟨by omega, h30, h63, h78, h90⟩, by omega, rfl, rfl⟩)
                  | exact Or.inr (Or.inr ⟨⟨by omega, h30, h63, h78, h90⟩, by omega, rfl, rfl⟩))
        · first | (replace h30 := bz_ne0.mp h30) | (replace h30 := bz_eq0.mp h30) | skip
          refine V_iconst F dX_station_33 (by decide) ?_
          exact hR _ _ _ _ dX_station_34 (by
            first
            | exact Or.inl ⟨fun z => by have := z.1; omega, rfl, rfl⟩
            | exact Or.inl ⟨fun z => h30 z.2.1, rfl, rfl⟩
            | exact Or.inl ⟨fun z => h63 z.2.2.1, rfl, rfl⟩
            | exact Or.inl ⟨fun z => z.2.2.2.1 h78, rfl, rfl⟩
            | exact Or.inl ⟨fun z => z.2.2.2.2 h90, rfl, rfl⟩
            | exact Or.inr (Or.inl ⟨⟨by omega, h30, h63, h78, h90⟩, by omega, rfl, rfl⟩)
            | exact Or.inr (Or.inr ⟨⟨by omega, h30, h63, h78, h90⟩, by omega, rfl, rfl⟩))
def orOK (w : RW) (t s : Int) : Prop := (0 ≤ t ∧ t < w 1 4) ∧ (0 ≤ s ∧ s < w 1 3) ∧ w (14 + t.toNat) 7 < 6
def orW (w : RW) (t s : Int) : RW := upw (upw w (26 + t.toNat) (w (14 + t.toNat) 7) s) (14 + t.toNat) 7 (w (14 + t.toNat) 7 + 1)
theorem ctX_order {G : vG} {l : Launch} {w : RW} {t s : Int} (hc : cOK w) : CTi G l yX_order cX_order 4 .boolean 1 [.inr 0, .inl t, .inl s] w (fun r u => (orOK w t s ∧ r = 1 ∧ orW w t s = u) ∨ (¬ orOK w t s ∧ r = 0 ∧ w = u)) := by
  refine CTi.bool (by decide) (Nat.le_of_ble_eq_true rfl) ?_
  intro X Q F hX hR
  subst hX
  show V G X 4 Q 0 [some (.inr 0), some (.inl t), some (.inl s), none] [] w
  obtain ⟨k1, k2, k3, k4, k5, k6⟩ := hc
  refine V_aload_n (i := 0) F dX_order_0 rfl rfl ?_
  refine V_getr (ci := 6) (C := R_X) (T := T_X) (N := 5) F dX_order_1 (by first | rfl | assumption) rfl (j := 0) (by decide) rfl lfX_41 ?_
  refine V_iload_n (i := 1) F dX_order_4 rfl rfl ?_
  refine V_callVi F dX_order_5 lmX_143 miY_hasTrain mvY_hasTrain (ctY_hasTrain) (by decide) (by first | rfl | assumption) rfl rfl (Nat.le_of_ble_eq_true rfl) (fun r u hr => ?_)
  obtain ⟨rfl, rfl⟩ := hr
  refine V_if_eq F 39 dX_order_8 (by decide) (fun h8 => ?_) (fun h8 => ?_)
  · first | (replace h8 := bz_ne0.mp h8) | (replace h8 := bz_eq0.mp h8) | skip
    refine V_iconst F dX_order_39 (by decide) ?_
    exact hR _ _ _ _ dX_order_40 (by first | exact Or.inl rfl | exact Or.inr rfl | exact bz_01 _ | assumption) (by
      first
      | exact Or.inr ⟨fun z => h8 z.1, rfl, rfl⟩
      | exact Or.inr ⟨fun z => h19 z.2.1, rfl, rfl⟩
      | exact Or.inr ⟨fun z => by have := z.2.2; omega, rfl, rfl⟩
      | exact Or.inl ⟨⟨h8, h19, by omega⟩, rfl, rfl⟩)
  · first | (replace h8 := bz_ne0.mp h8) | (replace h8 := bz_eq0.mp h8) | skip
    refine V_aload_n (i := 0) F dX_order_11 rfl rfl ?_
    refine V_getr (ci := 6) (C := R_X) (T := T_X) (N := 5) F dX_order_12 (by first | rfl | assumption) rfl (j := 0) (by decide) rfl lfX_41 ?_
    refine V_iload_n (i := 2) F dX_order_15 rfl rfl ?_
    refine V_callVi F dX_order_16 lmX_146 miY_isStation mvY_isStation (ctY_isStation) (by decide) (by first | rfl | assumption) rfl rfl (Nat.le_of_ble_eq_true rfl) (fun r u hr => ?_)
    obtain ⟨rfl, rfl⟩ := hr
    refine V_if_eq F 39 dX_order_19 (by decide) (fun h19 => ?_) (fun h19 => ?_)
    · first | (replace h19 := bz_ne0.mp h19) | (replace h19 := bz_eq0.mp h19) | skip
      refine V_iconst F dX_order_39 (by decide) ?_
      exact hR _ _ _ _ dX_order_40 (by first | exact Or.inl rfl | exact Or.inr rfl | exact bz_01 _ | assumption) (by
        first
        | exact Or.inr ⟨fun z => h8 z.1, rfl, rfl⟩
        | exact Or.inr ⟨fun z => h19 z.2.1, rfl, rfl⟩
        | exact Or.inr ⟨fun z => by have := z.2.2; omega, rfl, rfl⟩
        | exact Or.inl ⟨⟨h8, h19, by omega⟩, rfl, rfl⟩)
    · first | (replace h19 := bz_ne0.mp h19) | (replace h19 := bz_eq0.mp h19) | skip
      have ht := k6 t (by omega) (by omega)
      obtain ⟨t1, t2, t3, t4, t5⟩ := ht
      have b1 := tr14_at (i := t) (by omega)
      have b2 := tr14_sh (i := t) (by omega)
      have b3 := rn20_sh (i := t) (by omega)
      have b4 := od26_sh (i := t) (by omega)
      refine V_aload_n (i := 0) F dX_order_22 rfl rfl ?_
      refine V_getr (ci := 6) (C := R_X) (T := T_X) (N := 5) F dX_order_23 (by first | rfl | assumption) rfl (j := 0) (by decide) rfl lfX_41 ?_
      refine V_getrN (ci := 5) (C := R_Y) (T := T_Y) (N := 8) F dX_order_26 (by first | rfl | assumption) rfl (j := 2) (by decide) rfl lfX_129 ?_
      refine V_iload_n (i := 1) F dX_order_29 rfl rfl ?_
      first
        | refine V_aald F dX_order_30 (by first | rfl | assumption) rfl (by omega) (by first | rfl | assumption) ?_
        | refine V_aaldA F dX_order_30 (by first | rfl | assumption) rfl (by omega) (by first | rfl | assumption) ?_
      refine V_getiN (ci := 3) (C := R_N) (T := T_N) (N := 10) F dX_order_31 (by first | rfl | assumption) rfl (j := 7) 7 rfl (by decide) rfl lfX_149 ?_
      refine V_bipush F dX_order_34 (by decide) ?_
      refine V_icmp_lt F 41 dX_order_36 (by decide) (fun h36 => ?_) (fun h36 => ?_)
      · first | (replace h36 := bz_ne0.mp h36) | (replace h36 := bz_eq0.mp h36) | skip
        refine V_aload_n (i := 0) F dX_order_41 rfl rfl ?_
        refine V_getr (ci := 6) (C := R_X) (T := T_X) (N := 5) F dX_order_42 (by first | rfl | assumption) rfl (j := 0) (by decide) rfl lfX_41 ?_
        refine V_getrN (ci := 5) (C := R_Y) (T := T_Y) (N := 8) F dX_order_45 (by first | rfl | assumption) rfl (j := 2) (by decide) rfl lfX_129 ?_
        refine V_iload_n (i := 1) F dX_order_48 rfl rfl ?_
        first
          | refine V_aald F dX_order_49 (by first | rfl | assumption) rfl (by omega) (by first | rfl | assumption) ?_
          | refine V_aaldA F dX_order_49 (by first | rfl | assumption) rfl (by omega) (by first | rfl | assumption) ?_
        refine V_astore_n (i := 3) F dX_order_50 rfl (by decide) (by simp only [List.set_cons_zero, List.set_cons_succ]; exact rfl) ?_
        refine V_aload_n (i := 3) F dX_order_51 rfl rfl ?_
        refine V_getrN (ci := 3) (C := R_N) (T := T_N) (N := 10) F dX_order_52 (by first | rfl | assumption) rfl (j := 6) (by decide) rfl lfX_152 ?_
        refine V_aload_n (i := 3) F dX_order_55 rfl rfl ?_
        refine V_getiN (ci := 3) (C := R_N) (T := T_N) (N := 10) F dX_order_56 (by first | rfl | assumption) rfl (j := 7) 7 rfl (by decide) rfl lfX_149 ?_
        refine V_iload_n (i := 2) F dX_order_59 rfl rfl ?_
        refine V_iast F dX_order_60 (by first | rfl | assumption) rfl (by omega) ?_
        refine V_aload_n (i := 3) F dX_order_61 rfl rfl ?_
        refine V_dup F dX_order_62 ?_
        refine V_getiN (ci := 3) (C := R_N) (T := T_N) (N := 10) F dX_order_63 (by first | rfl | assumption) rfl (j := 7) 7 rfl (by decide) rfl lfX_149 ?_
        rw [upw_k (by omega)]
        refine V_iconst F dX_order_66 (by decide) ?_
        refine V_iadd F dX_order_67 (by omega) ?_
        refine V_putiN (ci := 3) (C := R_N) (T := T_N) (N := 10) F dX_order_68 (by first | rfl | assumption) rfl (j := 7) 7 rfl (by decide) rfl rfl rfl lfX_149 ?_
        refine V_iconst F dX_order_71 (by decide) ?_
        exact hR _ _ _ _ dX_order_72 (by first | exact Or.inl rfl | exact Or.inr rfl | exact bz_01 _ | assumption) (by
          first
          | exact Or.inr ⟨fun z => h8 z.1, rfl, rfl⟩
          | exact Or.inr ⟨fun z => h19 z.2.1, rfl, rfl⟩
          | exact Or.inr ⟨fun z => by have := z.2.2; omega, rfl, rfl⟩
          | exact Or.inl ⟨⟨h8, h19, by omega⟩, rfl, rfl⟩)
      · first | (replace h36 := bz_ne0.mp h36) | (replace h36 := bz_eq0.mp h36) | skip
        refine V_iconst F dX_order_39 (by decide) ?_
        exact hR _ _ _ _ dX_order_40 (by first | exact Or.inl rfl | exact Or.inr rfl | exact bz_01 _ | assumption) (by
          first
          | exact Or.inr ⟨fun z => h8 z.1, rfl, rfl⟩
          | exact Or.inr ⟨fun z => h19 z.2.1, rfl, rfl⟩
          | exact Or.inr ⟨fun z => by have := z.2.2; omega, rfl, rfl⟩
          | exact Or.inl ⟨⟨h8, h19, by omega⟩, rfl, rfl⟩)
def wOK (w : RW) : Prop := QI w ∧ w 63 5 = 0 ∧ (0 ≤ w 63 1 ∧ w 63 1 < 64) ∧ ∀ s, 0 ≤ s → s < 6 → tb (w 63 1) s → s < w 1 3 ∧ lsOK w s (w (7 + s.toNat) 0)
def tgOK (w : RW) (x y p e s : Int) : Prop := hTr w x y p ∧ hsE p e ∧ 0 ≤ s ∧ s < w 1 3
theorem lnP_frame {w u : RW} {s g : Int} (h : lnP w u s g) : ∀ j, j ≠ 63 → j ≠ 71 → j ≠ 72 → j ≠ 65 + s.toNat → u j = w j := by
  intro j j1 j2 j3 j4
  rcases h with ⟨_, h⟩ | ⟨_, h, _⟩
  · rw [h]
  · exact h.1 j j1 j2 j3 j4
theorem ctX_toGo {G : vG} {l : Launch} {w : RW} {x y p e s : Int} (hw : wOK w) (hc : cOK w) : CTi G l yX_toGo cX_toGo 8 .int 4 [.inr 0, .inl x, .inl y, .inl p, .inl e, .inl s] w (fun r u => (¬ tgOK w x y p e s ∧ r = -1 ∧ w = u) ∨ (tgOK w x y p e s ∧ lnP w u s (w (7 + s.toNat) 0) ∧ r = if rsT u s (w (7 + s.toNat) 0) (x + 8 * y + 64 * p + 512 * e) < 1048576 then rsT u s (w (7 + s.toNat) 0) (x + 8 * y + 64 * p + 512 * e) else -1)) := by
  refine CTi.int (by decide) (Nat.le_of_ble_eq_true rfl) ?_
  intro X Q F hX hR
  subst hX
  show V G X 8 Q 0 [some (.inr 0), some (.inl x), some (.inl y), some (.inl p), some (.inl e), some (.inl s), none, none] [] w
  obtain ⟨k1, k2, k3, k4, k5, k6⟩ := hc
  refine V_aload_n (i := 0) F dX_toGo_0 rfl rfl ?_
  refine V_getr (ci := 6) (C := R_X) (T := T_X) (N := 5) F dX_toGo_1 (by first | rfl | assumption) rfl (j := 0) (by decide) rfl lfX_41 ?_
  refine V_getrN (ci := 5) (C := R_Y) (T := T_Y) (N := 8) F dX_toGo_4 (by first | rfl | assumption) rfl (j := 0) (by decide) rfl lfX_48 ?_
  refine V_iload_n (i := 1) F dX_toGo_7 rfl rfl ?_
  refine V_iload_n (i := 2) F dX_toGo_8 rfl rfl ?_
  refine V_iload_n (i := 3) F dX_toGo_9 rfl rfl ?_
  refine V_callVi F dX_toGo_10 lmX_86 miG_hasTrack mvG_hasTrack (ctG_hasTrack (by omega) (fun t t1 t2 => (k2 t t1 t2).1)) (by decide) (by first | rfl | assumption) rfl rfl (Nat.le_of_ble_eq_true rfl) (fun r u hr => ?_)
  obtain ⟨rfl, rfl⟩ := hr
  show V _ _ _ _ _ _ (.inl (bz (hTr w x y p)) :: _) _
  refine V_if_eq F 37 dX_toGo_13 (by decide) (fun h13 => ?_) (fun h13 => ?_)
  · first | (replace h13 := bz_ne0.mp h13) | (replace h13 := bz_eq0.mp h13) | skip
    refine V_iconst F dX_toGo_37 (by decide) ?_
    exact hR _ _ _ _ dX_toGo_38 (by
      first
      | exact Or.inl ⟨fun z => h13 z.1, rfl, rfl⟩
      | exact Or.inl ⟨fun z => h22 z.2.1, rfl, rfl⟩
      | exact Or.inl ⟨fun z => h34 z.2.2, rfl, rfl⟩
      | exact Or.inr ⟨⟨h13, h22, h34⟩, hr, (if_pos (by omega)).symm⟩
      | exact Or.inr ⟨⟨h13, h22, h34⟩, hr, (if_neg (by omega)).symm⟩)
  · first | (replace h13 := bz_ne0.mp h13) | (replace h13 := bz_eq0.mp h13) | skip
    have hh := h13.1
    unfold isT at hh
    have hp := h13.2.1
    refine V_iload_n (i := 3) F dX_toGo_16 rfl rfl ?_
    refine V_iload F dX_toGo_17 rfl ?_
    refine V_callSi F dX_toGo_19 lmX_90 miS_hasEdge msS_hasEdge (ctS_hasEdge (by omega)) (by decide) rfl (Nat.le_of_ble_eq_true rfl) (fun r u hr => ?_)
    obtain ⟨rfl, rfl⟩ := hr
    refine V_if_eq F 37 dX_toGo_22 (by decide) (fun h22 => ?_) (fun h22 => ?_)
    · first | (replace h22 := bz_ne0.mp h22) | (replace h22 := bz_eq0.mp h22) | skip
      refine V_iconst F dX_toGo_37 (by decide) ?_
      exact hR _ _ _ _ dX_toGo_38 (by
        first
        | exact Or.inl ⟨fun z => h13 z.1, rfl, rfl⟩
        | exact Or.inl ⟨fun z => h22 z.2.1, rfl, rfl⟩
        | exact Or.inl ⟨fun z => h34 z.2.2, rfl, rfl⟩
        | exact Or.inr ⟨⟨h13, h22, h34⟩, hr, (if_pos (by omega)).symm⟩
        | exact Or.inr ⟨⟨h13, h22, h34⟩, hr, (if_neg (by omega)).symm⟩)
    · first | (replace h22 := bz_ne0.mp h22) | (replace h22 := bz_eq0.mp h22) | skip
      refine V_aload_n (i := 0) F dX_toGo_25 rfl rfl ?_
      refine V_getr (ci := 6) (C := R_X) (T := T_X) (N := 5) F dX_toGo_26 (by first | rfl | assumption) rfl (j := 0) (by decide) rfl lfX_41 ?_
      refine V_iload F dX_toGo_29 rfl ?_
      refine V_callVi F dX_toGo_31 lmX_146 miY_isStation mvY_isStation (ctY_isStation) (by decide) (by first | rfl | assumption) rfl rfl (Nat.le_of_ble_eq_true rfl) (fun r u hr => ?_)
      obtain ⟨rfl, rfl⟩ := hr
      refine V_if_ne F 39 dX_toGo_34 (by decide) (fun h34 => ?_) (fun h34 => ?_)
      · first | (replace h34 := bz_ne0.mp h34) | (replace h34 := bz_eq0.mp h34) | skip
        have b1 := st7_at (i := s) (by omega)
        have b2 := st7_sh (i := s) (by omega)
        have g1 := (k5 s (by omega) (by omega)).1
        have hE := hsE_rng hp h22
        refine V_aload_n (i := 0) F dX_toGo_39 rfl rfl ?_
        refine V_getr (ci := 6) (C := R_X) (T := T_X) (N := 5) F dX_toGo_40 (by first | rfl | assumption) rfl (j := 0) (by decide) rfl lfX_41 ?_
        refine V_getrN (ci := 5) (C := R_Y) (T := T_Y) (N := 8) F dX_toGo_43 (by first | rfl | assumption) rfl (j := 1) (by decide) rfl lfX_106 ?_
        refine V_iload F dX_toGo_46 rfl ?_
        first
          | refine V_aald F dX_toGo_48 (by first | rfl | assumption) rfl (by omega) (by first | rfl | assumption) ?_
          | refine V_aaldA F dX_toGo_48 (by first | rfl | assumption) rfl (by omega) (by first | rfl | assumption) ?_
        refine V_getiN (ci := 1) (C := R_T) (T := T_T) (N := 3) F dX_toGo_49 (by first | rfl | assumption) rfl (j := 0) 0 rfl (by decide) rfl lfX_193 ?_
        refine V_istore F dX_toGo_52 (by decide) (by simp only [List.set_cons_zero, List.set_cons_succ]; exact rfl) ?_
        refine V_aload_n (i := 0) F dX_toGo_54 rfl rfl ?_
        refine V_getr (ci := 6) (C := R_X) (T := T_X) (N := 5) F dX_toGo_55 (by first | rfl | assumption) rfl (j := 2) (by decide) rfl lfX_12 ?_
        refine V_aload_n (i := 0) F dX_toGo_58 rfl rfl ?_
        refine V_getr (ci := 6) (C := R_X) (T := T_X) (N := 5) F dX_toGo_59 (by first | rfl | assumption) rfl (j := 0) (by decide) rfl lfX_41 ?_
        refine V_getrN (ci := 5) (C := R_Y) (T := T_Y) (N := 8) F dX_toGo_62 (by first | rfl | assumption) rfl (j := 0) (by decide) rfl lfX_48 ?_
        refine V_iload F dX_toGo_65 rfl ?_
        refine V_iload F dX_toGo_67 rfl ?_
        refine V_callVv F dX_toGo_69 lmX_195 miW_learn mvW_learn (ctW_learn (by omega) (by omega) (fun t t1 t2 => (k2 t t1 (by omega)).1) (fun q q1 q2 => (k3 q q1 q2).1) g1.1 g1.2.1 g1.2.2 hw.2.2.1 ⟨hw.1, hw.2.1⟩) (by decide) (by first | rfl | assumption) rfl rfl (Nat.le_of_ble_eq_true rfl) (fun u1 hr => ?_)
        skip
        refine V_aload_n (i := 0) F dX_toGo_72 rfl rfl ?_
        refine V_getr (ci := 6) (C := R_X) (T := T_X) (N := 5) F dX_toGo_73 (by first | rfl | assumption) rfl (j := 2) (by decide) rfl lfX_12 ?_
        refine V_iload_n (i := 1) F dX_toGo_76 rfl rfl ?_
        refine V_iload_n (i := 2) F dX_toGo_77 rfl rfl ?_
        refine V_callSi F dX_toGo_78 lmX_58 miS_tile msS_tile (ctS_tile (by omega)) (by decide) rfl (Nat.le_of_ble_eq_true rfl) (fun r u hr => ?_)
        obtain ⟨rfl, rfl⟩ := hr
        refine V_iload_n (i := 3) F dX_toGo_81 rfl rfl ?_
        refine V_callSi F dX_toGo_82 lmX_63 miS_place msS_place (ctS_place (by omega)) (by decide) rfl (Nat.le_of_ble_eq_true rfl) (fun r u hr => ?_)
        obtain ⟨rfl, rfl⟩ := hr
        refine V_iload F dX_toGo_85 rfl ?_
        refine V_callSi F dX_toGo_87 lmX_93 miS_run msS_run (ctS_run (by omega)) (by decide) rfl (Nat.le_of_ble_eq_true rfl) (fun r u hr => ?_)
        obtain ⟨rfl, rfl⟩ := hr
        refine V_iload F dX_toGo_90 rfl ?_
        refine V_iload F dX_toGo_92 rfl ?_
        refine V_callVi F dX_toGo_94 lmX_198 miW_rest mvW_rest (ctW_rest (by omega) (by omega)) (by decide) (by first | rfl | assumption) rfl rfl (Nat.le_of_ble_eq_true rfl) (fun r2 u2 hr2 => ?_)
        obtain ⟨rfl, rfl⟩ := hr2
        show V _ _ _ _ _ _ (.inl (rsT _ s (w (7 + s.toNat) 0) (x + 8 * y + 64 * p + 512 * e)) :: _) _
        refine V_istore F dX_toGo_97 (by decide) (by simp only [List.set_cons_zero, List.set_cons_succ]; exact rfl) ?_
        refine V_iload F dX_toGo_99 rfl ?_
        refine V_ldc F dX_toGo_101 lcX_202 ⟨by decide, by decide⟩ ?_
        refine V_icmp_ge F 111 dX_toGo_103 (by decide) (fun h103 => ?_) (fun h103 => ?_)
        · first | (replace h103 := bz_ne0.mp h103) | (replace h103 := bz_eq0.mp h103) | skip
          refine V_iconst F dX_toGo_111 (by decide) ?_
          exact hR _ _ _ _ dX_toGo_112 (by
            first
            | exact Or.inl ⟨fun z => h13 z.1, rfl, rfl⟩
            | exact Or.inl ⟨fun z => h22 z.2.1, rfl, rfl⟩
            | exact Or.inl ⟨fun z => h34 z.2.2, rfl, rfl⟩
            | exact Or.inr ⟨⟨h13, h22, h34⟩, hr, (if_pos (by omega)).symm⟩
            | exact Or.inr ⟨⟨h13, h22, h34⟩, hr, (if_neg (by omega)).symm⟩)
        · first | (replace h103 := bz_ne0.mp h103) | (replace h103 := bz_eq0.mp h103) | skip
          refine V_iload F dX_toGo_106 rfl ?_
          refine V_goto F 112 dX_toGo_108 (by decide) ?_
          exact hR _ _ _ _ dX_toGo_112 (by
            first
            | exact Or.inl ⟨fun z => h13 z.1, rfl, rfl⟩
            | exact Or.inl ⟨fun z => h22 z.2.1, rfl, rfl⟩
            | exact Or.inl ⟨fun z => h34 z.2.2, rfl, rfl⟩
            | exact Or.inr ⟨⟨h13, h22, h34⟩, hr, (if_pos (by omega)).symm⟩
            | exact Or.inr ⟨⟨h13, h22, h34⟩, hr, (if_neg (by omega)).symm⟩)
      · first | (replace h34 := bz_ne0.mp h34) | (replace h34 := bz_eq0.mp h34) | skip
        refine V_iconst F dX_toGo_37 (by decide) ?_
        exact hR _ _ _ _ dX_toGo_38 (by
          first
          | exact Or.inl ⟨fun z => h13 z.1, rfl, rfl⟩
          | exact Or.inl ⟨fun z => h22 z.2.1, rfl, rfl⟩
          | exact Or.inl ⟨fun z => h34 z.2.2, rfl, rfl⟩
          | exact Or.inr ⟨⟨h13, h22, h34⟩, hr, (if_pos (by omega)).symm⟩
          | exact Or.inr ⟨⟨h13, h22, h34⟩, hr, (if_neg (by omega)).symm⟩)
end
section
theorem dX_growCargo_0 : decode cX_growCargo 0 = .ok (.iconst 0, 1) := by decide +kernel
theorem dX_growCargo_1 : decode cX_growCargo 1 = .ok (.istore_n 1, 1) := by decide +kernel
theorem dX_growCargo_2 : decode cX_growCargo 2 = .ok (.iload_n 1, 1) := by decide +kernel
theorem dX_growCargo_3 : decode cX_growCargo 3 = .ok (.aload_n 0, 1) := by decide +kernel
theorem dX_growCargo_4 : decode cX_growCargo 4 = .ok (.getfield 41, 3) := by decide +kernel
theorem dX_growCargo_7 : decode cX_growCargo 7 = .ok (.getfield 102, 3) := by decide +kernel
theorem dX_growCargo_10 : decode cX_growCargo 10 = .ok (.if_icmp .ge 33, 3) := by decide +kernel
theorem dX_growCargo_13 : decode cX_growCargo 13 = .ok (.aload_n 0, 1) := by decide +kernel
theorem dX_growCargo_14 : decode cX_growCargo 14 = .ok (.getfield 41, 3) := by decide +kernel
theorem dX_growCargo_17 : decode cX_growCargo 17 = .ok (.dup, 1) := by decide +kernel
theorem dX_growCargo_18 : decode cX_growCargo 18 = .ok (.getfield 210, 3) := by decide +kernel
theorem dX_growCargo_21 : decode cX_growCargo 21 = .ok (.aload_n 0, 1) := by decide +kernel
theorem dX_growCargo_22 : decode cX_growCargo 22 = .ok (.getfield 41, 3) := by decide +kernel
theorem dX_growCargo_25 : decode cX_growCargo 25 = .ok (.getfield 106, 3) := by decide +kernel
theorem dX_growCargo_28 : decode cX_growCargo 28 = .ok (.iload_n 1, 1) := by decide +kernel
theorem dX_growCargo_29 : decode cX_growCargo 29 = .ok (.aaload, 1) := by decide +kernel
theorem dX_growCargo_30 : decode cX_growCargo 30 = .ok (.invokevirtual 227, 3) := by decide +kernel
theorem dX_growCargo_33 : decode cX_growCargo 33 = .ok (.iadd, 1) := by decide +kernel
theorem dX_growCargo_34 : decode cX_growCargo 34 = .ok (.putfield 210, 3) := by decide +kernel
theorem dX_growCargo_37 : decode cX_growCargo 37 = .ok (.iinc 1 1, 3) := by decide +kernel
theorem dX_growCargo_40 : decode cX_growCargo 40 = .ok (.goto (-38), 3) := by decide +kernel
theorem dX_growCargo_43 : decode cX_growCargo 43 = .ok (.return_, 1) := by decide +kernel
theorem dX_isDue_0 : decode cX_isDue 0 = .ok (.aload_n 1, 1) := by decide +kernel
theorem dX_isDue_1 : decode cX_isDue 1 = .ok (.invokevirtual 259, 3) := by decide +kernel
theorem dX_isDue_4 : decode cX_isDue 4 = .ok (.invokestatic 169, 3) := by decide +kernel
theorem dX_isDue_7 : decode cX_isDue 7 = .ok (.aload_n 0, 1) := by decide +kernel
theorem dX_isDue_8 : decode cX_isDue 8 = .ok (.getfield 41, 3) := by decide +kernel
theorem dX_isDue_11 : decode cX_isDue 11 = .ok (.getfield 106, 3) := by decide +kernel
theorem dX_isDue_14 : decode cX_isDue 14 = .ok (.aload_n 1, 1) := by decide +kernel
theorem dX_isDue_15 : decode cX_isDue 15 = .ok (.invokevirtual 206, 3) := by decide +kernel
theorem dX_isDue_18 : decode cX_isDue 18 = .ok (.aaload, 1) := by decide +kernel
theorem dX_isDue_19 : decode cX_isDue 19 = .ok (.getfield 193, 3) := by decide +kernel
theorem dX_isDue_22 : decode cX_isDue 22 = .ok (.if_icmp .eq 5, 3) := by decide +kernel
theorem dX_isDue_25 : decode cX_isDue 25 = .ok (.iconst 0, 1) := by decide +kernel
theorem dX_isDue_26 : decode cX_isDue 26 = .ok (.ireturn, 1) := by decide +kernel
theorem dX_isDue_27 : decode cX_isDue 27 = .ok (.aload_n 1, 1) := by decide +kernel
theorem dX_isDue_28 : decode cX_isDue 28 = .ok (.invokevirtual 161, 3) := by decide +kernel
theorem dX_isDue_31 : decode cX_isDue 31 = .ok (.ifCond .gt 10, 3) := by decide +kernel
theorem dX_isDue_34 : decode cX_isDue 34 = .ok (.aload_n 1, 1) := by decide +kernel
theorem dX_isDue_35 : decode cX_isDue 35 = .ok (.getfield 252, 3) := by decide +kernel
theorem dX_isDue_38 : decode cX_isDue 38 = .ok (.ifCond .ne 7, 3) := by decide +kernel
theorem dX_isDue_41 : decode cX_isDue 41 = .ok (.iconst 1, 1) := by decide +kernel
theorem dX_isDue_42 : decode cX_isDue 42 = .ok (.goto 4, 3) := by decide +kernel
theorem dX_isDue_45 : decode cX_isDue 45 = .ok (.iconst 0, 1) := by decide +kernel
theorem dX_isDue_46 : decode cX_isDue 46 = .ok (.ireturn, 1) := by decide +kernel
theorem dX_standsWaiting_0 : decode cX_standsWaiting 0 = .ok (.aload_n 1, 1) := by decide +kernel
theorem dX_standsWaiting_1 : decode cX_standsWaiting 1 = .ok (.getfield 149, 3) := by decide +kernel
theorem dX_standsWaiting_4 : decode cX_standsWaiting 4 = .ok (.ifCond .le 36, 3) := by decide +kernel
theorem dX_standsWaiting_7 : decode cX_standsWaiting 7 = .ok (.aload_n 1, 1) := by decide +kernel
theorem dX_standsWaiting_8 : decode cX_standsWaiting 8 = .ok (.getfield 158, 3) := by decide +kernel
theorem dX_standsWaiting_11 : decode cX_standsWaiting 11 = .ok (.ifCond .ne 29, 3) := by decide +kernel
theorem dX_standsWaiting_14 : decode cX_standsWaiting 14 = .ok (.aload_n 1, 1) := by decide +kernel
theorem dX_standsWaiting_15 : decode cX_standsWaiting 15 = .ok (.getfield 155, 3) := by decide +kernel
theorem dX_standsWaiting_18 : decode cX_standsWaiting 18 = .ok (.ifCond .ne 22, 3) := by decide +kernel
theorem dX_standsWaiting_21 : decode cX_standsWaiting 21 = .ok (.aload_n 1, 1) := by decide +kernel
theorem dX_standsWaiting_22 : decode cX_standsWaiting 22 = .ok (.invokevirtual 161, 3) := by decide +kernel
theorem dX_standsWaiting_25 : decode cX_standsWaiting 25 = .ok (.ifCond .ne 15, 3) := by decide +kernel
theorem dX_standsWaiting_28 : decode cX_standsWaiting 28 = .ok (.aload_n 0, 1) := by decide +kernel
theorem dX_standsWaiting_29 : decode cX_standsWaiting 29 = .ok (.aload_n 1, 1) := by decide +kernel
theorem dX_standsWaiting_30 : decode cX_standsWaiting 30 = .ok (.invokevirtual 234, 3) := by decide +kernel
theorem dX_standsWaiting_33 : decode cX_standsWaiting 33 = .ok (.ifCond .ne 7, 3) := by decide +kernel
theorem dX_standsWaiting_36 : decode cX_standsWaiting 36 = .ok (.iconst 1, 1) := by decide +kernel
theorem dX_standsWaiting_37 : decode cX_standsWaiting 37 = .ok (.goto 4, 3) := by decide +kernel
theorem dX_standsWaiting_40 : decode cX_standsWaiting 40 = .ok (.iconst 0, 1) := by decide +kernel
theorem dX_standsWaiting_41 : decode cX_standsWaiting 41 = .ok (.ireturn, 1) := by decide +kernel
theorem dX_makeRequest_0 : decode cX_makeRequest 0 = .ok (.aload_n 0, 1) := by decide +kernel
theorem dX_makeRequest_1 : decode cX_makeRequest 1 = .ok (.getfield 41, 3) := by decide +kernel
theorem dX_makeRequest_4 : decode cX_makeRequest 4 = .ok (.getfield 129, 3) := by decide +kernel
theorem dX_makeRequest_7 : decode cX_makeRequest 7 = .ok (.iload_n 1, 1) := by decide +kernel
theorem dX_makeRequest_8 : decode cX_makeRequest 8 = .ok (.aaload, 1) := by decide +kernel
theorem dX_makeRequest_9 : decode cX_makeRequest 9 = .ok (.astore_n 2, 1) := by decide +kernel
theorem dX_makeRequest_10 : decode cX_makeRequest 10 = .ok (.aload_n 2, 1) := by decide +kernel
theorem dX_makeRequest_11 : decode cX_makeRequest 11 = .ok (.invokevirtual 206, 3) := by decide +kernel
theorem dX_makeRequest_14 : decode cX_makeRequest 14 = .ok (.istore_n 3, 1) := by decide +kernel
theorem dX_makeRequest_15 : decode cX_makeRequest 15 = .ok (.aload_n 0, 1) := by decide +kernel
theorem dX_makeRequest_16 : decode cX_makeRequest 16 = .ok (.getfield 41, 3) := by decide +kernel
theorem dX_makeRequest_19 : decode cX_makeRequest 19 = .ok (.getfield 106, 3) := by decide +kernel
theorem dX_makeRequest_22 : decode cX_makeRequest 22 = .ok (.iload_n 3, 1) := by decide +kernel
theorem dX_makeRequest_23 : decode cX_makeRequest 23 = .ok (.aaload, 1) := by decide +kernel
theorem dX_makeRequest_24 : decode cX_makeRequest 24 = .ok (.getfield 193, 3) := by decide +kernel
theorem dX_makeRequest_27 : decode cX_makeRequest 27 = .ok (.istore 4, 2) := by decide +kernel
theorem dX_makeRequest_29 : decode cX_makeRequest 29 = .ok (.aload_n 0, 1) := by decide +kernel
theorem dX_makeRequest_30 : decode cX_makeRequest 30 = .ok (.getfield 12, 3) := by decide +kernel
theorem dX_makeRequest_33 : decode cX_makeRequest 33 = .ok (.aload_n 0, 1) := by decide +kernel
theorem dX_makeRequest_34 : decode cX_makeRequest 34 = .ok (.getfield 41, 3) := by decide +kernel
theorem dX_makeRequest_37 : decode cX_makeRequest 37 = .ok (.getfield 48, 3) := by decide +kernel
theorem dX_makeRequest_40 : decode cX_makeRequest 40 = .ok (.iload_n 3, 1) := by decide +kernel
theorem dX_makeRequest_41 : decode cX_makeRequest 41 = .ok (.iload 4, 2) := by decide +kernel
theorem dX_makeRequest_43 : decode cX_makeRequest 43 = .ok (.invokevirtual 195, 3) := by decide +kernel
theorem dX_makeRequest_46 : decode cX_makeRequest 46 = .ok (.aload_n 0, 1) := by decide +kernel
theorem dX_makeRequest_47 : decode cX_makeRequest 47 = .ok (.getfield 19, 3) := by decide +kernel
theorem dX_makeRequest_50 : decode cX_makeRequest 50 = .ok (.iconst 0, 1) := by decide +kernel
theorem dX_makeRequest_51 : decode cX_makeRequest 51 = .ok (.putfield 122, 3) := by decide +kernel
theorem dX_makeRequest_54 : decode cX_makeRequest 54 = .ok (.aload_n 2, 1) := by decide +kernel
theorem dX_makeRequest_55 : decode cX_makeRequest 55 = .ok (.invokevirtual 259, 3) := by decide +kernel
theorem dX_makeRequest_58 : decode cX_makeRequest 58 = .ok (.istore 5, 2) := by decide +kernel
theorem dX_makeRequest_60 : decode cX_makeRequest 60 = .ok (.iconst 0, 1) := by decide +kernel
theorem dX_makeRequest_61 : decode cX_makeRequest 61 = .ok (.istore 6, 2) := by decide +kernel
theorem dX_makeRequest_63 : decode cX_makeRequest 63 = .ok (.iload 6, 2) := by decide +kernel
theorem dX_makeRequest_65 : decode cX_makeRequest 65 = .ok (.sipush 257, 3) := by decide +kernel
theorem dX_makeRequest_68 : decode cX_makeRequest 68 = .ok (.if_icmp .ge 76, 3) := by decide +kernel
theorem dX_makeRequest_71 : decode cX_makeRequest 71 = .ok (.aload_n 0, 1) := by decide +kernel
theorem dX_makeRequest_72 : decode cX_makeRequest 72 = .ok (.getfield 12, 3) := by decide +kernel
theorem dX_makeRequest_75 : decode cX_makeRequest 75 = .ok (.aload_n 0, 1) := by decide +kernel
theorem dX_makeRequest_76 : decode cX_makeRequest 76 = .ok (.getfield 41, 3) := by decide +kernel
theorem dX_makeRequest_79 : decode cX_makeRequest 79 = .ok (.getfield 48, 3) := by decide +kernel
theorem dX_makeRequest_82 : decode cX_makeRequest 82 = .ok (.iload 5, 2) := by decide +kernel
theorem dX_makeRequest_84 : decode cX_makeRequest 84 = .ok (.iload_n 3, 1) := by decide +kernel
theorem dX_makeRequest_85 : decode cX_makeRequest 85 = .ok (.iload 4, 2) := by decide +kernel
theorem dX_makeRequest_87 : decode cX_makeRequest 87 = .ok (.invokevirtual 262, 3) := by decide +kernel
theorem dX_makeRequest_90 : decode cX_makeRequest 90 = .ok (.istore 5, 2) := by decide +kernel
theorem dX_makeRequest_92 : decode cX_makeRequest 92 = .ok (.iload 5, 2) := by decide +kernel
theorem dX_makeRequest_94 : decode cX_makeRequest 94 = .ok (.iconst (-1), 1) := by decide +kernel
theorem dX_makeRequest_95 : decode cX_makeRequest 95 = .ok (.if_icmp .ne 6, 3) := by decide +kernel
theorem dX_makeRequest_98 : decode cX_makeRequest 98 = .ok (.goto 46, 3) := by decide +kernel
theorem dX_makeRequest_101 : decode cX_makeRequest 101 = .ok (.aload_n 0, 1) := by decide +kernel
theorem dX_makeRequest_102 : decode cX_makeRequest 102 = .ok (.getfield 19, 3) := by decide +kernel
theorem dX_makeRequest_105 : decode cX_makeRequest 105 = .ok (.iload 5, 2) := by decide +kernel
theorem dX_makeRequest_107 : decode cX_makeRequest 107 = .ok (.invokevirtual 266, 3) := by decide +kernel
theorem dX_makeRequest_110 : decode cX_makeRequest 110 = .ok (.iload 5, 2) := by decide +kernel
theorem dX_makeRequest_112 : decode cX_makeRequest 112 = .ok (.invokestatic 169, 3) := by decide +kernel
theorem dX_makeRequest_115 : decode cX_makeRequest 115 = .ok (.iload 4, 2) := by decide +kernel
theorem dX_makeRequest_117 : decode cX_makeRequest 117 = .ok (.if_icmp .eq 27, 3) := by decide +kernel
theorem dX_makeRequest_120 : decode cX_makeRequest 120 = .ok (.aload_n 0, 1) := by decide +kernel
theorem dX_makeRequest_121 : decode cX_makeRequest 121 = .ok (.getfield 41, 3) := by decide +kernel
theorem dX_makeRequest_124 : decode cX_makeRequest 124 = .ok (.getfield 48, 3) := by decide +kernel
theorem dX_makeRequest_127 : decode cX_makeRequest 127 = .ok (.iload 5, 2) := by decide +kernel
theorem dX_makeRequest_129 : decode cX_makeRequest 129 = .ok (.invokevirtual 96, 3) := by decide +kernel
theorem dX_makeRequest_132 : decode cX_makeRequest 132 = .ok (.ifCond .eq 6, 3) := by decide +kernel
theorem dX_makeRequest_135 : decode cX_makeRequest 135 = .ok (.goto 9, 3) := by decide +kernel
theorem dX_makeRequest_138 : decode cX_makeRequest 138 = .ok (.iinc 6 1, 3) := by decide +kernel
theorem dX_makeRequest_141 : decode cX_makeRequest 141 = .ok (.goto (-78), 3) := by decide +kernel
theorem dX_makeRequest_144 : decode cX_makeRequest 144 = .ok (.aload_n 0, 1) := by decide +kernel
theorem dX_makeRequest_145 : decode cX_makeRequest 145 = .ok (.getfield 19, 3) := by decide +kernel
theorem dX_makeRequest_148 : decode cX_makeRequest 148 = .ok (.aload_n 0, 1) := by decide +kernel
theorem dX_makeRequest_149 : decode cX_makeRequest 149 = .ok (.getfield 41, 3) := by decide +kernel
theorem dX_makeRequest_152 : decode cX_makeRequest 152 = .ok (.getfield 48, 3) := by decide +kernel
theorem dX_makeRequest_155 : decode cX_makeRequest 155 = .ok (.iload_n 1, 1) := by decide +kernel
theorem dX_makeRequest_156 : decode cX_makeRequest 156 = .ok (.invokevirtual 125, 3) := by decide +kernel
theorem dX_makeRequest_159 : decode cX_makeRequest 159 = .ok (.ireturn, 1) := by decide +kernel
theorem lmX_227 : Cond.methodLink R_X 227 yT_grow ∈ bigW := bw 434 (by decide +kernel) rfl
theorem lmX_259 : Cond.methodLink R_X 259 yN_last ∈ bigW := bw 463 (by decide +kernel) rfl
theorem lmX_169 : Cond.methodLink R_X 169 yS_placeOf ∈ bigW := bw 418 (by decide +kernel) rfl
theorem lfX_252 : Cond.fieldLinkNest R_X 252 "RailYard$Train" "hasLoaded" "Z" hostN ∈ nestW := nw 192 (by decide +kernel) rfl
theorem lmX_234 : Cond.methodLink R_X 234 yX_isDue ∈ bigW := bw 459 (by decide +kernel) rfl
theorem lmX_262 : Cond.methodLink R_X 262 yW_next ∈ bigW := bw 509 (by decide +kernel) rfl
theorem lfX_19 : Cond.fieldLink R_X 19 "RailYard" "wish" "LRailYard$Stretch;" ∈ bigW := bw 250 (by decide +kernel) rfl
theorem lmX_266 : Cond.methodLink R_X 266 yR_add ∈ bigW := bw 520 (by decide +kernel) rfl
theorem lfX_122 : Cond.fieldLinkNest R_X 122 "RailYard$Stretch" "count" "I" hostN ∈ nestW := nw 98 (by decide +kernel) rfl
theorem lmX_125 : Cond.methodLink R_X 125 yR_against ∈ bigW := bw 381 (by decide +kernel) rfl
theorem miT_grow : MI yT_grow cT_grow 2 (some .int) 0 := ⟨bw 437 (by decide +kernel) rfl, bw 46 (by decide +kernel) rfl, ⟨by decide +kernel, by decide +kernel⟩, by decide +kernel, by decide⟩
theorem mvT_grow : MV yT_grow := ⟨bw 435 (by decide +kernel) rfl, bw 436 (by decide +kernel) rfl⟩
theorem miN_last : MI yN_last cN_last 1 (some .int) 0 := ⟨bw 466 (by decide +kernel) rfl, bw 47 (by decide +kernel) rfl, ⟨by decide +kernel, by decide +kernel⟩, by decide +kernel, by decide⟩
theorem mvN_last : MV yN_last := ⟨bw 464 (by decide +kernel) rfl, bw 465 (by decide +kernel) rfl⟩
theorem miX_isDue : MI yX_isDue cX_isDue 2 (some .boolean) 1 := ⟨bw 462 (by decide +kernel) rfl, bw 39 (by decide +kernel) rfl, ⟨by decide +kernel, by decide +kernel⟩, by decide +kernel, by decide⟩
theorem mvX_isDue : MV yX_isDue := ⟨bw 461 (by decide +kernel) rfl, bw 3 (by decide +kernel) rfl⟩
theorem miW_next : MI yW_next cW_next 12 (some .int) 4 := ⟨bw 512 (by decide +kernel) rfl, bw 40 (by decide +kernel) rfl, ⟨by decide +kernel, by decide +kernel⟩, by decide +kernel, by decide⟩
theorem mvW_next : MV yW_next := ⟨bw 510 (by decide +kernel) rfl, bw 511 (by decide +kernel) rfl⟩
theorem miR_against : MI yR_against cR_against 9 (some .int) 2 := ⟨bw 384 (by decide +kernel) rfl, bw 41 (by decide +kernel) rfl, ⟨by decide +kernel, by decide +kernel⟩, by decide +kernel, by decide⟩
theorem mvR_against : MV yR_against := ⟨bw 382 (by decide +kernel) rfl, bw 383 (by decide +kernel) rfl⟩
def gInc (w : RW) (s : Int) : Int := if 500 - w (7 + s.toNat) 2 < w (7 + s.toNat) 1 then 500 - w (7 + s.toNat) 2 else w (7 + s.toNat) 1
def gSum (w : RW) : Nat → Int
  | 0 => 0
  | n + 1 => gSum w n + gInc w (n : Int)
def grI (w u : RW) (n : Int) : Prop := (∀ j, j ≠ 1 → (∀ s, 0 ≤ s → s < n → j ≠ 7 + s.toNat) → u j = w j) ∧ (u 1 5 = w 1 5 + gSum w n.toNat ∧ ∀ f, f ≠ 5 → u 1 f = w 1 f) ∧ ∀ s, 0 ≤ s → s < n → u (7 + s.toNat) 2 = w (7 + s.toNat) 2 + gInc w s ∧ ∀ f, f ≠ 2 → u (7 + s.toNat) f = w (7 + s.toNat) f
theorem gSum_rng {w : RW} {n : Nat} (h : ∀ s, 0 ≤ s → s < (n : Int) → 0 ≤ w (7 + s.toNat) 1 ∧ w (7 + s.toNat) 1 ≤ 50 ∧ 0 ≤ w (7 + s.toNat) 2 ∧ w (7 + s.toNat) 2 ≤ 500) : 0 ≤ gSum w n ∧ gSum w n ≤ 50 * n := by
  induction n with
  | zero => exact ⟨Int.le_refl 0, Int.le_refl 0⟩
  | succ n ih =>
    have h1 := ih (fun s s1 s2 => h s s1 (by omega))
    have h2 := h (n : Int) (by omega) (by omega)
    show 0 ≤ gSum w n + gInc w n ∧ gSum w n + gInc w n ≤ _
    have : 0 ≤ gInc w n ∧ gInc w n ≤ 50 := by unfold gInc; split <;> omega
    omega
theorem lpX_growCargo {G : vG} {X : vX} {Q : State → Prop} {w : RW} (hn : 0 ≤ w 1 3 ∧ w 1 3 ≤ 6) (hm : 0 ≤ w 1 5 ∧ w 1 5 ≤ 1000000000) (hst : ∀ s, 0 ≤ s → s < w 1 3 → 0 ≤ w (7 + s.toNat) 1 ∧ w (7 + s.toNat) 1 ≤ 50 ∧ 0 ≤ w (7 + s.toNat) 2 ∧ w (7 + s.toNat) 2 ≤ 500) (F : FX G X cX_growCargo yX_growCargo.cls 2 2) (hR : RetV G X cX_growCargo 2 Q (fun u => grI w u (w 1 3))) : ∀ (m : Nat) (i : Int) (u0 : RW), 0 ≤ i → i ≤ w 1 3 → w 1 3 - i < m → grI w u0 i → V G X 2 Q 2 [some (.inr 0), some (.inl i)] [] u0 := by
  intro m
  induction m with
  | zero => intro i u0 h1 h2 h3; omega
  | succ m ih =>
    intro i u0 h1 h2 h3 hI
    refine V_iload_n (i := 1) F dX_growCargo_2 rfl rfl ?_
    refine V_aload_n (i := 0) F dX_growCargo_3 rfl rfl ?_
    refine V_getr (ci := 6) (C := R_X) (T := T_X) (N := 5) F dX_growCargo_4 (by first | rfl | assumption) rfl (j := 0) (by decide) rfl lfX_41 ?_
    refine V_getiN (ci := 5) (C := R_Y) (T := T_Y) (N := 8) F dX_growCargo_7 (by first | rfl | assumption) rfl (j := 3) 3 rfl (by decide) rfl lfX_102 ?_
    rw [hI.2.1.2 3 (by decide)]
    refine V_icmp_ge F 43 dX_growCargo_10 (by decide) (fun h10 => ?_) (fun h10 => ?_)
    · exact hR _ _ _ dX_growCargo_43 (by rw [show i = w 1 3 by omega] at hI; exact hI)
    · have b1 := st7_at (i := i) (by omega)
      have b2 := st7_sh (i := i) (by omega)
      have hs := gSum_rng (w := w) (n := i.toNat) (fun s s1 s2 => hst s s1 (by omega))
      have hi : 0 ≤ gInc w i ∧ gInc w i ≤ 50 := by have := hst i h1 (by omega); unfold gInc; split <;> omega
      refine V_aload_n (i := 0) F dX_growCargo_13 rfl rfl ?_
      refine V_getr (ci := 6) (C := R_X) (T := T_X) (N := 5) F dX_growCargo_14 (by first | rfl | assumption) rfl (j := 0) (by decide) rfl lfX_41 ?_
      refine V_dup F dX_growCargo_17 ?_
      refine V_getiN (ci := 5) (C := R_Y) (T := T_Y) (N := 8) F dX_growCargo_18 (by first | rfl | assumption) rfl (j := 5) 5 rfl (by decide) rfl lfX_210 ?_
      rw [hI.2.1.1]
      refine V_aload_n (i := 0) F dX_growCargo_21 rfl rfl ?_
      refine V_getr (ci := 6) (C := R_X) (T := T_X) (N := 5) F dX_growCargo_22 (by first | rfl | assumption) rfl (j := 0) (by decide) rfl lfX_41 ?_
      refine V_getrN (ci := 5) (C := R_Y) (T := T_Y) (N := 8) F dX_growCargo_25 (by first | rfl | assumption) rfl (j := 1) (by decide) rfl lfX_106 ?_
      refine V_iload_n (i := 1) F dX_growCargo_28 rfl rfl ?_
      first
        | refine V_aald F dX_growCargo_29 (by first | rfl | assumption) rfl (by omega) (by first | rfl | assumption) ?_
        | refine V_aaldA F dX_growCargo_29 (by first | rfl | assumption) rfl (by omega) (by first | rfl | assumption) ?_
      refine V_callVi F dX_growCargo_30 lmX_227 miT_grow mvT_grow (ctT_grow (w := u0) b2 (by rw [hI.1 (7 + i.toNat) (by omega) (fun s s1 s2 => by omega)]; have := hst i h1 (by omega); omega)) (by decide) (by first | rfl | assumption) rfl rfl (Nat.le_of_ble_eq_true rfl) (fun r u hr => ?_)
      obtain ⟨rfl, rfl⟩ := hr
      rw [hI.1 (7 + i.toNat) (by omega) (fun s s1 s2 => by omega)]
      show V _ _ _ _ _ _ (.inl (gInc w i) :: _) (upw u0 (7 + i.toNat) 2 (w (7 + i.toNat) 2 + gInc w i))
      refine V_iadd F dX_growCargo_33 (by omega) ?_
      refine V_putiN (ci := 5) (C := R_Y) (T := T_Y) (N := 8) F dX_growCargo_34 (by first | rfl | assumption) rfl (j := 5) 5 rfl (by decide) rfl rfl rfl lfX_210 ?_
      refine V_iinc F dX_growCargo_37 (by decide) rfl (by omega) (by simp only [List.set_cons_zero, List.set_cons_succ]; exact rfl) ?_
      refine V_goto F 2 dX_growCargo_40 (by decide) ?_
      refine ih (i + 1) _ (by omega) (by omega) (by omega) ⟨fun j j1 j2 => ?_, ⟨?_, fun f hf => ?_⟩, fun s s1 s2 => ?_⟩
      · rw [upw_f j1, upw_f (j2 i h1 (by omega))]
        exact hI.1 j j1 (fun s s1 s2 => j2 s s1 (by omega))
      · rw [upw_s, show (i + 1).toNat = i.toNat + 1 by omega]
        show _ = w 1 5 + (gSum w i.toNat + gInc w (i.toNat : Int))
        rw [Int.toNat_of_nonneg h1]
        omega
      · rw [upw_i hf, upw_k (by omega)]; exact hI.2.1.2 f hf
      · rw [upw_f (by omega)]
        by_cases hs' : s = i
        · subst hs'
          rw [upw_s]
          refine ⟨rfl, fun f hf => ?_⟩
          rw [upw_i hf, hI.1 (7 + s.toNat) (by omega) (fun s' a b => by omega)]
        · rw [upw_f (by omega)]
          exact hI.2.2 s s1 (by omega)
theorem ctX_growCargo {G : vG} {l : Launch} {w : RW} (hn : 0 ≤ w 1 3 ∧ w 1 3 ≤ 6) (hm : 0 ≤ w 1 5 ∧ w 1 5 ≤ 1000000000) (hst : ∀ s, 0 ≤ s → s < w 1 3 → 0 ≤ w (7 + s.toNat) 1 ∧ w (7 + s.toNat) 1 ≤ 50 ∧ 0 ≤ w (7 + s.toNat) 2 ∧ w (7 + s.toNat) 2 ≤ 500) : CTv G l yX_growCargo cX_growCargo 2 2 [.inr 0] w (fun u => grI w u (w 1 3)) := by
  refine CTv.intro (by decide) (Nat.le_of_ble_eq_true rfl) ?_
  intro X Q F hX hR
  subst hX
  show V G X 2 Q 0 [some (.inr 0), none] [] w
  refine V_iconst F dX_growCargo_0 (by decide) ?_
  refine V_istore_n (i := 1) F dX_growCargo_1 rfl (by decide) (by simp only [List.set_cons_zero, List.set_cons_succ]; exact rfl) ?_
  exact lpX_growCargo hn hm hst F hR ((w 1 3).toNat + 1) 0 w (by omega) (by omega) (by omega) ⟨fun j _ _ => rfl, ⟨by show w 1 5 = w 1 5 + 0; omega, fun f _ => rfl⟩, fun s s1 s2 => by omega⟩
/-- the train's goal, and whether it is due there -/
def gTr (w : RW) (t : Int) : Int := w (26 + t.toNat) (w (14 + t.toNat) 8)
def duC (w : RW) (t : Int) : Prop := w (20 + t.toNat) (w (14 + t.toNat) 1 - 1) % 512 = w (7 + (gTr w t).toNat) 0 ∧ (0 < w (14 + t.toNat) 1 - w (14 + t.toNat) 2 ∨ w (14 + t.toNat) 9 = 0)
theorem ctX_isDue {G : vG} {l : Launch} {w : RW} {t : Int} (ht : 0 ≤ t ∧ t < w 1 4) (hc : cOK w) (ho : 0 < w (14 + t.toNat) 7) : CTi G l yX_isDue cX_isDue 2 .boolean 1 [.inr 0, .inr (14 + t.toNat)] w (fun r u => r = bz (duC w t) ∧ w = u) := by
  refine CTi.bool (by decide) (Nat.le_of_ble_eq_true rfl) ?_
  intro X Q F hX hR
  subst hX
  show V G X 2 Q 0 [some (.inr 0), some (.inr (14 + t.toNat))] [] w
  obtain ⟨k1, k2, k3, k4, k5, k6⟩ := hc
  obtain ⟨t1, t2, t3, t4, t5⟩ := k6 t ht.1 ht.2
  have b2 := tr14_sh (i := t) (by omega)
  have b3 := rn20_sh (i := t) (by omega)
  have b4 := od26_sh (i := t) (by omega)
  have hg : 0 ≤ gTr w t ∧ gTr w t < w 1 3 := t5 _ (by omega) (by omega)
  have b5 := st7_at (i := gTr w t) (by omega)
  have b6 := st7_sh (i := gTr w t) (by omega)
  have hla := t4 (w (14 + t.toNat) 1 - 1) (by omega) (by omega)
  have hla1 := hla.1
  have hla3 := hla.2.2.2.1
  refine V_aload_n (i := 1) F dX_isDue_0 rfl rfl ?_
  refine V_callVi F dX_isDue_1 lmX_259 miN_last mvN_last (ctN_last b2 b3 b4 (by omega)) (by decide) (by first | rfl | assumption) rfl rfl (Nat.le_of_ble_eq_true rfl) (fun r u hr => ?_)
  obtain ⟨rfl, rfl⟩ := hr
  refine V_callSi F dX_isDue_4 lmX_169 miS_placeOf msS_placeOf (ctS_placeOf (by omega)) (by decide) rfl (Nat.le_of_ble_eq_true rfl) (fun r u hr => ?_)
  obtain ⟨rfl, rfl⟩ := hr
  refine V_aload_n (i := 0) F dX_isDue_7 rfl rfl ?_
  refine V_getr (ci := 6) (C := R_X) (T := T_X) (N := 5) F dX_isDue_8 (by first | rfl | assumption) rfl (j := 0) (by decide) rfl lfX_41 ?_
  refine V_getrN (ci := 5) (C := R_Y) (T := T_Y) (N := 8) F dX_isDue_11 (by first | rfl | assumption) rfl (j := 1) (by decide) rfl lfX_106 ?_
  refine V_aload_n (i := 1) F dX_isDue_14 rfl rfl ?_
  refine V_callVi F dX_isDue_15 lmX_206 miN_goesFor mvN_goesFor (ctN_goesFor b2 b3 b4 (by omega)) (by decide) (by first | rfl | assumption) rfl rfl (Nat.le_of_ble_eq_true rfl) (fun r u hr => ?_)
  obtain ⟨rfl, rfl⟩ := hr
  rw [if_pos (by omega)]
  show V _ _ _ _ _ _ (.inl (gTr w t) :: _) _
  first
    | refine V_aald F dX_isDue_18 (by first | rfl | assumption) rfl (by omega) (by first | rfl | assumption) ?_
    | refine V_aaldA F dX_isDue_18 (by first | rfl | assumption) rfl (by omega) (by first | rfl | assumption) ?_
  refine V_getiN (ci := 1) (C := R_T) (T := T_T) (N := 3) F dX_isDue_19 (by first | rfl | assumption) rfl (j := 0) 0 rfl (by decide) rfl lfX_193 ?_
  refine V_icmp_eq F 27 dX_isDue_22 (by decide) (fun h22 => ?_) (fun h22 => ?_)
  · refine V_aload_n (i := 1) F dX_isDue_27 rfl rfl ?_
    refine V_callVi F dX_isDue_28 lmX_161 miN_ahead mvN_ahead (ctN_ahead b2 b3 b4 (by omega)) (by decide) (by first | rfl | assumption) rfl rfl (Nat.le_of_ble_eq_true rfl) (fun r u hr => ?_)
    obtain ⟨rfl, rfl⟩ := hr
    refine V_if_gt F 41 dX_isDue_31 (by decide) (fun h31 => ?_) (fun h31 => ?_)
    · refine V_iconst F dX_isDue_41 (by decide) ?_
      refine V_goto F 46 dX_isDue_42 (by decide) ?_
      exact hR _ _ _ _ dX_isDue_46 (by first | exact Or.inl rfl | exact Or.inr rfl | exact bz_01 _ | assumption) (by first | exact ⟨(bz_t (by unfold duC; omega)).symm, rfl⟩ | exact ⟨(bz_f (by unfold duC; omega)).symm, rfl⟩)
    · refine V_aload_n (i := 1) F dX_isDue_34 rfl rfl ?_
      refine V_getiN (ci := 3) (C := R_N) (T := T_N) (N := 10) F dX_isDue_35 (by first | rfl | assumption) rfl (j := 9) 9 rfl (by decide) rfl lfX_252 ?_
      refine V_if_ne F 45 dX_isDue_38 (by decide) (fun h38 => ?_) (fun h38 => ?_)
      · refine V_iconst F dX_isDue_45 (by decide) ?_
        exact hR _ _ _ _ dX_isDue_46 (by first | exact Or.inl rfl | exact Or.inr rfl | exact bz_01 _ | assumption) (by first | exact ⟨(bz_t (by unfold duC; omega)).symm, rfl⟩ | exact ⟨(bz_f (by unfold duC; omega)).symm, rfl⟩)
      · refine V_iconst F dX_isDue_41 (by decide) ?_
        refine V_goto F 46 dX_isDue_42 (by decide) ?_
        exact hR _ _ _ _ dX_isDue_46 (by first | exact Or.inl rfl | exact Or.inr rfl | exact bz_01 _ | assumption) (by first | exact ⟨(bz_t (by unfold duC; omega)).symm, rfl⟩ | exact ⟨(bz_f (by unfold duC; omega)).symm, rfl⟩)
  · refine V_iconst F dX_isDue_25 (by decide) ?_
    exact hR _ _ _ _ dX_isDue_26 (by first | exact Or.inl rfl | exact Or.inr rfl | exact bz_01 _ | assumption) (by first | exact ⟨(bz_t (by unfold duC; omega)).symm, rfl⟩ | exact ⟨(bz_f (by unfold duC; omega)).symm, rfl⟩)
def swC (w : RW) (t : Int) : Prop := 0 < w (14 + t.toNat) 7 ∧ w (14 + t.toNat) 4 = 0 ∧ w (14 + t.toNat) 3 = 0 ∧ w (14 + t.toNat) 1 - w (14 + t.toNat) 2 = 0 ∧ ¬ duC w t
theorem ctX_standsWaiting {G : vG} {l : Launch} {w : RW} {t : Int} (ht : 0 ≤ t ∧ t < w 1 4) (hc : cOK w) : CTi G l yX_standsWaiting cX_standsWaiting 2 .boolean 2 [.inr 0, .inr (14 + t.toNat)] w (fun r u => r = bz (swC w t) ∧ w = u) := by
  refine CTi.bool (by decide) (Nat.le_of_ble_eq_true rfl) ?_
  intro X Q F hX hR
  subst hX
  show V G X 2 Q 0 [some (.inr 0), some (.inr (14 + t.toNat))] [] w
  have hc0 := hc
  obtain ⟨k1, k2, k3, k4, k5, k6⟩ := hc
  obtain ⟨t1, t2, t3, t4, t5⟩ := k6 t ht.1 ht.2
  have b2 := tr14_sh (i := t) (by omega)
  have b3 := rn20_sh (i := t) (by omega)
  have b4 := od26_sh (i := t) (by omega)
  refine V_aload_n (i := 1) F dX_standsWaiting_0 rfl rfl ?_
  refine V_getiN (ci := 3) (C := R_N) (T := T_N) (N := 10) F dX_standsWaiting_1 (by first | rfl | assumption) rfl (j := 7) 7 rfl (by decide) rfl lfX_149 ?_
  refine V_if_le F 40 dX_standsWaiting_4 (by decide) (fun h4 => ?_) (fun h4 => ?_)
  · first | (replace h4 := bz_ne0.mp h4) | (replace h4 := bz_eq0.mp h4) | skip
    refine V_iconst F dX_standsWaiting_40 (by decide) ?_
    exact hR _ _ _ _ dX_standsWaiting_41 (by first | exact Or.inl rfl | exact Or.inr rfl | exact bz_01 _ | assumption) (by first | exact ⟨(bz_t ⟨by omega, by omega, by omega, by omega, h33⟩).symm, rfl⟩ | exact ⟨(bz_f (fun z => by have z1 := z.1; have z2 := z.2.1; have z3 := z.2.2.1; have z4 := z.2.2.2.1; omega)).symm, rfl⟩ | exact ⟨(bz_f (fun z => z.2.2.2.2 h33)).symm, rfl⟩)
  · first | (replace h4 := bz_ne0.mp h4) | (replace h4 := bz_eq0.mp h4) | skip
    refine V_aload_n (i := 1) F dX_standsWaiting_7 rfl rfl ?_
    refine V_getiN (ci := 3) (C := R_N) (T := T_N) (N := 10) F dX_standsWaiting_8 (by first | rfl | assumption) rfl (j := 4) 4 rfl (by decide) rfl lfX_158 ?_
    refine V_if_ne F 40 dX_standsWaiting_11 (by decide) (fun h11 => ?_) (fun h11 => ?_)
    · first | (replace h11 := bz_ne0.mp h11) | (replace h11 := bz_eq0.mp h11) | skip
      refine V_iconst F dX_standsWaiting_40 (by decide) ?_
      exact hR _ _ _ _ dX_standsWaiting_41 (by first | exact Or.inl rfl | exact Or.inr rfl | exact bz_01 _ | assumption) (by first | exact ⟨(bz_t ⟨by omega, by omega, by omega, by omega, h33⟩).symm, rfl⟩ | exact ⟨(bz_f (fun z => by have z1 := z.1; have z2 := z.2.1; have z3 := z.2.2.1; have z4 := z.2.2.2.1; omega)).symm, rfl⟩ | exact ⟨(bz_f (fun z => z.2.2.2.2 h33)).symm, rfl⟩)
    · first | (replace h11 := bz_ne0.mp h11) | (replace h11 := bz_eq0.mp h11) | skip
      refine V_aload_n (i := 1) F dX_standsWaiting_14 rfl rfl ?_
      refine V_getiN (ci := 3) (C := R_N) (T := T_N) (N := 10) F dX_standsWaiting_15 (by first | rfl | assumption) rfl (j := 3) 3 rfl (by decide) rfl lfX_155 ?_
      refine V_if_ne F 40 dX_standsWaiting_18 (by decide) (fun h18 => ?_) (fun h18 => ?_)
      · first | (replace h18 := bz_ne0.mp h18) | (replace h18 := bz_eq0.mp h18) | skip
        refine V_iconst F dX_standsWaiting_40 (by decide) ?_
        exact hR _ _ _ _ dX_standsWaiting_41 (by first | exact Or.inl rfl | exact Or.inr rfl | exact bz_01 _ | assumption) (by first | exact ⟨(bz_t ⟨by omega, by omega, by omega, by omega, h33⟩).symm, rfl⟩ | exact ⟨(bz_f (fun z => by have z1 := z.1; have z2 := z.2.1; have z3 := z.2.2.1; have z4 := z.2.2.2.1; omega)).symm, rfl⟩ | exact ⟨(bz_f (fun z => z.2.2.2.2 h33)).symm, rfl⟩)
      · first | (replace h18 := bz_ne0.mp h18) | (replace h18 := bz_eq0.mp h18) | skip
        refine V_aload_n (i := 1) F dX_standsWaiting_21 rfl rfl ?_
        refine V_callVi F dX_standsWaiting_22 lmX_161 miN_ahead mvN_ahead (ctN_ahead b2 b3 b4 (by omega)) (by decide) (by first | rfl | assumption) rfl rfl (Nat.le_of_ble_eq_true rfl) (fun r u hr => ?_)
        obtain ⟨rfl, rfl⟩ := hr
        refine V_if_ne F 40 dX_standsWaiting_25 (by decide) (fun h25 => ?_) (fun h25 => ?_)
        · first | (replace h25 := bz_ne0.mp h25) | (replace h25 := bz_eq0.mp h25) | skip
          refine V_iconst F dX_standsWaiting_40 (by decide) ?_
          exact hR _ _ _ _ dX_standsWaiting_41 (by first | exact Or.inl rfl | exact Or.inr rfl | exact bz_01 _ | assumption) (by first | exact ⟨(bz_t ⟨by omega, by omega, by omega, by omega, h33⟩).symm, rfl⟩ | exact ⟨(bz_f (fun z => by have z1 := z.1; have z2 := z.2.1; have z3 := z.2.2.1; have z4 := z.2.2.2.1; omega)).symm, rfl⟩ | exact ⟨(bz_f (fun z => z.2.2.2.2 h33)).symm, rfl⟩)
        · first | (replace h25 := bz_ne0.mp h25) | (replace h25 := bz_eq0.mp h25) | skip
          refine V_aload_n (i := 0) F dX_standsWaiting_28 rfl rfl ?_
          refine V_aload_n (i := 1) F dX_standsWaiting_29 rfl rfl ?_
          refine V_callVi F dX_standsWaiting_30 lmX_234 miX_isDue mvX_isDue (ctX_isDue ht hc0 (by omega)) (by decide) (by first | rfl | assumption) rfl rfl (Nat.le_of_ble_eq_true rfl) (fun r u hr => ?_)
          obtain ⟨rfl, rfl⟩ := hr
          refine V_if_ne F 40 dX_standsWaiting_33 (by decide) (fun h33 => ?_) (fun h33 => ?_)
          · first | (replace h33 := bz_ne0.mp h33) | (replace h33 := bz_eq0.mp h33) | skip
            refine V_iconst F dX_standsWaiting_40 (by decide) ?_
            exact hR _ _ _ _ dX_standsWaiting_41 (by first | exact Or.inl rfl | exact Or.inr rfl | exact bz_01 _ | assumption) (by first | exact ⟨(bz_t ⟨by omega, by omega, by omega, by omega, h33⟩).symm, rfl⟩ | exact ⟨(bz_f (fun z => by have z1 := z.1; have z2 := z.2.1; have z3 := z.2.2.1; have z4 := z.2.2.2.1; omega)).symm, rfl⟩ | exact ⟨(bz_f (fun z => z.2.2.2.2 h33)).symm, rfl⟩)
          · first | (replace h33 := bz_ne0.mp h33) | (replace h33 := bz_eq0.mp h33) | skip
            refine V_iconst F dX_standsWaiting_36 (by decide) ?_
            refine V_goto F 41 dX_standsWaiting_37 (by decide) ?_
            exact hR _ _ _ _ dX_standsWaiting_41 (by first | exact Or.inl rfl | exact Or.inr rfl | exact bz_01 _ | assumption) (by first | exact ⟨(bz_t ⟨by omega, by omega, by omega, by omega, h33⟩).symm, rfl⟩ | exact ⟨(bz_f (fun z => by have z1 := z.1; have z2 := z.2.1; have z3 := z.2.2.1; have z4 := z.2.2.2.1; omega)).symm, rfl⟩ | exact ⟨(bz_f (fun z => z.2.2.2.2 h33)).symm, rfl⟩)
def enC (w : RW) (g x : Int) : Prop := x % 512 = g ∨ tb (w 4 (x % 512)) (x / 512)
def prv (u : RW) (x0 i : Int) : Int := if i = 0 then x0 else u 74 (i - 1)
def mrI (v u : RW) (s g x0 i : Int) : Prop := (∀ j, j ≠ 73 → j ≠ 74 → u j = v j) ∧ u 73 2 = i ∧ ∀ j, 0 ≤ j → j < i → okR (u 74 j) ∧ nxQ v s g (prv u x0 j) (u 74 j) ∧ ¬ enC v g (u 74 j)
/-- the wish is the way on from x0: it ends where it must, or there is none -/
def mrE (v u : RW) (s g x0 : Int) : Prop := (∀ j, j ≠ 73 → j ≠ 74 → u j = v j) ∧ (0 ≤ u 73 2 ∧ u 73 2 ≤ 257) ∧ (∀ j, 0 ≤ j → j < u 73 2 → okR (u 74 j) ∧ nxQ v s g (prv u x0 j) (u 74 j)) ∧ (∀ j, 0 ≤ j → j < u 73 2 - 1 → ¬ enC v g (u 74 j)) ∧ ((1 ≤ u 73 2 ∧ enC v g (u 74 (u 73 2 - 1))) ∨ ((∀ j, 0 ≤ j → j < u 73 2 → ¬ enC v g (u 74 j)) ∧ (nxQ v s g (prv u x0 (u 73 2)) (-1) ∨ u 73 2 = 257)))
theorem nxQ_ok {w : RW} {s g x b : Int} (hx : 0 ≤ x) (hb : w 2 0 ≤ 8 ∧ w 2 1 ≤ 6) (h : nxQ w s g x b) : b = -1 ∨ okR b := by
  rcases h with ⟨_, h⟩ | ⟨hT, z, ⟨h, _⟩ | ⟨p, p1, p2, p3, p4, _⟩⟩
  · exact Or.inl h
  · exact Or.inl h
  · have := nxT_rng (w := w) (x := x) hb
    rw [p4]
    exact Or.inr (nxR_ok hx (by omega) ⟨p1, p2⟩ p3.2).1
theorem nxQ_c {w u : RW} {s g x b : Int} (h2 : u 2 = w 2) (h3 : u 3 = w 3) (h4 : u 4 = w 4) (hL : u (65 + s.toNat) = w (65 + s.toNat)) : nxQ u s g x b ↔ nxQ w s g x b := by
  unfold nxQ nxB nxS rsT nxP nxR nxT
  rw [h2, h3, h4, hL]
theorem mrI_B {v u : RW} {s g x0 i : Int} (hi : 0 ≤ i ∧ i ≤ 257) (h : mrI v u s g x0 i) (hn : nxQ v s g (prv u x0 i) (-1) ∨ i = 257) : mrE v u s g x0 := by
  obtain ⟨h1, h2, h3⟩ := h
  refine ⟨h1, by omega, fun j j1 j2 => ⟨(h3 j j1 (by omega)).1, (h3 j j1 (by omega)).2.1⟩, fun j j1 j2 => (h3 j j1 (by omega)).2.2, Or.inr ⟨fun j j1 j2 => (h3 j j1 (by omega)).2.2, ?_⟩⟩
  rw [h2]
  exact hn
def mrW (u : RW) (y : Int) : RW := upw (upw u 74 (u 73 2) y) 73 2 (u 73 2 + 1)
theorem mrI_add {v u : RW} {s g x0 i y : Int} (hi : 0 ≤ i) (h : mrI v u s g x0 i) : (∀ j, j ≠ 73 → j ≠ 74 → mrW u y j = v j) ∧ mrW u y 73 2 = i + 1 ∧ mrW u y 74 i = y ∧ (∀ j, j < i → mrW u y 74 j = u 74 j) ∧ ∀ j, 0 ≤ j → j ≤ i → prv (mrW u y) x0 j = prv u x0 j := by
  obtain ⟨h1, h2, h3⟩ := h
  have e : ∀ j, j < i → mrW u y 74 j = u 74 j := fun j hj => by unfold mrW; rw [upw_f (by decide), upw_i (by omega)]
  refine ⟨fun j j1 j2 => ?_, ?_, ?_, e, fun j j1 j2 => ?_⟩
  · unfold mrW; rw [upw_f j1, upw_f j2]; exact h1 j j1 j2
  · unfold mrW; rw [upw_s, h2]
  · unfold mrW; rw [upw_f (by decide), h2, upw_s]
  · unfold prv
    by_cases hj : j = 0
    · rw [if_pos hj, if_pos hj]
    · rw [if_neg hj, if_neg hj, e (j - 1) (by omega)]
theorem mrI_go {v u : RW} {s g x0 i y : Int} (hi : 0 ≤ i) (h : mrI v u s g x0 i) (hq : nxQ v s g (prv u x0 i) y) (hok : okR y) (hne : ¬ enC v g y) : mrI v (mrW u y) s g x0 (i + 1) := by
  obtain ⟨a1, a2, a3, a4, a5⟩ := mrI_add (y := y) hi h
  refine ⟨a1, a2, fun j j1 j2 => ?_⟩
  by_cases hj : j = i
  · subst hj
    rw [a3, a5 j j1 (by omega)]
    exact ⟨hok, hq, hne⟩
  · rw [a4 j (by omega), a5 j j1 (by omega)]
    exact h.2.2 j j1 (by omega)
theorem mrI_C {v u : RW} {s g x0 i y : Int} (hi : 0 ≤ i ∧ i < 257) (h : mrI v u s g x0 i) (hq : nxQ v s g (prv u x0 i) y) (hok : okR y) (he : enC v g y) : mrE v (mrW u y) s g x0 := by
  obtain ⟨a1, a2, a3, a4, a5⟩ := mrI_add (y := y) hi.1 h
  refine ⟨a1, by omega, fun j j1 j2 => ?_, fun j j1 j2 => ?_, Or.inl ⟨by omega, ?_⟩⟩
  · by_cases hj : j = i
    · subst hj
      rw [a3, a5 j j1 (by omega)]
      exact ⟨hok, hq⟩
    · rw [a4 j (by omega), a5 j j1 (by omega)]
      exact ⟨(h.2.2 j j1 (by omega)).1, (h.2.2 j j1 (by omega)).2.1⟩
  · rw [a4 j (by omega)]
    exact (h.2.2 j j1 (by omega)).2.2
  · rw [a2, show i + 1 - 1 = i by omega, a3]
    exact he
theorem prv_s {v u : RW} {s g x0 i y : Int} (hi : 0 ≤ i) (h : mrI v u s g x0 i) : prv (mrW u y) x0 (i + 1) = y := by
  obtain ⟨a1, a2, a3, a4, a5⟩ := mrI_add (y := y) hi h
  unfold prv
  rw [if_neg (by omega), show i + 1 - 1 = i by omega, a3]
theorem lpX_makeRequest {G : vG} {X : vX} {Q : State → Prop} {v : RW} {t s g x0 : Int} {kt : Nat} (hb : v 2 0 ≤ 8 ∧ v 2 1 ≤ 6) (hw : ∀ t, 0 ≤ t → t < 48 → 0 ≤ v 3 t) (hl : ∀ p, 0 ≤ p → p < 384 → 0 ≤ v 4 p) (hs : 0 ≤ s ∧ s < 6) (hr0 : ∀ e, 0 ≤ e → e < 256 → 0 ≤ v (65 + s.toNat) e ∧ v (65 + s.toNat) e ≤ 1048576) (F : FX G X cX_makeRequest yX_makeRequest.cls 7 4) (K : ∀ (x i : Int) (u : RW), mrE v u s g x0 → V G X 7 Q 144 [some (.inr 0), some (.inl t), some (.inr kt), some (.inl s), some (.inl g), some (.inl x), some (.inl i)] [] u) : ∀ (m : Nat) (i x : Int) (u0 : RW), 0 ≤ i → i ≤ 257 → 257 - i < m → mrI v u0 s g x0 i → x = prv u0 x0 i → okR x → V G X 7 Q 63 [some (.inr 0), some (.inl t), some (.inr kt), some (.inl s), some (.inl g), some (.inl x), some (.inl i)] [] u0 := by
  intro m
  induction m with
  | zero => intro i x u0 h1 h2 h3; omega
  | succ m ih =>
    intro i x u0 h1 h2 h3 hI hxe hx
    refine V_iload F dX_makeRequest_63 rfl ?_
    refine V_sipush F dX_makeRequest_65 (by decide) ?_
    refine V_icmp_ge F 144 dX_makeRequest_68 (by decide) (fun h68 => ?_) (fun h68 => ?_)
    · first | (replace h68 := bz_ne0.mp h68) | (replace h68 := bz_eq0.mp h68) | skip
      first
      | exact K _ _ _ (mrI_B ⟨h1, h2⟩ hI (Or.inr (by omega)))
      | exact K _ _ _ (mrI_B ⟨h1, h2⟩ hI (Or.inl (by rw [← hxe, ← h95]; exact hq)))
      | exact K _ _ _ (mrI_C ⟨h1, by omega⟩ hI (by rw [← hxe]; exact hq) ⟨y1, y2, y3, y4, y5⟩ (Or.inl h117))
      | exact K _ _ _ (mrI_C ⟨h1, by omega⟩ hI (by rw [← hxe]; exact hq) ⟨y1, y2, y3, y4, y5⟩ (Or.inr h132))
    · first | (replace h68 := bz_ne0.mp h68) | (replace h68 := bz_eq0.mp h68) | skip
      have e2 := hI.1 2 (by decide) (by decide)
      have e3 := hI.1 3 (by decide) (by decide)
      have e4 := hI.1 4 (by decide) (by decide)
      have eL := hI.1 (65 + s.toNat) (by omega) (by omega)
      refine V_aload_n (i := 0) F dX_makeRequest_71 rfl rfl ?_
      refine V_getr (ci := 6) (C := R_X) (T := T_X) (N := 5) F dX_makeRequest_72 (by first | rfl | assumption) rfl (j := 2) (by decide) rfl lfX_12 ?_
      refine V_aload_n (i := 0) F dX_makeRequest_75 rfl rfl ?_
      refine V_getr (ci := 6) (C := R_X) (T := T_X) (N := 5) F dX_makeRequest_76 (by first | rfl | assumption) rfl (j := 0) (by decide) rfl lfX_41 ?_
      refine V_getrN (ci := 5) (C := R_Y) (T := T_Y) (N := 8) F dX_makeRequest_79 (by first | rfl | assumption) rfl (j := 0) (by decide) rfl lfX_48 ?_
      refine V_iload F dX_makeRequest_82 rfl ?_
      refine V_iload_n (i := 3) F dX_makeRequest_84 rfl rfl ?_
      refine V_iload F dX_makeRequest_85 rfl ?_
      refine V_callVi F dX_makeRequest_87 lmX_262 miW_next mvW_next (ctW_next (w := u0) hx hs (by rw [e2]; exact hb) (by rw [e3]; exact hw) (by rw [e4]; exact hl) (by rw [eL]; exact hr0)) (by decide) (by first | rfl | assumption) rfl rfl (Nat.le_of_ble_eq_true rfl) (fun y u hr => ?_)
      obtain ⟨hq, rfl⟩ := hr
      replace hq := (nxQ_c e2 e3 e4 eL).mp hq
      have hyo := nxQ_ok hx.1 hb hq
      refine V_istore F dX_makeRequest_90 (by decide) (by simp only [List.set_cons_zero, List.set_cons_succ]; exact rfl) ?_
      refine V_iload F dX_makeRequest_92 rfl ?_
      refine V_iconst F dX_makeRequest_94 (by decide) ?_
      refine V_icmp_ne F 101 dX_makeRequest_95 (by decide) (fun h95 => ?_) (fun h95 => ?_)
      · first | (replace h95 := bz_ne0.mp h95) | (replace h95 := bz_eq0.mp h95) | skip
        have hok : okR y := by rcases hyo with h | h
                               · exact absurd h h95
                               · exact h
        obtain ⟨y1, y2, y3, y4, y5⟩ := hok
        have hadd := mrI_add (y := y) h1 hI
        have m4 : mrW u0 y 4 = v 4 := hadd.1 4 (by decide) (by decide)
        refine V_aload_n (i := 0) F dX_makeRequest_101 rfl rfl ?_
        refine V_getr (ci := 6) (C := R_X) (T := T_X) (N := 5) F dX_makeRequest_102 (by first | rfl | assumption) rfl (j := 3) (by decide) rfl lfX_19 ?_
        refine V_iload F dX_makeRequest_105 rfl ?_
        refine V_callVv F dX_makeRequest_107 lmX_266 miR_add mvR_add (ctR_add (w := u0) (by have := hI.2.1; omega)) (by decide) (by first | rfl | assumption) rfl rfl (Nat.le_of_ble_eq_true rfl) (fun u2 hr2 => ?_)
        subst hr2
        show V _ _ _ _ _ _ _ (mrW u0 y)
        refine V_iload F dX_makeRequest_110 rfl ?_
        refine V_callSi F dX_makeRequest_112 lmX_169 miS_placeOf msS_placeOf (ctS_placeOf (w := mrW u0 y) (by omega)) (by decide) rfl (Nat.le_of_ble_eq_true rfl) (fun r3 u3 hr3 => ?_)
        obtain ⟨rfl, rfl⟩ := hr3
        refine V_iload F dX_makeRequest_115 rfl ?_
        refine V_icmp_eq F 144 dX_makeRequest_117 (by decide) (fun h117 => ?_) (fun h117 => ?_)
        · first | (replace h117 := bz_ne0.mp h117) | (replace h117 := bz_eq0.mp h117) | skip
          first
          | exact K _ _ _ (mrI_B ⟨h1, h2⟩ hI (Or.inr (by omega)))
          | exact K _ _ _ (mrI_B ⟨h1, h2⟩ hI (Or.inl (by rw [← hxe, ← h95]; exact hq)))
          | exact K _ _ _ (mrI_C ⟨h1, by omega⟩ hI (by rw [← hxe]; exact hq) ⟨y1, y2, y3, y4, y5⟩ (Or.inl h117))
          | exact K _ _ _ (mrI_C ⟨h1, by omega⟩ hI (by rw [← hxe]; exact hq) ⟨y1, y2, y3, y4, y5⟩ (Or.inr h132))
        · first | (replace h117 := bz_ne0.mp h117) | (replace h117 := bz_eq0.mp h117) | skip
          refine V_aload_n (i := 0) F dX_makeRequest_120 rfl rfl ?_
          refine V_getr (ci := 6) (C := R_X) (T := T_X) (N := 5) F dX_makeRequest_121 (by first | rfl | assumption) rfl (j := 0) (by decide) rfl lfX_41 ?_
          refine V_getrN (ci := 5) (C := R_Y) (T := T_Y) (N := 8) F dX_makeRequest_124 (by first | rfl | assumption) rfl (j := 0) (by decide) rfl lfX_48 ?_
          refine V_iload F dX_makeRequest_127 rfl ?_
          refine V_callVi F dX_makeRequest_129 lmX_96 miG_isLit mvG_isLit (ctG_isLit (w := mrW u0 y) (by omega) (by omega) (by rw [m4]; exact hl _ (by omega) (by omega))) (by decide) (by first | rfl | assumption) rfl rfl (Nat.le_of_ble_eq_true rfl) (fun r4 u4 hr4 => ?_)
          obtain ⟨rfl, rfl⟩ := hr4
          rw [m4]
          refine V_if_eq F 138 dX_makeRequest_132 (by decide) (fun h132 => ?_) (fun h132 => ?_)
          · first | (replace h132 := bz_ne0.mp h132) | (replace h132 := bz_eq0.mp h132) | skip
            refine V_iinc F dX_makeRequest_138 (by decide) rfl (by omega) (by simp only [List.set_cons_zero, List.set_cons_succ]; exact rfl) ?_
            refine V_goto F 63 dX_makeRequest_141 (by decide) ?_
            exact ih (i + 1) _ _ (by omega) (by omega) (by omega) (mrI_go h1 hI (by rw [← hxe]; exact hq) ⟨y1, y2, y3, y4, y5⟩ (fun z => z.elim h117 h132)) (prv_s h1 hI).symm ⟨y1, y2, y3, y4, y5⟩
          · first | (replace h132 := bz_ne0.mp h132) | (replace h132 := bz_eq0.mp h132) | skip
            refine V_goto F 144 dX_makeRequest_135 (by decide) ?_
            first
            | exact K _ _ _ (mrI_B ⟨h1, h2⟩ hI (Or.inr (by omega)))
            | exact K _ _ _ (mrI_B ⟨h1, h2⟩ hI (Or.inl (by rw [← hxe, ← h95]; exact hq)))
            | exact K _ _ _ (mrI_C ⟨h1, by omega⟩ hI (by rw [← hxe]; exact hq) ⟨y1, y2, y3, y4, y5⟩ (Or.inl h117))
            | exact K _ _ _ (mrI_C ⟨h1, by omega⟩ hI (by rw [← hxe]; exact hq) ⟨y1, y2, y3, y4, y5⟩ (Or.inr h132))
      · first | (replace h95 := bz_ne0.mp h95) | (replace h95 := bz_eq0.mp h95) | skip
        refine V_goto F 144 dX_makeRequest_98 (by decide) ?_
        first
        | exact K _ _ _ (mrI_B ⟨h1, h2⟩ hI (Or.inr (by omega)))
        | exact K _ _ _ (mrI_B ⟨h1, h2⟩ hI (Or.inl (by rw [← hxe, ← h95]; exact hq)))
        | exact K _ _ _ (mrI_C ⟨h1, by omega⟩ hI (by rw [← hxe]; exact hq) ⟨y1, y2, y3, y4, y5⟩ (Or.inl h117))
        | exact K _ _ _ (mrI_C ⟨h1, by omega⟩ hI (by rw [← hxe]; exact hq) ⟨y1, y2, y3, y4, y5⟩ (Or.inr h132))
/-- behind makeRequest: the sums are learnt, the wish laid, who stands against it told -/
def mqP (w u : RW) (t r : Int) : Prop := ∃ v u1, lnP w v (gTr w t) (w (7 + (gTr w t).toNat) 0) ∧ mrE v u1 (gTr w t) (w (7 + (gTr w t).toNat) 0) (w (20 + t.toNat) (w (14 + t.toNat) 1 - 1)) ∧ agF r t (agS u1 (u1 73 2) t) ∧ ∀ j, j ≠ 75 → u j = u1 j
theorem ctX_makeRequest {G : vG} {l : Launch} {w : RW} {t : Int} (ht : 0 ≤ t ∧ t < w 1 4) (hc : cOK w) (ho : 0 < w (14 + t.toNat) 7) (hw : wOK w) : CTi G l yX_makeRequest cX_makeRequest 7 .int 4 [.inr 0, .inl t] w (fun r u => mqP w u t r) := by
  refine CTi.int (by decide) (Nat.le_of_ble_eq_true rfl) ?_
  intro X Q F hX hR
  subst hX
  show V G X 7 Q 0 [some (.inr 0), some (.inl t), none, none, none, none, none] [] w
  obtain ⟨k1, k2, k3, k4, k5, k6⟩ := hc
  obtain ⟨t1, t2, t3, t4, t5⟩ := k6 t ht.1 ht.2
  have b2 := tr14_sh (i := t) (by omega)
  have b3 := rn20_sh (i := t) (by omega)
  have b4 := od26_sh (i := t) (by omega)
  have b0 := tr14_at (i := t) (by omega)
  have hg : 0 ≤ gTr w t ∧ gTr w t < w 1 3 := t5 _ (by omega) (by omega)
  have b5 := st7_at (i := gTr w t) (by omega)
  have b6 := st7_sh (i := gTr w t) (by omega)
  have hla := t4 (w (14 + t.toNat) 1 - 1) (by omega) (by omega)
  have hla1 := hla.1
  have hla3 := hla.2.2.2.1
  refine V_aload_n (i := 0) F dX_makeRequest_0 rfl rfl ?_
  refine V_getr (ci := 6) (C := R_X) (T := T_X) (N := 5) F dX_makeRequest_1 (by first | rfl | assumption) rfl (j := 0) (by decide) rfl lfX_41 ?_
  refine V_getrN (ci := 5) (C := R_Y) (T := T_Y) (N := 8) F dX_makeRequest_4 (by first | rfl | assumption) rfl (j := 2) (by decide) rfl lfX_129 ?_
  refine V_iload_n (i := 1) F dX_makeRequest_7 rfl rfl ?_
  first
    | refine V_aald F dX_makeRequest_8 (by first | rfl | assumption) rfl (by omega) (by first | rfl | assumption) ?_
    | refine V_aaldA F dX_makeRequest_8 (by first | rfl | assumption) rfl (by omega) (by first | rfl | assumption) ?_
  refine V_astore_n (i := 2) F dX_makeRequest_9 rfl (by decide) (by simp only [List.set_cons_zero, List.set_cons_succ]; exact rfl) ?_
  have b1 := b2
  refine V_aload_n (i := 2) F dX_makeRequest_10 rfl rfl ?_
  refine V_callVi F dX_makeRequest_11 lmX_206 miN_goesFor mvN_goesFor (ctN_goesFor b2 b3 b4 (by omega)) (by decide) (by first | rfl | assumption) rfl rfl (Nat.le_of_ble_eq_true rfl) (fun r u hr => ?_)
  obtain ⟨rfl, rfl⟩ := hr
  rw [if_pos (by omega)]
  show V _ _ _ _ _ _ (.inl (gTr w t) :: _) _
  refine V_istore_n (i := 3) F dX_makeRequest_14 rfl (by decide) (by simp only [List.set_cons_zero, List.set_cons_succ]; exact rfl) ?_
  have g1 := (k5 _ hg.1 hg.2).1
  refine V_aload_n (i := 0) F dX_makeRequest_15 rfl rfl ?_
  refine V_getr (ci := 6) (C := R_X) (T := T_X) (N := 5) F dX_makeRequest_16 (by first | rfl | assumption) rfl (j := 0) (by decide) rfl lfX_41 ?_
  refine V_getrN (ci := 5) (C := R_Y) (T := T_Y) (N := 8) F dX_makeRequest_19 (by first | rfl | assumption) rfl (j := 1) (by decide) rfl lfX_106 ?_
  refine V_iload_n (i := 3) F dX_makeRequest_22 rfl rfl ?_
  first
    | refine V_aald F dX_makeRequest_23 (by first | rfl | assumption) rfl (by omega) (by first | rfl | assumption) ?_
    | refine V_aaldA F dX_makeRequest_23 (by first | rfl | assumption) rfl (by omega) (by first | rfl | assumption) ?_
  refine V_getiN (ci := 1) (C := R_T) (T := T_T) (N := 3) F dX_makeRequest_24 (by first | rfl | assumption) rfl (j := 0) 0 rfl (by decide) rfl lfX_193 ?_
  refine V_istore F dX_makeRequest_27 (by decide) (by simp only [List.set_cons_zero, List.set_cons_succ]; exact rfl) ?_
  refine V_aload_n (i := 0) F dX_makeRequest_29 rfl rfl ?_
  refine V_getr (ci := 6) (C := R_X) (T := T_X) (N := 5) F dX_makeRequest_30 (by first | rfl | assumption) rfl (j := 2) (by decide) rfl lfX_12 ?_
  refine V_aload_n (i := 0) F dX_makeRequest_33 rfl rfl ?_
  refine V_getr (ci := 6) (C := R_X) (T := T_X) (N := 5) F dX_makeRequest_34 (by first | rfl | assumption) rfl (j := 0) (by decide) rfl lfX_41 ?_
  refine V_getrN (ci := 5) (C := R_Y) (T := T_Y) (N := 8) F dX_makeRequest_37 (by first | rfl | assumption) rfl (j := 0) (by decide) rfl lfX_48 ?_
  refine V_iload_n (i := 3) F dX_makeRequest_40 rfl rfl ?_
  refine V_iload F dX_makeRequest_41 rfl ?_
  refine V_callVv F dX_makeRequest_43 lmX_195 miW_learn mvW_learn (ctW_learn (by omega) (by omega) (fun z z1 z2 => (k2 z z1 (by omega)).1) (fun q q1 q2 => (k3 q q1 q2).1) g1.1 g1.2.1 g1.2.2 hw.2.2.1 ⟨hw.1, hw.2.1⟩) (by decide) (by first | rfl | assumption) rfl rfl (Nat.le_of_ble_eq_true rfl) (fun v hln => ?_)
  have fr := lnP_frame hln
  have e14 := fr (14 + t.toNat) (by omega) (by omega) (by omega) (by omega)
  have e20 := fr (20 + t.toNat) (by omega) (by omega) (by omega) (by omega)
  refine V_aload_n (i := 0) F dX_makeRequest_46 rfl rfl ?_
  refine V_getr (ci := 6) (C := R_X) (T := T_X) (N := 5) F dX_makeRequest_47 (by first | rfl | assumption) rfl (j := 3) (by decide) rfl lfX_19 ?_
  refine V_iconst F dX_makeRequest_50 (by decide) ?_
  refine V_putiN (ci := 2) (C := R_R) (T := T_R) (N := 3) F dX_makeRequest_51 (by first | rfl | assumption) rfl (j := 2) 2 rfl (by decide) rfl rfl rfl lfX_122 ?_
  refine V_aload_n (i := 2) F dX_makeRequest_54 rfl rfl ?_
  refine V_callVi F dX_makeRequest_55 lmX_259 miN_last mvN_last (ctN_last (w := upw v 73 2 0) b2 b3 b4 (by rw [upw_k (by omega), e14]; omega)) (by decide) (by first | rfl | assumption) rfl rfl (Nat.le_of_ble_eq_true rfl) (fun r u hr => ?_)
  obtain ⟨rfl, rfl⟩ := hr
  rw [upw_k (by omega), upw_k (by omega), e14, e20]
  refine V_istore F dX_makeRequest_58 (by decide) (by simp only [List.set_cons_zero, List.set_cons_succ]; exact rfl) ?_
  refine V_iconst F dX_makeRequest_60 (by decide) ?_
  refine V_istore F dX_makeRequest_61 (by decide) (by simp only [List.set_cons_zero, List.set_cons_succ]; exact rfl) ?_
  have e2 := fr 2 (by decide) (by decide) (by decide) (by omega)
  have e3 := fr 3 (by decide) (by decide) (by decide) (by omega)
  have e4 := fr 4 (by decide) (by decide) (by decide) (by omega)
  have e5 := fr 5 (by decide) (by decide) (by decide) (by omega)
  have hlr : ∀ e, 0 ≤ e → e < 256 → 0 ≤ v (65 + (gTr w t).toNat) e ∧ v (65 + (gTr w t).toNat) e ≤ 1048576 := by
    rcases hln with ⟨q1, q2⟩ | ⟨_, _, _, _, q2⟩
    · rw [← q2]; exact (hw.2.2.2 _ hg.1 (by omega) q1).2.1
    · exact q2.1
  refine lpX_makeRequest (v := v) (x0 := w (20 + t.toNat) (w (14 + t.toNat) 1 - 1)) (by rw [e2]; omega) (by rw [e3]; exact fun z z1 z2 => (k2 z z1 (by omega)).1) (by rw [e4]; exact fun q q1 q2 => (k3 q q1 q2).1) (by omega) hlr F (fun x i u1 hE => ?_) 258 0 _ _ (by omega) (by omega) (by omega) ⟨fun j j1 j2 => upw_f j1, upw_s _ _ _ _, fun j j1 j2 => by omega⟩ rfl hla
  refine V_aload_n (i := 0) F dX_makeRequest_144 rfl rfl ?_
  refine V_getr (ci := 6) (C := R_X) (T := T_X) (N := 5) F dX_makeRequest_145 (by first | rfl | assumption) rfl (j := 3) (by decide) rfl lfX_19 ?_
  refine V_aload_n (i := 0) F dX_makeRequest_148 rfl rfl ?_
  refine V_getr (ci := 6) (C := R_X) (T := T_X) (N := 5) F dX_makeRequest_149 (by first | rfl | assumption) rfl (j := 0) (by decide) rfl lfX_41 ?_
  refine V_getrN (ci := 5) (C := R_Y) (T := T_Y) (N := 8) F dX_makeRequest_152 (by first | rfl | assumption) rfl (j := 0) (by decide) rfl lfX_48 ?_
  refine V_iload_n (i := 1) F dX_makeRequest_155 rfl rfl ?_
  refine V_callVi F dX_makeRequest_156 lmX_125 miR_against mvR_against (ctR_against (w := u1) (by omega) hE.2.1 (fun j j1 j2 => (hE.2.2.1 j j1 j2).1) (by rw [hE.1 5 (by decide) (by decide), e5]; exact fun q q1 q2 => (k3 q q1 q2).2.2)) (by decide) (by first | rfl | assumption) rfl rfl (Nat.le_of_ble_eq_true rfl) (fun r u hr => ?_)
  exact hR _ _ _ _ dX_makeRequest_159 ⟨v, u1, hln, hE, hr.1, hr.2⟩
end
section
theorem dM_changed_0 : decode cM_changed 0 = .ok (.iconst 0, 1) := by decide +kernel
theorem dM_changed_1 : decode cM_changed 1 = .ok (.istore_n 1, 1) := by decide +kernel
theorem dM_changed_2 : decode cM_changed 2 = .ok (.iload_n 1, 1) := by decide +kernel
theorem dM_changed_3 : decode cM_changed 3 = .ok (.bipush 6, 2) := by decide +kernel
theorem dM_changed_5 : decode cM_changed 5 = .ok (.if_icmp .ge 16, 3) := by decide +kernel
theorem dM_changed_8 : decode cM_changed 8 = .ok (.aload_n 0, 1) := by decide +kernel
theorem dM_changed_9 : decode cM_changed 9 = .ok (.getfield 26, 3) := by decide +kernel
theorem dM_changed_12 : decode cM_changed 12 = .ok (.iload_n 1, 1) := by decide +kernel
theorem dM_changed_13 : decode cM_changed 13 = .ok (.iconst 0, 1) := by decide +kernel
theorem dM_changed_14 : decode cM_changed 14 = .ok (.bastore, 1) := by decide +kernel
theorem dM_changed_15 : decode cM_changed 15 = .ok (.iinc 1 1, 3) := by decide +kernel
theorem dM_changed_18 : decode cM_changed 18 = .ok (.goto (-16), 3) := by decide +kernel
theorem dM_changed_21 : decode cM_changed 21 = .ok (.return_, 1) := by decide +kernel
theorem dM_barred_0 : decode cM_barred 0 = .ok (.iconst 0, 1) := by decide +kernel
theorem dM_barred_1 : decode cM_barred 1 = .ok (.istore_n 2, 1) := by decide +kernel
theorem dM_barred_2 : decode cM_barred 2 = .ok (.iconst 0, 1) := by decide +kernel
theorem dM_barred_3 : decode cM_barred 3 = .ok (.istore_n 3, 1) := by decide +kernel
theorem dM_barred_4 : decode cM_barred 4 = .ok (.iload_n 3, 1) := by decide +kernel
theorem dM_barred_5 : decode cM_barred 5 = .ok (.aload_n 0, 1) := by decide +kernel
theorem dM_barred_6 : decode cM_barred 6 = .ok (.getfield 141, 3) := by decide +kernel
theorem dM_barred_9 : decode cM_barred 9 = .ok (.if_icmp .ge 28, 3) := by decide +kernel
theorem dM_barred_12 : decode cM_barred 12 = .ok (.iload_n 2, 1) := by decide +kernel
theorem dM_barred_13 : decode cM_barred 13 = .ok (.ifCond .ne 12, 3) := by decide +kernel
theorem dM_barred_16 : decode cM_barred 16 = .ok (.aload_n 0, 1) := by decide +kernel
theorem dM_barred_17 : decode cM_barred 17 = .ok (.iload_n 3, 1) := by decide +kernel
theorem dM_barred_18 : decode cM_barred 18 = .ok (.iload_n 1, 1) := by decide +kernel
theorem dM_barred_19 : decode cM_barred 19 = .ok (.invokevirtual 144, 3) := by decide +kernel
theorem dM_barred_22 : decode cM_barred 22 = .ok (.ifCond .eq 7, 3) := by decide +kernel
theorem dM_barred_25 : decode cM_barred 25 = .ok (.iconst 1, 1) := by decide +kernel
theorem dM_barred_26 : decode cM_barred 26 = .ok (.goto 4, 3) := by decide +kernel
theorem dM_barred_29 : decode cM_barred 29 = .ok (.iconst 0, 1) := by decide +kernel
theorem dM_barred_30 : decode cM_barred 30 = .ok (.istore_n 2, 1) := by decide +kernel
theorem dM_barred_31 : decode cM_barred 31 = .ok (.iinc 3 1, 3) := by decide +kernel
theorem dM_barred_34 : decode cM_barred 34 = .ok (.goto (-30), 3) := by decide +kernel
theorem dM_barred_37 : decode cM_barred 37 = .ok (.iload_n 2, 1) := by decide +kernel
theorem dM_barred_38 : decode cM_barred 38 = .ok (.ireturn, 1) := by decide +kernel
theorem dM_signals_0 : decode cM_signals 0 = .ok (.aload_n 0, 1) := by decide +kernel
theorem dM_signals_1 : decode cM_signals 1 = .ok (.iload_n 1, 1) := by decide +kernel
theorem dM_signals_2 : decode cM_signals 2 = .ok (.iload_n 2, 1) := by decide +kernel
theorem dM_signals_3 : decode cM_signals 3 = .ok (.iload_n 3, 1) := by decide +kernel
theorem dM_signals_4 : decode cM_signals 4 = .ok (.invokevirtual 101, 3) := by decide +kernel
theorem dM_signals_7 : decode cM_signals 7 = .ok (.ifCond .eq 22, 3) := by decide +kernel
theorem dM_signals_10 : decode cM_signals 10 = .ok (.aload_n 0, 1) := by decide +kernel
theorem dM_signals_11 : decode cM_signals 11 = .ok (.getfield 13, 3) := by decide +kernel
theorem dM_signals_14 : decode cM_signals 14 = .ok (.bipush 6, 2) := by decide +kernel
theorem dM_signals_16 : decode cM_signals 16 = .ok (.bipush 8, 2) := by decide +kernel
theorem dM_signals_18 : decode cM_signals 18 = .ok (.iload_n 2, 1) := by decide +kernel
theorem dM_signals_19 : decode cM_signals 19 = .ok (.imul, 1) := by decide +kernel
theorem dM_signals_20 : decode cM_signals 20 = .ok (.iload_n 1, 1) := by decide +kernel
theorem dM_signals_21 : decode cM_signals 21 = .ok (.iadd, 1) := by decide +kernel
theorem dM_signals_22 : decode cM_signals 22 = .ok (.imul, 1) := by decide +kernel
theorem dM_signals_23 : decode cM_signals 23 = .ok (.iload_n 3, 1) := by decide +kernel
theorem dM_signals_24 : decode cM_signals 24 = .ok (.iadd, 1) := by decide +kernel
theorem dM_signals_25 : decode cM_signals 25 = .ok (.iaload, 1) := by decide +kernel
theorem dM_signals_26 : decode cM_signals 26 = .ok (.goto 4, 3) := by decide +kernel
theorem dM_signals_29 : decode cM_signals 29 = .ok (.iconst (-1), 1) := by decide +kernel
theorem dM_signals_30 : decode cM_signals 30 = .ok (.ireturn, 1) := by decide +kernel
theorem dM_held_0 : decode cM_held 0 = .ok (.aload_n 0, 1) := by decide +kernel
theorem dM_held_1 : decode cM_held 1 = .ok (.iload_n 1, 1) := by decide +kernel
theorem dM_held_2 : decode cM_held 2 = .ok (.invokevirtual 210, 3) := by decide +kernel
theorem dM_held_5 : decode cM_held 5 = .ok (.ifCond .eq 17, 3) := by decide +kernel
theorem dM_held_8 : decode cM_held 8 = .ok (.iload_n 2, 1) := by decide +kernel
theorem dM_held_9 : decode cM_held 9 = .ok (.ifCond .lt 13, 3) := by decide +kernel
theorem dM_held_12 : decode cM_held 12 = .ok (.iload_n 2, 1) := by decide +kernel
theorem dM_held_13 : decode cM_held 13 = .ok (.aload_n 0, 1) := by decide +kernel
theorem dM_held_14 : decode cM_held 14 = .ok (.getfield 35, 3) := by decide +kernel
theorem dM_held_17 : decode cM_held 17 = .ok (.iload_n 1, 1) := by decide +kernel
theorem dM_held_18 : decode cM_held 18 = .ok (.iaload, 1) := by decide +kernel
theorem dM_held_19 : decode cM_held 19 = .ok (.if_icmp .lt 5, 3) := by decide +kernel
theorem dM_held_22 : decode cM_held 22 = .ok (.iconst (-1), 1) := by decide +kernel
theorem dM_held_23 : decode cM_held 23 = .ok (.ireturn, 1) := by decide +kernel
theorem dM_held_24 : decode cM_held 24 = .ok (.aload_n 0, 1) := by decide +kernel
theorem dM_held_25 : decode cM_held 25 = .ok (.getfield 32, 3) := by decide +kernel
theorem dM_held_28 : decode cM_held 28 = .ok (.sipush 300, 3) := by decide +kernel
theorem dM_held_31 : decode cM_held 31 = .ok (.iload_n 1, 1) := by decide +kernel
theorem dM_held_32 : decode cM_held 32 = .ok (.imul, 1) := by decide +kernel
theorem dM_held_33 : decode cM_held 33 = .ok (.iload_n 2, 1) := by decide +kernel
theorem dM_held_34 : decode cM_held 34 = .ok (.iadd, 1) := by decide +kernel
theorem dM_held_35 : decode cM_held 35 = .ok (.iaload, 1) := by decide +kernel
theorem dM_held_36 : decode cM_held 36 = .ok (.istore_n 3, 1) := by decide +kernel
theorem dM_held_37 : decode cM_held 37 = .ok (.iload_n 3, 1) := by decide +kernel
theorem dM_held_38 : decode cM_held 38 = .ok (.bipush 12, 2) := by decide +kernel
theorem dM_held_40 : decode cM_held 40 = .ok (.idiv, 1) := by decide +kernel
theorem dM_held_41 : decode cM_held 41 = .ok (.istore 4, 2) := by decide +kernel
theorem dM_held_43 : decode cM_held 43 = .ok (.iload 4, 2) := by decide +kernel
theorem dM_held_45 : decode cM_held 45 = .ok (.bipush 8, 2) := by decide +kernel
theorem dM_held_47 : decode cM_held 47 = .ok (.irem, 1) := by decide +kernel
theorem dM_held_48 : decode cM_held 48 = .ok (.bipush 8, 2) := by decide +kernel
theorem dM_held_50 : decode cM_held 50 = .ok (.iload 4, 2) := by decide +kernel
theorem dM_held_52 : decode cM_held 52 = .ok (.bipush 8, 2) := by decide +kernel
theorem dM_held_54 : decode cM_held 54 = .ok (.idiv, 1) := by decide +kernel
theorem dM_held_55 : decode cM_held 55 = .ok (.imul, 1) := by decide +kernel
theorem dM_held_56 : decode cM_held 56 = .ok (.iadd, 1) := by decide +kernel
theorem dM_held_57 : decode cM_held 57 = .ok (.bipush 64, 2) := by decide +kernel
theorem dM_held_59 : decode cM_held 59 = .ok (.iload_n 3, 1) := by decide +kernel
theorem dM_held_60 : decode cM_held 60 = .ok (.iconst 2, 1) := by decide +kernel
theorem dM_held_61 : decode cM_held 61 = .ok (.idiv, 1) := by decide +kernel
theorem dM_held_62 : decode cM_held 62 = .ok (.bipush 6, 2) := by decide +kernel
theorem dM_held_64 : decode cM_held 64 = .ok (.irem, 1) := by decide +kernel
theorem dM_held_65 : decode cM_held 65 = .ok (.imul, 1) := by decide +kernel
theorem dM_held_66 : decode cM_held 66 = .ok (.iadd, 1) := by decide +kernel
theorem dM_held_67 : decode cM_held 67 = .ok (.sipush 512, 3) := by decide +kernel
theorem dM_held_70 : decode cM_held 70 = .ok (.iload_n 3, 1) := by decide +kernel
theorem dM_held_71 : decode cM_held 71 = .ok (.invokestatic 109, 3) := by decide +kernel
theorem dM_held_74 : decode cM_held 74 = .ok (.imul, 1) := by decide +kernel
theorem dM_held_75 : decode cM_held 75 = .ok (.iadd, 1) := by decide +kernel
theorem dM_held_76 : decode cM_held 76 = .ok (.ireturn, 1) := by decide +kernel
theorem dM_motion_0 : decode cM_motion 0 = .ok (.aload_n 0, 1) := by decide +kernel
theorem dM_motion_1 : decode cM_motion 1 = .ok (.iload_n 1, 1) := by decide +kernel
theorem dM_motion_2 : decode cM_motion 2 = .ok (.invokevirtual 210, 3) := by decide +kernel
theorem dM_motion_5 : decode cM_motion 5 = .ok (.ifCond .eq 33, 3) := by decide +kernel
theorem dM_motion_8 : decode cM_motion 8 = .ok (.aload_n 0, 1) := by decide +kernel
theorem dM_motion_9 : decode cM_motion 9 = .ok (.iload_n 1, 1) := by decide +kernel
theorem dM_motion_10 : decode cM_motion 10 = .ok (.invokevirtual 135, 3) := by decide +kernel
theorem dM_motion_13 : decode cM_motion 13 = .ok (.sipush 1000, 3) := by decide +kernel
theorem dM_motion_16 : decode cM_motion 16 = .ok (.aload_n 0, 1) := by decide +kernel
theorem dM_motion_17 : decode cM_motion 17 = .ok (.getfield 41, 3) := by decide +kernel
theorem dM_motion_20 : decode cM_motion 20 = .ok (.iload_n 1, 1) := by decide +kernel
theorem dM_motion_21 : decode cM_motion 21 = .ok (.iaload, 1) := by decide +kernel
theorem dM_motion_22 : decode cM_motion 22 = .ok (.imul, 1) := by decide +kernel
theorem dM_motion_23 : decode cM_motion 23 = .ok (.iadd, 1) := by decide +kernel
theorem dM_motion_24 : decode cM_motion 24 = .ok (.sipush 10000, 3) := by decide +kernel
theorem dM_motion_27 : decode cM_motion 27 = .ok (.aload_n 0, 1) := by decide +kernel
theorem dM_motion_28 : decode cM_motion 28 = .ok (.getfield 44, 3) := by decide +kernel
theorem dM_motion_31 : decode cM_motion 31 = .ok (.iload_n 1, 1) := by decide +kernel
theorem dM_motion_32 : decode cM_motion 32 = .ok (.iaload, 1) := by decide +kernel
theorem dM_motion_33 : decode cM_motion 33 = .ok (.imul, 1) := by decide +kernel
theorem dM_motion_34 : decode cM_motion 34 = .ok (.iadd, 1) := by decide +kernel
theorem dM_motion_35 : decode cM_motion 35 = .ok (.goto 4, 3) := by decide +kernel
theorem dM_motion_38 : decode cM_motion 38 = .ok (.iconst (-1), 1) := by decide +kernel
theorem dM_motion_39 : decode cM_motion 39 = .ok (.ireturn, 1) := by decide +kernel
theorem dM_load_0 : decode cM_load 0 = .ok (.aload_n 0, 1) := by decide +kernel
theorem dM_load_1 : decode cM_load 1 = .ok (.iload_n 1, 1) := by decide +kernel
theorem dM_load_2 : decode cM_load 2 = .ok (.invokevirtual 210, 3) := by decide +kernel
theorem dM_load_5 : decode cM_load 5 = .ok (.ifCond .eq 12, 3) := by decide +kernel
theorem dM_load_8 : decode cM_load 8 = .ok (.aload_n 0, 1) := by decide +kernel
theorem dM_load_9 : decode cM_load 9 = .ok (.getfield 47, 3) := by decide +kernel
theorem dM_load_12 : decode cM_load 12 = .ok (.iload_n 1, 1) := by decide +kernel
theorem dM_load_13 : decode cM_load 13 = .ok (.iaload, 1) := by decide +kernel
theorem dM_load_14 : decode cM_load 14 = .ok (.goto 4, 3) := by decide +kernel
theorem dM_load_17 : decode cM_load 17 = .ok (.iconst (-1), 1) := by decide +kernel
theorem dM_load_18 : decode cM_load 18 = .ok (.ireturn, 1) := by decide +kernel
theorem dM_target_0 : decode cM_target 0 = .ok (.aload_n 0, 1) := by decide +kernel
theorem dM_target_1 : decode cM_target 1 = .ok (.iload_n 1, 1) := by decide +kernel
theorem dM_target_2 : decode cM_target 2 = .ok (.invokevirtual 210, 3) := by decide +kernel
theorem dM_target_5 : decode cM_target 5 = .ok (.ifCond .eq 20, 3) := by decide +kernel
theorem dM_target_8 : decode cM_target 8 = .ok (.aload_n 0, 1) := by decide +kernel
theorem dM_target_9 : decode cM_target 9 = .ok (.getfield 56, 3) := by decide +kernel
theorem dM_target_12 : decode cM_target 12 = .ok (.iload_n 1, 1) := by decide +kernel
theorem dM_target_13 : decode cM_target 13 = .ok (.iaload, 1) := by decide +kernel
theorem dM_target_14 : decode cM_target 14 = .ok (.ifCond .le 11, 3) := by decide +kernel
theorem dM_target_17 : decode cM_target 17 = .ok (.aload_n 0, 1) := by decide +kernel
theorem dM_target_18 : decode cM_target 18 = .ok (.iload_n 1, 1) := by decide +kernel
theorem dM_target_19 : decode cM_target 19 = .ok (.invokevirtual 132, 3) := by decide +kernel
theorem dM_target_22 : decode cM_target 22 = .ok (.goto 4, 3) := by decide +kernel
theorem dM_target_25 : decode cM_target 25 = .ok (.iconst (-1), 1) := by decide +kernel
theorem dM_target_26 : decode cM_target 26 = .ok (.ireturn, 1) := by decide +kernel
theorem dM_waiting_0 : decode cM_waiting 0 = .ok (.iload_n 1, 1) := by decide +kernel
theorem dM_waiting_1 : decode cM_waiting 1 = .ok (.ifCond .lt 20, 3) := by decide +kernel
theorem dM_waiting_4 : decode cM_waiting 4 = .ok (.iload_n 1, 1) := by decide +kernel
theorem dM_waiting_5 : decode cM_waiting 5 = .ok (.aload_n 0, 1) := by decide +kernel
theorem dM_waiting_6 : decode cM_waiting 6 = .ok (.getfield 185, 3) := by decide +kernel
theorem dM_waiting_9 : decode cM_waiting 9 = .ok (.if_icmp .ge 12, 3) := by decide +kernel
theorem dM_waiting_12 : decode cM_waiting 12 = .ok (.aload_n 0, 1) := by decide +kernel
theorem dM_waiting_13 : decode cM_waiting 13 = .ok (.getfield 23, 3) := by decide +kernel
theorem dM_waiting_16 : decode cM_waiting 16 = .ok (.iload_n 1, 1) := by decide +kernel
theorem dM_waiting_17 : decode cM_waiting 17 = .ok (.iaload, 1) := by decide +kernel
theorem dM_waiting_18 : decode cM_waiting 18 = .ok (.goto 4, 3) := by decide +kernel
theorem dM_waiting_21 : decode cM_waiting 21 = .ok (.iconst (-1), 1) := by decide +kernel
theorem dM_waiting_22 : decode cM_waiting 22 = .ok (.ireturn, 1) := by decide +kernel
theorem dM_produced_0 : decode cM_produced 0 = .ok (.aload_n 0, 1) := by decide +kernel
theorem dM_produced_1 : decode cM_produced 1 = .ok (.getfield 188, 3) := by decide +kernel
theorem dM_produced_4 : decode cM_produced 4 = .ok (.ireturn, 1) := by decide +kernel
theorem dM_delivered_0 : decode cM_delivered 0 = .ok (.aload_n 0, 1) := by decide +kernel
theorem dM_delivered_1 : decode cM_delivered 1 = .ok (.getfield 164, 3) := by decide +kernel
theorem dM_delivered_4 : decode cM_delivered 4 = .ok (.ireturn, 1) := by decide +kernel
theorem dM_clock_0 : decode cM_clock 0 = .ok (.aload_n 0, 1) := by decide +kernel
theorem dM_clock_1 : decode cM_clock 1 = .ok (.getfield 182, 3) := by decide +kernel
theorem dM_clock_4 : decode cM_clock 4 = .ok (.ireturn, 1) := by decide +kernel
theorem dM_stationed_0 : decode cM_stationed 0 = .ok (.iconst 0, 1) := by decide +kernel
theorem dM_stationed_1 : decode cM_stationed 1 = .ok (.istore 4, 2) := by decide +kernel
theorem dM_stationed_3 : decode cM_stationed 3 = .ok (.iconst 0, 1) := by decide +kernel
theorem dM_stationed_4 : decode cM_stationed 4 = .ok (.istore 5, 2) := by decide +kernel
theorem dM_stationed_6 : decode cM_stationed 6 = .ok (.iload 5, 2) := by decide +kernel
theorem dM_stationed_8 : decode cM_stationed 8 = .ok (.aload_n 0, 1) := by decide +kernel
theorem dM_stationed_9 : decode cM_stationed 9 = .ok (.getfield 185, 3) := by decide +kernel
theorem dM_stationed_12 : decode cM_stationed 12 = .ok (.if_icmp .ge 68, 3) := by decide +kernel
theorem dM_stationed_15 : decode cM_stationed 15 = .ok (.iload 4, 2) := by decide +kernel
theorem dM_stationed_17 : decode cM_stationed 17 = .ok (.ifCond .ne 50, 3) := by decide +kernel
theorem dM_stationed_20 : decode cM_stationed 20 = .ok (.iload_n 3, 1) := by decide +kernel
theorem dM_stationed_21 : decode cM_stationed 21 = .ok (.ifCond .ge 25, 3) := by decide +kernel
theorem dM_stationed_24 : decode cM_stationed 24 = .ok (.aload_n 0, 1) := by decide +kernel
theorem dM_stationed_25 : decode cM_stationed 25 = .ok (.getfield 17, 3) := by decide +kernel
theorem dM_stationed_28 : decode cM_stationed 28 = .ok (.iload 5, 2) := by decide +kernel
theorem dM_stationed_30 : decode cM_stationed 30 = .ok (.iaload, 1) := by decide +kernel
theorem dM_stationed_31 : decode cM_stationed 31 = .ok (.bipush 6, 2) := by decide +kernel
theorem dM_stationed_33 : decode cM_stationed 33 = .ok (.idiv, 1) := by decide +kernel
theorem dM_stationed_34 : decode cM_stationed 34 = .ok (.bipush 8, 2) := by decide +kernel
theorem dM_stationed_36 : decode cM_stationed 36 = .ok (.iload_n 2, 1) := by decide +kernel
theorem dM_stationed_37 : decode cM_stationed 37 = .ok (.imul, 1) := by decide +kernel
theorem dM_stationed_38 : decode cM_stationed 38 = .ok (.iload_n 1, 1) := by decide +kernel
theorem dM_stationed_39 : decode cM_stationed 39 = .ok (.iadd, 1) := by decide +kernel
theorem dM_stationed_40 : decode cM_stationed 40 = .ok (.if_icmp .ne 31, 3) := by decide +kernel
theorem dM_stationed_43 : decode cM_stationed 43 = .ok (.goto 24, 3) := by decide +kernel
theorem dM_stationed_46 : decode cM_stationed 46 = .ok (.aload_n 0, 1) := by decide +kernel
theorem dM_stationed_47 : decode cM_stationed 47 = .ok (.getfield 17, 3) := by decide +kernel
theorem dM_stationed_50 : decode cM_stationed 50 = .ok (.iload 5, 2) := by decide +kernel
theorem dM_stationed_52 : decode cM_stationed 52 = .ok (.iaload, 1) := by decide +kernel
theorem dM_stationed_53 : decode cM_stationed 53 = .ok (.bipush 6, 2) := by decide +kernel
theorem dM_stationed_55 : decode cM_stationed 55 = .ok (.bipush 8, 2) := by decide +kernel
theorem dM_stationed_57 : decode cM_stationed 57 = .ok (.iload_n 2, 1) := by decide +kernel
theorem dM_stationed_58 : decode cM_stationed 58 = .ok (.imul, 1) := by decide +kernel
theorem dM_stationed_59 : decode cM_stationed 59 = .ok (.iload_n 1, 1) := by decide +kernel
theorem dM_stationed_60 : decode cM_stationed 60 = .ok (.iadd, 1) := by decide +kernel
theorem dM_stationed_61 : decode cM_stationed 61 = .ok (.imul, 1) := by decide +kernel
theorem dM_stationed_62 : decode cM_stationed 62 = .ok (.iload_n 3, 1) := by decide +kernel
theorem dM_stationed_63 : decode cM_stationed 63 = .ok (.iadd, 1) := by decide +kernel
theorem dM_stationed_64 : decode cM_stationed 64 = .ok (.if_icmp .ne 7, 3) := by decide +kernel
theorem dM_stationed_67 : decode cM_stationed 67 = .ok (.iconst 1, 1) := by decide +kernel
theorem dM_stationed_68 : decode cM_stationed 68 = .ok (.goto 4, 3) := by decide +kernel
theorem dM_stationed_71 : decode cM_stationed 71 = .ok (.iconst 0, 1) := by decide +kernel
theorem dM_stationed_72 : decode cM_stationed 72 = .ok (.istore 4, 2) := by decide +kernel
theorem dM_stationed_74 : decode cM_stationed 74 = .ok (.iinc 5 1, 3) := by decide +kernel
theorem dM_stationed_77 : decode cM_stationed 77 = .ok (.goto (-71), 3) := by decide +kernel
theorem dM_stationed_80 : decode cM_stationed 80 = .ok (.iload 4, 2) := by decide +kernel
theorem dM_stationed_82 : decode cM_stationed 82 = .ok (.ireturn, 1) := by decide +kernel
theorem dM_tileHeld_0 : decode cM_tileHeld 0 = .ok (.iconst 0, 1) := by decide +kernel
theorem dM_tileHeld_1 : decode cM_tileHeld 1 = .ok (.istore_n 3, 1) := by decide +kernel
theorem dM_tileHeld_2 : decode cM_tileHeld 2 = .ok (.iconst 0, 1) := by decide +kernel
theorem dM_tileHeld_3 : decode cM_tileHeld 3 = .ok (.istore 4, 2) := by decide +kernel
theorem dM_tileHeld_5 : decode cM_tileHeld 5 = .ok (.iload 4, 2) := by decide +kernel
theorem dM_tileHeld_7 : decode cM_tileHeld 7 = .ok (.aload_n 0, 1) := by decide +kernel
theorem dM_tileHeld_8 : decode cM_tileHeld 8 = .ok (.getfield 141, 3) := by decide +kernel
theorem dM_tileHeld_11 : decode cM_tileHeld 11 = .ok (.if_icmp .ge 66, 3) := by decide +kernel
theorem dM_tileHeld_14 : decode cM_tileHeld 14 = .ok (.iconst 0, 1) := by decide +kernel
theorem dM_tileHeld_15 : decode cM_tileHeld 15 = .ok (.istore 5, 2) := by decide +kernel
theorem dM_tileHeld_17 : decode cM_tileHeld 17 = .ok (.iload 5, 2) := by decide +kernel
theorem dM_tileHeld_19 : decode cM_tileHeld 19 = .ok (.aload_n 0, 1) := by decide +kernel
theorem dM_tileHeld_20 : decode cM_tileHeld 20 = .ok (.getfield 35, 3) := by decide +kernel
theorem dM_tileHeld_23 : decode cM_tileHeld 23 = .ok (.iload 4, 2) := by decide +kernel
theorem dM_tileHeld_25 : decode cM_tileHeld 25 = .ok (.iaload, 1) := by decide +kernel
theorem dM_tileHeld_26 : decode cM_tileHeld 26 = .ok (.if_icmp .ge 45, 3) := by decide +kernel
theorem dM_tileHeld_29 : decode cM_tileHeld 29 = .ok (.iload_n 3, 1) := by decide +kernel
theorem dM_tileHeld_30 : decode cM_tileHeld 30 = .ok (.ifCond .ne 29, 3) := by decide +kernel
theorem dM_tileHeld_33 : decode cM_tileHeld 33 = .ok (.aload_n 0, 1) := by decide +kernel
theorem dM_tileHeld_34 : decode cM_tileHeld 34 = .ok (.getfield 32, 3) := by decide +kernel
theorem dM_tileHeld_37 : decode cM_tileHeld 37 = .ok (.sipush 300, 3) := by decide +kernel
theorem dM_tileHeld_40 : decode cM_tileHeld 40 = .ok (.iload 4, 2) := by decide +kernel
theorem dM_tileHeld_42 : decode cM_tileHeld 42 = .ok (.imul, 1) := by decide +kernel
theorem dM_tileHeld_43 : decode cM_tileHeld 43 = .ok (.iload 5, 2) := by decide +kernel
theorem dM_tileHeld_45 : decode cM_tileHeld 45 = .ok (.iadd, 1) := by decide +kernel
theorem dM_tileHeld_46 : decode cM_tileHeld 46 = .ok (.iaload, 1) := by decide +kernel
theorem dM_tileHeld_47 : decode cM_tileHeld 47 = .ok (.bipush 12, 2) := by decide +kernel
theorem dM_tileHeld_49 : decode cM_tileHeld 49 = .ok (.idiv, 1) := by decide +kernel
theorem dM_tileHeld_50 : decode cM_tileHeld 50 = .ok (.bipush 8, 2) := by decide +kernel
theorem dM_tileHeld_52 : decode cM_tileHeld 52 = .ok (.iload_n 2, 1) := by decide +kernel
theorem dM_tileHeld_53 : decode cM_tileHeld 53 = .ok (.imul, 1) := by decide +kernel
theorem dM_tileHeld_54 : decode cM_tileHeld 54 = .ok (.iload_n 1, 1) := by decide +kernel
theorem dM_tileHeld_55 : decode cM_tileHeld 55 = .ok (.iadd, 1) := by decide +kernel
theorem dM_tileHeld_56 : decode cM_tileHeld 56 = .ok (.if_icmp .ne 7, 3) := by decide +kernel
theorem dM_tileHeld_59 : decode cM_tileHeld 59 = .ok (.iconst 1, 1) := by decide +kernel
theorem dM_tileHeld_60 : decode cM_tileHeld 60 = .ok (.goto 4, 3) := by decide +kernel
theorem dM_tileHeld_63 : decode cM_tileHeld 63 = .ok (.iconst 0, 1) := by decide +kernel
theorem dM_tileHeld_64 : decode cM_tileHeld 64 = .ok (.istore_n 3, 1) := by decide +kernel
theorem dM_tileHeld_65 : decode cM_tileHeld 65 = .ok (.iinc 5 1, 3) := by decide +kernel
theorem dM_tileHeld_68 : decode cM_tileHeld 68 = .ok (.goto (-51), 3) := by decide +kernel
theorem dM_tileHeld_71 : decode cM_tileHeld 71 = .ok (.iinc 4 1, 3) := by decide +kernel
theorem dM_tileHeld_74 : decode cM_tileHeld 74 = .ok (.goto (-69), 3) := by decide +kernel
theorem dM_tileHeld_77 : decode cM_tileHeld 77 = .ok (.iload_n 3, 1) := by decide +kernel
theorem dM_tileHeld_78 : decode cM_tileHeld 78 = .ok (.ireturn, 1) := by decide +kernel
theorem lmM_144 : Cond.methodLink R_M 144 yM_bars ∈ bigW := bw 819 (by decide +kernel) rfl
theorem lmM_210 : Cond.methodLink R_M 210 yM_isTrain ∈ bigW := bw 875 (by decide +kernel) rfl
theorem lfM_41 : Cond.fieldLink R_M 41 "RailYardModel" "speed" "[I" ∈ bigW := bw 646 (by decide +kernel) rfl
theorem lfM_44 : Cond.fieldLink R_M 44 "RailYardModel" "wait" "[I" ∈ bigW := bw 647 (by decide +kernel) rfl
theorem lfM_47 : Cond.fieldLink R_M 47 "RailYardModel" "cargo" "[I" ∈ bigW := bw 648 (by decide +kernel) rfl
theorem lfM_56 : Cond.fieldLink R_M 56 "RailYardModel" "orderCount" "[I" ∈ bigW := bw 651 (by decide +kernel) rfl
theorem lfM_185 : Cond.fieldLink R_M 185 "RailYardModel" "stations" "I" ∈ bigW := bw 636 (by decide +kernel) rfl
theorem lfM_23 : Cond.fieldLink R_M 23 "RailYardModel" "waits" "[I" ∈ bigW := bw 639 (by decide +kernel) rfl
theorem lfM_188 : Cond.fieldLink R_M 188 "RailYardModel" "made" "I" ∈ bigW := bw 655 (by decide +kernel) rfl
theorem lfM_164 : Cond.fieldLink R_M 164 "RailYardModel" "brought" "I" ∈ bigW := bw 656 (by decide +kernel) rfl
theorem lfM_182 : Cond.fieldLink R_M 182 "RailYardModel" "now" "I" ∈ bigW := bw 657 (by decide +kernel) rfl
theorem miM_bars : MI yM_bars cM_bars 4 (some .boolean) 2 := ⟨bw 822 (by decide +kernel) rfl, bw 48 (by decide +kernel) rfl, ⟨by decide +kernel, by decide +kernel⟩, by decide +kernel, by decide⟩
theorem mvM_bars : MV yM_bars := ⟨bw 821 (by decide +kernel) rfl, bw 27 (by decide +kernel) rfl⟩
theorem miM_isTrain : MI yM_isTrain cM_isTrain 2 (some .boolean) 1 := ⟨bw 878 (by decide +kernel) rfl, bw 48 (by decide +kernel) rfl, ⟨by decide +kernel, by decide +kernel⟩, by decide +kernel, by decide⟩
theorem mvM_isTrain : MV yM_isTrain := ⟨bw 877 (by decide +kernel) rfl, bw 36 (by decide +kernel) rfl⟩
def chI (w u : RW) (n : Int) : Prop := (∀ j, j ≠ 83 → u j = w j) ∧ ∀ s, 0 ≤ s → s < n → u 83 s = 0
theorem lpM_changed {G : vG} {X : vX} {Q : State → Prop} {w : RW} (F : FX G X cM_changed yM_changed.cls 2 0) (hR : RetV G X cM_changed 2 Q (fun u => chI w u 6)) : ∀ (m : Nat) (i : Int) (u0 : RW), 0 ≤ i → i ≤ 6 → 6 - i < m → chI w u0 i → V G X 2 Q 2 [some (.inr 77), some (.inl i)] [] u0 := by
  intro m
  induction m with
  | zero => intro i u0 h1 h2 h3; omega
  | succ m ih =>
    intro i u0 h1 h2 h3 hI
    refine V_iload_n (i := 1) F dM_changed_2 rfl rfl ?_
    refine V_bipush F dM_changed_3 (by decide) ?_
    refine V_icmp_ge F 21 dM_changed_5 (by decide) (fun h5 => ?_) (fun h5 => ?_)
    · exact hR _ _ _ dM_changed_21 (by rw [show i = 6 by omega] at hI; exact hI)
    · refine V_aload_n (i := 0) F dM_changed_8 rfl rfl ?_
      refine V_getr (ci := 7) (C := R_M) (T := T_M) (N := 32) F dM_changed_9 (by first | rfl | assumption) rfl (j := 8) (by decide) rfl lfM_26 ?_
      refine V_iload_n (i := 1) F dM_changed_12 rfl rfl ?_
      refine V_iconst F dM_changed_13 (by decide) ?_
      refine V_zast F dM_changed_14 (by first | rfl | assumption) rfl (by omega) (by first | exact Or.inl rfl | exact Or.inr rfl | exact bz_01 _ | assumption) ?_
      refine V_iinc F dM_changed_15 (by decide) rfl (by omega) (by simp only [List.set_cons_zero, List.set_cons_succ]; exact rfl) ?_
      refine V_goto F 2 dM_changed_18 (by decide) ?_
      refine ih (i + 1) _ (by omega) (by omega) (by omega) ⟨fun j hj => ?_, fun s s1 s2 => ?_⟩
      · rw [upw_f hj]; exact hI.1 j hj
      · by_cases hs : s = i
        · rw [hs, upw_s]
        · rw [upw_i hs]; exact hI.2 s s1 (by omega)
theorem ctM_changed {G : vG} {l : Launch} {w : RW}  : CTv G l yM_changed cM_changed 2 0 [.inr 77] w (fun u => chI w u 6) := by
  refine CTv.intro (by decide) (Nat.le_of_ble_eq_true rfl) ?_
  intro X Q F hX hR
  subst hX
  show V G X 2 Q 0 [some (.inr 77), none] [] w
  refine V_iconst F dM_changed_0 (by decide) ?_
  refine V_istore_n (i := 1) F dM_changed_1 rfl (by decide) (by simp only [List.set_cons_zero, List.set_cons_succ]; exact rfl) ?_
  exact lpM_changed F hR 7 0 w (by omega) (by omega) (by omega) ⟨fun _ _ => rfl, fun s s1 s2 => by omega⟩
def brd (w : RW) (n p : Int) : Prop := ∃ t, 0 ≤ t ∧ t < n ∧ brs w t p
theorem brd_s {w : RW} {n p : Int} (h : 0 ≤ n) : brd w (n + 1) p ↔ brd w n p ∨ brs w n p := by
  constructor
  · rintro ⟨t, t1, t2, t3⟩
    by_cases e : t = n
    · rw [e] at t3; exact Or.inr t3
    · exact Or.inl ⟨t, t1, by omega, t3⟩
  · rintro (⟨t, t1, t2, t3⟩ | h2)
    · exact ⟨t, t1, by omega, t3⟩
    · exact ⟨n, h, by omega, h2⟩
theorem lpM_barred {G : vG} {X : vX} {Q : State → Prop} {w : RW} {p : Int} (hp : 0 ≤ p) (hm : mOK w) (F : FX G X cM_barred yM_barred.cls 4 2) (hR : RetZ G X cM_barred 4 Q (fun r u => r = bz (brd w (w 77 10) p) ∧ w = u)) : ∀ (m : Nat) (i f : Int), 0 ≤ i → i ≤ w 77 10 → w 77 10 - i < m → f = bz (brd w i p) → V G X 4 Q 4 [some (.inr 77), some (.inl p), some (.inl f), some (.inl i)] [] w := by
  have k3 := hm.2.2.1
  intro m
  induction m with
  | zero => intro i f h1 h2 h3; omega
  | succ m ih =>
    intro i f h1 h2 h3 hf
    have hf01 : f = 0 ∨ f = 1 := by rw [hf]; exact bz_01 _
    refine V_iload_n (i := 3) F dM_barred_4 rfl rfl ?_
    refine V_aload_n (i := 0) F dM_barred_5 rfl rfl ?_
    refine V_geti (ci := 7) (C := R_M) (T := T_M) (N := 32) F dM_barred_6 (by first | rfl | assumption) rfl (j := 10) 10 rfl (by decide) rfl lfM_141 ?_
    refine V_icmp_ge F 37 dM_barred_9 (by decide) (fun h9 => ?_) (fun h9 => ?_)
    · refine V_iload_n (i := 2) F dM_barred_37 rfl rfl ?_
      exact hR _ _ _ _ dM_barred_38 (by first | exact Or.inl rfl | exact Or.inr rfl | exact bz_01 _ | assumption) (by rw [show i = w 77 10 by omega] at hf; exact ⟨hf, rfl⟩)
    · refine V_iload_n (i := 2) F dM_barred_12 rfl rfl ?_
      refine V_if_ne F 25 dM_barred_13 (by decide) (fun h13 => ?_) (fun h13 => ?_)
      · refine V_iconst F dM_barred_25 (by decide) ?_
        refine V_goto F 30 dM_barred_26 (by decide) ?_
        refine V_istore_n (i := 2) F dM_barred_30 rfl (by decide) (by simp only [List.set_cons_zero, List.set_cons_succ]; exact rfl) ?_
        refine V_iinc F dM_barred_31 (by decide) rfl (by omega) (by simp only [List.set_cons_zero, List.set_cons_succ]; exact rfl) ?_
        refine V_goto F 4 dM_barred_34 (by decide) ?_
        first
        | exact ih (i + 1) _ (by omega) (by omega) (by omega) (bz_t ((brd_s h1).mpr (Or.inl (bz_ne0.mp (by rw [← hf]; exact h13))))).symm
        | exact ih (i + 1) _ (by omega) (by omega) (by omega) (bz_t ((brd_s h1).mpr (Or.inr (bz_ne0.mp h22)))).symm
        | exact ih (i + 1) _ (by omega) (by omega) (by omega) (bz_f (fun q => ((brd_s h1).mp q).elim (bz_eq0.mp (by rw [← hf]; exact h13)) (bz_eq0.mp h22))).symm
      · refine V_aload_n (i := 0) F dM_barred_16 rfl rfl ?_
        refine V_iload_n (i := 3) F dM_barred_17 rfl rfl ?_
        refine V_iload_n (i := 1) F dM_barred_18 rfl rfl ?_
        refine V_callVi F dM_barred_19 lmM_144 miM_bars mvM_bars (ctM_bars (by omega) hp hm) (by decide) (by first | rfl | assumption) rfl rfl (Nat.le_of_ble_eq_true rfl) (fun r u hr => ?_)
        obtain ⟨rfl, rfl⟩ := hr
        refine V_if_eq F 29 dM_barred_22 (by decide) (fun h22 => ?_) (fun h22 => ?_)
        · refine V_iconst F dM_barred_29 (by decide) ?_
          refine V_istore_n (i := 2) F dM_barred_30 rfl (by decide) (by simp only [List.set_cons_zero, List.set_cons_succ]; exact rfl) ?_
          refine V_iinc F dM_barred_31 (by decide) rfl (by omega) (by simp only [List.set_cons_zero, List.set_cons_succ]; exact rfl) ?_
          refine V_goto F 4 dM_barred_34 (by decide) ?_
          first
          | exact ih (i + 1) _ (by omega) (by omega) (by omega) (bz_t ((brd_s h1).mpr (Or.inl (bz_ne0.mp (by rw [← hf]; exact h13))))).symm
          | exact ih (i + 1) _ (by omega) (by omega) (by omega) (bz_t ((brd_s h1).mpr (Or.inr (bz_ne0.mp h22)))).symm
          | exact ih (i + 1) _ (by omega) (by omega) (by omega) (bz_f (fun q => ((brd_s h1).mp q).elim (bz_eq0.mp (by rw [← hf]; exact h13)) (bz_eq0.mp h22))).symm
        · refine V_iconst F dM_barred_25 (by decide) ?_
          refine V_goto F 30 dM_barred_26 (by decide) ?_
          refine V_istore_n (i := 2) F dM_barred_30 rfl (by decide) (by simp only [List.set_cons_zero, List.set_cons_succ]; exact rfl) ?_
          refine V_iinc F dM_barred_31 (by decide) rfl (by omega) (by simp only [List.set_cons_zero, List.set_cons_succ]; exact rfl) ?_
          refine V_goto F 4 dM_barred_34 (by decide) ?_
          first
          | exact ih (i + 1) _ (by omega) (by omega) (by omega) (bz_t ((brd_s h1).mpr (Or.inl (bz_ne0.mp (by rw [← hf]; exact h13))))).symm
          | exact ih (i + 1) _ (by omega) (by omega) (by omega) (bz_t ((brd_s h1).mpr (Or.inr (bz_ne0.mp h22)))).symm
          | exact ih (i + 1) _ (by omega) (by omega) (by omega) (bz_f (fun q => ((brd_s h1).mp q).elim (bz_eq0.mp (by rw [← hf]; exact h13)) (bz_eq0.mp h22))).symm
theorem ctM_barred {G : vG} {l : Launch} {w : RW} {p : Int} (hp : 0 ≤ p) (hm : mOK w) : CTi G l yM_barred cM_barred 4 .boolean 2 [.inr 77, .inl p] w (fun r u => r = bz (brd w (w 77 10) p) ∧ w = u) := by
  refine CTi.bool (by decide) (Nat.le_of_ble_eq_true rfl) ?_
  intro X Q F hX hR
  subst hX
  show V G X 4 Q 0 [some (.inr 77), some (.inl p), none, none] [] w
  refine V_iconst F dM_barred_0 (by decide) ?_
  refine V_istore_n (i := 2) F dM_barred_1 rfl (by decide) (by simp only [List.set_cons_zero, List.set_cons_succ]; exact rfl) ?_
  refine V_iconst F dM_barred_2 (by decide) ?_
  refine V_istore_n (i := 3) F dM_barred_3 rfl (by decide) (by simp only [List.set_cons_zero, List.set_cons_succ]; exact rfl) ?_
  exact lpM_barred hp hm F hR 7 0 0 (by omega) (by have := hm.2.2.1; omega) (by have := hm.2.2.1; omega) (bz_f (fun q => by obtain ⟨t, t1, t2, _⟩ := q; omega)).symm
theorem ctM_signals {G : vG} {l : Launch} {w : RW} {x y p : Int} (hm : mOK w) : CTi G l yM_signals cM_signals 4 .int 2 [.inr 77, .inl x, .inl y, .inl p] w (fun r u => r = cif (lpc w x y p) (w 79 (6 * (8 * y + x) + p)) (-1) ∧ w = u) := by
  refine CTi.int (by decide) (Nat.le_of_ble_eq_true rfl) ?_
  intro X Q F hX hR
  subst hX
  show V G X 4 Q 0 [some (.inr 77), some (.inl x), some (.inl y), some (.inl p)] [] w
  have hm0 := hm
  obtain ⟨k1, k2, k3, k4, k5, k6, k7⟩ := hm
  refine V_aload_n (i := 0) F dM_signals_0 rfl rfl ?_
  refine V_iload_n (i := 1) F dM_signals_1 rfl rfl ?_
  refine V_iload_n (i := 2) F dM_signals_2 rfl rfl ?_
  refine V_iload_n (i := 3) F dM_signals_3 rfl rfl ?_
  refine V_callVi F dM_signals_4 lmM_101 miM_isPiece mvM_isPiece (ctM_isPiece hm0) (by decide) (by first | rfl | assumption) rfl rfl (Nat.le_of_ble_eq_true rfl) (fun r u hr => ?_)
  obtain ⟨rfl, rfl⟩ := hr
  refine V_if_eq F 29 dM_signals_7 (by decide) (fun h7 => ?_) (fun h7 => ?_)
  · first | (replace h7 := bz_ne0.mp h7) | (replace h7 := bz_eq0.mp h7) | skip
    refine V_iconst F dM_signals_29 (by decide) ?_
    exact hR _ _ _ _ dM_signals_30 (by first | exact ⟨(cif_t h7).symm, rfl⟩ | exact ⟨(cif_f h7).symm, rfl⟩)
  · first | (replace h7 := bz_ne0.mp h7) | (replace h7 := bz_eq0.mp h7) | skip
    have hh := h7
    unfold lpc isT at hh
    refine V_aload_n (i := 0) F dM_signals_10 rfl rfl ?_
    refine V_getr (ci := 7) (C := R_M) (T := T_M) (N := 32) F dM_signals_11 (by first | rfl | assumption) rfl (j := 3) (by decide) rfl lfM_13 ?_
    refine V_bipush F dM_signals_14 (by decide) ?_
    refine V_bipush F dM_signals_16 (by decide) ?_
    refine V_iload_n (i := 2) F dM_signals_18 rfl rfl ?_
    refine V_imul F dM_signals_19 (by omega) ?_
    refine V_iload_n (i := 1) F dM_signals_20 rfl rfl ?_
    refine V_iadd F dM_signals_21 (by omega) ?_
    refine V_imul F dM_signals_22 (by omega) ?_
    refine V_iload_n (i := 3) F dM_signals_23 rfl rfl ?_
    refine V_iadd F dM_signals_24 (by omega) ?_
    first
      | refine V_sald F dM_signals_25 (by decide) (by omega) (stt_in _ _) ?_
      | refine V_iald F dM_signals_25 (by first | rfl | assumption) rfl (by omega) ?_
    refine V_goto F 30 dM_signals_26 (by decide) ?_
    exact hR _ _ _ _ dM_signals_30 (by first | exact ⟨(cif_t h7).symm, rfl⟩ | exact ⟨(cif_f h7).symm, rfl⟩)
theorem ctM_held {G : vG} {l : Launch} {w : RW} {t k : Int} (hm : mOK w) : CTi G l yM_held cM_held 5 .int 2 [.inr 77, .inl t, .inl k] w (fun r u => r = cif ((0 ≤ t ∧ t < w 77 10) ∧ 0 ≤ k ∧ k < w 86 t) (w 85 (300 * t + k) / 12 + 64 * (w 85 (300 * t + k) / 2 % 6) + 512 * eoQ (w 85 (300 * t + k))) (-1) ∧ w = u) := by
  refine CTi.int (by decide) (Nat.le_of_ble_eq_true rfl) ?_
  intro X Q F hX hR
  subst hX
  show V G X 5 Q 0 [some (.inr 77), some (.inl t), some (.inl k), none, none] [] w
  have hm0 := hm
  obtain ⟨k1, k2, k3, k4, k5, k6, k7⟩ := hm
  refine V_aload_n (i := 0) F dM_held_0 rfl rfl ?_
  refine V_iload_n (i := 1) F dM_held_1 rfl rfl ?_
  refine V_callVi F dM_held_2 lmM_210 miM_isTrain mvM_isTrain (ctM_isTrain) (by decide) (by first | rfl | assumption) rfl rfl (Nat.le_of_ble_eq_true rfl) (fun r u hr => ?_)
  obtain ⟨rfl, rfl⟩ := hr
  refine V_if_eq F 22 dM_held_5 (by decide) (fun h5 => ?_) (fun h5 => ?_)
  · first | (replace h5 := bz_ne0.mp h5) | (replace h5 := bz_eq0.mp h5) | skip
    refine V_iconst F dM_held_22 (by decide) ?_
    exact hR _ _ _ _ dM_held_23 (by first | exact ⟨(cif_t (P := (0 ≤ t ∧ t < w 77 10) ∧ 0 ≤ k ∧ k < w 86 t) (by omega)).symm ▸ (by omega), rfl⟩ | exact ⟨(cif_f (by omega)).symm, rfl⟩)
  · first | (replace h5 := bz_ne0.mp h5) | (replace h5 := bz_eq0.mp h5) | skip
    have ht := k5 t (by omega) (by omega)
    refine V_iload_n (i := 2) F dM_held_8 rfl rfl ?_
    refine V_if_lt F 22 dM_held_9 (by decide) (fun h9 => ?_) (fun h9 => ?_)
    · first | (replace h9 := bz_ne0.mp h9) | (replace h9 := bz_eq0.mp h9) | skip
      refine V_iconst F dM_held_22 (by decide) ?_
      exact hR _ _ _ _ dM_held_23 (by first | exact ⟨(cif_t (P := (0 ≤ t ∧ t < w 77 10) ∧ 0 ≤ k ∧ k < w 86 t) (by omega)).symm ▸ (by omega), rfl⟩ | exact ⟨(cif_f (by omega)).symm, rfl⟩)
    · first | (replace h9 := bz_ne0.mp h9) | (replace h9 := bz_eq0.mp h9) | skip
      refine V_iload_n (i := 2) F dM_held_12 rfl rfl ?_
      refine V_aload_n (i := 0) F dM_held_13 rfl rfl ?_
      refine V_getr (ci := 7) (C := R_M) (T := T_M) (N := 32) F dM_held_14 (by first | rfl | assumption) rfl (j := 12) (by decide) rfl lfM_35 ?_
      refine V_iload_n (i := 1) F dM_held_17 rfl rfl ?_
      first
        | refine V_sald F dM_held_18 (by decide) (by omega) (stt_in _ _) ?_
        | refine V_iald F dM_held_18 (by first | rfl | assumption) rfl (by omega) ?_
      refine V_icmp_lt F 24 dM_held_19 (by decide) (fun h19 => ?_) (fun h19 => ?_)
      · first | (replace h19 := bz_ne0.mp h19) | (replace h19 := bz_eq0.mp h19) | skip
        have hr6 := k6 (300 * t + k) (by omega) (by omega)
        have hq := eoQ_rng hr6.1
        refine V_aload_n (i := 0) F dM_held_24 rfl rfl ?_
        refine V_getr (ci := 7) (C := R_M) (T := T_M) (N := 32) F dM_held_25 (by first | rfl | assumption) rfl (j := 11) (by decide) rfl lfM_32 ?_
        refine V_sipush F dM_held_28 (by decide) ?_
        refine V_iload_n (i := 1) F dM_held_31 rfl rfl ?_
        refine V_imul F dM_held_32 (by omega) ?_
        refine V_iload_n (i := 2) F dM_held_33 rfl rfl ?_
        refine V_iadd F dM_held_34 (by omega) ?_
        first
          | refine V_sald F dM_held_35 (by decide) (by omega) (stt_in _ _) ?_
          | refine V_iald F dM_held_35 (by first | rfl | assumption) rfl (by omega) ?_
        refine V_istore_n (i := 3) F dM_held_36 rfl (by decide) (by simp only [List.set_cons_zero, List.set_cons_succ]; exact rfl) ?_
        refine V_iload_n (i := 3) F dM_held_37 rfl rfl ?_
        refine V_bipush F dM_held_38 (by decide) ?_
        refine V_idiv F dM_held_40 (by omega) ?_
        refine V_istore F dM_held_41 (by decide) (by simp only [List.set_cons_zero, List.set_cons_succ]; exact rfl) ?_
        refine V_iload F dM_held_43 rfl ?_
        refine V_bipush F dM_held_45 (by decide) ?_
        refine V_irem F dM_held_47 (by omega) ?_
        refine V_bipush F dM_held_48 (by decide) ?_
        refine V_iload F dM_held_50 rfl ?_
        refine V_bipush F dM_held_52 (by decide) ?_
        refine V_idiv F dM_held_54 (by omega) ?_
        refine V_imul F dM_held_55 (by omega) ?_
        refine V_iadd F dM_held_56 (by omega) ?_
        refine V_bipush F dM_held_57 (by decide) ?_
        refine V_iload_n (i := 3) F dM_held_59 rfl rfl ?_
        refine V_iconst F dM_held_60 (by decide) ?_
        refine V_idiv F dM_held_61 (by omega) ?_
        refine V_bipush F dM_held_62 (by decide) ?_
        refine V_irem F dM_held_64 (by omega) ?_
        refine V_imul F dM_held_65 (by omega) ?_
        refine V_iadd F dM_held_66 (by omega) ?_
        refine V_sipush F dM_held_67 (by decide) ?_
        refine V_iload_n (i := 3) F dM_held_70 rfl rfl ?_
        refine V_callSi F dM_held_71 lmM_109 miM_edgeOf msM_edgeOf (ctM_edgeOf (by omega)) (by decide) rfl (Nat.le_of_ble_eq_true rfl) (fun r u hr => ?_)
        obtain ⟨rfl, rfl⟩ := hr
        refine V_imul F dM_held_74 (by omega) ?_
        refine V_iadd F dM_held_75 (by omega) ?_
        exact hR _ _ _ _ dM_held_76 (by first | exact ⟨(cif_t (P := (0 ≤ t ∧ t < w 77 10) ∧ 0 ≤ k ∧ k < w 86 t) (by omega)).symm ▸ (by omega), rfl⟩ | exact ⟨(cif_f (by omega)).symm, rfl⟩)
      · first | (replace h19 := bz_ne0.mp h19) | (replace h19 := bz_eq0.mp h19) | skip
        refine V_iconst F dM_held_22 (by decide) ?_
        exact hR _ _ _ _ dM_held_23 (by first | exact ⟨(cif_t (P := (0 ≤ t ∧ t < w 77 10) ∧ 0 ≤ k ∧ k < w 86 t) (by omega)).symm ▸ (by omega), rfl⟩ | exact ⟨(cif_f (by omega)).symm, rfl⟩)
theorem ctM_motion {G : vG} {l : Launch} {w : RW} {t : Int} (hm : mOK w) : CTi G l yM_motion cM_motion 2 .int 1 [.inr 77, .inl t] w (fun r u => r = cif (0 ≤ t ∧ t < w 77 10) (w 86 t - w 87 t + 1000 * w 88 t + 10000 * w 89 t) (-1) ∧ w = u) := by
  refine CTi.int (by decide) (Nat.le_of_ble_eq_true rfl) ?_
  intro X Q F hX hR
  subst hX
  show V G X 2 Q 0 [some (.inr 77), some (.inl t)] [] w
  have hm0 := hm
  obtain ⟨k1, k2, k3, k4, k5, k6, k7⟩ := hm
  refine V_aload_n (i := 0) F dM_motion_0 rfl rfl ?_
  refine V_iload_n (i := 1) F dM_motion_1 rfl rfl ?_
  refine V_callVi F dM_motion_2 lmM_210 miM_isTrain mvM_isTrain (ctM_isTrain) (by decide) (by first | rfl | assumption) rfl rfl (Nat.le_of_ble_eq_true rfl) (fun r u hr => ?_)
  obtain ⟨rfl, rfl⟩ := hr
  refine V_if_eq F 38 dM_motion_5 (by decide) (fun h5 => ?_) (fun h5 => ?_)
  · first | (replace h5 := bz_ne0.mp h5) | (replace h5 := bz_eq0.mp h5) | skip
    refine V_iconst F dM_motion_38 (by decide) ?_
    exact hR _ _ _ _ dM_motion_39 (by first | exact ⟨(cif_t h5).symm, rfl⟩ | exact ⟨(cif_f h5).symm, rfl⟩)
  · first | (replace h5 := bz_ne0.mp h5) | (replace h5 := bz_eq0.mp h5) | skip
    have ht := k5 t (by omega) (by omega)
    refine V_aload_n (i := 0) F dM_motion_8 rfl rfl ?_
    refine V_iload_n (i := 1) F dM_motion_9 rfl rfl ?_
    refine V_callVi F dM_motion_10 lmM_135 miM_ahead mvM_ahead (ctM_ahead (by omega) hm0) (by decide) (by first | rfl | assumption) rfl rfl (Nat.le_of_ble_eq_true rfl) (fun r u hr => ?_)
    obtain ⟨rfl, rfl⟩ := hr
    refine V_sipush F dM_motion_13 (by decide) ?_
    refine V_aload_n (i := 0) F dM_motion_16 rfl rfl ?_
    refine V_getr (ci := 7) (C := R_M) (T := T_M) (N := 32) F dM_motion_17 (by first | rfl | assumption) rfl (j := 14) (by decide) rfl lfM_41 ?_
    refine V_iload_n (i := 1) F dM_motion_20 rfl rfl ?_
    first
      | refine V_sald F dM_motion_21 (by decide) (by omega) (stt_in _ _) ?_
      | refine V_iald F dM_motion_21 (by first | rfl | assumption) rfl (by omega) ?_
    refine V_imul F dM_motion_22 (by omega) ?_
    refine V_iadd F dM_motion_23 (by omega) ?_
    refine V_sipush F dM_motion_24 (by decide) ?_
    refine V_aload_n (i := 0) F dM_motion_27 rfl rfl ?_
    refine V_getr (ci := 7) (C := R_M) (T := T_M) (N := 32) F dM_motion_28 (by first | rfl | assumption) rfl (j := 15) (by decide) rfl lfM_44 ?_
    refine V_iload_n (i := 1) F dM_motion_31 rfl rfl ?_
    first
      | refine V_sald F dM_motion_32 (by decide) (by omega) (stt_in _ _) ?_
      | refine V_iald F dM_motion_32 (by first | rfl | assumption) rfl (by omega) ?_
    refine V_imul F dM_motion_33 (by omega) ?_
    refine V_iadd F dM_motion_34 (by omega) ?_
    refine V_goto F 39 dM_motion_35 (by decide) ?_
    exact hR _ _ _ _ dM_motion_39 (by first | exact ⟨(cif_t h5).symm, rfl⟩ | exact ⟨(cif_f h5).symm, rfl⟩)
theorem ctM_load {G : vG} {l : Launch} {w : RW} {t : Int} (hm : mOK w) : CTi G l yM_load cM_load 2 .int 1 [.inr 77, .inl t] w (fun r u => r = cif (0 ≤ t ∧ t < w 77 10) (w 90 t) (-1) ∧ w = u) := by
  refine CTi.int (by decide) (Nat.le_of_ble_eq_true rfl) ?_
  intro X Q F hX hR
  subst hX
  show V G X 2 Q 0 [some (.inr 77), some (.inl t)] [] w
  have hm0 := hm
  obtain ⟨k1, k2, k3, k4, k5, k6, k7⟩ := hm
  refine V_aload_n (i := 0) F dM_load_0 rfl rfl ?_
  refine V_iload_n (i := 1) F dM_load_1 rfl rfl ?_
  refine V_callVi F dM_load_2 lmM_210 miM_isTrain mvM_isTrain (ctM_isTrain) (by decide) (by first | rfl | assumption) rfl rfl (Nat.le_of_ble_eq_true rfl) (fun r u hr => ?_)
  obtain ⟨rfl, rfl⟩ := hr
  refine V_if_eq F 17 dM_load_5 (by decide) (fun h5 => ?_) (fun h5 => ?_)
  · first | (replace h5 := bz_ne0.mp h5) | (replace h5 := bz_eq0.mp h5) | skip
    refine V_iconst F dM_load_17 (by decide) ?_
    exact hR _ _ _ _ dM_load_18 (by first | exact ⟨(cif_t h5).symm, rfl⟩ | exact ⟨(cif_f h5).symm, rfl⟩)
  · first | (replace h5 := bz_ne0.mp h5) | (replace h5 := bz_eq0.mp h5) | skip
    have ht := k5 t (by omega) (by omega)
    refine V_aload_n (i := 0) F dM_load_8 rfl rfl ?_
    refine V_getr (ci := 7) (C := R_M) (T := T_M) (N := 32) F dM_load_9 (by first | rfl | assumption) rfl (j := 16) (by decide) rfl lfM_47 ?_
    refine V_iload_n (i := 1) F dM_load_12 rfl rfl ?_
    first
      | refine V_sald F dM_load_13 (by decide) (by omega) (stt_in _ _) ?_
      | refine V_iald F dM_load_13 (by first | rfl | assumption) rfl (by omega) ?_
    refine V_goto F 18 dM_load_14 (by decide) ?_
    exact hR _ _ _ _ dM_load_18 (by first | exact ⟨(cif_t h5).symm, rfl⟩ | exact ⟨(cif_f h5).symm, rfl⟩)
theorem ctM_target {G : vG} {l : Launch} {w : RW} {t : Int} (hm : mOK w) : CTi G l yM_target cM_target 2 .int 1 [.inr 77, .inl t] w (fun r u => r = cif (0 ≤ t ∧ t < w 77 10) (if 0 < w 93 t then w 92 (6 * t + w 94 t) else -1) (-1) ∧ w = u) := by
  refine CTi.int (by decide) (Nat.le_of_ble_eq_true rfl) ?_
  intro X Q F hX hR
  subst hX
  show V G X 2 Q 0 [some (.inr 77), some (.inl t)] [] w
  have hm0 := hm
  obtain ⟨k1, k2, k3, k4, k5, k6, k7⟩ := hm
  refine V_aload_n (i := 0) F dM_target_0 rfl rfl ?_
  refine V_iload_n (i := 1) F dM_target_1 rfl rfl ?_
  refine V_callVi F dM_target_2 lmM_210 miM_isTrain mvM_isTrain (ctM_isTrain) (by decide) (by first | rfl | assumption) rfl rfl (Nat.le_of_ble_eq_true rfl) (fun r u hr => ?_)
  obtain ⟨rfl, rfl⟩ := hr
  refine V_if_eq F 25 dM_target_5 (by decide) (fun h5 => ?_) (fun h5 => ?_)
  · first | (replace h5 := bz_ne0.mp h5) | (replace h5 := bz_eq0.mp h5) | skip
    refine V_iconst F dM_target_25 (by decide) ?_
    exact hR _ _ _ _ dM_target_26 (by first | exact ⟨(cif_f h5).symm, rfl⟩ | exact ⟨by rw [cif_t h5, if_pos (by omega)], rfl⟩ | exact ⟨by rw [cif_t h5, if_neg (by omega)], rfl⟩)
  · first | (replace h5 := bz_ne0.mp h5) | (replace h5 := bz_eq0.mp h5) | skip
    have ht := k5 t (by omega) (by omega)
    refine V_aload_n (i := 0) F dM_target_8 rfl rfl ?_
    refine V_getr (ci := 7) (C := R_M) (T := T_M) (N := 32) F dM_target_9 (by first | rfl | assumption) rfl (j := 19) (by decide) rfl lfM_56 ?_
    refine V_iload_n (i := 1) F dM_target_12 rfl rfl ?_
    first
      | refine V_sald F dM_target_13 (by decide) (by omega) (stt_in _ _) ?_
      | refine V_iald F dM_target_13 (by first | rfl | assumption) rfl (by omega) ?_
    refine V_if_le F 25 dM_target_14 (by decide) (fun h14 => ?_) (fun h14 => ?_)
    · first | (replace h14 := bz_ne0.mp h14) | (replace h14 := bz_eq0.mp h14) | skip
      refine V_iconst F dM_target_25 (by decide) ?_
      exact hR _ _ _ _ dM_target_26 (by first | exact ⟨(cif_f h5).symm, rfl⟩ | exact ⟨by rw [cif_t h5, if_pos (by omega)], rfl⟩ | exact ⟨by rw [cif_t h5, if_neg (by omega)], rfl⟩)
    · first | (replace h14 := bz_ne0.mp h14) | (replace h14 := bz_eq0.mp h14) | skip
      refine V_aload_n (i := 0) F dM_target_17 rfl rfl ?_
      refine V_iload_n (i := 1) F dM_target_18 rfl rfl ?_
      refine V_callVi F dM_target_19 lmM_132 miM_goal mvM_goal (ctM_goal (by omega) hm0) (by decide) (by first | rfl | assumption) rfl rfl (Nat.le_of_ble_eq_true rfl) (fun r u hr => ?_)
      obtain ⟨rfl, rfl⟩ := hr
      refine V_goto F 26 dM_target_22 (by decide) ?_
      exact hR _ _ _ _ dM_target_26 (by first | exact ⟨(cif_f h5).symm, rfl⟩ | exact ⟨by rw [cif_t h5, if_pos (by omega)], rfl⟩ | exact ⟨by rw [cif_t h5, if_neg (by omega)], rfl⟩)
theorem ctM_waiting {G : vG} {l : Launch} {w : RW} {s : Int} (hm : mOK w) : CTi G l yM_waiting cM_waiting 2 .int 0 [.inr 77, .inl s] w (fun r u => r = cif (0 ≤ s ∧ s < w 77 4) (w 82 s) (-1) ∧ w = u) := by
  refine CTi.int (by decide) (Nat.le_of_ble_eq_true rfl) ?_
  intro X Q F hX hR
  subst hX
  show V G X 2 Q 0 [some (.inr 77), some (.inl s)] [] w
  have hm0 := hm
  obtain ⟨k1, k2, k3, k4, k5, k6, k7⟩ := hm
  refine V_iload_n (i := 1) F dM_waiting_0 rfl rfl ?_
  refine V_if_lt F 21 dM_waiting_1 (by decide) (fun h1 => ?_) (fun h1 => ?_)
  · first | (replace h1 := bz_ne0.mp h1) | (replace h1 := bz_eq0.mp h1) | skip
    refine V_iconst F dM_waiting_21 (by decide) ?_
    exact hR _ _ _ _ dM_waiting_22 (by first | exact ⟨(cif_t (by omega)).symm, rfl⟩ | exact ⟨(cif_f (by omega)).symm, rfl⟩)
  · first | (replace h1 := bz_ne0.mp h1) | (replace h1 := bz_eq0.mp h1) | skip
    refine V_iload_n (i := 1) F dM_waiting_4 rfl rfl ?_
    refine V_aload_n (i := 0) F dM_waiting_5 rfl rfl ?_
    refine V_geti (ci := 7) (C := R_M) (T := T_M) (N := 32) F dM_waiting_6 (by first | rfl | assumption) rfl (j := 4) 4 rfl (by decide) rfl lfM_185 ?_
    refine V_icmp_ge F 21 dM_waiting_9 (by decide) (fun h9 => ?_) (fun h9 => ?_)
    · first | (replace h9 := bz_ne0.mp h9) | (replace h9 := bz_eq0.mp h9) | skip
      refine V_iconst F dM_waiting_21 (by decide) ?_
      exact hR _ _ _ _ dM_waiting_22 (by first | exact ⟨(cif_t (by omega)).symm, rfl⟩ | exact ⟨(cif_f (by omega)).symm, rfl⟩)
    · first | (replace h9 := bz_ne0.mp h9) | (replace h9 := bz_eq0.mp h9) | skip
      refine V_aload_n (i := 0) F dM_waiting_12 rfl rfl ?_
      refine V_getr (ci := 7) (C := R_M) (T := T_M) (N := 32) F dM_waiting_13 (by first | rfl | assumption) rfl (j := 7) (by decide) rfl lfM_23 ?_
      refine V_iload_n (i := 1) F dM_waiting_16 rfl rfl ?_
      first
        | refine V_sald F dM_waiting_17 (by decide) (by omega) (stt_in _ _) ?_
        | refine V_iald F dM_waiting_17 (by first | rfl | assumption) rfl (by omega) ?_
      refine V_goto F 22 dM_waiting_18 (by decide) ?_
      exact hR _ _ _ _ dM_waiting_22 (by first | exact ⟨(cif_t (by omega)).symm, rfl⟩ | exact ⟨(cif_f (by omega)).symm, rfl⟩)
theorem ctM_produced {G : vG} {l : Launch} {w : RW}  : CTi G l yM_produced cM_produced 1 .int 0 [.inr 77] w (fun r u => r = w 77 23 ∧ w = u) := by
  refine CTi.int (by decide) (Nat.le_of_ble_eq_true rfl) ?_
  intro X Q F hX hR
  subst hX
  show V G X 1 Q 0 [some (.inr 77)] [] w
  refine V_aload_n (i := 0) F dM_produced_0 rfl rfl ?_
  refine V_geti (ci := 7) (C := R_M) (T := T_M) (N := 32) F dM_produced_1 (by first | rfl | assumption) rfl (j := 23) 23 rfl (by decide) rfl lfM_188 ?_
  exact hR _ _ _ _ dM_produced_4 (⟨rfl, rfl⟩)
theorem ctM_delivered {G : vG} {l : Launch} {w : RW}  : CTi G l yM_delivered cM_delivered 1 .int 0 [.inr 77] w (fun r u => r = w 77 24 ∧ w = u) := by
  refine CTi.int (by decide) (Nat.le_of_ble_eq_true rfl) ?_
  intro X Q F hX hR
  subst hX
  show V G X 1 Q 0 [some (.inr 77)] [] w
  refine V_aload_n (i := 0) F dM_delivered_0 rfl rfl ?_
  refine V_geti (ci := 7) (C := R_M) (T := T_M) (N := 32) F dM_delivered_1 (by first | rfl | assumption) rfl (j := 24) 24 rfl (by decide) rfl lfM_164 ?_
  exact hR _ _ _ _ dM_delivered_4 (⟨rfl, rfl⟩)
theorem ctM_clock {G : vG} {l : Launch} {w : RW}  : CTi G l yM_clock cM_clock 1 .int 0 [.inr 77] w (fun r u => r = w 77 25 ∧ w = u) := by
  refine CTi.int (by decide) (Nat.le_of_ble_eq_true rfl) ?_
  intro X Q F hX hR
  subst hX
  show V G X 1 Q 0 [some (.inr 77)] [] w
  refine V_aload_n (i := 0) F dM_clock_0 rfl rfl ?_
  refine V_geti (ci := 7) (C := R_M) (T := T_M) (N := 32) F dM_clock_1 (by first | rfl | assumption) rfl (j := 25) 25 rfl (by decide) rfl lfM_182 ?_
  exact hR _ _ _ _ dM_clock_4 (⟨rfl, rfl⟩)
def stP (w : RW) (x y p s : Int) : Prop := (p < 0 → w 80 s / 6 = 8 * y + x) ∧ (¬ p < 0 → w 80 s = 6 * (8 * y + x) + p)
def stM (w : RW) (n x y p : Int) : Prop := ∃ s, 0 ≤ s ∧ s < n ∧ stP w x y p s
theorem stM_s {w : RW} {n x y p : Int} (h : 0 ≤ n) : stM w (n + 1) x y p ↔ stM w n x y p ∨ stP w x y p n := by
  constructor
  · rintro ⟨t, t1, t2, t3⟩
    by_cases e : t = n
    · rw [e] at t3; exact Or.inr t3
    · exact Or.inl ⟨t, t1, by omega, t3⟩
  · rintro (⟨t, t1, t2, t3⟩ | h2)
    · exact ⟨t, t1, by omega, t3⟩
    · exact ⟨n, h, by omega, h2⟩
theorem lpM_stationed {G : vG} {X : vX} {Q : State → Prop} {w : RW} {x y p : Int} (hx : 0 ≤ x ∧ x < 8 ∧ 0 ≤ y ∧ y < 8 ∧ -1 ≤ p ∧ p < 6) (hm : mOK w) (F : FX G X cM_stationed yM_stationed.cls 6 0) (hR : RetZ G X cM_stationed 6 Q (fun r u => r = bz (stM w (w 77 4) x y p) ∧ w = u)) : ∀ (m : Nat) (i f : Int), 0 ≤ i → i ≤ w 77 4 → w 77 4 - i < m → f = bz (stM w i x y p) → V G X 6 Q 6 [some (.inr 77), some (.inl x), some (.inl y), some (.inl p), some (.inl f), some (.inl i)] [] w := by
  have k3 := hm.2.2.1
  intro m
  induction m with
  | zero => intro i f h1 h2 h3; omega
  | succ m ih =>
    intro i f h1 h2 h3 hf
    have hf01 : f = 0 ∨ f = 1 := by rw [hf]; exact bz_01 _
    refine V_iload F dM_stationed_6 rfl ?_
    refine V_aload_n (i := 0) F dM_stationed_8 rfl rfl ?_
    refine V_geti (ci := 7) (C := R_M) (T := T_M) (N := 32) F dM_stationed_9 (by first | rfl | assumption) rfl (j := 4) 4 rfl (by decide) rfl lfM_185 ?_
    refine V_icmp_ge F 80 dM_stationed_12 (by decide) (fun h12 => ?_) (fun h12 => ?_)
    · refine V_iload F dM_stationed_80 rfl ?_
      exact hR _ _ _ _ dM_stationed_82 (by first | exact Or.inl rfl | exact Or.inr rfl | exact bz_01 _ | assumption) (by rw [show i = w 77 4 by omega] at hf; exact ⟨hf, rfl⟩)
    · refine V_iload F dM_stationed_15 rfl ?_
      refine V_if_ne F 67 dM_stationed_17 (by decide) (fun h17 => ?_) (fun h17 => ?_)
      · refine V_iconst F dM_stationed_67 (by decide) ?_
        refine V_goto F 72 dM_stationed_68 (by decide) ?_
        refine V_istore F dM_stationed_72 (by decide) (by simp only [List.set_cons_zero, List.set_cons_succ]; exact rfl) ?_
        refine V_iinc F dM_stationed_74 (by decide) rfl (by omega) (by simp only [List.set_cons_zero, List.set_cons_succ]; exact rfl) ?_
        refine V_goto F 6 dM_stationed_77 (by decide) ?_
        first
        | exact ih (i + 1) _ (by omega) (by omega) (by omega) (bz_t ((stM_s h1).mpr (Or.inl (bz_ne0.mp (by rw [← hf]; exact h17))))).symm
        | exact ih (i + 1) _ (by omega) (by omega) (by omega) (bz_t ((stM_s h1).mpr (Or.inr (by unfold stP; omega)))).symm
        | exact ih (i + 1) _ (by omega) (by omega) (by omega) (bz_f (fun q => ((stM_s h1).mp q).elim (bz_eq0.mp (by rw [← hf]; exact h17)) (fun z => by unfold stP at z; omega))).symm
      · have k4 := hm.2.2.2.1 i h1 (by omega)
        refine V_iload_n (i := 3) F dM_stationed_20 rfl rfl ?_
        refine V_if_ge F 46 dM_stationed_21 (by decide) (fun h21 => ?_) (fun h21 => ?_)
        · refine V_aload_n (i := 0) F dM_stationed_46 rfl rfl ?_
          refine V_getr (ci := 7) (C := R_M) (T := T_M) (N := 32) F dM_stationed_47 (by first | rfl | assumption) rfl (j := 5) (by decide) rfl lfM_17 ?_
          refine V_iload F dM_stationed_50 rfl ?_
          first
            | refine V_sald F dM_stationed_52 (by decide) (by omega) (stt_in _ _) ?_
            | refine V_iald F dM_stationed_52 (by first | rfl | assumption) rfl (by omega) ?_
          refine V_bipush F dM_stationed_53 (by decide) ?_
          refine V_bipush F dM_stationed_55 (by decide) ?_
          refine V_iload_n (i := 2) F dM_stationed_57 rfl rfl ?_
          refine V_imul F dM_stationed_58 (by omega) ?_
          refine V_iload_n (i := 1) F dM_stationed_59 rfl rfl ?_
          refine V_iadd F dM_stationed_60 (by omega) ?_
          refine V_imul F dM_stationed_61 (by omega) ?_
          refine V_iload_n (i := 3) F dM_stationed_62 rfl rfl ?_
          refine V_iadd F dM_stationed_63 (by omega) ?_
          refine V_icmp_ne F 71 dM_stationed_64 (by decide) (fun h64 => ?_) (fun h64 => ?_)
          · refine V_iconst F dM_stationed_71 (by decide) ?_
            refine V_istore F dM_stationed_72 (by decide) (by simp only [List.set_cons_zero, List.set_cons_succ]; exact rfl) ?_
            refine V_iinc F dM_stationed_74 (by decide) rfl (by omega) (by simp only [List.set_cons_zero, List.set_cons_succ]; exact rfl) ?_
            refine V_goto F 6 dM_stationed_77 (by decide) ?_
            first
            | exact ih (i + 1) _ (by omega) (by omega) (by omega) (bz_t ((stM_s h1).mpr (Or.inl (bz_ne0.mp (by rw [← hf]; exact h17))))).symm
            | exact ih (i + 1) _ (by omega) (by omega) (by omega) (bz_t ((stM_s h1).mpr (Or.inr (by unfold stP; omega)))).symm
            | exact ih (i + 1) _ (by omega) (by omega) (by omega) (bz_f (fun q => ((stM_s h1).mp q).elim (bz_eq0.mp (by rw [← hf]; exact h17)) (fun z => by unfold stP at z; omega))).symm
          · refine V_iconst F dM_stationed_67 (by decide) ?_
            refine V_goto F 72 dM_stationed_68 (by decide) ?_
            refine V_istore F dM_stationed_72 (by decide) (by simp only [List.set_cons_zero, List.set_cons_succ]; exact rfl) ?_
            refine V_iinc F dM_stationed_74 (by decide) rfl (by omega) (by simp only [List.set_cons_zero, List.set_cons_succ]; exact rfl) ?_
            refine V_goto F 6 dM_stationed_77 (by decide) ?_
            first
            | exact ih (i + 1) _ (by omega) (by omega) (by omega) (bz_t ((stM_s h1).mpr (Or.inl (bz_ne0.mp (by rw [← hf]; exact h17))))).symm
            | exact ih (i + 1) _ (by omega) (by omega) (by omega) (bz_t ((stM_s h1).mpr (Or.inr (by unfold stP; omega)))).symm
            | exact ih (i + 1) _ (by omega) (by omega) (by omega) (bz_f (fun q => ((stM_s h1).mp q).elim (bz_eq0.mp (by rw [← hf]; exact h17)) (fun z => by unfold stP at z; omega))).symm
        · refine V_aload_n (i := 0) F dM_stationed_24 rfl rfl ?_
          refine V_getr (ci := 7) (C := R_M) (T := T_M) (N := 32) F dM_stationed_25 (by first | rfl | assumption) rfl (j := 5) (by decide) rfl lfM_17 ?_
          refine V_iload F dM_stationed_28 rfl ?_
          first
            | refine V_sald F dM_stationed_30 (by decide) (by omega) (stt_in _ _) ?_
            | refine V_iald F dM_stationed_30 (by first | rfl | assumption) rfl (by omega) ?_
          refine V_bipush F dM_stationed_31 (by decide) ?_
          refine V_idiv F dM_stationed_33 (by omega) ?_
          refine V_bipush F dM_stationed_34 (by decide) ?_
          refine V_iload_n (i := 2) F dM_stationed_36 rfl rfl ?_
          refine V_imul F dM_stationed_37 (by omega) ?_
          refine V_iload_n (i := 1) F dM_stationed_38 rfl rfl ?_
          refine V_iadd F dM_stationed_39 (by omega) ?_
          refine V_icmp_ne F 71 dM_stationed_40 (by decide) (fun h40 => ?_) (fun h40 => ?_)
          · refine V_iconst F dM_stationed_71 (by decide) ?_
            refine V_istore F dM_stationed_72 (by decide) (by simp only [List.set_cons_zero, List.set_cons_succ]; exact rfl) ?_
            refine V_iinc F dM_stationed_74 (by decide) rfl (by omega) (by simp only [List.set_cons_zero, List.set_cons_succ]; exact rfl) ?_
            refine V_goto F 6 dM_stationed_77 (by decide) ?_
            first
            | exact ih (i + 1) _ (by omega) (by omega) (by omega) (bz_t ((stM_s h1).mpr (Or.inl (bz_ne0.mp (by rw [← hf]; exact h17))))).symm
            | exact ih (i + 1) _ (by omega) (by omega) (by omega) (bz_t ((stM_s h1).mpr (Or.inr (by unfold stP; omega)))).symm
            | exact ih (i + 1) _ (by omega) (by omega) (by omega) (bz_f (fun q => ((stM_s h1).mp q).elim (bz_eq0.mp (by rw [← hf]; exact h17)) (fun z => by unfold stP at z; omega))).symm
          · refine V_goto F 67 dM_stationed_43 (by decide) ?_
            refine V_iconst F dM_stationed_67 (by decide) ?_
            refine V_goto F 72 dM_stationed_68 (by decide) ?_
            refine V_istore F dM_stationed_72 (by decide) (by simp only [List.set_cons_zero, List.set_cons_succ]; exact rfl) ?_
            refine V_iinc F dM_stationed_74 (by decide) rfl (by omega) (by simp only [List.set_cons_zero, List.set_cons_succ]; exact rfl) ?_
            refine V_goto F 6 dM_stationed_77 (by decide) ?_
            first
            | exact ih (i + 1) _ (by omega) (by omega) (by omega) (bz_t ((stM_s h1).mpr (Or.inl (bz_ne0.mp (by rw [← hf]; exact h17))))).symm
            | exact ih (i + 1) _ (by omega) (by omega) (by omega) (bz_t ((stM_s h1).mpr (Or.inr (by unfold stP; omega)))).symm
            | exact ih (i + 1) _ (by omega) (by omega) (by omega) (bz_f (fun q => ((stM_s h1).mp q).elim (bz_eq0.mp (by rw [← hf]; exact h17)) (fun z => by unfold stP at z; omega))).symm
theorem ctM_stationed {G : vG} {l : Launch} {w : RW} {x y p : Int} (hx : 0 ≤ x ∧ x < 8 ∧ 0 ≤ y ∧ y < 8 ∧ -1 ≤ p ∧ p < 6) (hm : mOK w) : CTi G l yM_stationed cM_stationed 6 .boolean 0 [.inr 77, .inl x, .inl y, .inl p] w (fun r u => r = bz (stM w (w 77 4) x y p) ∧ w = u) := by
  refine CTi.bool (by decide) (Nat.le_of_ble_eq_true rfl) ?_
  intro X Q F hX hR
  subst hX
  show V G X 6 Q 0 [some (.inr 77), some (.inl x), some (.inl y), some (.inl p), none, none] [] w
  refine V_iconst F dM_stationed_0 (by decide) ?_
  refine V_istore F dM_stationed_1 (by decide) (by simp only [List.set_cons_zero, List.set_cons_succ]; exact rfl) ?_
  refine V_iconst F dM_stationed_3 (by decide) ?_
  refine V_istore F dM_stationed_4 (by decide) (by simp only [List.set_cons_zero, List.set_cons_succ]; exact rfl) ?_
  exact lpM_stationed hx hm F hR 7 0 0 (by omega) (by have := hm.2.2.1; omega) (by have := hm.2.2.1; omega) (bz_f (fun q => by obtain ⟨t, t1, t2, _⟩ := q; omega)).symm
def hd1 (w : RW) (c t n : Int) : Prop := ∃ k, 0 ≤ k ∧ k < n ∧ w 85 (300 * t + k) / 12 = c
def hdM (w : RW) (c n : Int) : Prop := ∃ t, 0 ≤ t ∧ t < n ∧ hd1 w c t (w 86 t)
theorem hd1_s {w : RW} {c t n : Int} (h : 0 ≤ n) : hd1 w c t (n + 1) ↔ hd1 w c t n ∨ w 85 (300 * t + n) / 12 = c := by
  constructor
  · rintro ⟨k, t1, t2, t3⟩
    by_cases e : k = n
    · rw [e] at t3; exact Or.inr t3
    · exact Or.inl ⟨k, t1, by omega, t3⟩
  · rintro (⟨t, t1, t2, t3⟩ | h2)
    · exact ⟨t, t1, by omega, t3⟩
    · exact ⟨n, h, by omega, h2⟩
theorem hdM_s {w : RW} {c n : Int} (h : 0 ≤ n) : hdM w c (n + 1) ↔ hdM w c n ∨ hd1 w c n (w 86 n) := by
  constructor
  · rintro ⟨k, t1, t2, t3⟩
    by_cases e : k = n
    · rw [e] at t3; exact Or.inr t3
    · exact Or.inl ⟨k, t1, by omega, t3⟩
  · rintro (⟨t, t1, t2, t3⟩ | h2)
    · exact ⟨t, t1, by omega, t3⟩
    · exact ⟨n, h, by omega, h2⟩
theorem lpM_tileHeldI {G : vG} {X : vX} {Q : State → Prop} {w : RW} {x y t : Int} (hx : 0 ≤ x ∧ x < 8 ∧ 0 ≤ y ∧ y < 8) (ht : 0 ≤ t ∧ t < w 77 10) (hm : mOK w) (F : FX G X cM_tileHeld yM_tileHeld.cls 6 0) (K : ∀ f k, f = bz (hdM w (8 * y + x) t ∨ hd1 w (8 * y + x) t (w 86 t)) → V G X 6 Q 71 [some (.inr 77), some (.inl x), some (.inl y), some (.inl f), some (.inl t), some (.inl k)] [] w) : ∀ (m : Nat) (k f : Int), 0 ≤ k → k ≤ w 86 t → w 86 t - k < m → f = bz (hdM w (8 * y + x) t ∨ hd1 w (8 * y + x) t k) → V G X 6 Q 17 [some (.inr 77), some (.inl x), some (.inl y), some (.inl f), some (.inl t), some (.inl k)] [] w := by
  have k3 := hm.2.2.1
  have k5 := hm.2.2.2.2.1 t ht.1 (by omega)
  intro m
  induction m with
  | zero => intro k f h1 h2 h3; omega
  | succ m ih =>
    intro k f h1 h2 h3 hf
    have hf01 : f = 0 ∨ f = 1 := by rw [hf]; exact bz_01 _
    refine V_iload F dM_tileHeld_17 rfl ?_
    refine V_aload_n (i := 0) F dM_tileHeld_19 rfl rfl ?_
    refine V_getr (ci := 7) (C := R_M) (T := T_M) (N := 32) F dM_tileHeld_20 (by first | rfl | assumption) rfl (j := 12) (by decide) rfl lfM_35 ?_
    refine V_iload F dM_tileHeld_23 rfl ?_
    first
      | refine V_sald F dM_tileHeld_25 (by decide) (by omega) (stt_in _ _) ?_
      | refine V_iald F dM_tileHeld_25 (by first | rfl | assumption) rfl (by omega) ?_
    refine V_icmp_ge F 71 dM_tileHeld_26 (by decide) (fun h26 => ?_) (fun h26 => ?_)
    · exact K f k (by rw [show w 86 t = k by omega]; exact hf)
    · refine V_iload_n (i := 3) F dM_tileHeld_29 rfl rfl ?_
      refine V_if_ne F 59 dM_tileHeld_30 (by decide) (fun h30 => ?_) (fun h30 => ?_)
      · refine V_iconst F dM_tileHeld_59 (by decide) ?_
        refine V_goto F 64 dM_tileHeld_60 (by decide) ?_
        refine V_istore_n (i := 3) F dM_tileHeld_64 rfl (by decide) (by simp only [List.set_cons_zero, List.set_cons_succ]; exact rfl) ?_
        refine V_iinc F dM_tileHeld_65 (by decide) rfl (by omega) (by simp only [List.set_cons_zero, List.set_cons_succ]; exact rfl) ?_
        refine V_goto F 17 dM_tileHeld_68 (by decide) ?_
        first
        | exact ih (k + 1) _ (by omega) (by omega) (by omega) (bz_t (Or.imp_right (fun q => (hd1_s h1).mpr (Or.inl q)) ((bz_ne0 (P := hdM w (8 * y + x) t ∨ hd1 w (8 * y + x) t k)).mp (by rw [← hf]; exact h30)))).symm
        | exact ih (k + 1) _ (by omega) (by omega) (by omega) (bz_t (Or.inr ((hd1_s h1).mpr (Or.inr (by omega))))).symm
        | exact ih (k + 1) _ (by omega) (by omega) (by omega) (bz_f (fun q => (bz_eq0 (P := hdM w (8 * y + x) t ∨ hd1 w (8 * y + x) t k)).mp (by rw [← hf]; exact h30) (Or.imp_right (fun z => ((hd1_s h1).mp z).elim id (fun z => absurd z (by omega))) q))).symm
      · have k6 := hm.2.2.2.2.2.1 (300 * t + k) (by omega) (by omega)
        refine V_aload_n (i := 0) F dM_tileHeld_33 rfl rfl ?_
        refine V_getr (ci := 7) (C := R_M) (T := T_M) (N := 32) F dM_tileHeld_34 (by first | rfl | assumption) rfl (j := 11) (by decide) rfl lfM_32 ?_
        refine V_sipush F dM_tileHeld_37 (by decide) ?_
        refine V_iload F dM_tileHeld_40 rfl ?_
        refine V_imul F dM_tileHeld_42 (by omega) ?_
        refine V_iload F dM_tileHeld_43 rfl ?_
        refine V_iadd F dM_tileHeld_45 (by omega) ?_
        first
          | refine V_sald F dM_tileHeld_46 (by decide) (by omega) (stt_in _ _) ?_
          | refine V_iald F dM_tileHeld_46 (by first | rfl | assumption) rfl (by omega) ?_
        refine V_bipush F dM_tileHeld_47 (by decide) ?_
        refine V_idiv F dM_tileHeld_49 (by omega) ?_
        refine V_bipush F dM_tileHeld_50 (by decide) ?_
        refine V_iload_n (i := 2) F dM_tileHeld_52 rfl rfl ?_
        refine V_imul F dM_tileHeld_53 (by omega) ?_
        refine V_iload_n (i := 1) F dM_tileHeld_54 rfl rfl ?_
        refine V_iadd F dM_tileHeld_55 (by omega) ?_
        refine V_icmp_ne F 63 dM_tileHeld_56 (by decide) (fun h56 => ?_) (fun h56 => ?_)
        · refine V_iconst F dM_tileHeld_63 (by decide) ?_
          refine V_istore_n (i := 3) F dM_tileHeld_64 rfl (by decide) (by simp only [List.set_cons_zero, List.set_cons_succ]; exact rfl) ?_
          refine V_iinc F dM_tileHeld_65 (by decide) rfl (by omega) (by simp only [List.set_cons_zero, List.set_cons_succ]; exact rfl) ?_
          refine V_goto F 17 dM_tileHeld_68 (by decide) ?_
          first
          | exact ih (k + 1) _ (by omega) (by omega) (by omega) (bz_t (Or.imp_right (fun q => (hd1_s h1).mpr (Or.inl q)) ((bz_ne0 (P := hdM w (8 * y + x) t ∨ hd1 w (8 * y + x) t k)).mp (by rw [← hf]; exact h30)))).symm
          | exact ih (k + 1) _ (by omega) (by omega) (by omega) (bz_t (Or.inr ((hd1_s h1).mpr (Or.inr (by omega))))).symm
          | exact ih (k + 1) _ (by omega) (by omega) (by omega) (bz_f (fun q => (bz_eq0 (P := hdM w (8 * y + x) t ∨ hd1 w (8 * y + x) t k)).mp (by rw [← hf]; exact h30) (Or.imp_right (fun z => ((hd1_s h1).mp z).elim id (fun z => absurd z (by omega))) q))).symm
        · refine V_iconst F dM_tileHeld_59 (by decide) ?_
          refine V_goto F 64 dM_tileHeld_60 (by decide) ?_
          refine V_istore_n (i := 3) F dM_tileHeld_64 rfl (by decide) (by simp only [List.set_cons_zero, List.set_cons_succ]; exact rfl) ?_
          refine V_iinc F dM_tileHeld_65 (by decide) rfl (by omega) (by simp only [List.set_cons_zero, List.set_cons_succ]; exact rfl) ?_
          refine V_goto F 17 dM_tileHeld_68 (by decide) ?_
          first
          | exact ih (k + 1) _ (by omega) (by omega) (by omega) (bz_t (Or.imp_right (fun q => (hd1_s h1).mpr (Or.inl q)) ((bz_ne0 (P := hdM w (8 * y + x) t ∨ hd1 w (8 * y + x) t k)).mp (by rw [← hf]; exact h30)))).symm
          | exact ih (k + 1) _ (by omega) (by omega) (by omega) (bz_t (Or.inr ((hd1_s h1).mpr (Or.inr (by omega))))).symm
          | exact ih (k + 1) _ (by omega) (by omega) (by omega) (bz_f (fun q => (bz_eq0 (P := hdM w (8 * y + x) t ∨ hd1 w (8 * y + x) t k)).mp (by rw [← hf]; exact h30) (Or.imp_right (fun z => ((hd1_s h1).mp z).elim id (fun z => absurd z (by omega))) q))).symm
theorem lpM_tileHeld {G : vG} {X : vX} {Q : State → Prop} {w : RW} {x y : Int} (hx : 0 ≤ x ∧ x < 8 ∧ 0 ≤ y ∧ y < 8) (hm : mOK w) (F : FX G X cM_tileHeld yM_tileHeld.cls 6 0) (hR : RetZ G X cM_tileHeld 6 Q (fun r u => r = bz (hdM w (8 * y + x) (w 77 10)) ∧ w = u)) : ∀ (m : Nat) (i f : Int) (o : Option RV), 0 ≤ i → i ≤ w 77 10 → w 77 10 - i < m → f = bz (hdM w (8 * y + x) i) → V G X 6 Q 5 [some (.inr 77), some (.inl x), some (.inl y), some (.inl f), some (.inl i), o] [] w := by
  have k3 := hm.2.2.1
  intro m
  induction m with
  | zero => intro i f o h1 h2 h3; omega
  | succ m ih =>
    intro i f o h1 h2 h3 hf
    have hf01 : f = 0 ∨ f = 1 := by rw [hf]; exact bz_01 _
    refine V_iload F dM_tileHeld_5 rfl ?_
    refine V_aload_n (i := 0) F dM_tileHeld_7 rfl rfl ?_
    refine V_geti (ci := 7) (C := R_M) (T := T_M) (N := 32) F dM_tileHeld_8 (by first | rfl | assumption) rfl (j := 10) 10 rfl (by decide) rfl lfM_141 ?_
    refine V_icmp_ge F 77 dM_tileHeld_11 (by decide) (fun h11 => ?_) (fun h11 => ?_)
    · refine V_iload_n (i := 3) F dM_tileHeld_77 rfl rfl ?_
      exact hR _ _ _ _ dM_tileHeld_78 (by first | exact Or.inl rfl | exact Or.inr rfl | exact bz_01 _ | assumption) (by rw [show i = w 77 10 by omega] at hf; exact ⟨hf, rfl⟩)
    · have k5 := hm.2.2.2.2.1 i h1 (by omega)
      refine V_iconst F dM_tileHeld_14 (by decide) ?_
      refine V_istore F dM_tileHeld_15 (by decide) (by simp only [List.set_cons_zero, List.set_cons_succ]; exact rfl) ?_
      refine lpM_tileHeldI hx ⟨h1, by omega⟩ hm F (fun f2 k2 hf2 => ?_) ((w 86 i).toNat + 1) 0 f (by omega) (by omega) (by omega) (by rw [hf]; exact bz_c ⟨Or.inl, fun q => q.elim id (fun z => by obtain ⟨k, a, b, _⟩ := z; omega)⟩)
      refine V_iinc F dM_tileHeld_71 (by decide) rfl (by omega) (by simp only [List.set_cons_zero, List.set_cons_succ]; exact rfl) ?_
      refine V_goto F 5 dM_tileHeld_74 (by decide) ?_
      exact ih (i + 1) _ _ (by omega) (by omega) (by omega) (by rw [hf2]; exact bz_c (hdM_s h1).symm)
theorem ctM_tileHeld {G : vG} {l : Launch} {w : RW} {x y : Int} (hx : 0 ≤ x ∧ x < 8 ∧ 0 ≤ y ∧ y < 8) (hm : mOK w) : CTi G l yM_tileHeld cM_tileHeld 6 .boolean 0 [.inr 77, .inl x, .inl y] w (fun r u => r = bz (hdM w (8 * y + x) (w 77 10)) ∧ w = u) := by
  refine CTi.bool (by decide) (Nat.le_of_ble_eq_true rfl) ?_
  intro X Q F hX hR
  subst hX
  show V G X 6 Q 0 [some (.inr 77), some (.inl x), some (.inl y), none, none, none] [] w
  refine V_iconst F dM_tileHeld_0 (by decide) ?_
  refine V_istore_n (i := 3) F dM_tileHeld_1 rfl (by decide) (by simp only [List.set_cons_zero, List.set_cons_succ]; exact rfl) ?_
  refine V_iconst F dM_tileHeld_2 (by decide) ?_
  refine V_istore F dM_tileHeld_3 (by decide) (by simp only [List.set_cons_zero, List.set_cons_succ]; exact rfl) ?_
  exact lpM_tileHeld hx hm F hR 7 0 0 none (by omega) (by have := hm.2.2.1; omega) (by have := hm.2.2.1; omega) (bz_f (fun q => by obtain ⟨t, t1, t2, _⟩ := q; omega)).symm
end
