section
-- ===== PART A: goes FIRST, ahead of the names: the tables' words, and 'selects' of the private methods out of them =====
/-- a private method of a class that the tables say can be made, by its rows of tables_1 -/
def lw_okq (q : MethodName × Nat) : Prop := (q.1.cls ≠ "java/lang/invoke/MethodHandle" ∧ q.1.cls ≠ "java/lang/invoke/VarHandle") ∧ Cond.instantiable q.1.cls q.2 ∈ tables_1 ∧ Cond.privateMethod q.1 ∈ tables_1 ∧ Cond.instanceMethod q.1 ∈ tables_1
theorem lw_p0 : lw_okq (⟨"LandUnions", "isLand", "(I)Z"⟩, 10) := ⟨⟨by decide +kernel, by decide +kernel⟩, List.mem_of_getElem? (i := 13) (by decide +kernel), List.mem_of_getElem? (i := 282) (by decide +kernel), List.mem_of_getElem? (i := 283) (by decide +kernel)⟩
theorem lw_p1 : lw_okq (⟨"LandUnions$Parting", "firstLike", "(I)I"⟩, 4) := ⟨⟨by decide +kernel, by decide +kernel⟩, List.mem_of_getElem? (i := 126) (by decide +kernel), List.mem_of_getElem? (i := 339) (by decide +kernel), List.mem_of_getElem? (i := 340) (by decide +kernel)⟩
theorem lw_p2 : lw_okq (⟨"LandUnions$Market", "wallAround", "(LLandUnions$Lands;LLandUnions$Parting;I)I"⟩, 6) := ⟨⟨by decide +kernel, by decide +kernel⟩, List.mem_of_getElem? (i := 80) (by decide +kernel), List.mem_of_getElem? (i := 355) (by decide +kernel), List.mem_of_getElem? (i := 356) (by decide +kernel)⟩
theorem lw_p3 : lw_okq (⟨"LandUnions$Market", "buy", "(LLandUnions$Lands;LLandUnions$Parting;I)V"⟩, 6) := ⟨⟨by decide +kernel, by decide +kernel⟩, List.mem_of_getElem? (i := 80) (by decide +kernel), List.mem_of_getElem? (i := 359) (by decide +kernel), List.mem_of_getElem? (i := 360) (by decide +kernel)⟩
theorem lw_p4 : lw_okq (⟨"LandUnions$Market", "shareOut", "(LLandUnions$Lands;LLandUnions$Parting;I)V"⟩, 6) := ⟨⟨by decide +kernel, by decide +kernel⟩, List.mem_of_getElem? (i := 80) (by decide +kernel), List.mem_of_getElem? (i := 363) (by decide +kernel), List.mem_of_getElem? (i := 364) (by decide +kernel)⟩
theorem lw_p5 : lw_okq (⟨"LandUnions", "goodsTogether", "(LLandUnions$Parting;)I"⟩, 10) := ⟨⟨by decide +kernel, by decide +kernel⟩, List.mem_of_getElem? (i := 13) (by decide +kernel), List.mem_of_getElem? (i := 371) (by decide +kernel), List.mem_of_getElem? (i := 372) (by decide +kernel)⟩
theorem lw_p6 : lw_okq (⟨"LandUnions", "bestPlaced", "()I"⟩, 10) := ⟨⟨by decide +kernel, by decide +kernel⟩, List.mem_of_getElem? (i := 13) (by decide +kernel), List.mem_of_getElem? (i := 390) (by decide +kernel), List.mem_of_getElem? (i := 391) (by decide +kernel)⟩
theorem lw_p7 : lw_okq (⟨"LandUnions$Parting", "unionsAhead", "(I)I"⟩, 4) := ⟨⟨by decide +kernel, by decide +kernel⟩, List.mem_of_getElem? (i := 126) (by decide +kernel), List.mem_of_getElem? (i := 410) (by decide +kernel), List.mem_of_getElem? (i := 411) (by decide +kernel)⟩
theorem lw_p8 : lw_okq (⟨"LandUnions$Journey", "where", "()I"⟩, 7) := ⟨⟨by decide +kernel, by decide +kernel⟩, List.mem_of_getElem? (i := 181) (by decide +kernel), List.mem_of_getElem? (i := 483) (by decide +kernel), List.mem_of_getElem? (i := 484) (by decide +kernel)⟩
theorem lw_p9 : lw_okq (⟨"LandUnions$Journey", "firstSeen", "(II)I"⟩, 7) := ⟨⟨by decide +kernel, by decide +kernel⟩, List.mem_of_getElem? (i := 181) (by decide +kernel), List.mem_of_getElem? (i := 488) (by decide +kernel), List.mem_of_getElem? (i := 489) (by decide +kernel)⟩
theorem lw_p10 : lw_okq (⟨"LandUnions$Journey", "findGoer", "(LLandUnions$Judge;)Z"⟩, 7) := ⟨⟨by decide +kernel, by decide +kernel⟩, List.mem_of_getElem? (i := 181) (by decide +kernel), List.mem_of_getElem? (i := 492) (by decide +kernel), List.mem_of_getElem? (i := 493) (by decide +kernel)⟩
theorem lw_p11 : lw_okq (⟨"LandUnions$Journey", "behind", "(I)I"⟩, 7) := ⟨⟨by decide +kernel, by decide +kernel⟩, List.mem_of_getElem? (i := 181) (by decide +kernel), List.mem_of_getElem? (i := 500) (by decide +kernel), List.mem_of_getElem? (i := 501) (by decide +kernel)⟩
theorem lw_p12 : lw_okq (⟨"LandUnions$Journey", "step", "()V"⟩, 7) := ⟨⟨by decide +kernel, by decide +kernel⟩, List.mem_of_getElem? (i := 181) (by decide +kernel), List.mem_of_getElem? (i := 504) (by decide +kernel), List.mem_of_getElem? (i := 505) (by decide +kernel)⟩
theorem lw_p13 : lw_okq (⟨"LandUnions", "isUnion", "(I)Z"⟩, 10) := ⟨⟨by decide +kernel, by decide +kernel⟩, List.mem_of_getElem? (i := 13) (by decide +kernel), List.mem_of_getElem? (i := 541) (by decide +kernel), List.mem_of_getElem? (i := 542) (by decide +kernel)⟩
theorem lw_p14 : lw_okq (⟨"LandUnions", "turnsStay", "(IIZ)Z"⟩, 10) := ⟨⟨by decide +kernel, by decide +kernel⟩, List.mem_of_getElem? (i := 13) (by decide +kernel), List.mem_of_getElem? (i := 565) (by decide +kernel), List.mem_of_getElem? (i := 566) (by decide +kernel)⟩
theorem lw_p15 : lw_okq (⟨"LandUnionsModel", "manyOf", "([I)I"⟩, 21) := ⟨⟨by decide +kernel, by decide +kernel⟩, List.mem_of_getElem? (i := 573) (by decide +kernel), List.mem_of_getElem? (i := 656) (by decide +kernel), List.mem_of_getElem? (i := 657) (by decide +kernel)⟩
def lw_privs_1 : List (MethodName × Nat) := [(⟨"LandUnions", "isLand", "(I)Z"⟩, 10), (⟨"LandUnions$Parting", "firstLike", "(I)I"⟩, 4), (⟨"LandUnions$Market", "wallAround", "(LLandUnions$Lands;LLandUnions$Parting;I)I"⟩, 6), (⟨"LandUnions$Market", "buy", "(LLandUnions$Lands;LLandUnions$Parting;I)V"⟩, 6), (⟨"LandUnions$Market", "shareOut", "(LLandUnions$Lands;LLandUnions$Parting;I)V"⟩, 6), (⟨"LandUnions", "goodsTogether", "(LLandUnions$Parting;)I"⟩, 10), (⟨"LandUnions", "bestPlaced", "()I"⟩, 10), (⟨"LandUnions$Parting", "unionsAhead", "(I)I"⟩, 4), (⟨"LandUnions$Journey", "where", "()I"⟩, 7), (⟨"LandUnions$Journey", "firstSeen", "(II)I"⟩, 7), (⟨"LandUnions$Journey", "findGoer", "(LLandUnions$Judge;)Z"⟩, 7), (⟨"LandUnions$Journey", "behind", "(I)I"⟩, 7), (⟨"LandUnions$Journey", "step", "()V"⟩, 7), (⟨"LandUnions", "isUnion", "(I)Z"⟩, 10), (⟨"LandUnions", "turnsStay", "(IIZ)Z"⟩, 10), (⟨"LandUnionsModel", "manyOf", "([I)I"⟩, 21)]
theorem lw_r1 : ∀ q ∈ lw_privs_1, lw_okq q := List.forall_mem_cons.mpr ⟨lw_p0, List.forall_mem_cons.mpr ⟨lw_p1, List.forall_mem_cons.mpr ⟨lw_p2, List.forall_mem_cons.mpr ⟨lw_p3, List.forall_mem_cons.mpr ⟨lw_p4, List.forall_mem_cons.mpr ⟨lw_p5, List.forall_mem_cons.mpr ⟨lw_p6, List.forall_mem_cons.mpr ⟨lw_p7, List.forall_mem_cons.mpr ⟨lw_p8, List.forall_mem_cons.mpr ⟨lw_p9, List.forall_mem_cons.mpr ⟨lw_p10, List.forall_mem_cons.mpr ⟨lw_p11, List.forall_mem_cons.mpr ⟨lw_p12, List.forall_mem_cons.mpr ⟨lw_p13, List.forall_mem_cons.mpr ⟨lw_p14, List.forall_mem_cons.mpr ⟨lw_p15, fun _ h => absurd h List.not_mem_nil⟩⟩⟩⟩⟩⟩⟩⟩⟩⟩⟩⟩⟩⟩⟩⟩
theorem lw_p16 : lw_okq (⟨"LandUnionsModel", "isLand", "(I)Z"⟩, 21) := ⟨⟨by decide +kernel, by decide +kernel⟩, List.mem_of_getElem? (i := 573) (by decide +kernel), List.mem_of_getElem? (i := 664) (by decide +kernel), List.mem_of_getElem? (i := 665) (by decide +kernel)⟩
theorem lw_p17 : lw_okq (⟨"LandUnionsModel", "number", "([I)V"⟩, 21) := ⟨⟨by decide +kernel, by decide +kernel⟩, List.mem_of_getElem? (i := 573) (by decide +kernel), List.mem_of_getElem? (i := 694) (by decide +kernel), List.mem_of_getElem? (i := 695) (by decide +kernel)⟩
theorem lw_p18 : lw_okq (⟨"LandUnionsModel", "findGoods", "([I)V"⟩, 21) := ⟨⟨by decide +kernel, by decide +kernel⟩, List.mem_of_getElem? (i := 573) (by decide +kernel), List.mem_of_getElem? (i := 706) (by decide +kernel), List.mem_of_getElem? (i := 707) (by decide +kernel)⟩
theorem lw_p19 : lw_okq (⟨"LandUnionsModel", "wallOf", "([II)I"⟩, 21) := ⟨⟨by decide +kernel, by decide +kernel⟩, List.mem_of_getElem? (i := 573) (by decide +kernel), List.mem_of_getElem? (i := 710) (by decide +kernel), List.mem_of_getElem? (i := 711) (by decide +kernel)⟩
theorem lw_p20 : lw_okq (⟨"LandUnionsModel", "shareOf", "([II)I"⟩, 21) := ⟨⟨by decide +kernel, by decide +kernel⟩, List.mem_of_getElem? (i := 573) (by decide +kernel), List.mem_of_getElem? (i := 714) (by decide +kernel), List.mem_of_getElem? (i := 715) (by decide +kernel)⟩
theorem lw_p21 : lw_okq (⟨"LandUnionsModel", "together", "()I"⟩, 21) := ⟨⟨by decide +kernel, by decide +kernel⟩, List.mem_of_getElem? (i := 573) (by decide +kernel), List.mem_of_getElem? (i := 722) (by decide +kernel), List.mem_of_getElem? (i := 723) (by decide +kernel)⟩
theorem lw_p22 : lw_okq (⟨"LandUnionsModel", "firstParting", "()V"⟩, 21) := ⟨⟨by decide +kernel, by decide +kernel⟩, List.mem_of_getElem? (i := 573) (by decide +kernel), List.mem_of_getElem? (i := 726) (by decide +kernel), List.mem_of_getElem? (i := 727) (by decide +kernel)⟩
theorem lw_p23 : lw_okq (⟨"LandUnionsModel", "nextParting", "()Z"⟩, 21) := ⟨⟨by decide +kernel, by decide +kernel⟩, List.mem_of_getElem? (i := 573) (by decide +kernel), List.mem_of_getElem? (i := 730) (by decide +kernel), List.mem_of_getElem? (i := 731) (by decide +kernel)⟩
theorem lw_p24 : lw_okq (⟨"LandUnionsModel", "breakerOf", "([II)I"⟩, 21) := ⟨⟨by decide +kernel, by decide +kernel⟩, List.mem_of_getElem? (i := 573) (by decide +kernel), List.mem_of_getElem? (i := 738) (by decide +kernel), List.mem_of_getElem? (i := 739) (by decide +kernel)⟩
theorem lw_p25 : lw_okq (⟨"LandUnionsModel", "keepGoods", "([I)V"⟩, 21) := ⟨⟨by decide +kernel, by decide +kernel⟩, List.mem_of_getElem? (i := 573) (by decide +kernel), List.mem_of_getElem? (i := 742) (by decide +kernel), List.mem_of_getElem? (i := 743) (by decide +kernel)⟩
theorem lw_p26 : lw_okq (⟨"LandUnionsModel", "copy", "([I[I)V"⟩, 21) := ⟨⟨by decide +kernel, by decide +kernel⟩, List.mem_of_getElem? (i := 573) (by decide +kernel), List.mem_of_getElem? (i := 746) (by decide +kernel), List.mem_of_getElem? (i := 747) (by decide +kernel)⟩
theorem lw_p27 : lw_okq (⟨"LandUnionsModel", "isBetter", "([II)Z"⟩, 21) := ⟨⟨by decide +kernel, by decide +kernel⟩, List.mem_of_getElem? (i := 573) (by decide +kernel), List.mem_of_getElem? (i := 750) (by decide +kernel), List.mem_of_getElem? (i := 751) (by decide +kernel)⟩
theorem lw_p28 : lw_okq (⟨"LandUnionsModel", "isUnion", "([II)Z"⟩, 21) := ⟨⟨by decide +kernel, by decide +kernel⟩, List.mem_of_getElem? (i := 573) (by decide +kernel), List.mem_of_getElem? (i := 754) (by decide +kernel), List.mem_of_getElem? (i := 755) (by decide +kernel)⟩
theorem lw_p29 : lw_okq (⟨"LandUnionsModel", "leaver", "([I)I"⟩, 21) := ⟨⟨by decide +kernel, by decide +kernel⟩, List.mem_of_getElem? (i := 573) (by decide +kernel), List.mem_of_getElem? (i := 758) (by decide +kernel), List.mem_of_getElem? (i := 759) (by decide +kernel)⟩
theorem lw_p30 : lw_okq (⟨"LandUnionsModel", "gainApart", "([II)I"⟩, 21) := ⟨⟨by decide +kernel, by decide +kernel⟩, List.mem_of_getElem? (i := 573) (by decide +kernel), List.mem_of_getElem? (i := 762) (by decide +kernel), List.mem_of_getElem? (i := 763) (by decide +kernel)⟩
theorem lw_p31 : lw_okq (⟨"LandUnionsModel", "joiner", "([I)I"⟩, 21) := ⟨⟨by decide +kernel, by decide +kernel⟩, List.mem_of_getElem? (i := 573) (by decide +kernel), List.mem_of_getElem? (i := 766) (by decide +kernel), List.mem_of_getElem? (i := 767) (by decide +kernel)⟩
def lw_privs_2 : List (MethodName × Nat) := [(⟨"LandUnionsModel", "isLand", "(I)Z"⟩, 21), (⟨"LandUnionsModel", "number", "([I)V"⟩, 21), (⟨"LandUnionsModel", "findGoods", "([I)V"⟩, 21), (⟨"LandUnionsModel", "wallOf", "([II)I"⟩, 21), (⟨"LandUnionsModel", "shareOf", "([II)I"⟩, 21), (⟨"LandUnionsModel", "together", "()I"⟩, 21), (⟨"LandUnionsModel", "firstParting", "()V"⟩, 21), (⟨"LandUnionsModel", "nextParting", "()Z"⟩, 21), (⟨"LandUnionsModel", "breakerOf", "([II)I"⟩, 21), (⟨"LandUnionsModel", "keepGoods", "([I)V"⟩, 21), (⟨"LandUnionsModel", "copy", "([I[I)V"⟩, 21), (⟨"LandUnionsModel", "isBetter", "([II)Z"⟩, 21), (⟨"LandUnionsModel", "isUnion", "([II)Z"⟩, 21), (⟨"LandUnionsModel", "leaver", "([I)I"⟩, 21), (⟨"LandUnionsModel", "gainApart", "([II)I"⟩, 21), (⟨"LandUnionsModel", "joiner", "([I)I"⟩, 21)]
theorem lw_r2 : ∀ q ∈ lw_privs_2, lw_okq q := List.forall_mem_cons.mpr ⟨lw_p16, List.forall_mem_cons.mpr ⟨lw_p17, List.forall_mem_cons.mpr ⟨lw_p18, List.forall_mem_cons.mpr ⟨lw_p19, List.forall_mem_cons.mpr ⟨lw_p20, List.forall_mem_cons.mpr ⟨lw_p21, List.forall_mem_cons.mpr ⟨lw_p22, List.forall_mem_cons.mpr ⟨lw_p23, List.forall_mem_cons.mpr ⟨lw_p24, List.forall_mem_cons.mpr ⟨lw_p25, List.forall_mem_cons.mpr ⟨lw_p26, List.forall_mem_cons.mpr ⟨lw_p27, List.forall_mem_cons.mpr ⟨lw_p28, List.forall_mem_cons.mpr ⟨lw_p29, List.forall_mem_cons.mpr ⟨lw_p30, List.forall_mem_cons.mpr ⟨lw_p31, fun _ h => absurd h List.not_mem_nil⟩⟩⟩⟩⟩⟩⟩⟩⟩⟩⟩⟩⟩⟩⟩⟩
theorem lw_p32 : lw_okq (⟨"LandUnionsModel", "gainIn", "([III)I"⟩, 21) := ⟨⟨by decide +kernel, by decide +kernel⟩, List.mem_of_getElem? (i := 573) (by decide +kernel), List.mem_of_getElem? (i := 770) (by decide +kernel), List.mem_of_getElem? (i := 771) (by decide +kernel)⟩
theorem lw_p33 : lw_okq (⟨"LandUnionsModel", "goAll", "(I)V"⟩, 21) := ⟨⟨by decide +kernel, by decide +kernel⟩, List.mem_of_getElem? (i := 573) (by decide +kernel), List.mem_of_getElem? (i := 784) (by decide +kernel), List.mem_of_getElem? (i := 785) (by decide +kernel)⟩
theorem lw_p34 : lw_okq (⟨"LandUnionsModel", "stateOf", "([II)I"⟩, 21) := ⟨⟨by decide +kernel, by decide +kernel⟩, List.mem_of_getElem? (i := 573) (by decide +kernel), List.mem_of_getElem? (i := 788) (by decide +kernel), List.mem_of_getElem? (i := 789) (by decide +kernel)⟩
theorem lw_p35 : lw_okq (⟨"LandUnionsModel", "goOne", "(I)I"⟩, 21) := ⟨⟨by decide +kernel, by decide +kernel⟩, List.mem_of_getElem? (i := 573) (by decide +kernel), List.mem_of_getElem? (i := 792) (by decide +kernel), List.mem_of_getElem? (i := 793) (by decide +kernel)⟩
theorem lw_p36 : lw_okq (⟨"LandUnionsModel", "isThere", "(I)Z"⟩, 21) := ⟨⟨by decide +kernel, by decide +kernel⟩, List.mem_of_getElem? (i := 573) (by decide +kernel), List.mem_of_getElem? (i := 813) (by decide +kernel), List.mem_of_getElem? (i := 814) (by decide +kernel)⟩
def lw_privs_3 : List (MethodName × Nat) := [(⟨"LandUnionsModel", "gainIn", "([III)I"⟩, 21), (⟨"LandUnionsModel", "goAll", "(I)V"⟩, 21), (⟨"LandUnionsModel", "stateOf", "([II)I"⟩, 21), (⟨"LandUnionsModel", "goOne", "(I)I"⟩, 21), (⟨"LandUnionsModel", "isThere", "(I)Z"⟩, 21)]
theorem lw_r3 : ∀ q ∈ lw_privs_3, lw_okq q := List.forall_mem_cons.mpr ⟨lw_p32, List.forall_mem_cons.mpr ⟨lw_p33, List.forall_mem_cons.mpr ⟨lw_p34, List.forall_mem_cons.mpr ⟨lw_p35, List.forall_mem_cons.mpr ⟨lw_p36, fun _ h => absurd h List.not_mem_nil⟩⟩⟩⟩⟩
def lw_privs : List (MethodName × Nat) := lw_privs_1 ++ (lw_privs_2 ++ (lw_privs_3))
def lw_tbl : List Cond := k2_sels lw_privs ++ tables_1
theorem lw_privs_ok : ∀ q ∈ lw_privs, lw_okq q := by
  show ∀ q ∈ lw_privs_1 ++ (lw_privs_2 ++ (lw_privs_3)), lw_okq q
  exact List.forall_mem_append.mpr ⟨lw_r1, List.forall_mem_append.mpr ⟨lw_r2, lw_r3⟩⟩
end
section
def RX0 : String := "LandUnions$Goods"
def TX0 : u_T := fun k => match k with
  | 0 => ("LandUnions$Goods", "lands", "LLandUnions$Lands;", true)
  | 1 => ("LandUnions$Goods", "market", "LLandUnions$Market;", true)
  | 2 => ("LandUnions$Goods", "reckonedAt", "[I", true)
  | _ => ("LandUnions$Goods", "kept", "[I", true)
def tyX0 : Nat → FieldType := fun k => match k with
  | 0 => .object "LandUnions$Lands"
  | 1 => .object "LandUnions$Market"
  | 2 => .array .int
  | _ => .array .int
abbrev wsX00 : List Cond := u_ws RX0 TX0 4
theorem nmX0 : ∀ a, a < 4 → ∀ b, b < 4 → a ≠ b → (TX0 a).2.1 ≠ (TX0 b).2.1 := by decide +kernel
theorem tyX0_ok : ∀ k, k < 4 → parseFieldDescriptor (TX0 k).2.2.1 = some (tyX0 k) := by decide +kernel
abbrev cX0_init : ByteArray := prog_2_method_1_code
def yX0_init : MethodName := ⟨RX0, "<init>", "()V"⟩
abbrev cX0_rowOf : ByteArray := prog_2_method_2_code
def yX0_rowOf : MethodName := ⟨RX0, "rowOf", "(LLandUnions$Parting;)I"⟩
abbrev cX0_at : ByteArray := prog_2_method_3_code
def yX0_at : MethodName := ⟨RX0, "at", "(II)I"⟩
def RX1 : String := "LandUnions$Journey"
def TX1 : u_T := fun k => match k with
  | 0 => ("LandUnions$Journey", "at", "LLandUnions$Parting;", true)
  | 1 => ("LandUnions$Journey", "goings", "I", false)
  | 2 => ("LandUnions$Journey", "ring", "I", false)
  | 3 => ("LandUnions$Journey", "next", "I", false)
  | 4 => ("LandUnions$Journey", "goer", "I", false)
  | 5 => ("LandUnions$Journey", "goal", "I", false)
  | _ => ("LandUnions$Journey", "seen", "[I", true)
def tyX1 : Nat → FieldType := fun k => match k with
  | 0 => .object "LandUnions$Parting"
  | 1 => .int
  | 2 => .int
  | 3 => .int
  | 4 => .int
  | 5 => .int
  | _ => .array .int
abbrev wsX10 : List Cond := u_ws RX1 TX1 7
theorem nmX1 : ∀ a, a < 7 → ∀ b, b < 7 → a ≠ b → (TX1 a).2.1 ≠ (TX1 b).2.1 := by decide +kernel
theorem tyX1_ok : ∀ k, k < 7 → parseFieldDescriptor (TX1 k).2.2.1 = some (tyX1 k) := by decide +kernel
abbrev cX1_init : ByteArray := prog_3_method_1_code
def yX1_init : MethodName := ⟨RX1, "<init>", "()V"⟩
abbrev cX1_travel : ByteArray := prog_3_method_2_code
def yX1_travel : MethodName := ⟨RX1, "travel", "(LLandUnions$Judge;LLandUnions$Parting;I)V"⟩
abbrev cX1_where : ByteArray := prog_3_method_3_code
def yX1_where : MethodName := ⟨RX1, "where", "()I"⟩
abbrev cX1_firstSeen : ByteArray := prog_3_method_4_code
def yX1_firstSeen : MethodName := ⟨RX1, "firstSeen", "(II)I"⟩
abbrev cX1_findGoer : ByteArray := prog_3_method_5_code
def yX1_findGoer : MethodName := ⟨RX1, "findGoer", "(LLandUnions$Judge;)Z"⟩
abbrev cX1_step : ByteArray := prog_3_method_6_code
def yX1_step : MethodName := ⟨RX1, "step", "()V"⟩
abbrev cX1_behind : ByteArray := prog_3_method_7_code
def yX1_behind : MethodName := ⟨RX1, "behind", "(I)I"⟩
def RX2 : String := "LandUnions$Judge"
def TX2 : u_T := fun k => match k with
  | 0 => ("LandUnions$Judge", "goods", "LLandUnions$Goods;", true)
  | 1 => ("LandUnions$Judge", "lands", "LLandUnions$Lands;", true)
  | _ => ("LandUnions$Judge", "tried", "LLandUnions$Parting;", true)
def tyX2 : Nat → FieldType := fun k => match k with
  | 0 => .object "LandUnions$Goods"
  | 1 => .object "LandUnions$Lands"
  | _ => .object "LandUnions$Parting"
abbrev wsX20 : List Cond := u_ws RX2 TX2 3
theorem nmX2 : ∀ a, a < 3 → ∀ b, b < 3 → a ≠ b → (TX2 a).2.1 ≠ (TX2 b).2.1 := by decide +kernel
theorem tyX2_ok : ∀ k, k < 3 → parseFieldDescriptor (TX2 k).2.2.1 = some (tyX2 k) := by decide +kernel
abbrev cX2_init : ByteArray := prog_4_method_1_code
def yX2_init : MethodName := ⟨RX2, "<init>", "()V"⟩
abbrev cX2_gainByLeaving : ByteArray := prog_4_method_2_code
def yX2_gainByLeaving : MethodName := ⟨RX2, "gainByLeaving", "(LLandUnions$Parting;I)I"⟩
abbrev cX2_gainByJoining : ByteArray := prog_4_method_3_code
def yX2_gainByJoining : MethodName := ⟨RX2, "gainByJoining", "(LLandUnions$Parting;II)I"⟩
abbrev cX2_wouldAllGain : ByteArray := prog_4_method_4_code
def yX2_wouldAllGain : MethodName := ⟨RX2, "wouldAllGain", "(LLandUnions$Parting;I)Z"⟩
abbrev cX2_goodGathered : ByteArray := prog_4_method_5_code
def yX2_goodGathered : MethodName := ⟨RX2, "goodGathered", "(LLandUnions$Parting;II)I"⟩
abbrev cX2_stayBreaker : ByteArray := prog_4_method_6_code
def yX2_stayBreaker : MethodName := ⟨RX2, "stayBreaker", "(LLandUnions$Parting;)I"⟩
abbrev cX2_joinBreaker : ByteArray := prog_4_method_7_code
def yX2_joinBreaker : MethodName := ⟨RX2, "joinBreaker", "(LLandUnions$Parting;)I"⟩
abbrev cX2_coreBreaker : ByteArray := prog_4_method_8_code
def yX2_coreBreaker : MethodName := ⟨RX2, "coreBreaker", "(LLandUnions$Parting;)I"⟩
abbrev cX2_bestGoal : ByteArray := prog_4_method_9_code
def yX2_bestGoal : MethodName := ⟨RX2, "bestGoal", "(LLandUnions$Parting;I)I"⟩
def RX3 : String := "LandUnions$Lands"
def TX3 : u_T := fun k => match k with
  | 0 => ("LandUnions$Lands", "count", "I", false)
  | 1 => ("LandUnions$Lands", "walls", "I", false)
  | 2 => ("LandUnions$Lands", "shares", "I", false)
  | 3 => ("LandUnions$Lands", "version", "I", false)
  | 4 => ("LandUnions$Lands", "wish", "[I", true)
  | 5 => ("LandUnions$Lands", "cost", "[I", true)
  | 6 => ("LandUnions$Lands", "gain", "[I", true)
  | _ => ("LandUnions$Lands", "toll", "[I", true)
def tyX3 : Nat → FieldType := fun k => match k with
  | 0 => .int
  | 1 => .int
  | 2 => .int
  | 3 => .int
  | 4 => .array .int
  | 5 => .array .int
  | 6 => .array .int
  | _ => .array .int
abbrev wsX30 : List Cond := u_ws RX3 TX3 8
theorem nmX3 : ∀ a, a < 8 → ∀ b, b < 8 → a ≠ b → (TX3 a).2.1 ≠ (TX3 b).2.1 := by decide +kernel
theorem tyX3_ok : ∀ k, k < 8 → parseFieldDescriptor (TX3 k).2.2.1 = some (tyX3 k) := by decide +kernel
abbrev cX3_init : ByteArray := prog_5_method_1_code
def yX3_init : MethodName := ⟨RX3, "<init>", "()V"⟩
abbrev cX3_fits : ByteArray := prog_5_method_2_code
def yX3_fits : MethodName := ⟨RX3, "fits", "(II)Z"⟩
abbrev cX3_rowOf : ByteArray := prog_5_method_3_code
def yX3_rowOf : MethodName := ⟨RX3, "rowOf", "(I)[I"⟩
abbrev cX3_add : ByteArray := prog_5_method_4_code
def yX3_add : MethodName := ⟨RX3, "add", "(IIII)I"⟩
abbrev cX3_put : ByteArray := prog_5_method_5_code
def yX3_put : MethodName := ⟨RX3, "put", "(III)V"⟩
abbrev cX3_putWalls : ByteArray := prog_5_method_6_code
def yX3_putWalls : MethodName := ⟨RX3, "putWalls", "(I)V"⟩
abbrev cX3_putShares : ByteArray := prog_5_method_7_code
def yX3_putShares : MethodName := ⟨RX3, "putShares", "(I)V"⟩
abbrev cX3_copy : ByteArray := prog_5_method_8_code
def yX3_copy : MethodName := ⟨RX3, "copy", "(LLandUnions$Lands;)V"⟩
def RX4 : String := "LandUnions$Market"
def TX4 : u_T := fun k => match k with
  | 0 => ("LandUnions$Market", "wall", "[I", true)
  | 1 => ("LandUnions$Market", "price", "[I", true)
  | 2 => ("LandUnions$Market", "seller", "[I", true)
  | 3 => ("LandUnions$Market", "bought", "[I", true)
  | 4 => ("LandUnions$Market", "takings", "[I", true)
  | _ => ("LandUnions$Market", "good", "[I", true)
def tyX4 : Nat → FieldType := fun k => match k with
  | 0 => .array .int
  | 1 => .array .int
  | 2 => .array .int
  | 3 => .array .int
  | 4 => .array .int
  | _ => .array .int
abbrev wsX40 : List Cond := u_ws RX4 TX4 6
theorem nmX4 : ∀ a, a < 6 → ∀ b, b < 6 → a ≠ b → (TX4 a).2.1 ≠ (TX4 b).2.1 := by decide +kernel
theorem tyX4_ok : ∀ k, k < 6 → parseFieldDescriptor (TX4 k).2.2.1 = some (tyX4 k) := by decide +kernel
abbrev cX4_init : ByteArray := prog_6_method_1_code
def yX4_init : MethodName := ⟨RX4, "<init>", "()V"⟩
abbrev cX4_reckon : ByteArray := prog_6_method_2_code
def yX4_reckon : MethodName := ⟨RX4, "reckon", "(LLandUnions$Lands;LLandUnions$Parting;)V"⟩
abbrev cX4_wallAround : ByteArray := prog_6_method_3_code
def yX4_wallAround : MethodName := ⟨RX4, "wallAround", "(LLandUnions$Lands;LLandUnions$Parting;I)I"⟩
abbrev cX4_buy : ByteArray := prog_6_method_4_code
def yX4_buy : MethodName := ⟨RX4, "buy", "(LLandUnions$Lands;LLandUnions$Parting;I)V"⟩
abbrev cX4_shareOut : ByteArray := prog_6_method_5_code
def yX4_shareOut : MethodName := ⟨RX4, "shareOut", "(LLandUnions$Lands;LLandUnions$Parting;I)V"⟩
def RX5 : String := "LandUnions$Pad"
def TX5 : u_T := fun k => match k with
  | 0 => ("LandUnions$Pad", "count", "I", false)
  | _ => ("LandUnions$Pad", "signs", "[I", true)
def tyX5 : Nat → FieldType := fun k => match k with
  | 0 => .int
  | _ => .array .int
abbrev wsX50 : List Cond := u_ws RX5 TX5 2
theorem nmX5 : ∀ a, a < 2 → ∀ b, b < 2 → a ≠ b → (TX5 a).2.1 ≠ (TX5 b).2.1 := by decide +kernel
theorem tyX5_ok : ∀ k, k < 2 → parseFieldDescriptor (TX5 k).2.2.1 = some (tyX5 k) := by decide +kernel
abbrev cX5_init : ByteArray := prog_7_method_1_code
def yX5_init : MethodName := ⟨RX5, "<init>", "()V"⟩
abbrev cX5_add : ByteArray := prog_7_method_2_code
def yX5_add : MethodName := ⟨RX5, "add", "(I)V"⟩
abbrev cX5_firstFault : ByteArray := prog_7_method_3_code
def yX5_firstFault : MethodName := ⟨RX5, "firstFault", "(I)I"⟩
abbrev cX5_putInto : ByteArray := prog_7_method_4_code
def yX5_putInto : MethodName := ⟨RX5, "putInto", "(LLandUnions$Parting;)V"⟩
def RX6 : String := "LandUnions$Parting"
def TX6 : u_T := fun k => match k with
  | 0 => ("LandUnions$Parting", "count", "I", false)
  | 1 => ("LandUnions$Parting", "unions", "I", false)
  | 2 => ("LandUnions$Parting", "row", "[I", true)
  | _ => ("LandUnions$Parting", "fresh", "[I", true)
def tyX6 : Nat → FieldType := fun k => match k with
  | 0 => .int
  | 1 => .int
  | 2 => .array .int
  | _ => .array .int
abbrev wsX60 : List Cond := u_ws RX6 TX6 4
theorem nmX6 : ∀ a, a < 4 → ∀ b, b < 4 → a ≠ b → (TX6 a).2.1 ≠ (TX6 b).2.1 := by decide +kernel
theorem tyX6_ok : ∀ k, k < 4 → parseFieldDescriptor (TX6 k).2.2.1 = some (tyX6 k) := by decide +kernel
abbrev cX6_init : ByteArray := prog_8_method_1_code
def yX6_init : MethodName := ⟨RX6, "<init>", "()V"⟩
abbrev cX6_addApart : ByteArray := prog_8_method_2_code
def yX6_addApart : MethodName := ⟨RX6, "addApart", "()V"⟩
abbrev cX6_putAllApart : ByteArray := prog_8_method_3_code
def yX6_putAllApart : MethodName := ⟨RX6, "putAllApart", "(I)V"⟩
abbrev cX6_putAllTogether : ByteArray := prog_8_method_4_code
def yX6_putAllTogether : MethodName := ⟨RX6, "putAllTogether", "(I)V"⟩
abbrev cX6_copy : ByteArray := prog_8_method_5_code
def yX6_copy : MethodName := ⟨RX6, "copy", "(LLandUnions$Parting;)V"⟩
abbrev cX6_leave : ByteArray := prog_8_method_6_code
def yX6_leave : MethodName := ⟨RX6, "leave", "(I)V"⟩
abbrev cX6_move : ByteArray := prog_8_method_7_code
def yX6_move : MethodName := ⟨RX6, "move", "(II)V"⟩
abbrev cX6_gather : ByteArray := prog_8_method_8_code
def yX6_gather : MethodName := ⟨RX6, "gather", "(I)V"⟩
abbrev cX6_scatter : ByteArray := prog_8_method_9_code
def yX6_scatter : MethodName := ⟨RX6, "scatter", "(I)V"⟩
abbrev cX6_number : ByteArray := prog_8_method_10_code
def yX6_number : MethodName := ⟨RX6, "number", "()V"⟩
abbrev cX6_firstLike : ByteArray := prog_8_method_11_code
def yX6_firstLike : MethodName := ⟨RX6, "firstLike", "(I)I"⟩
abbrev cX6_advance : ByteArray := prog_8_method_12_code
def yX6_advance : MethodName := ⟨RX6, "advance", "()V"⟩
abbrev cX6_unionsAhead : ByteArray := prog_8_method_13_code
def yX6_unionsAhead : MethodName := ⟨RX6, "unionsAhead", "(I)I"⟩
abbrev cX6_place : ByteArray := prog_8_method_14_code
def yX6_place : MethodName := ⟨RX6, "place", "()I"⟩
def RX7 : String := "LandUnions$Verdicts"
def TX7 : u_T := fun k => match k with
  | 0 => ("LandUnions$Verdicts", "soughtAt", "[I", true)
  | _ => ("LandUnions$Verdicts", "kept", "[I", true)
def tyX7 : Nat → FieldType := fun k => match k with
  | 0 => .array .int
  | _ => .array .int
abbrev wsX70 : List Cond := u_ws RX7 TX7 2
theorem nmX7 : ∀ a, a < 2 → ∀ b, b < 2 → a ≠ b → (TX7 a).2.1 ≠ (TX7 b).2.1 := by decide +kernel
theorem tyX7_ok : ∀ k, k < 2 → parseFieldDescriptor (TX7 k).2.2.1 = some (tyX7 k) := by decide +kernel
abbrev cX7_init : ByteArray := prog_9_method_1_code
def yX7_init : MethodName := ⟨RX7, "<init>", "()V"⟩
abbrev cX7_firstBreaker : ByteArray := prog_9_method_2_code
def yX7_firstBreaker : MethodName := ⟨RX7, "firstBreaker", "(LLandUnions$Judge;ILLandUnions$Parting;)I"⟩
def RX8 : String := "LandUnions"
def TX8 : u_T := fun k => match k with
  | 0 => ("LandUnions", "judge", "LLandUnions$Judge;", true)
  | 1 => ("LandUnions", "trial", "LLandUnions$Judge;", true)
  | 2 => ("LandUnions", "lands", "LLandUnions$Lands;", true)
  | 3 => ("LandUnions", "goods", "LLandUnions$Goods;", true)
  | 4 => ("LandUnions", "verdicts", "LLandUnions$Verdicts;", true)
  | 5 => ("LandUnions", "journey", "LLandUnions$Journey;", true)
  | 6 => ("LandUnions", "market", "LLandUnions$Market;", true)
  | 7 => ("LandUnions", "pad", "LLandUnions$Pad;", true)
  | 8 => ("LandUnions", "parting", "LLandUnions$Parting;", true)
  | _ => ("LandUnions", "tried", "LLandUnions$Parting;", true)
def tyX8 : Nat → FieldType := fun k => match k with
  | 0 => .object "LandUnions$Judge"
  | 1 => .object "LandUnions$Judge"
  | 2 => .object "LandUnions$Lands"
  | 3 => .object "LandUnions$Goods"
  | 4 => .object "LandUnions$Verdicts"
  | 5 => .object "LandUnions$Journey"
  | 6 => .object "LandUnions$Market"
  | 7 => .object "LandUnions$Pad"
  | 8 => .object "LandUnions$Parting"
  | _ => .object "LandUnions$Parting"
abbrev wsX80 : List Cond := u_ws RX8 TX8 10
theorem nmX8 : ∀ a, a < 10 → ∀ b, b < 10 → a ≠ b → (TX8 a).2.1 ≠ (TX8 b).2.1 := by decide +kernel
theorem tyX8_ok : ∀ k, k < 10 → parseFieldDescriptor (TX8 k).2.2.1 = some (tyX8 k) := by decide +kernel
abbrev cX8_init : ByteArray := prog_1_method_1_code
def yX8_init : MethodName := ⟨RX8, "<init>", "()V"⟩
abbrev cX8_land : ByteArray := prog_1_method_2_code
def yX8_land : MethodName := ⟨RX8, "land", "(IIII)I"⟩
abbrev cX8_change : ByteArray := prog_1_method_3_code
def yX8_change : MethodName := ⟨RX8, "change", "(III)I"⟩
abbrev cX8_set : ByteArray := prog_1_method_4_code
def yX8_set : MethodName := ⟨RX8, "set", "(II)I"⟩
abbrev cX8_say : ByteArray := prog_1_method_5_code
def yX8_say : MethodName := ⟨RX8, "say", "(I)I"⟩
abbrev cX8_wipe : ByteArray := prog_1_method_6_code
def yX8_wipe : MethodName := ⟨RX8, "wipe", "()I"⟩
abbrev cX8_fault : ByteArray := prog_1_method_7_code
def yX8_fault : MethodName := ⟨RX8, "fault", "()I"⟩
abbrev cX8_part : ByteArray := prog_1_method_8_code
def yX8_part : MethodName := ⟨RX8, "part", "()I"⟩
abbrev cX8_union : ByteArray := prog_1_method_9_code
def yX8_union : MethodName := ⟨RX8, "union", "(I)I"⟩
abbrev cX8_of : ByteArray := prog_1_method_10_code
def yX8_of : MethodName := ⟨RX8, "of", "(II)I"⟩
abbrev cX8_all : ByteArray := prog_1_method_11_code
def yX8_all : MethodName := ⟨RX8, "all", "(I)I"⟩
abbrev cX8_goodsTogether : ByteArray := prog_1_method_12_code
def yX8_goodsTogether : MethodName := ⟨RX8, "goodsTogether", "(LLandUnions$Parting;)I"⟩
abbrev cX8_bestPlaced : ByteArray := prog_1_method_13_code
def yX8_bestPlaced : MethodName := ⟨RX8, "bestPlaced", "()I"⟩
abbrev cX8_breaks : ByteArray := prog_1_method_14_code
def yX8_breaks : MethodName := ⟨RX8, "breaks", "(I)I"⟩
abbrev cX8_rests : ByteArray := prog_1_method_15_code
def yX8_rests : MethodName := ⟨RX8, "rests", "(III)I"⟩
abbrev cX8_go : ByteArray := prog_1_method_16_code
def yX8_go : MethodName := ⟨RX8, "go", "(II)I"⟩
abbrev cX8_whole : ByteArray := prog_1_method_17_code
def yX8_whole : MethodName := ⟨RX8, "whole", "(I)I"⟩
abbrev cX8_rules : ByteArray := prog_1_method_18_code
def yX8_rules : MethodName := ⟨RX8, "rules", "()I"⟩
abbrev cX8_propose : ByteArray := prog_1_method_19_code
def yX8_propose : MethodName := ⟨RX8, "propose", "(II)I"⟩
abbrev cX8_enter : ByteArray := prog_1_method_20_code
def yX8_enter : MethodName := ⟨RX8, "enter", "(III)I"⟩
abbrev cX8_holds : ByteArray := prog_1_method_21_code
def yX8_holds : MethodName := ⟨RX8, "holds", "()I"⟩
abbrev cX8_hurt : ByteArray := prog_1_method_22_code
def yX8_hurt : MethodName := ⟨RX8, "hurt", "(I)I"⟩
abbrev cX8_edge : ByteArray := prog_1_method_23_code
def yX8_edge : MethodName := ⟨RX8, "edge", "(I)I"⟩
abbrev cX8_turnsStay : ByteArray := prog_1_method_24_code
def yX8_turnsStay : MethodName := ⟨RX8, "turnsStay", "(IIZ)Z"⟩
abbrev cX8_told : ByteArray := prog_1_method_25_code
def yX8_told : MethodName := ⟨RX8, "told", "(I)I"⟩
abbrev cX8_isLand : ByteArray := prog_1_method_26_code
def yX8_isLand : MethodName := ⟨RX8, "isLand", "(I)Z"⟩
abbrev cX8_isUnion : ByteArray := prog_1_method_27_code
def yX8_isUnion : MethodName := ⟨RX8, "isUnion", "(I)Z"⟩
abbrev cX8_isRest : ByteArray := prog_1_method_28_code
def yX8_isRest : MethodName := ⟨RX8, "isRest", "(I)Z"⟩
def RX9 : String := "LandUnionsModel"
def TX9 : u_T := fun k => match k with
  | 0 => ("LandUnionsModel", "has", "[I", true)
  | 1 => ("LandUnionsModel", "lands", "I", false)
  | 2 => ("LandUnionsModel", "wallRule", "I", false)
  | 3 => ("LandUnionsModel", "shareRule", "I", false)
  | 4 => ("LandUnionsModel", "unions", "[I", true)
  | 5 => ("LandUnionsModel", "looked", "[I", true)
  | 6 => ("LandUnionsModel", "signs", "[I", true)
  | 7 => ("LandUnionsModel", "signMany", "I", false)
  | 8 => ("LandUnionsModel", "newNumber", "[I", true)
  | 9 => ("LandUnionsModel", "goods", "[I", true)
  | 10 => ("LandUnionsModel", "pays", "[I", true)
  | 11 => ("LandUnionsModel", "buys", "[I", true)
  | 12 => ("LandUnionsModel", "seller", "[I", true)
  | 13 => ("LandUnionsModel", "takes", "[I", true)
  | 14 => ("LandUnionsModel", "partOf", "[I", true)
  | 15 => ("LandUnionsModel", "turned", "[I", true)
  | 16 => ("LandUnionsModel", "goodsNow", "[I", true)
  | 17 => ("LandUnionsModel", "going", "[I", true)
  | 18 => ("LandUnionsModel", "wasThere", "[I", true)
  | 19 => ("LandUnionsModel", "goings", "I", false)
  | _ => ("LandUnionsModel", "ring", "I", false)
def tyX9 : Nat → FieldType := fun k => match k with
  | 0 => .array .int
  | 1 => .int
  | 2 => .int
  | 3 => .int
  | 4 => .array .int
  | 5 => .array .int
  | 6 => .array .int
  | 7 => .int
  | 8 => .array .int
  | 9 => .array .int
  | 10 => .array .int
  | 11 => .array .int
  | 12 => .array .int
  | 13 => .array .int
  | 14 => .array .int
  | 15 => .array .int
  | 16 => .array .int
  | 17 => .array .int
  | 18 => .array .int
  | 19 => .int
  | _ => .int
abbrev wsX90 : List Cond := u_ws RX9 TX9 21
theorem nmX9 : ∀ a, a < 21 → ∀ b, b < 21 → a ≠ b → (TX9 a).2.1 ≠ (TX9 b).2.1 := by decide +kernel
theorem tyX9_ok : ∀ k, k < 21 → parseFieldDescriptor (TX9 k).2.2.1 = some (tyX9 k) := by decide +kernel
abbrev cX9_init : ByteArray := prog_11_method_1_code
def yX9_init : MethodName := ⟨RX9, "<init>", "()V"⟩
abbrev cX9_in : ByteArray := prog_11_method_3_code
def yX9_in : MethodName := ⟨RX9, "in", "(JJJ)Z"⟩
abbrev cX9_isLand : ByteArray := prog_11_method_4_code
def yX9_isLand : MethodName := ⟨RX9, "isLand", "(I)Z"⟩
abbrev cX9_isNumber : ByteArray := prog_11_method_5_code
def yX9_isNumber : MethodName := ⟨RX9, "isNumber", "(II)Z"⟩
abbrev cX9_land : ByteArray := prog_11_method_6_code
def yX9_land : MethodName := ⟨RX9, "land", "(IIII)I"⟩
abbrev cX9_change : ByteArray := prog_11_method_7_code
def yX9_change : MethodName := ⟨RX9, "change", "(III)I"⟩
abbrev cX9_set : ByteArray := prog_11_method_8_code
def yX9_set : MethodName := ⟨RX9, "set", "(II)I"⟩
abbrev cX9_manyOf : ByteArray := prog_11_method_9_code
def yX9_manyOf : MethodName := ⟨RX9, "manyOf", "([I)I"⟩
abbrev cX9_say : ByteArray := prog_11_method_10_code
def yX9_say : MethodName := ⟨RX9, "say", "(I)I"⟩
abbrev cX9_wipe : ByteArray := prog_11_method_11_code
def yX9_wipe : MethodName := ⟨RX9, "wipe", "()I"⟩
abbrev cX9_fault : ByteArray := prog_11_method_12_code
def yX9_fault : MethodName := ⟨RX9, "fault", "()I"⟩
abbrev cX9_part : ByteArray := prog_11_method_13_code
def yX9_part : MethodName := ⟨RX9, "part", "()I"⟩
abbrev cX9_number : ByteArray := prog_11_method_14_code
def yX9_number : MethodName := ⟨RX9, "number", "([I)V"⟩
abbrev cX9_union : ByteArray := prog_11_method_15_code
def yX9_union : MethodName := ⟨RX9, "union", "(I)I"⟩
abbrev cX9_wallOf : ByteArray := prog_11_method_16_code
def yX9_wallOf : MethodName := ⟨RX9, "wallOf", "([II)I"⟩
abbrev cX9_findGoods : ByteArray := prog_11_method_17_code
def yX9_findGoods : MethodName := ⟨RX9, "findGoods", "([I)V"⟩
abbrev cX9_shareOf : ByteArray := prog_11_method_18_code
def yX9_shareOf : MethodName := ⟨RX9, "shareOf", "([II)I"⟩
abbrev cX9_copy : ByteArray := prog_11_method_19_code
def yX9_copy : MethodName := ⟨RX9, "copy", "([I[I)V"⟩
abbrev cX9_together : ByteArray := prog_11_method_20_code
def yX9_together : MethodName := ⟨RX9, "together", "()I"⟩
abbrev cX9_of : ByteArray := prog_11_method_21_code
def yX9_of : MethodName := ⟨RX9, "of", "(II)I"⟩
abbrev cX9_firstParting : ByteArray := prog_11_method_22_code
def yX9_firstParting : MethodName := ⟨RX9, "firstParting", "()V"⟩
abbrev cX9_nextParting : ByteArray := prog_11_method_23_code
def yX9_nextParting : MethodName := ⟨RX9, "nextParting", "()Z"⟩
abbrev cX9_all : ByteArray := prog_11_method_24_code
def yX9_all : MethodName := ⟨RX9, "all", "(I)I"⟩
abbrev cX9_keepGoods : ByteArray := prog_11_method_25_code
def yX9_keepGoods : MethodName := ⟨RX9, "keepGoods", "([I)V"⟩
abbrev cX9_gainApart : ByteArray := prog_11_method_26_code
def yX9_gainApart : MethodName := ⟨RX9, "gainApart", "([II)I"⟩
abbrev cX9_gainIn : ByteArray := prog_11_method_27_code
def yX9_gainIn : MethodName := ⟨RX9, "gainIn", "([III)I"⟩
abbrev cX9_leaver : ByteArray := prog_11_method_28_code
def yX9_leaver : MethodName := ⟨RX9, "leaver", "([I)I"⟩
abbrev cX9_joiner : ByteArray := prog_11_method_29_code
def yX9_joiner : MethodName := ⟨RX9, "joiner", "([I)I"⟩
abbrev cX9_isUnion : ByteArray := prog_11_method_30_code
def yX9_isUnion : MethodName := ⟨RX9, "isUnion", "([II)Z"⟩
abbrev cX9_isBetter : ByteArray := prog_11_method_31_code
def yX9_isBetter : MethodName := ⟨RX9, "isBetter", "([II)Z"⟩
abbrev cX9_breakerOf : ByteArray := prog_11_method_32_code
def yX9_breakerOf : MethodName := ⟨RX9, "breakerOf", "([II)I"⟩
abbrev cX9_breaks : ByteArray := prog_11_method_33_code
def yX9_breaks : MethodName := ⟨RX9, "breaks", "(I)I"⟩
abbrev cX9_rests : ByteArray := prog_11_method_34_code
def yX9_rests : MethodName := ⟨RX9, "rests", "(III)I"⟩
abbrev cX9_stateOf : ByteArray := prog_11_method_35_code
def yX9_stateOf : MethodName := ⟨RX9, "stateOf", "([II)I"⟩
abbrev cX9_goOne : ByteArray := prog_11_method_36_code
def yX9_goOne : MethodName := ⟨RX9, "goOne", "(I)I"⟩
abbrev cX9_goAll : ByteArray := prog_11_method_37_code
def yX9_goAll : MethodName := ⟨RX9, "goAll", "(I)V"⟩
abbrev cX9_go : ByteArray := prog_11_method_38_code
def yX9_go : MethodName := ⟨RX9, "go", "(II)I"⟩
abbrev cX9_whole : ByteArray := prog_11_method_39_code
def yX9_whole : MethodName := ⟨RX9, "whole", "(I)I"⟩
abbrev cX9_rules : ByteArray := prog_11_method_40_code
def yX9_rules : MethodName := ⟨RX9, "rules", "()I"⟩
abbrev cX9_propose : ByteArray := prog_11_method_41_code
def yX9_propose : MethodName := ⟨RX9, "propose", "(II)I"⟩
abbrev cX9_isThere : ByteArray := prog_11_method_42_code
def yX9_isThere : MethodName := ⟨RX9, "isThere", "(I)Z"⟩
abbrev cX9_enter : ByteArray := prog_11_method_43_code
def yX9_enter : MethodName := ⟨RX9, "enter", "(III)I"⟩
abbrev cX9_holds : ByteArray := prog_11_method_44_code
def yX9_holds : MethodName := ⟨RX9, "holds", "()I"⟩
abbrev cX9_hurt : ByteArray := prog_11_method_45_code
def yX9_hurt : MethodName := ⟨RX9, "hurt", "(I)I"⟩
abbrev cX9_edge : ByteArray := prog_11_method_46_code
def yX9_edge : MethodName := ⟨RX9, "edge", "(I)I"⟩
abbrev cX9_told : ByteArray := prog_11_method_47_code
def yX9_told : MethodName := ⟨RX9, "told", "(I)I"⟩
def RJ9 : String := "java/lang/Math"
def TJ9 : u_T := fun k => match k with
  | _ => ("", "", "", false)
def tyJ9 : Nat → FieldType := fun k => match k with
  | _ => .int
abbrev wsJ90 : List Cond := u_ws RJ9 TJ9 0
theorem nmJ9 : ∀ a, a < 0 → ∀ b, b < 0 → a ≠ b → (TJ9 a).2.1 ≠ (TJ9 b).2.1 := by decide +kernel
theorem tyJ9_ok : ∀ k, k < 0 → parseFieldDescriptor (TJ9 k).2.2.1 = some (tyJ9 k) := by decide +kernel
abbrev cJ9_max_7cf53 : ByteArray := prog_12_method_65_code
def yJ9_max_7cf53 : MethodName := ⟨RJ9, "max", "(II)I"⟩
abbrev cJ9_min_7cf53 : ByteArray := prog_12_method_69_code
def yJ9_min_7cf53 : MethodName := ⟨RJ9, "min", "(II)I"⟩
def RL : String := "LandUnionsLaw"
abbrev cL_law : ByteArray := code
def yL_law : MethodName := ⟨RL, "law", "([I)Z"⟩
abbrev vwCl : List vw_C := [(RX0, TX0, 4), (RX1, TX1, 7), (RX2, TX2, 3), (RX3, TX3, 8), (RX4, TX4, 6), (RX5, TX5, 2), (RX6, TX6, 4), (RX7, TX7, 2), (RX8, TX8, 10), (RX9, TX9, 21)]
set_option maxRecDepth 20000 in
theorem inX0 : ∀ w ∈ wsX00, w ∈ lw_tbl := by decide +kernel
set_option maxRecDepth 20000 in
theorem inX1 : ∀ w ∈ wsX10, w ∈ lw_tbl := by decide +kernel
set_option maxRecDepth 20000 in
theorem inX2 : ∀ w ∈ wsX20, w ∈ lw_tbl := by decide +kernel
set_option maxRecDepth 20000 in
theorem inX3 : ∀ w ∈ wsX30, w ∈ lw_tbl := by decide +kernel
set_option maxRecDepth 20000 in
theorem inX4 : ∀ w ∈ wsX40, w ∈ lw_tbl := by decide +kernel
set_option maxRecDepth 20000 in
theorem inX5 : ∀ w ∈ wsX50, w ∈ lw_tbl := by decide +kernel
set_option maxRecDepth 20000 in
theorem inX6 : ∀ w ∈ wsX60, w ∈ lw_tbl := by decide +kernel
set_option maxRecDepth 20000 in
theorem inX7 : ∀ w ∈ wsX70, w ∈ lw_tbl := by decide +kernel
set_option maxRecDepth 20000 in
theorem inX8 : ∀ w ∈ wsX80, w ∈ lw_tbl := by decide +kernel
set_option maxRecDepth 20000 in
theorem inX9 : ∀ w ∈ wsX90, w ∈ lw_tbl := by decide +kernel
end
section
theorem dX0_init_0 : decode cX0_init 0 = .ok (.aload_n 0, 1) := by decide +kernel
theorem dX0_init_1 : decode cX0_init 1 = .ok (.invokespecial 3, 3) := by decide +kernel
theorem dX0_init_4 : decode cX0_init 4 = .ok (.aload_n 0, 1) := by decide +kernel
theorem dX0_init_5 : decode cX0_init 5 = .ok (.new 9, 3) := by decide +kernel
theorem dX0_init_8 : decode cX0_init 8 = .ok (.dup, 1) := by decide +kernel
theorem dX0_init_9 : decode cX0_init 9 = .ok (.invokespecial 11, 3) := by decide +kernel
theorem dX0_init_12 : decode cX0_init 12 = .ok (.putfield 12, 3) := by decide +kernel
theorem dX0_init_15 : decode cX0_init 15 = .ok (.aload_n 0, 1) := by decide +kernel
theorem dX0_init_16 : decode cX0_init 16 = .ok (.new 18, 3) := by decide +kernel
theorem dX0_init_19 : decode cX0_init 19 = .ok (.dup, 1) := by decide +kernel
theorem dX0_init_20 : decode cX0_init 20 = .ok (.invokespecial 20, 3) := by decide +kernel
theorem dX0_init_23 : decode cX0_init 23 = .ok (.putfield 21, 3) := by decide +kernel
theorem dX0_init_26 : decode cX0_init 26 = .ok (.aload_n 0, 1) := by decide +kernel
theorem dX0_init_27 : decode cX0_init 27 = .ok (.sipush 203, 3) := by decide +kernel
theorem dX0_init_30 : decode cX0_init 30 = .ok (.newarray .int, 2) := by decide +kernel
theorem dX0_init_32 : decode cX0_init 32 = .ok (.putfield 25, 3) := by decide +kernel
theorem dX0_init_35 : decode cX0_init 35 = .ok (.aload_n 0, 1) := by decide +kernel
theorem dX0_init_36 : decode cX0_init 36 = .ok (.sipush 1218, 3) := by decide +kernel
theorem dX0_init_39 : decode cX0_init 39 = .ok (.newarray .int, 2) := by decide +kernel
theorem dX0_init_41 : decode cX0_init 41 = .ok (.putfield 29, 3) := by decide +kernel
theorem dX0_init_44 : decode cX0_init 44 = .ok (.return_, 1) := by decide +kernel
theorem dX0_rowOf_0 : decode cX0_rowOf 0 = .ok (.aload_n 1, 1) := by decide +kernel
theorem dX0_rowOf_1 : decode cX0_rowOf 1 = .ok (.invokevirtual 32, 3) := by decide +kernel
theorem dX0_rowOf_4 : decode cX0_rowOf 4 = .ok (.istore_n 2, 1) := by decide +kernel
theorem dX0_rowOf_5 : decode cX0_rowOf 5 = .ok (.iload_n 2, 1) := by decide +kernel
theorem dX0_rowOf_6 : decode cX0_rowOf 6 = .ok (.bipush 6, 2) := by decide +kernel
theorem dX0_rowOf_8 : decode cX0_rowOf 8 = .ok (.imul, 1) := by decide +kernel
theorem dX0_rowOf_9 : decode cX0_rowOf 9 = .ok (.istore_n 3, 1) := by decide +kernel
theorem dX0_rowOf_10 : decode cX0_rowOf 10 = .ok (.aload_n 0, 1) := by decide +kernel
theorem dX0_rowOf_11 : decode cX0_rowOf 11 = .ok (.getfield 25, 3) := by decide +kernel
theorem dX0_rowOf_14 : decode cX0_rowOf 14 = .ok (.iload_n 2, 1) := by decide +kernel
theorem dX0_rowOf_15 : decode cX0_rowOf 15 = .ok (.iaload, 1) := by decide +kernel
theorem dX0_rowOf_16 : decode cX0_rowOf 16 = .ok (.aload_n 0, 1) := by decide +kernel
theorem dX0_rowOf_17 : decode cX0_rowOf 17 = .ok (.getfield 12, 3) := by decide +kernel
theorem dX0_rowOf_20 : decode cX0_rowOf 20 = .ok (.getfield 38, 3) := by decide +kernel
theorem dX0_rowOf_23 : decode cX0_rowOf 23 = .ok (.if_icmp .eq 68, 3) := by decide +kernel
theorem dX0_rowOf_26 : decode cX0_rowOf 26 = .ok (.aload_n 0, 1) := by decide +kernel
theorem dX0_rowOf_27 : decode cX0_rowOf 27 = .ok (.getfield 21, 3) := by decide +kernel
theorem dX0_rowOf_30 : decode cX0_rowOf 30 = .ok (.aload_n 0, 1) := by decide +kernel
theorem dX0_rowOf_31 : decode cX0_rowOf 31 = .ok (.getfield 12, 3) := by decide +kernel
theorem dX0_rowOf_34 : decode cX0_rowOf 34 = .ok (.aload_n 1, 1) := by decide +kernel
theorem dX0_rowOf_35 : decode cX0_rowOf 35 = .ok (.invokevirtual 42, 3) := by decide +kernel
theorem dX0_rowOf_38 : decode cX0_rowOf 38 = .ok (.iconst 0, 1) := by decide +kernel
theorem dX0_rowOf_39 : decode cX0_rowOf 39 = .ok (.istore 4, 2) := by decide +kernel
theorem dX0_rowOf_41 : decode cX0_rowOf 41 = .ok (.iload 4, 2) := by decide +kernel
theorem dX0_rowOf_43 : decode cX0_rowOf 43 = .ok (.aload_n 0, 1) := by decide +kernel
theorem dX0_rowOf_44 : decode cX0_rowOf 44 = .ok (.getfield 12, 3) := by decide +kernel
theorem dX0_rowOf_47 : decode cX0_rowOf 47 = .ok (.getfield 46, 3) := by decide +kernel
theorem dX0_rowOf_50 : decode cX0_rowOf 50 = .ok (.if_icmp .ge 28, 3) := by decide +kernel
theorem dX0_rowOf_53 : decode cX0_rowOf 53 = .ok (.aload_n 0, 1) := by decide +kernel
theorem dX0_rowOf_54 : decode cX0_rowOf 54 = .ok (.getfield 29, 3) := by decide +kernel
theorem dX0_rowOf_57 : decode cX0_rowOf 57 = .ok (.iload_n 3, 1) := by decide +kernel
theorem dX0_rowOf_58 : decode cX0_rowOf 58 = .ok (.iload 4, 2) := by decide +kernel
theorem dX0_rowOf_60 : decode cX0_rowOf 60 = .ok (.iadd, 1) := by decide +kernel
theorem dX0_rowOf_61 : decode cX0_rowOf 61 = .ok (.aload_n 0, 1) := by decide +kernel
theorem dX0_rowOf_62 : decode cX0_rowOf 62 = .ok (.getfield 21, 3) := by decide +kernel
theorem dX0_rowOf_65 : decode cX0_rowOf 65 = .ok (.getfield 49, 3) := by decide +kernel
theorem dX0_rowOf_68 : decode cX0_rowOf 68 = .ok (.iload 4, 2) := by decide +kernel
theorem dX0_rowOf_70 : decode cX0_rowOf 70 = .ok (.iaload, 1) := by decide +kernel
theorem dX0_rowOf_71 : decode cX0_rowOf 71 = .ok (.iastore, 1) := by decide +kernel
theorem dX0_rowOf_72 : decode cX0_rowOf 72 = .ok (.iinc 4 1, 3) := by decide +kernel
theorem dX0_rowOf_75 : decode cX0_rowOf 75 = .ok (.goto (-34), 3) := by decide +kernel
theorem dX0_rowOf_78 : decode cX0_rowOf 78 = .ok (.aload_n 0, 1) := by decide +kernel
theorem dX0_rowOf_79 : decode cX0_rowOf 79 = .ok (.getfield 25, 3) := by decide +kernel
theorem dX0_rowOf_82 : decode cX0_rowOf 82 = .ok (.iload_n 2, 1) := by decide +kernel
theorem dX0_rowOf_83 : decode cX0_rowOf 83 = .ok (.aload_n 0, 1) := by decide +kernel
theorem dX0_rowOf_84 : decode cX0_rowOf 84 = .ok (.getfield 12, 3) := by decide +kernel
theorem dX0_rowOf_87 : decode cX0_rowOf 87 = .ok (.getfield 38, 3) := by decide +kernel
theorem dX0_rowOf_90 : decode cX0_rowOf 90 = .ok (.iastore, 1) := by decide +kernel
theorem dX0_rowOf_91 : decode cX0_rowOf 91 = .ok (.iload_n 3, 1) := by decide +kernel
theorem dX0_rowOf_92 : decode cX0_rowOf 92 = .ok (.ireturn, 1) := by decide +kernel
theorem dX0_at_0 : decode cX0_at 0 = .ok (.aload_n 0, 1) := by decide +kernel
theorem dX0_at_1 : decode cX0_at 1 = .ok (.getfield 29, 3) := by decide +kernel
theorem dX0_at_4 : decode cX0_at 4 = .ok (.iload_n 1, 1) := by decide +kernel
theorem dX0_at_5 : decode cX0_at 5 = .ok (.iload_n 2, 1) := by decide +kernel
theorem dX0_at_6 : decode cX0_at 6 = .ok (.iadd, 1) := by decide +kernel
theorem dX0_at_7 : decode cX0_at 7 = .ok (.iaload, 1) := by decide +kernel
theorem dX0_at_8 : decode cX0_at 8 = .ok (.ireturn, 1) := by decide +kernel
theorem dX1_init_0 : decode cX1_init 0 = .ok (.aload_n 0, 1) := by decide +kernel
theorem dX1_init_1 : decode cX1_init 1 = .ok (.invokespecial 3, 3) := by decide +kernel
theorem dX1_init_4 : decode cX1_init 4 = .ok (.aload_n 0, 1) := by decide +kernel
theorem dX1_init_5 : decode cX1_init 5 = .ok (.new 9, 3) := by decide +kernel
theorem dX1_init_8 : decode cX1_init 8 = .ok (.dup, 1) := by decide +kernel
theorem dX1_init_9 : decode cX1_init 9 = .ok (.invokespecial 11, 3) := by decide +kernel
theorem dX1_init_12 : decode cX1_init 12 = .ok (.putfield 12, 3) := by decide +kernel
theorem dX1_init_15 : decode cX1_init 15 = .ok (.aload_n 0, 1) := by decide +kernel
theorem dX1_init_16 : decode cX1_init 16 = .ok (.sipush 501, 3) := by decide +kernel
theorem dX1_init_19 : decode cX1_init 19 = .ok (.newarray .int, 2) := by decide +kernel
theorem dX1_init_21 : decode cX1_init 21 = .ok (.putfield 18, 3) := by decide +kernel
theorem dX1_init_24 : decode cX1_init 24 = .ok (.return_, 1) := by decide +kernel
theorem dX1_travel_0 : decode cX1_travel 0 = .ok (.aload_n 0, 1) := by decide +kernel
theorem dX1_travel_1 : decode cX1_travel 1 = .ok (.getfield 12, 3) := by decide +kernel
theorem dX1_travel_4 : decode cX1_travel 4 = .ok (.aload_n 2, 1) := by decide +kernel
theorem dX1_travel_5 : decode cX1_travel 5 = .ok (.invokevirtual 22, 3) := by decide +kernel
theorem dX1_travel_8 : decode cX1_travel 8 = .ok (.aload_n 0, 1) := by decide +kernel
theorem dX1_travel_9 : decode cX1_travel 9 = .ok (.iload_n 3, 1) := by decide +kernel
theorem dX1_travel_10 : decode cX1_travel 10 = .ok (.putfield 26, 3) := by decide +kernel
theorem dX1_travel_13 : decode cX1_travel 13 = .ok (.aload_n 0, 1) := by decide +kernel
theorem dX1_travel_14 : decode cX1_travel 14 = .ok (.iconst (-1), 1) := by decide +kernel
theorem dX1_travel_15 : decode cX1_travel 15 = .ok (.putfield 30, 3) := by decide +kernel
theorem dX1_travel_18 : decode cX1_travel 18 = .ok (.iconst 0, 1) := by decide +kernel
theorem dX1_travel_19 : decode cX1_travel 19 = .ok (.istore 4, 2) := by decide +kernel
theorem dX1_travel_21 : decode cX1_travel 21 = .ok (.iload 4, 2) := by decide +kernel
theorem dX1_travel_23 : decode cX1_travel 23 = .ok (.sipush 500, 3) := by decide +kernel
theorem dX1_travel_26 : decode cX1_travel 26 = .ok (.if_icmp .gt 79, 3) := by decide +kernel
theorem dX1_travel_29 : decode cX1_travel 29 = .ok (.aload_n 0, 1) := by decide +kernel
theorem dX1_travel_30 : decode cX1_travel 30 = .ok (.iload 4, 2) := by decide +kernel
theorem dX1_travel_32 : decode cX1_travel 32 = .ok (.putfield 33, 3) := by decide +kernel
theorem dX1_travel_35 : decode cX1_travel 35 = .ok (.aload_n 0, 1) := by decide +kernel
theorem dX1_travel_36 : decode cX1_travel 36 = .ok (.aload_n 0, 1) := by decide +kernel
theorem dX1_travel_37 : decode cX1_travel 37 = .ok (.invokevirtual 36, 3) := by decide +kernel
theorem dX1_travel_40 : decode cX1_travel 40 = .ok (.iload 4, 2) := by decide +kernel
theorem dX1_travel_42 : decode cX1_travel 42 = .ok (.invokevirtual 40, 3) := by decide +kernel
theorem dX1_travel_45 : decode cX1_travel 45 = .ok (.istore 5, 2) := by decide +kernel
theorem dX1_travel_47 : decode cX1_travel 47 = .ok (.iload 5, 2) := by decide +kernel
theorem dX1_travel_49 : decode cX1_travel 49 = .ok (.ifCond .lt 13, 3) := by decide +kernel
theorem dX1_travel_52 : decode cX1_travel 52 = .ok (.aload_n 0, 1) := by decide +kernel
theorem dX1_travel_53 : decode cX1_travel 53 = .ok (.iload 4, 2) := by decide +kernel
theorem dX1_travel_55 : decode cX1_travel 55 = .ok (.iload 5, 2) := by decide +kernel
theorem dX1_travel_57 : decode cX1_travel 57 = .ok (.isub, 1) := by decide +kernel
theorem dX1_travel_58 : decode cX1_travel 58 = .ok (.putfield 30, 3) := by decide +kernel
theorem dX1_travel_61 : decode cX1_travel 61 = .ok (.return_, 1) := by decide +kernel
theorem dX1_travel_62 : decode cX1_travel 62 = .ok (.aload_n 0, 1) := by decide +kernel
theorem dX1_travel_63 : decode cX1_travel 63 = .ok (.getfield 18, 3) := by decide +kernel
theorem dX1_travel_66 : decode cX1_travel 66 = .ok (.iload 4, 2) := by decide +kernel
theorem dX1_travel_68 : decode cX1_travel 68 = .ok (.aload_n 0, 1) := by decide +kernel
theorem dX1_travel_69 : decode cX1_travel 69 = .ok (.invokevirtual 36, 3) := by decide +kernel
theorem dX1_travel_72 : decode cX1_travel 72 = .ok (.iastore, 1) := by decide +kernel
theorem dX1_travel_73 : decode cX1_travel 73 = .ok (.aload_n 0, 1) := by decide +kernel
theorem dX1_travel_74 : decode cX1_travel 74 = .ok (.aload_n 1, 1) := by decide +kernel
theorem dX1_travel_75 : decode cX1_travel 75 = .ok (.invokevirtual 44, 3) := by decide +kernel
theorem dX1_travel_78 : decode cX1_travel 78 = .ok (.ifCond .ne 9, 3) := by decide +kernel
theorem dX1_travel_81 : decode cX1_travel 81 = .ok (.aload_n 0, 1) := by decide +kernel
theorem dX1_travel_82 : decode cX1_travel 82 = .ok (.iconst 0, 1) := by decide +kernel
theorem dX1_travel_83 : decode cX1_travel 83 = .ok (.putfield 30, 3) := by decide +kernel
theorem dX1_travel_86 : decode cX1_travel 86 = .ok (.return_, 1) := by decide +kernel
theorem dX1_travel_87 : decode cX1_travel 87 = .ok (.iload 4, 2) := by decide +kernel
theorem dX1_travel_89 : decode cX1_travel 89 = .ok (.sipush 500, 3) := by decide +kernel
theorem dX1_travel_92 : decode cX1_travel 92 = .ok (.if_icmp .ge 7, 3) := by decide +kernel
theorem dX1_travel_95 : decode cX1_travel 95 = .ok (.aload_n 0, 1) := by decide +kernel
theorem dX1_travel_96 : decode cX1_travel 96 = .ok (.invokevirtual 48, 3) := by decide +kernel
theorem dX1_travel_99 : decode cX1_travel 99 = .ok (.iinc 4 1, 3) := by decide +kernel
theorem dX1_travel_102 : decode cX1_travel 102 = .ok (.goto (-81), 3) := by decide +kernel
theorem dX1_travel_105 : decode cX1_travel 105 = .ok (.return_, 1) := by decide +kernel
theorem dX1_where_0 : decode cX1_where 0 = .ok (.aload_n 0, 1) := by decide +kernel
theorem dX1_where_1 : decode cX1_where 1 = .ok (.getfield 12, 3) := by decide +kernel
theorem dX1_where_4 : decode cX1_where 4 = .ok (.invokevirtual 51, 3) := by decide +kernel
theorem dX1_where_7 : decode cX1_where 7 = .ok (.bipush 6, 2) := by decide +kernel
theorem dX1_where_9 : decode cX1_where 9 = .ok (.imul, 1) := by decide +kernel
theorem dX1_where_10 : decode cX1_where 10 = .ok (.aload_n 0, 1) := by decide +kernel
theorem dX1_where_11 : decode cX1_where 11 = .ok (.getfield 26, 3) := by decide +kernel
theorem dX1_where_14 : decode cX1_where 14 = .ok (.iadd, 1) := by decide +kernel
theorem dX1_where_15 : decode cX1_where 15 = .ok (.ireturn, 1) := by decide +kernel
theorem dX1_firstSeen_0 : decode cX1_firstSeen 0 = .ok (.iconst 0, 1) := by decide +kernel
theorem dX1_firstSeen_1 : decode cX1_firstSeen 1 = .ok (.istore_n 3, 1) := by decide +kernel
theorem dX1_firstSeen_2 : decode cX1_firstSeen 2 = .ok (.iload_n 3, 1) := by decide +kernel
theorem dX1_firstSeen_3 : decode cX1_firstSeen 3 = .ok (.iload_n 2, 1) := by decide +kernel
theorem dX1_firstSeen_4 : decode cX1_firstSeen 4 = .ok (.if_icmp .ge 21, 3) := by decide +kernel
theorem dX1_firstSeen_7 : decode cX1_firstSeen 7 = .ok (.aload_n 0, 1) := by decide +kernel
theorem dX1_firstSeen_8 : decode cX1_firstSeen 8 = .ok (.getfield 18, 3) := by decide +kernel
theorem dX1_firstSeen_11 : decode cX1_firstSeen 11 = .ok (.iload_n 3, 1) := by decide +kernel
theorem dX1_firstSeen_12 : decode cX1_firstSeen 12 = .ok (.iaload, 1) := by decide +kernel
theorem dX1_firstSeen_13 : decode cX1_firstSeen 13 = .ok (.iload_n 1, 1) := by decide +kernel
theorem dX1_firstSeen_14 : decode cX1_firstSeen 14 = .ok (.if_icmp .ne 5, 3) := by decide +kernel
theorem dX1_firstSeen_17 : decode cX1_firstSeen 17 = .ok (.iload_n 3, 1) := by decide +kernel
theorem dX1_firstSeen_18 : decode cX1_firstSeen 18 = .ok (.ireturn, 1) := by decide +kernel
theorem dX1_firstSeen_19 : decode cX1_firstSeen 19 = .ok (.iinc 3 1, 3) := by decide +kernel
theorem dX1_firstSeen_22 : decode cX1_firstSeen 22 = .ok (.goto (-20), 3) := by decide +kernel
theorem dX1_firstSeen_25 : decode cX1_firstSeen 25 = .ok (.iconst (-1), 1) := by decide +kernel
theorem dX1_firstSeen_26 : decode cX1_firstSeen 26 = .ok (.ireturn, 1) := by decide +kernel
theorem dX1_findGoer_0 : decode cX1_findGoer 0 = .ok (.aload_n 0, 1) := by decide +kernel
theorem dX1_findGoer_1 : decode cX1_findGoer 1 = .ok (.aload_n 0, 1) := by decide +kernel
theorem dX1_findGoer_2 : decode cX1_findGoer 2 = .ok (.getfield 26, 3) := by decide +kernel
theorem dX1_findGoer_5 : decode cX1_findGoer 5 = .ok (.putfield 54, 3) := by decide +kernel
theorem dX1_findGoer_8 : decode cX1_findGoer 8 = .ok (.iconst 0, 1) := by decide +kernel
theorem dX1_findGoer_9 : decode cX1_findGoer 9 = .ok (.istore_n 2, 1) := by decide +kernel
theorem dX1_findGoer_10 : decode cX1_findGoer 10 = .ok (.iload_n 2, 1) := by decide +kernel
theorem dX1_findGoer_11 : decode cX1_findGoer 11 = .ok (.aload_n 0, 1) := by decide +kernel
theorem dX1_findGoer_12 : decode cX1_findGoer 12 = .ok (.getfield 12, 3) := by decide +kernel
theorem dX1_findGoer_15 : decode cX1_findGoer 15 = .ok (.getfield 57, 3) := by decide +kernel
theorem dX1_findGoer_18 : decode cX1_findGoer 18 = .ok (.if_icmp .ge 48, 3) := by decide +kernel
theorem dX1_findGoer_21 : decode cX1_findGoer 21 = .ok (.aload_n 0, 1) := by decide +kernel
theorem dX1_findGoer_22 : decode cX1_findGoer 22 = .ok (.aload_n 1, 1) := by decide +kernel
theorem dX1_findGoer_23 : decode cX1_findGoer 23 = .ok (.aload_n 0, 1) := by decide +kernel
theorem dX1_findGoer_24 : decode cX1_findGoer 24 = .ok (.getfield 12, 3) := by decide +kernel
theorem dX1_findGoer_27 : decode cX1_findGoer 27 = .ok (.aload_n 0, 1) := by decide +kernel
theorem dX1_findGoer_28 : decode cX1_findGoer 28 = .ok (.getfield 54, 3) := by decide +kernel
theorem dX1_findGoer_31 : decode cX1_findGoer 31 = .ok (.invokevirtual 60, 3) := by decide +kernel
theorem dX1_findGoer_34 : decode cX1_findGoer 34 = .ok (.putfield 66, 3) := by decide +kernel
theorem dX1_findGoer_37 : decode cX1_findGoer 37 = .ok (.aload_n 0, 1) := by decide +kernel
theorem dX1_findGoer_38 : decode cX1_findGoer 38 = .ok (.getfield 66, 3) := by decide +kernel
theorem dX1_findGoer_41 : decode cX1_findGoer 41 = .ok (.bipush (-2), 2) := by decide +kernel
theorem dX1_findGoer_43 : decode cX1_findGoer 43 = .ok (.if_icmp .eq 5, 3) := by decide +kernel
theorem dX1_findGoer_46 : decode cX1_findGoer 46 = .ok (.iconst 1, 1) := by decide +kernel
theorem dX1_findGoer_47 : decode cX1_findGoer 47 = .ok (.ireturn, 1) := by decide +kernel
theorem dX1_findGoer_48 : decode cX1_findGoer 48 = .ok (.aload_n 0, 1) := by decide +kernel
theorem dX1_findGoer_49 : decode cX1_findGoer 49 = .ok (.aload_n 0, 1) := by decide +kernel
theorem dX1_findGoer_50 : decode cX1_findGoer 50 = .ok (.aload_n 0, 1) := by decide +kernel
theorem dX1_findGoer_51 : decode cX1_findGoer 51 = .ok (.getfield 54, 3) := by decide +kernel
theorem dX1_findGoer_54 : decode cX1_findGoer 54 = .ok (.invokevirtual 69, 3) := by decide +kernel
theorem dX1_findGoer_57 : decode cX1_findGoer 57 = .ok (.putfield 54, 3) := by decide +kernel
theorem dX1_findGoer_60 : decode cX1_findGoer 60 = .ok (.iinc 2 1, 3) := by decide +kernel
theorem dX1_findGoer_63 : decode cX1_findGoer 63 = .ok (.goto (-53), 3) := by decide +kernel
theorem dX1_findGoer_66 : decode cX1_findGoer 66 = .ok (.iconst 0, 1) := by decide +kernel
theorem dX1_findGoer_67 : decode cX1_findGoer 67 = .ok (.ireturn, 1) := by decide +kernel
theorem dX1_step_0 : decode cX1_step 0 = .ok (.aload_n 0, 1) := by decide +kernel
theorem dX1_step_1 : decode cX1_step 1 = .ok (.getfield 66, 3) := by decide +kernel
theorem dX1_step_4 : decode cX1_step 4 = .ok (.iconst (-1), 1) := by decide +kernel
theorem dX1_step_5 : decode cX1_step 5 = .ok (.if_icmp .ne 17, 3) := by decide +kernel
theorem dX1_step_8 : decode cX1_step 8 = .ok (.aload_n 0, 1) := by decide +kernel
theorem dX1_step_9 : decode cX1_step 9 = .ok (.getfield 12, 3) := by decide +kernel
theorem dX1_step_12 : decode cX1_step 12 = .ok (.aload_n 0, 1) := by decide +kernel
theorem dX1_step_13 : decode cX1_step 13 = .ok (.getfield 54, 3) := by decide +kernel
theorem dX1_step_16 : decode cX1_step 16 = .ok (.invokevirtual 73, 3) := by decide +kernel
theorem dX1_step_19 : decode cX1_step 19 = .ok (.goto 18, 3) := by decide +kernel
theorem dX1_step_22 : decode cX1_step 22 = .ok (.aload_n 0, 1) := by decide +kernel
theorem dX1_step_23 : decode cX1_step 23 = .ok (.getfield 12, 3) := by decide +kernel
theorem dX1_step_26 : decode cX1_step 26 = .ok (.aload_n 0, 1) := by decide +kernel
theorem dX1_step_27 : decode cX1_step 27 = .ok (.getfield 54, 3) := by decide +kernel
theorem dX1_step_30 : decode cX1_step 30 = .ok (.aload_n 0, 1) := by decide +kernel
theorem dX1_step_31 : decode cX1_step 31 = .ok (.getfield 66, 3) := by decide +kernel
theorem dX1_step_34 : decode cX1_step 34 = .ok (.invokevirtual 77, 3) := by decide +kernel
theorem dX1_step_37 : decode cX1_step 37 = .ok (.aload_n 0, 1) := by decide +kernel
theorem dX1_step_38 : decode cX1_step 38 = .ok (.aload_n 0, 1) := by decide +kernel
theorem dX1_step_39 : decode cX1_step 39 = .ok (.aload_n 0, 1) := by decide +kernel
theorem dX1_step_40 : decode cX1_step 40 = .ok (.getfield 54, 3) := by decide +kernel
theorem dX1_step_43 : decode cX1_step 43 = .ok (.invokevirtual 69, 3) := by decide +kernel
theorem dX1_step_46 : decode cX1_step 46 = .ok (.putfield 26, 3) := by decide +kernel
theorem dX1_step_49 : decode cX1_step 49 = .ok (.return_, 1) := by decide +kernel
theorem dX1_behind_0 : decode cX1_behind 0 = .ok (.iload_n 1, 1) := by decide +kernel
theorem dX1_behind_1 : decode cX1_behind 1 = .ok (.iconst 1, 1) := by decide +kernel
theorem dX1_behind_2 : decode cX1_behind 2 = .ok (.iadd, 1) := by decide +kernel
theorem dX1_behind_3 : decode cX1_behind 3 = .ok (.aload_n 0, 1) := by decide +kernel
theorem dX1_behind_4 : decode cX1_behind 4 = .ok (.getfield 12, 3) := by decide +kernel
theorem dX1_behind_7 : decode cX1_behind 7 = .ok (.getfield 57, 3) := by decide +kernel
theorem dX1_behind_10 : decode cX1_behind 10 = .ok (.if_icmp .ge 9, 3) := by decide +kernel
theorem dX1_behind_13 : decode cX1_behind 13 = .ok (.iload_n 1, 1) := by decide +kernel
theorem dX1_behind_14 : decode cX1_behind 14 = .ok (.iconst 1, 1) := by decide +kernel
theorem dX1_behind_15 : decode cX1_behind 15 = .ok (.iadd, 1) := by decide +kernel
theorem dX1_behind_16 : decode cX1_behind 16 = .ok (.goto 4, 3) := by decide +kernel
theorem dX1_behind_19 : decode cX1_behind 19 = .ok (.iconst 0, 1) := by decide +kernel
theorem dX1_behind_20 : decode cX1_behind 20 = .ok (.ireturn, 1) := by decide +kernel
theorem dX2_init_0 : decode cX2_init 0 = .ok (.aload_n 0, 1) := by decide +kernel
theorem dX2_init_1 : decode cX2_init 1 = .ok (.invokespecial 3, 3) := by decide +kernel
theorem dX2_init_4 : decode cX2_init 4 = .ok (.aload_n 0, 1) := by decide +kernel
theorem dX2_init_5 : decode cX2_init 5 = .ok (.new 9, 3) := by decide +kernel
theorem dX2_init_8 : decode cX2_init 8 = .ok (.dup, 1) := by decide +kernel
theorem dX2_init_9 : decode cX2_init 9 = .ok (.invokespecial 11, 3) := by decide +kernel
theorem dX2_init_12 : decode cX2_init 12 = .ok (.putfield 12, 3) := by decide +kernel
theorem dX2_init_15 : decode cX2_init 15 = .ok (.aload_n 0, 1) := by decide +kernel
theorem dX2_init_16 : decode cX2_init 16 = .ok (.aload_n 0, 1) := by decide +kernel
theorem dX2_init_17 : decode cX2_init 17 = .ok (.getfield 12, 3) := by decide +kernel
theorem dX2_init_20 : decode cX2_init 20 = .ok (.getfield 18, 3) := by decide +kernel
theorem dX2_init_23 : decode cX2_init 23 = .ok (.putfield 22, 3) := by decide +kernel
theorem dX2_init_26 : decode cX2_init 26 = .ok (.aload_n 0, 1) := by decide +kernel
theorem dX2_init_27 : decode cX2_init 27 = .ok (.new 23, 3) := by decide +kernel
theorem dX2_init_30 : decode cX2_init 30 = .ok (.dup, 1) := by decide +kernel
theorem dX2_init_31 : decode cX2_init 31 = .ok (.invokespecial 25, 3) := by decide +kernel
theorem dX2_init_34 : decode cX2_init 34 = .ok (.putfield 26, 3) := by decide +kernel
theorem dX2_init_37 : decode cX2_init 37 = .ok (.return_, 1) := by decide +kernel
theorem dX2_gainByLeaving_0 : decode cX2_gainByLeaving 0 = .ok (.aload_n 0, 1) := by decide +kernel
theorem dX2_gainByLeaving_1 : decode cX2_gainByLeaving 1 = .ok (.getfield 26, 3) := by decide +kernel
theorem dX2_gainByLeaving_4 : decode cX2_gainByLeaving 4 = .ok (.aload_n 1, 1) := by decide +kernel
theorem dX2_gainByLeaving_5 : decode cX2_gainByLeaving 5 = .ok (.invokevirtual 30, 3) := by decide +kernel
theorem dX2_gainByLeaving_8 : decode cX2_gainByLeaving 8 = .ok (.aload_n 0, 1) := by decide +kernel
theorem dX2_gainByLeaving_9 : decode cX2_gainByLeaving 9 = .ok (.getfield 26, 3) := by decide +kernel
theorem dX2_gainByLeaving_12 : decode cX2_gainByLeaving 12 = .ok (.iload_n 2, 1) := by decide +kernel
theorem dX2_gainByLeaving_13 : decode cX2_gainByLeaving 13 = .ok (.invokevirtual 34, 3) := by decide +kernel
theorem dX2_gainByLeaving_16 : decode cX2_gainByLeaving 16 = .ok (.aload_n 0, 1) := by decide +kernel
theorem dX2_gainByLeaving_17 : decode cX2_gainByLeaving 17 = .ok (.getfield 12, 3) := by decide +kernel
theorem dX2_gainByLeaving_20 : decode cX2_gainByLeaving 20 = .ok (.aload_n 0, 1) := by decide +kernel
theorem dX2_gainByLeaving_21 : decode cX2_gainByLeaving 21 = .ok (.getfield 12, 3) := by decide +kernel
theorem dX2_gainByLeaving_24 : decode cX2_gainByLeaving 24 = .ok (.aload_n 0, 1) := by decide +kernel
theorem dX2_gainByLeaving_25 : decode cX2_gainByLeaving 25 = .ok (.getfield 26, 3) := by decide +kernel
theorem dX2_gainByLeaving_28 : decode cX2_gainByLeaving 28 = .ok (.invokevirtual 38, 3) := by decide +kernel
theorem dX2_gainByLeaving_31 : decode cX2_gainByLeaving 31 = .ok (.iload_n 2, 1) := by decide +kernel
theorem dX2_gainByLeaving_32 : decode cX2_gainByLeaving 32 = .ok (.invokevirtual 42, 3) := by decide +kernel
theorem dX2_gainByLeaving_35 : decode cX2_gainByLeaving 35 = .ok (.aload_n 0, 1) := by decide +kernel
theorem dX2_gainByLeaving_36 : decode cX2_gainByLeaving 36 = .ok (.getfield 12, 3) := by decide +kernel
theorem dX2_gainByLeaving_39 : decode cX2_gainByLeaving 39 = .ok (.aload_n 0, 1) := by decide +kernel
theorem dX2_gainByLeaving_40 : decode cX2_gainByLeaving 40 = .ok (.getfield 12, 3) := by decide +kernel
theorem dX2_gainByLeaving_43 : decode cX2_gainByLeaving 43 = .ok (.aload_n 1, 1) := by decide +kernel
theorem dX2_gainByLeaving_44 : decode cX2_gainByLeaving 44 = .ok (.invokevirtual 38, 3) := by decide +kernel
theorem dX2_gainByLeaving_47 : decode cX2_gainByLeaving 47 = .ok (.iload_n 2, 1) := by decide +kernel
theorem dX2_gainByLeaving_48 : decode cX2_gainByLeaving 48 = .ok (.invokevirtual 42, 3) := by decide +kernel
theorem dX2_gainByLeaving_51 : decode cX2_gainByLeaving 51 = .ok (.isub, 1) := by decide +kernel
theorem dX2_gainByLeaving_52 : decode cX2_gainByLeaving 52 = .ok (.ireturn, 1) := by decide +kernel
theorem dX2_gainByJoining_0 : decode cX2_gainByJoining 0 = .ok (.aload_n 0, 1) := by decide +kernel
theorem dX2_gainByJoining_1 : decode cX2_gainByJoining 1 = .ok (.getfield 26, 3) := by decide +kernel
theorem dX2_gainByJoining_4 : decode cX2_gainByJoining 4 = .ok (.aload_n 1, 1) := by decide +kernel
theorem dX2_gainByJoining_5 : decode cX2_gainByJoining 5 = .ok (.invokevirtual 30, 3) := by decide +kernel
theorem dX2_gainByJoining_8 : decode cX2_gainByJoining 8 = .ok (.aload_n 0, 1) := by decide +kernel
theorem dX2_gainByJoining_9 : decode cX2_gainByJoining 9 = .ok (.getfield 26, 3) := by decide +kernel
theorem dX2_gainByJoining_12 : decode cX2_gainByJoining 12 = .ok (.iload_n 2, 1) := by decide +kernel
theorem dX2_gainByJoining_13 : decode cX2_gainByJoining 13 = .ok (.iload_n 3, 1) := by decide +kernel
theorem dX2_gainByJoining_14 : decode cX2_gainByJoining 14 = .ok (.invokevirtual 46, 3) := by decide +kernel
theorem dX2_gainByJoining_17 : decode cX2_gainByJoining 17 = .ok (.aload_n 0, 1) := by decide +kernel
theorem dX2_gainByJoining_18 : decode cX2_gainByJoining 18 = .ok (.getfield 12, 3) := by decide +kernel
theorem dX2_gainByJoining_21 : decode cX2_gainByJoining 21 = .ok (.aload_n 1, 1) := by decide +kernel
theorem dX2_gainByJoining_22 : decode cX2_gainByJoining 22 = .ok (.invokevirtual 38, 3) := by decide +kernel
theorem dX2_gainByJoining_25 : decode cX2_gainByJoining 25 = .ok (.istore 4, 2) := by decide +kernel
theorem dX2_gainByJoining_27 : decode cX2_gainByJoining 27 = .ok (.aload_n 0, 1) := by decide +kernel
theorem dX2_gainByJoining_28 : decode cX2_gainByJoining 28 = .ok (.getfield 12, 3) := by decide +kernel
theorem dX2_gainByJoining_31 : decode cX2_gainByJoining 31 = .ok (.aload_n 0, 1) := by decide +kernel
theorem dX2_gainByJoining_32 : decode cX2_gainByJoining 32 = .ok (.getfield 26, 3) := by decide +kernel
theorem dX2_gainByJoining_35 : decode cX2_gainByJoining 35 = .ok (.invokevirtual 38, 3) := by decide +kernel
theorem dX2_gainByJoining_38 : decode cX2_gainByJoining 38 = .ok (.istore 5, 2) := by decide +kernel
theorem dX2_gainByJoining_40 : decode cX2_gainByJoining 40 = .ok (.iconst 0, 1) := by decide +kernel
theorem dX2_gainByJoining_41 : decode cX2_gainByJoining 41 = .ok (.istore 6, 2) := by decide +kernel
theorem dX2_gainByJoining_43 : decode cX2_gainByJoining 43 = .ok (.iload 6, 2) := by decide +kernel
theorem dX2_gainByJoining_45 : decode cX2_gainByJoining 45 = .ok (.aload_n 0, 1) := by decide +kernel
theorem dX2_gainByJoining_46 : decode cX2_gainByJoining 46 = .ok (.getfield 22, 3) := by decide +kernel
theorem dX2_gainByJoining_49 : decode cX2_gainByJoining 49 = .ok (.getfield 50, 3) := by decide +kernel
theorem dX2_gainByJoining_52 : decode cX2_gainByJoining 52 = .ok (.if_icmp .ge 47, 3) := by decide +kernel
theorem dX2_gainByJoining_55 : decode cX2_gainByJoining 55 = .ok (.aload_n 1, 1) := by decide +kernel
theorem dX2_gainByJoining_56 : decode cX2_gainByJoining 56 = .ok (.getfield 56, 3) := by decide +kernel
theorem dX2_gainByJoining_59 : decode cX2_gainByJoining 59 = .ok (.iload 6, 2) := by decide +kernel
theorem dX2_gainByJoining_61 : decode cX2_gainByJoining 61 = .ok (.iaload, 1) := by decide +kernel
theorem dX2_gainByJoining_62 : decode cX2_gainByJoining 62 = .ok (.iload_n 3, 1) := by decide +kernel
theorem dX2_gainByJoining_63 : decode cX2_gainByJoining 63 = .ok (.if_icmp .ne 30, 3) := by decide +kernel
theorem dX2_gainByJoining_66 : decode cX2_gainByJoining 66 = .ok (.aload_n 0, 1) := by decide +kernel
theorem dX2_gainByJoining_67 : decode cX2_gainByJoining 67 = .ok (.getfield 12, 3) := by decide +kernel
theorem dX2_gainByJoining_70 : decode cX2_gainByJoining 70 = .ok (.iload 5, 2) := by decide +kernel
theorem dX2_gainByJoining_72 : decode cX2_gainByJoining 72 = .ok (.iload 6, 2) := by decide +kernel
theorem dX2_gainByJoining_74 : decode cX2_gainByJoining 74 = .ok (.invokevirtual 42, 3) := by decide +kernel
theorem dX2_gainByJoining_77 : decode cX2_gainByJoining 77 = .ok (.aload_n 0, 1) := by decide +kernel
theorem dX2_gainByJoining_78 : decode cX2_gainByJoining 78 = .ok (.getfield 12, 3) := by decide +kernel
theorem dX2_gainByJoining_81 : decode cX2_gainByJoining 81 = .ok (.iload 4, 2) := by decide +kernel
theorem dX2_gainByJoining_83 : decode cX2_gainByJoining 83 = .ok (.iload 6, 2) := by decide +kernel
theorem dX2_gainByJoining_85 : decode cX2_gainByJoining 85 = .ok (.invokevirtual 42, 3) := by decide +kernel
theorem dX2_gainByJoining_88 : decode cX2_gainByJoining 88 = .ok (.if_icmp .ge 5, 3) := by decide +kernel
theorem dX2_gainByJoining_91 : decode cX2_gainByJoining 91 = .ok (.iconst 0, 1) := by decide +kernel
theorem dX2_gainByJoining_92 : decode cX2_gainByJoining 92 = .ok (.ireturn, 1) := by decide +kernel
theorem dX2_gainByJoining_93 : decode cX2_gainByJoining 93 = .ok (.iinc 6 1, 3) := by decide +kernel
theorem dX2_gainByJoining_96 : decode cX2_gainByJoining 96 = .ok (.goto (-53), 3) := by decide +kernel
theorem dX2_gainByJoining_99 : decode cX2_gainByJoining 99 = .ok (.aload_n 0, 1) := by decide +kernel
theorem dX2_gainByJoining_100 : decode cX2_gainByJoining 100 = .ok (.getfield 12, 3) := by decide +kernel
theorem dX2_gainByJoining_103 : decode cX2_gainByJoining 103 = .ok (.iload 5, 2) := by decide +kernel
theorem dX2_gainByJoining_105 : decode cX2_gainByJoining 105 = .ok (.iload_n 2, 1) := by decide +kernel
theorem dX2_gainByJoining_106 : decode cX2_gainByJoining 106 = .ok (.invokevirtual 42, 3) := by decide +kernel
theorem dX2_gainByJoining_109 : decode cX2_gainByJoining 109 = .ok (.aload_n 0, 1) := by decide +kernel
theorem dX2_gainByJoining_110 : decode cX2_gainByJoining 110 = .ok (.getfield 12, 3) := by decide +kernel
theorem dX2_gainByJoining_113 : decode cX2_gainByJoining 113 = .ok (.iload 4, 2) := by decide +kernel
theorem dX2_gainByJoining_115 : decode cX2_gainByJoining 115 = .ok (.iload_n 2, 1) := by decide +kernel
theorem dX2_gainByJoining_116 : decode cX2_gainByJoining 116 = .ok (.invokevirtual 42, 3) := by decide +kernel
theorem dX2_gainByJoining_119 : decode cX2_gainByJoining 119 = .ok (.isub, 1) := by decide +kernel
theorem dX2_gainByJoining_120 : decode cX2_gainByJoining 120 = .ok (.ireturn, 1) := by decide +kernel
theorem dX2_wouldAllGain_0 : decode cX2_wouldAllGain 0 = .ok (.aload_n 0, 1) := by decide +kernel
theorem dX2_wouldAllGain_1 : decode cX2_wouldAllGain 1 = .ok (.getfield 26, 3) := by decide +kernel
theorem dX2_wouldAllGain_4 : decode cX2_wouldAllGain 4 = .ok (.aload_n 1, 1) := by decide +kernel
theorem dX2_wouldAllGain_5 : decode cX2_wouldAllGain 5 = .ok (.invokevirtual 30, 3) := by decide +kernel
theorem dX2_wouldAllGain_8 : decode cX2_wouldAllGain 8 = .ok (.aload_n 0, 1) := by decide +kernel
theorem dX2_wouldAllGain_9 : decode cX2_wouldAllGain 9 = .ok (.getfield 26, 3) := by decide +kernel
theorem dX2_wouldAllGain_12 : decode cX2_wouldAllGain 12 = .ok (.iload_n 2, 1) := by decide +kernel
theorem dX2_wouldAllGain_13 : decode cX2_wouldAllGain 13 = .ok (.invokevirtual 60, 3) := by decide +kernel
theorem dX2_wouldAllGain_16 : decode cX2_wouldAllGain 16 = .ok (.aload_n 0, 1) := by decide +kernel
theorem dX2_wouldAllGain_17 : decode cX2_wouldAllGain 17 = .ok (.getfield 12, 3) := by decide +kernel
theorem dX2_wouldAllGain_20 : decode cX2_wouldAllGain 20 = .ok (.aload_n 1, 1) := by decide +kernel
theorem dX2_wouldAllGain_21 : decode cX2_wouldAllGain 21 = .ok (.invokevirtual 38, 3) := by decide +kernel
theorem dX2_wouldAllGain_24 : decode cX2_wouldAllGain 24 = .ok (.istore_n 3, 1) := by decide +kernel
theorem dX2_wouldAllGain_25 : decode cX2_wouldAllGain 25 = .ok (.aload_n 0, 1) := by decide +kernel
theorem dX2_wouldAllGain_26 : decode cX2_wouldAllGain 26 = .ok (.getfield 12, 3) := by decide +kernel
theorem dX2_wouldAllGain_29 : decode cX2_wouldAllGain 29 = .ok (.aload_n 0, 1) := by decide +kernel
theorem dX2_wouldAllGain_30 : decode cX2_wouldAllGain 30 = .ok (.getfield 26, 3) := by decide +kernel
theorem dX2_wouldAllGain_33 : decode cX2_wouldAllGain 33 = .ok (.invokevirtual 38, 3) := by decide +kernel
theorem dX2_wouldAllGain_36 : decode cX2_wouldAllGain 36 = .ok (.istore 4, 2) := by decide +kernel
theorem dX2_wouldAllGain_38 : decode cX2_wouldAllGain 38 = .ok (.iconst 0, 1) := by decide +kernel
theorem dX2_wouldAllGain_39 : decode cX2_wouldAllGain 39 = .ok (.istore 5, 2) := by decide +kernel
theorem dX2_wouldAllGain_41 : decode cX2_wouldAllGain 41 = .ok (.iload 5, 2) := by decide +kernel
theorem dX2_wouldAllGain_43 : decode cX2_wouldAllGain 43 = .ok (.aload_n 0, 1) := by decide +kernel
theorem dX2_wouldAllGain_44 : decode cX2_wouldAllGain 44 = .ok (.getfield 22, 3) := by decide +kernel
theorem dX2_wouldAllGain_47 : decode cX2_wouldAllGain 47 = .ok (.getfield 50, 3) := by decide +kernel
theorem dX2_wouldAllGain_50 : decode cX2_wouldAllGain 50 = .ok (.if_icmp .ge 45, 3) := by decide +kernel
theorem dX2_wouldAllGain_53 : decode cX2_wouldAllGain 53 = .ok (.iload_n 2, 1) := by decide +kernel
theorem dX2_wouldAllGain_54 : decode cX2_wouldAllGain 54 = .ok (.iload 5, 2) := by decide +kernel
theorem dX2_wouldAllGain_56 : decode cX2_wouldAllGain 56 = .ok (.ishr, 1) := by decide +kernel
theorem dX2_wouldAllGain_57 : decode cX2_wouldAllGain 57 = .ok (.iconst 1, 1) := by decide +kernel
theorem dX2_wouldAllGain_58 : decode cX2_wouldAllGain 58 = .ok (.iand, 1) := by decide +kernel
theorem dX2_wouldAllGain_59 : decode cX2_wouldAllGain 59 = .ok (.iconst 1, 1) := by decide +kernel
theorem dX2_wouldAllGain_60 : decode cX2_wouldAllGain 60 = .ok (.if_icmp .ne 29, 3) := by decide +kernel
theorem dX2_wouldAllGain_63 : decode cX2_wouldAllGain 63 = .ok (.aload_n 0, 1) := by decide +kernel
theorem dX2_wouldAllGain_64 : decode cX2_wouldAllGain 64 = .ok (.getfield 12, 3) := by decide +kernel
theorem dX2_wouldAllGain_67 : decode cX2_wouldAllGain 67 = .ok (.iload 4, 2) := by decide +kernel
theorem dX2_wouldAllGain_69 : decode cX2_wouldAllGain 69 = .ok (.iload 5, 2) := by decide +kernel
theorem dX2_wouldAllGain_71 : decode cX2_wouldAllGain 71 = .ok (.invokevirtual 42, 3) := by decide +kernel
theorem dX2_wouldAllGain_74 : decode cX2_wouldAllGain 74 = .ok (.aload_n 0, 1) := by decide +kernel
theorem dX2_wouldAllGain_75 : decode cX2_wouldAllGain 75 = .ok (.getfield 12, 3) := by decide +kernel
theorem dX2_wouldAllGain_78 : decode cX2_wouldAllGain 78 = .ok (.iload_n 3, 1) := by decide +kernel
theorem dX2_wouldAllGain_79 : decode cX2_wouldAllGain 79 = .ok (.iload 5, 2) := by decide +kernel
theorem dX2_wouldAllGain_81 : decode cX2_wouldAllGain 81 = .ok (.invokevirtual 42, 3) := by decide +kernel
theorem dX2_wouldAllGain_84 : decode cX2_wouldAllGain 84 = .ok (.if_icmp .gt 5, 3) := by decide +kernel
theorem dX2_wouldAllGain_87 : decode cX2_wouldAllGain 87 = .ok (.iconst 0, 1) := by decide +kernel
theorem dX2_wouldAllGain_88 : decode cX2_wouldAllGain 88 = .ok (.ireturn, 1) := by decide +kernel
theorem dX2_wouldAllGain_89 : decode cX2_wouldAllGain 89 = .ok (.iinc 5 1, 3) := by decide +kernel
theorem dX2_wouldAllGain_92 : decode cX2_wouldAllGain 92 = .ok (.goto (-51), 3) := by decide +kernel
theorem dX2_wouldAllGain_95 : decode cX2_wouldAllGain 95 = .ok (.iconst 1, 1) := by decide +kernel
theorem dX2_wouldAllGain_96 : decode cX2_wouldAllGain 96 = .ok (.ireturn, 1) := by decide +kernel
theorem dX2_goodGathered_0 : decode cX2_goodGathered 0 = .ok (.aload_n 0, 1) := by decide +kernel
theorem dX2_goodGathered_1 : decode cX2_goodGathered 1 = .ok (.getfield 26, 3) := by decide +kernel
theorem dX2_goodGathered_4 : decode cX2_goodGathered 4 = .ok (.aload_n 1, 1) := by decide +kernel
theorem dX2_goodGathered_5 : decode cX2_goodGathered 5 = .ok (.invokevirtual 30, 3) := by decide +kernel
theorem dX2_goodGathered_8 : decode cX2_goodGathered 8 = .ok (.aload_n 0, 1) := by decide +kernel
theorem dX2_goodGathered_9 : decode cX2_goodGathered 9 = .ok (.getfield 26, 3) := by decide +kernel
theorem dX2_goodGathered_12 : decode cX2_goodGathered 12 = .ok (.iload_n 2, 1) := by decide +kernel
theorem dX2_goodGathered_13 : decode cX2_goodGathered 13 = .ok (.invokevirtual 60, 3) := by decide +kernel
theorem dX2_goodGathered_16 : decode cX2_goodGathered 16 = .ok (.aload_n 0, 1) := by decide +kernel
theorem dX2_goodGathered_17 : decode cX2_goodGathered 17 = .ok (.getfield 12, 3) := by decide +kernel
theorem dX2_goodGathered_20 : decode cX2_goodGathered 20 = .ok (.aload_n 0, 1) := by decide +kernel
theorem dX2_goodGathered_21 : decode cX2_goodGathered 21 = .ok (.getfield 12, 3) := by decide +kernel
theorem dX2_goodGathered_24 : decode cX2_goodGathered 24 = .ok (.aload_n 0, 1) := by decide +kernel
theorem dX2_goodGathered_25 : decode cX2_goodGathered 25 = .ok (.getfield 26, 3) := by decide +kernel
theorem dX2_goodGathered_28 : decode cX2_goodGathered 28 = .ok (.invokevirtual 38, 3) := by decide +kernel
theorem dX2_goodGathered_31 : decode cX2_goodGathered 31 = .ok (.iload_n 3, 1) := by decide +kernel
theorem dX2_goodGathered_32 : decode cX2_goodGathered 32 = .ok (.invokevirtual 42, 3) := by decide +kernel
theorem dX2_goodGathered_35 : decode cX2_goodGathered 35 = .ok (.ireturn, 1) := by decide +kernel
theorem dX2_stayBreaker_0 : decode cX2_stayBreaker 0 = .ok (.iconst 0, 1) := by decide +kernel
theorem dX2_stayBreaker_1 : decode cX2_stayBreaker 1 = .ok (.istore_n 2, 1) := by decide +kernel
theorem dX2_stayBreaker_2 : decode cX2_stayBreaker 2 = .ok (.iload_n 2, 1) := by decide +kernel
theorem dX2_stayBreaker_3 : decode cX2_stayBreaker 3 = .ok (.aload_n 0, 1) := by decide +kernel
theorem dX2_stayBreaker_4 : decode cX2_stayBreaker 4 = .ok (.getfield 22, 3) := by decide +kernel
theorem dX2_stayBreaker_7 : decode cX2_stayBreaker 7 = .ok (.getfield 50, 3) := by decide +kernel
theorem dX2_stayBreaker_10 : decode cX2_stayBreaker 10 = .ok (.if_icmp .ge 20, 3) := by decide +kernel
theorem dX2_stayBreaker_13 : decode cX2_stayBreaker 13 = .ok (.aload_n 0, 1) := by decide +kernel
theorem dX2_stayBreaker_14 : decode cX2_stayBreaker 14 = .ok (.aload_n 1, 1) := by decide +kernel
theorem dX2_stayBreaker_15 : decode cX2_stayBreaker 15 = .ok (.iload_n 2, 1) := by decide +kernel
theorem dX2_stayBreaker_16 : decode cX2_stayBreaker 16 = .ok (.invokevirtual 63, 3) := by decide +kernel
theorem dX2_stayBreaker_19 : decode cX2_stayBreaker 19 = .ok (.ifCond .le 5, 3) := by decide +kernel
theorem dX2_stayBreaker_22 : decode cX2_stayBreaker 22 = .ok (.iload_n 2, 1) := by decide +kernel
theorem dX2_stayBreaker_23 : decode cX2_stayBreaker 23 = .ok (.ireturn, 1) := by decide +kernel
theorem dX2_stayBreaker_24 : decode cX2_stayBreaker 24 = .ok (.iinc 2 1, 3) := by decide +kernel
theorem dX2_stayBreaker_27 : decode cX2_stayBreaker 27 = .ok (.goto (-25), 3) := by decide +kernel
theorem dX2_stayBreaker_30 : decode cX2_stayBreaker 30 = .ok (.bipush (-6), 2) := by decide +kernel
theorem dX2_stayBreaker_32 : decode cX2_stayBreaker 32 = .ok (.ireturn, 1) := by decide +kernel
theorem dX2_joinBreaker_0 : decode cX2_joinBreaker 0 = .ok (.iconst 0, 1) := by decide +kernel
theorem dX2_joinBreaker_1 : decode cX2_joinBreaker 1 = .ok (.istore_n 2, 1) := by decide +kernel
theorem dX2_joinBreaker_2 : decode cX2_joinBreaker 2 = .ok (.iload_n 2, 1) := by decide +kernel
theorem dX2_joinBreaker_3 : decode cX2_joinBreaker 3 = .ok (.aload_n 0, 1) := by decide +kernel
theorem dX2_joinBreaker_4 : decode cX2_joinBreaker 4 = .ok (.getfield 22, 3) := by decide +kernel
theorem dX2_joinBreaker_7 : decode cX2_joinBreaker 7 = .ok (.getfield 50, 3) := by decide +kernel
theorem dX2_joinBreaker_10 : decode cX2_joinBreaker 10 = .ok (.if_icmp .ge 55, 3) := by decide +kernel
theorem dX2_joinBreaker_13 : decode cX2_joinBreaker 13 = .ok (.iconst 0, 1) := by decide +kernel
theorem dX2_joinBreaker_14 : decode cX2_joinBreaker 14 = .ok (.istore_n 3, 1) := by decide +kernel
theorem dX2_joinBreaker_15 : decode cX2_joinBreaker 15 = .ok (.iload_n 3, 1) := by decide +kernel
theorem dX2_joinBreaker_16 : decode cX2_joinBreaker 16 = .ok (.aload_n 1, 1) := by decide +kernel
theorem dX2_joinBreaker_17 : decode cX2_joinBreaker 17 = .ok (.getfield 67, 3) := by decide +kernel
theorem dX2_joinBreaker_20 : decode cX2_joinBreaker 20 = .ok (.if_icmp .ge 39, 3) := by decide +kernel
theorem dX2_joinBreaker_23 : decode cX2_joinBreaker 23 = .ok (.aload_n 1, 1) := by decide +kernel
theorem dX2_joinBreaker_24 : decode cX2_joinBreaker 24 = .ok (.getfield 56, 3) := by decide +kernel
theorem dX2_joinBreaker_27 : decode cX2_joinBreaker 27 = .ok (.iload_n 2, 1) := by decide +kernel
theorem dX2_joinBreaker_28 : decode cX2_joinBreaker 28 = .ok (.iaload, 1) := by decide +kernel
theorem dX2_joinBreaker_29 : decode cX2_joinBreaker 29 = .ok (.iload_n 3, 1) := by decide +kernel
theorem dX2_joinBreaker_30 : decode cX2_joinBreaker 30 = .ok (.if_icmp .eq 23, 3) := by decide +kernel
theorem dX2_joinBreaker_33 : decode cX2_joinBreaker 33 = .ok (.aload_n 0, 1) := by decide +kernel
theorem dX2_joinBreaker_34 : decode cX2_joinBreaker 34 = .ok (.aload_n 1, 1) := by decide +kernel
theorem dX2_joinBreaker_35 : decode cX2_joinBreaker 35 = .ok (.iload_n 2, 1) := by decide +kernel
theorem dX2_joinBreaker_36 : decode cX2_joinBreaker 36 = .ok (.iload_n 3, 1) := by decide +kernel
theorem dX2_joinBreaker_37 : decode cX2_joinBreaker 37 = .ok (.invokevirtual 70, 3) := by decide +kernel
theorem dX2_joinBreaker_40 : decode cX2_joinBreaker 40 = .ok (.ifCond .le 13, 3) := by decide +kernel
theorem dX2_joinBreaker_43 : decode cX2_joinBreaker 43 = .ok (.bipush 100, 2) := by decide +kernel
theorem dX2_joinBreaker_45 : decode cX2_joinBreaker 45 = .ok (.bipush 10, 2) := by decide +kernel
theorem dX2_joinBreaker_47 : decode cX2_joinBreaker 47 = .ok (.iload_n 2, 1) := by decide +kernel
theorem dX2_joinBreaker_48 : decode cX2_joinBreaker 48 = .ok (.imul, 1) := by decide +kernel
theorem dX2_joinBreaker_49 : decode cX2_joinBreaker 49 = .ok (.iadd, 1) := by decide +kernel
theorem dX2_joinBreaker_50 : decode cX2_joinBreaker 50 = .ok (.iload_n 3, 1) := by decide +kernel
theorem dX2_joinBreaker_51 : decode cX2_joinBreaker 51 = .ok (.iadd, 1) := by decide +kernel
theorem dX2_joinBreaker_52 : decode cX2_joinBreaker 52 = .ok (.ireturn, 1) := by decide +kernel
theorem dX2_joinBreaker_53 : decode cX2_joinBreaker 53 = .ok (.iinc 3 1, 3) := by decide +kernel
theorem dX2_joinBreaker_56 : decode cX2_joinBreaker 56 = .ok (.goto (-41), 3) := by decide +kernel
theorem dX2_joinBreaker_59 : decode cX2_joinBreaker 59 = .ok (.iinc 2 1, 3) := by decide +kernel
theorem dX2_joinBreaker_62 : decode cX2_joinBreaker 62 = .ok (.goto (-60), 3) := by decide +kernel
theorem dX2_joinBreaker_65 : decode cX2_joinBreaker 65 = .ok (.bipush (-6), 2) := by decide +kernel
theorem dX2_joinBreaker_67 : decode cX2_joinBreaker 67 = .ok (.ireturn, 1) := by decide +kernel
theorem dX2_coreBreaker_0 : decode cX2_coreBreaker 0 = .ok (.iconst 1, 1) := by decide +kernel
theorem dX2_coreBreaker_1 : decode cX2_coreBreaker 1 = .ok (.istore_n 2, 1) := by decide +kernel
theorem dX2_coreBreaker_2 : decode cX2_coreBreaker 2 = .ok (.iload_n 2, 1) := by decide +kernel
theorem dX2_coreBreaker_3 : decode cX2_coreBreaker 3 = .ok (.iconst 1, 1) := by decide +kernel
theorem dX2_coreBreaker_4 : decode cX2_coreBreaker 4 = .ok (.aload_n 1, 1) := by decide +kernel
theorem dX2_coreBreaker_5 : decode cX2_coreBreaker 5 = .ok (.getfield 74, 3) := by decide +kernel
theorem dX2_coreBreaker_8 : decode cX2_coreBreaker 8 = .ok (.ishl, 1) := by decide +kernel
theorem dX2_coreBreaker_9 : decode cX2_coreBreaker 9 = .ok (.if_icmp .ge 24, 3) := by decide +kernel
theorem dX2_coreBreaker_12 : decode cX2_coreBreaker 12 = .ok (.aload_n 0, 1) := by decide +kernel
theorem dX2_coreBreaker_13 : decode cX2_coreBreaker 13 = .ok (.aload_n 1, 1) := by decide +kernel
theorem dX2_coreBreaker_14 : decode cX2_coreBreaker 14 = .ok (.iload_n 2, 1) := by decide +kernel
theorem dX2_coreBreaker_15 : decode cX2_coreBreaker 15 = .ok (.invokevirtual 75, 3) := by decide +kernel
theorem dX2_coreBreaker_18 : decode cX2_coreBreaker 18 = .ok (.ifCond .eq 9, 3) := by decide +kernel
theorem dX2_coreBreaker_21 : decode cX2_coreBreaker 21 = .ok (.sipush 1000, 3) := by decide +kernel
theorem dX2_coreBreaker_24 : decode cX2_coreBreaker 24 = .ok (.iload_n 2, 1) := by decide +kernel
theorem dX2_coreBreaker_25 : decode cX2_coreBreaker 25 = .ok (.iadd, 1) := by decide +kernel
theorem dX2_coreBreaker_26 : decode cX2_coreBreaker 26 = .ok (.ireturn, 1) := by decide +kernel
theorem dX2_coreBreaker_27 : decode cX2_coreBreaker 27 = .ok (.iinc 2 1, 3) := by decide +kernel
theorem dX2_coreBreaker_30 : decode cX2_coreBreaker 30 = .ok (.goto (-28), 3) := by decide +kernel
theorem dX2_coreBreaker_33 : decode cX2_coreBreaker 33 = .ok (.bipush (-6), 2) := by decide +kernel
theorem dX2_coreBreaker_35 : decode cX2_coreBreaker 35 = .ok (.ireturn, 1) := by decide +kernel
theorem dX2_bestGoal_0 : decode cX2_bestGoal 0 = .ok (.bipush (-2), 2) := by decide +kernel
theorem dX2_bestGoal_2 : decode cX2_bestGoal 2 = .ok (.istore_n 3, 1) := by decide +kernel
theorem dX2_bestGoal_3 : decode cX2_bestGoal 3 = .ok (.iconst 0, 1) := by decide +kernel
theorem dX2_bestGoal_4 : decode cX2_bestGoal 4 = .ok (.istore 4, 2) := by decide +kernel
theorem dX2_bestGoal_6 : decode cX2_bestGoal 6 = .ok (.aload_n 0, 1) := by decide +kernel
theorem dX2_bestGoal_7 : decode cX2_bestGoal 7 = .ok (.aload_n 1, 1) := by decide +kernel
theorem dX2_bestGoal_8 : decode cX2_bestGoal 8 = .ok (.iload_n 2, 1) := by decide +kernel
theorem dX2_bestGoal_9 : decode cX2_bestGoal 9 = .ok (.invokevirtual 63, 3) := by decide +kernel
theorem dX2_bestGoal_12 : decode cX2_bestGoal 12 = .ok (.istore 5, 2) := by decide +kernel
theorem dX2_bestGoal_14 : decode cX2_bestGoal 14 = .ok (.iload 5, 2) := by decide +kernel
theorem dX2_bestGoal_16 : decode cX2_bestGoal 16 = .ok (.iload 4, 2) := by decide +kernel
theorem dX2_bestGoal_18 : decode cX2_bestGoal 18 = .ok (.if_icmp .le 9, 3) := by decide +kernel
theorem dX2_bestGoal_21 : decode cX2_bestGoal 21 = .ok (.iconst (-1), 1) := by decide +kernel
theorem dX2_bestGoal_22 : decode cX2_bestGoal 22 = .ok (.istore_n 3, 1) := by decide +kernel
theorem dX2_bestGoal_23 : decode cX2_bestGoal 23 = .ok (.iload 5, 2) := by decide +kernel
theorem dX2_bestGoal_25 : decode cX2_bestGoal 25 = .ok (.istore 4, 2) := by decide +kernel
theorem dX2_bestGoal_27 : decode cX2_bestGoal 27 = .ok (.iconst 0, 1) := by decide +kernel
theorem dX2_bestGoal_28 : decode cX2_bestGoal 28 = .ok (.istore 6, 2) := by decide +kernel
theorem dX2_bestGoal_30 : decode cX2_bestGoal 30 = .ok (.iload 6, 2) := by decide +kernel
theorem dX2_bestGoal_32 : decode cX2_bestGoal 32 = .ok (.aload_n 1, 1) := by decide +kernel
theorem dX2_bestGoal_33 : decode cX2_bestGoal 33 = .ok (.getfield 67, 3) := by decide +kernel
theorem dX2_bestGoal_36 : decode cX2_bestGoal 36 = .ok (.if_icmp .ge 44, 3) := by decide +kernel
theorem dX2_bestGoal_39 : decode cX2_bestGoal 39 = .ok (.aload_n 1, 1) := by decide +kernel
theorem dX2_bestGoal_40 : decode cX2_bestGoal 40 = .ok (.getfield 56, 3) := by decide +kernel
theorem dX2_bestGoal_43 : decode cX2_bestGoal 43 = .ok (.iload_n 2, 1) := by decide +kernel
theorem dX2_bestGoal_44 : decode cX2_bestGoal 44 = .ok (.iaload, 1) := by decide +kernel
theorem dX2_bestGoal_45 : decode cX2_bestGoal 45 = .ok (.iload 6, 2) := by decide +kernel
theorem dX2_bestGoal_47 : decode cX2_bestGoal 47 = .ok (.if_icmp .eq 27, 3) := by decide +kernel
theorem dX2_bestGoal_50 : decode cX2_bestGoal 50 = .ok (.aload_n 0, 1) := by decide +kernel
theorem dX2_bestGoal_51 : decode cX2_bestGoal 51 = .ok (.aload_n 1, 1) := by decide +kernel
theorem dX2_bestGoal_52 : decode cX2_bestGoal 52 = .ok (.iload_n 2, 1) := by decide +kernel
theorem dX2_bestGoal_53 : decode cX2_bestGoal 53 = .ok (.iload 6, 2) := by decide +kernel
theorem dX2_bestGoal_55 : decode cX2_bestGoal 55 = .ok (.invokevirtual 70, 3) := by decide +kernel
theorem dX2_bestGoal_58 : decode cX2_bestGoal 58 = .ok (.istore 5, 2) := by decide +kernel
theorem dX2_bestGoal_60 : decode cX2_bestGoal 60 = .ok (.iload 5, 2) := by decide +kernel
theorem dX2_bestGoal_62 : decode cX2_bestGoal 62 = .ok (.iload 4, 2) := by decide +kernel
theorem dX2_bestGoal_64 : decode cX2_bestGoal 64 = .ok (.if_icmp .le 10, 3) := by decide +kernel
theorem dX2_bestGoal_67 : decode cX2_bestGoal 67 = .ok (.iload 6, 2) := by decide +kernel
theorem dX2_bestGoal_69 : decode cX2_bestGoal 69 = .ok (.istore_n 3, 1) := by decide +kernel
theorem dX2_bestGoal_70 : decode cX2_bestGoal 70 = .ok (.iload 5, 2) := by decide +kernel
theorem dX2_bestGoal_72 : decode cX2_bestGoal 72 = .ok (.istore 4, 2) := by decide +kernel
theorem dX2_bestGoal_74 : decode cX2_bestGoal 74 = .ok (.iinc 6 1, 3) := by decide +kernel
theorem dX2_bestGoal_77 : decode cX2_bestGoal 77 = .ok (.goto (-47), 3) := by decide +kernel
theorem dX2_bestGoal_80 : decode cX2_bestGoal 80 = .ok (.iload_n 3, 1) := by decide +kernel
theorem dX2_bestGoal_81 : decode cX2_bestGoal 81 = .ok (.ireturn, 1) := by decide +kernel
theorem dX3_init_0 : decode cX3_init 0 = .ok (.aload_n 0, 1) := by decide +kernel
theorem dX3_init_1 : decode cX3_init 1 = .ok (.invokespecial 3, 3) := by decide +kernel
theorem dX3_init_4 : decode cX3_init 4 = .ok (.aload_n 0, 1) := by decide +kernel
theorem dX3_init_5 : decode cX3_init 5 = .ok (.iconst 1, 1) := by decide +kernel
theorem dX3_init_6 : decode cX3_init 6 = .ok (.putfield 9, 3) := by decide +kernel
theorem dX3_init_9 : decode cX3_init 9 = .ok (.aload_n 0, 1) := by decide +kernel
theorem dX3_init_10 : decode cX3_init 10 = .ok (.bipush 6, 2) := by decide +kernel
theorem dX3_init_12 : decode cX3_init 12 = .ok (.newarray .int, 2) := by decide +kernel
theorem dX3_init_14 : decode cX3_init 14 = .ok (.putfield 15, 3) := by decide +kernel
theorem dX3_init_17 : decode cX3_init 17 = .ok (.aload_n 0, 1) := by decide +kernel
theorem dX3_init_18 : decode cX3_init 18 = .ok (.bipush 6, 2) := by decide +kernel
theorem dX3_init_20 : decode cX3_init 20 = .ok (.newarray .int, 2) := by decide +kernel
theorem dX3_init_22 : decode cX3_init 22 = .ok (.putfield 19, 3) := by decide +kernel
theorem dX3_init_25 : decode cX3_init 25 = .ok (.aload_n 0, 1) := by decide +kernel
theorem dX3_init_26 : decode cX3_init 26 = .ok (.bipush 6, 2) := by decide +kernel
theorem dX3_init_28 : decode cX3_init 28 = .ok (.newarray .int, 2) := by decide +kernel
theorem dX3_init_30 : decode cX3_init 30 = .ok (.putfield 22, 3) := by decide +kernel
theorem dX3_init_33 : decode cX3_init 33 = .ok (.aload_n 0, 1) := by decide +kernel
theorem dX3_init_34 : decode cX3_init 34 = .ok (.bipush 6, 2) := by decide +kernel
theorem dX3_init_36 : decode cX3_init 36 = .ok (.newarray .int, 2) := by decide +kernel
theorem dX3_init_38 : decode cX3_init 38 = .ok (.putfield 25, 3) := by decide +kernel
theorem dX3_init_41 : decode cX3_init 41 = .ok (.return_, 1) := by decide +kernel
theorem dX3_fits_0 : decode cX3_fits 0 = .ok (.iload_n 0, 1) := by decide +kernel
theorem dX3_fits_1 : decode cX3_fits 1 = .ok (.tableswitch 97 0 3 #[31, 48, 65, 81], 31) := by decide +kernel
theorem dX3_fits_32 : decode cX3_fits 32 = .ok (.iload_n 1, 1) := by decide +kernel
theorem dX3_fits_33 : decode cX3_fits 33 = .ok (.iconst 1, 1) := by decide +kernel
theorem dX3_fits_34 : decode cX3_fits 34 = .ok (.if_icmp .lt 13, 3) := by decide +kernel
theorem dX3_fits_37 : decode cX3_fits 37 = .ok (.iload_n 1, 1) := by decide +kernel
theorem dX3_fits_38 : decode cX3_fits 38 = .ok (.bipush 99, 2) := by decide +kernel
theorem dX3_fits_40 : decode cX3_fits 40 = .ok (.if_icmp .gt 7, 3) := by decide +kernel
theorem dX3_fits_43 : decode cX3_fits 43 = .ok (.iconst 1, 1) := by decide +kernel
theorem dX3_fits_44 : decode cX3_fits 44 = .ok (.goto 4, 3) := by decide +kernel
theorem dX3_fits_47 : decode cX3_fits 47 = .ok (.iconst 0, 1) := by decide +kernel
theorem dX3_fits_48 : decode cX3_fits 48 = .ok (.ireturn, 1) := by decide +kernel
theorem dX3_fits_49 : decode cX3_fits 49 = .ok (.iload_n 1, 1) := by decide +kernel
theorem dX3_fits_50 : decode cX3_fits 50 = .ok (.iconst 1, 1) := by decide +kernel
theorem dX3_fits_51 : decode cX3_fits 51 = .ok (.if_icmp .lt 13, 3) := by decide +kernel
theorem dX3_fits_54 : decode cX3_fits 54 = .ok (.iload_n 1, 1) := by decide +kernel
theorem dX3_fits_55 : decode cX3_fits 55 = .ok (.bipush 99, 2) := by decide +kernel
theorem dX3_fits_57 : decode cX3_fits 57 = .ok (.if_icmp .gt 7, 3) := by decide +kernel
theorem dX3_fits_60 : decode cX3_fits 60 = .ok (.iconst 1, 1) := by decide +kernel
theorem dX3_fits_61 : decode cX3_fits 61 = .ok (.goto 4, 3) := by decide +kernel
theorem dX3_fits_64 : decode cX3_fits 64 = .ok (.iconst 0, 1) := by decide +kernel
theorem dX3_fits_65 : decode cX3_fits 65 = .ok (.ireturn, 1) := by decide +kernel
theorem dX3_fits_66 : decode cX3_fits 66 = .ok (.iload_n 1, 1) := by decide +kernel
theorem dX3_fits_67 : decode cX3_fits 67 = .ok (.ifCond .lt 13, 3) := by decide +kernel
theorem dX3_fits_70 : decode cX3_fits 70 = .ok (.iload_n 1, 1) := by decide +kernel
theorem dX3_fits_71 : decode cX3_fits 71 = .ok (.bipush 20, 2) := by decide +kernel
theorem dX3_fits_73 : decode cX3_fits 73 = .ok (.if_icmp .gt 7, 3) := by decide +kernel
theorem dX3_fits_76 : decode cX3_fits 76 = .ok (.iconst 1, 1) := by decide +kernel
theorem dX3_fits_77 : decode cX3_fits 77 = .ok (.goto 4, 3) := by decide +kernel
theorem dX3_fits_80 : decode cX3_fits 80 = .ok (.iconst 0, 1) := by decide +kernel
theorem dX3_fits_81 : decode cX3_fits 81 = .ok (.ireturn, 1) := by decide +kernel
theorem dX3_fits_82 : decode cX3_fits 82 = .ok (.iload_n 1, 1) := by decide +kernel
theorem dX3_fits_83 : decode cX3_fits 83 = .ok (.ifCond .lt 13, 3) := by decide +kernel
theorem dX3_fits_86 : decode cX3_fits 86 = .ok (.iload_n 1, 1) := by decide +kernel
theorem dX3_fits_87 : decode cX3_fits 87 = .ok (.bipush 60, 2) := by decide +kernel
theorem dX3_fits_89 : decode cX3_fits 89 = .ok (.if_icmp .gt 7, 3) := by decide +kernel
theorem dX3_fits_92 : decode cX3_fits 92 = .ok (.iconst 1, 1) := by decide +kernel
theorem dX3_fits_93 : decode cX3_fits 93 = .ok (.goto 4, 3) := by decide +kernel
theorem dX3_fits_96 : decode cX3_fits 96 = .ok (.iconst 0, 1) := by decide +kernel
theorem dX3_fits_97 : decode cX3_fits 97 = .ok (.ireturn, 1) := by decide +kernel
theorem dX3_fits_98 : decode cX3_fits 98 = .ok (.iconst 0, 1) := by decide +kernel
theorem dX3_fits_99 : decode cX3_fits 99 = .ok (.ireturn, 1) := by decide +kernel
theorem dX3_rowOf_0 : decode cX3_rowOf 0 = .ok (.iload_n 1, 1) := by decide +kernel
theorem dX3_rowOf_1 : decode cX3_rowOf 1 = .ok (.tableswitch 42 0 2 #[27, 32, 37], 27) := by decide +kernel
theorem dX3_rowOf_28 : decode cX3_rowOf 28 = .ok (.aload_n 0, 1) := by decide +kernel
theorem dX3_rowOf_29 : decode cX3_rowOf 29 = .ok (.getfield 15, 3) := by decide +kernel
theorem dX3_rowOf_32 : decode cX3_rowOf 32 = .ok (.areturn, 1) := by decide +kernel
theorem dX3_rowOf_33 : decode cX3_rowOf 33 = .ok (.aload_n 0, 1) := by decide +kernel
theorem dX3_rowOf_34 : decode cX3_rowOf 34 = .ok (.getfield 19, 3) := by decide +kernel
theorem dX3_rowOf_37 : decode cX3_rowOf 37 = .ok (.areturn, 1) := by decide +kernel
theorem dX3_rowOf_38 : decode cX3_rowOf 38 = .ok (.aload_n 0, 1) := by decide +kernel
theorem dX3_rowOf_39 : decode cX3_rowOf 39 = .ok (.getfield 22, 3) := by decide +kernel
theorem dX3_rowOf_42 : decode cX3_rowOf 42 = .ok (.areturn, 1) := by decide +kernel
theorem dX3_rowOf_43 : decode cX3_rowOf 43 = .ok (.aload_n 0, 1) := by decide +kernel
theorem dX3_rowOf_44 : decode cX3_rowOf 44 = .ok (.getfield 25, 3) := by decide +kernel
theorem dX3_rowOf_47 : decode cX3_rowOf 47 = .ok (.areturn, 1) := by decide +kernel
theorem dX3_add_0 : decode cX3_add 0 = .ok (.aload_n 0, 1) := by decide +kernel
theorem dX3_add_1 : decode cX3_add 1 = .ok (.getfield 28, 3) := by decide +kernel
theorem dX3_add_4 : decode cX3_add 4 = .ok (.istore 5, 2) := by decide +kernel
theorem dX3_add_6 : decode cX3_add 6 = .ok (.aload_n 0, 1) := by decide +kernel
theorem dX3_add_7 : decode cX3_add 7 = .ok (.getfield 15, 3) := by decide +kernel
theorem dX3_add_10 : decode cX3_add 10 = .ok (.iload 5, 2) := by decide +kernel
theorem dX3_add_12 : decode cX3_add 12 = .ok (.iload_n 1, 1) := by decide +kernel
theorem dX3_add_13 : decode cX3_add 13 = .ok (.iastore, 1) := by decide +kernel
theorem dX3_add_14 : decode cX3_add 14 = .ok (.aload_n 0, 1) := by decide +kernel
theorem dX3_add_15 : decode cX3_add 15 = .ok (.getfield 19, 3) := by decide +kernel
theorem dX3_add_18 : decode cX3_add 18 = .ok (.iload 5, 2) := by decide +kernel
theorem dX3_add_20 : decode cX3_add 20 = .ok (.iload_n 2, 1) := by decide +kernel
theorem dX3_add_21 : decode cX3_add 21 = .ok (.iastore, 1) := by decide +kernel
theorem dX3_add_22 : decode cX3_add 22 = .ok (.aload_n 0, 1) := by decide +kernel
theorem dX3_add_23 : decode cX3_add 23 = .ok (.getfield 22, 3) := by decide +kernel
theorem dX3_add_26 : decode cX3_add 26 = .ok (.iload 5, 2) := by decide +kernel
theorem dX3_add_28 : decode cX3_add 28 = .ok (.iload_n 3, 1) := by decide +kernel
theorem dX3_add_29 : decode cX3_add 29 = .ok (.iastore, 1) := by decide +kernel
theorem dX3_add_30 : decode cX3_add 30 = .ok (.aload_n 0, 1) := by decide +kernel
theorem dX3_add_31 : decode cX3_add 31 = .ok (.getfield 25, 3) := by decide +kernel
theorem dX3_add_34 : decode cX3_add 34 = .ok (.iload 5, 2) := by decide +kernel
theorem dX3_add_36 : decode cX3_add 36 = .ok (.iload 4, 2) := by decide +kernel
theorem dX3_add_38 : decode cX3_add 38 = .ok (.iastore, 1) := by decide +kernel
theorem dX3_add_39 : decode cX3_add 39 = .ok (.aload_n 0, 1) := by decide +kernel
theorem dX3_add_40 : decode cX3_add 40 = .ok (.dup, 1) := by decide +kernel
theorem dX3_add_41 : decode cX3_add 41 = .ok (.getfield 28, 3) := by decide +kernel
theorem dX3_add_44 : decode cX3_add 44 = .ok (.iconst 1, 1) := by decide +kernel
theorem dX3_add_45 : decode cX3_add 45 = .ok (.iadd, 1) := by decide +kernel
theorem dX3_add_46 : decode cX3_add 46 = .ok (.putfield 28, 3) := by decide +kernel
theorem dX3_add_49 : decode cX3_add 49 = .ok (.aload_n 0, 1) := by decide +kernel
theorem dX3_add_50 : decode cX3_add 50 = .ok (.dup, 1) := by decide +kernel
theorem dX3_add_51 : decode cX3_add 51 = .ok (.getfield 9, 3) := by decide +kernel
theorem dX3_add_54 : decode cX3_add 54 = .ok (.iconst 1, 1) := by decide +kernel
theorem dX3_add_55 : decode cX3_add 55 = .ok (.iadd, 1) := by decide +kernel
theorem dX3_add_56 : decode cX3_add 56 = .ok (.putfield 9, 3) := by decide +kernel
theorem dX3_add_59 : decode cX3_add 59 = .ok (.iload 5, 2) := by decide +kernel
theorem dX3_add_61 : decode cX3_add 61 = .ok (.ireturn, 1) := by decide +kernel
theorem dX3_put_0 : decode cX3_put 0 = .ok (.aload_n 0, 1) := by decide +kernel
theorem dX3_put_1 : decode cX3_put 1 = .ok (.iload_n 1, 1) := by decide +kernel
theorem dX3_put_2 : decode cX3_put 2 = .ok (.invokevirtual 31, 3) := by decide +kernel
theorem dX3_put_5 : decode cX3_put 5 = .ok (.iload_n 2, 1) := by decide +kernel
theorem dX3_put_6 : decode cX3_put 6 = .ok (.iload_n 3, 1) := by decide +kernel
theorem dX3_put_7 : decode cX3_put 7 = .ok (.iastore, 1) := by decide +kernel
theorem dX3_put_8 : decode cX3_put 8 = .ok (.aload_n 0, 1) := by decide +kernel
theorem dX3_put_9 : decode cX3_put 9 = .ok (.dup, 1) := by decide +kernel
theorem dX3_put_10 : decode cX3_put 10 = .ok (.getfield 9, 3) := by decide +kernel
theorem dX3_put_13 : decode cX3_put 13 = .ok (.iconst 1, 1) := by decide +kernel
theorem dX3_put_14 : decode cX3_put 14 = .ok (.iadd, 1) := by decide +kernel
theorem dX3_put_15 : decode cX3_put 15 = .ok (.putfield 9, 3) := by decide +kernel
theorem dX3_put_18 : decode cX3_put 18 = .ok (.return_, 1) := by decide +kernel
theorem dX3_putWalls_0 : decode cX3_putWalls 0 = .ok (.aload_n 0, 1) := by decide +kernel
theorem dX3_putWalls_1 : decode cX3_putWalls 1 = .ok (.iload_n 1, 1) := by decide +kernel
theorem dX3_putWalls_2 : decode cX3_putWalls 2 = .ok (.putfield 35, 3) := by decide +kernel
theorem dX3_putWalls_5 : decode cX3_putWalls 5 = .ok (.aload_n 0, 1) := by decide +kernel
theorem dX3_putWalls_6 : decode cX3_putWalls 6 = .ok (.dup, 1) := by decide +kernel
theorem dX3_putWalls_7 : decode cX3_putWalls 7 = .ok (.getfield 9, 3) := by decide +kernel
theorem dX3_putWalls_10 : decode cX3_putWalls 10 = .ok (.iconst 1, 1) := by decide +kernel
theorem dX3_putWalls_11 : decode cX3_putWalls 11 = .ok (.iadd, 1) := by decide +kernel
theorem dX3_putWalls_12 : decode cX3_putWalls 12 = .ok (.putfield 9, 3) := by decide +kernel
theorem dX3_putWalls_15 : decode cX3_putWalls 15 = .ok (.return_, 1) := by decide +kernel
theorem dX3_putShares_0 : decode cX3_putShares 0 = .ok (.aload_n 0, 1) := by decide +kernel
theorem dX3_putShares_1 : decode cX3_putShares 1 = .ok (.iload_n 1, 1) := by decide +kernel
theorem dX3_putShares_2 : decode cX3_putShares 2 = .ok (.putfield 38, 3) := by decide +kernel
theorem dX3_putShares_5 : decode cX3_putShares 5 = .ok (.aload_n 0, 1) := by decide +kernel
theorem dX3_putShares_6 : decode cX3_putShares 6 = .ok (.dup, 1) := by decide +kernel
theorem dX3_putShares_7 : decode cX3_putShares 7 = .ok (.getfield 9, 3) := by decide +kernel
theorem dX3_putShares_10 : decode cX3_putShares 10 = .ok (.iconst 1, 1) := by decide +kernel
theorem dX3_putShares_11 : decode cX3_putShares 11 = .ok (.iadd, 1) := by decide +kernel
theorem dX3_putShares_12 : decode cX3_putShares 12 = .ok (.putfield 9, 3) := by decide +kernel
theorem dX3_putShares_15 : decode cX3_putShares 15 = .ok (.return_, 1) := by decide +kernel
theorem dX3_copy_0 : decode cX3_copy 0 = .ok (.aload_n 0, 1) := by decide +kernel
theorem dX3_copy_1 : decode cX3_copy 1 = .ok (.aload_n 1, 1) := by decide +kernel
theorem dX3_copy_2 : decode cX3_copy 2 = .ok (.getfield 28, 3) := by decide +kernel
theorem dX3_copy_5 : decode cX3_copy 5 = .ok (.putfield 28, 3) := by decide +kernel
theorem dX3_copy_8 : decode cX3_copy 8 = .ok (.aload_n 0, 1) := by decide +kernel
theorem dX3_copy_9 : decode cX3_copy 9 = .ok (.aload_n 1, 1) := by decide +kernel
theorem dX3_copy_10 : decode cX3_copy 10 = .ok (.getfield 35, 3) := by decide +kernel
theorem dX3_copy_13 : decode cX3_copy 13 = .ok (.putfield 35, 3) := by decide +kernel
theorem dX3_copy_16 : decode cX3_copy 16 = .ok (.aload_n 0, 1) := by decide +kernel
theorem dX3_copy_17 : decode cX3_copy 17 = .ok (.aload_n 1, 1) := by decide +kernel
theorem dX3_copy_18 : decode cX3_copy 18 = .ok (.getfield 38, 3) := by decide +kernel
theorem dX3_copy_21 : decode cX3_copy 21 = .ok (.putfield 38, 3) := by decide +kernel
theorem dX3_copy_24 : decode cX3_copy 24 = .ok (.iconst 0, 1) := by decide +kernel
theorem dX3_copy_25 : decode cX3_copy 25 = .ok (.istore_n 2, 1) := by decide +kernel
theorem dX3_copy_26 : decode cX3_copy 26 = .ok (.iload_n 2, 1) := by decide +kernel
theorem dX3_copy_27 : decode cX3_copy 27 = .ok (.bipush 6, 2) := by decide +kernel
theorem dX3_copy_29 : decode cX3_copy 29 = .ok (.if_icmp .ge 57, 3) := by decide +kernel
theorem dX3_copy_32 : decode cX3_copy 32 = .ok (.aload_n 0, 1) := by decide +kernel
theorem dX3_copy_33 : decode cX3_copy 33 = .ok (.getfield 15, 3) := by decide +kernel
theorem dX3_copy_36 : decode cX3_copy 36 = .ok (.iload_n 2, 1) := by decide +kernel
theorem dX3_copy_37 : decode cX3_copy 37 = .ok (.aload_n 1, 1) := by decide +kernel
theorem dX3_copy_38 : decode cX3_copy 38 = .ok (.getfield 15, 3) := by decide +kernel
theorem dX3_copy_41 : decode cX3_copy 41 = .ok (.iload_n 2, 1) := by decide +kernel
theorem dX3_copy_42 : decode cX3_copy 42 = .ok (.iaload, 1) := by decide +kernel
theorem dX3_copy_43 : decode cX3_copy 43 = .ok (.iastore, 1) := by decide +kernel
theorem dX3_copy_44 : decode cX3_copy 44 = .ok (.aload_n 0, 1) := by decide +kernel
theorem dX3_copy_45 : decode cX3_copy 45 = .ok (.getfield 19, 3) := by decide +kernel
theorem dX3_copy_48 : decode cX3_copy 48 = .ok (.iload_n 2, 1) := by decide +kernel
theorem dX3_copy_49 : decode cX3_copy 49 = .ok (.aload_n 1, 1) := by decide +kernel
theorem dX3_copy_50 : decode cX3_copy 50 = .ok (.getfield 19, 3) := by decide +kernel
theorem dX3_copy_53 : decode cX3_copy 53 = .ok (.iload_n 2, 1) := by decide +kernel
theorem dX3_copy_54 : decode cX3_copy 54 = .ok (.iaload, 1) := by decide +kernel
theorem dX3_copy_55 : decode cX3_copy 55 = .ok (.iastore, 1) := by decide +kernel
theorem dX3_copy_56 : decode cX3_copy 56 = .ok (.aload_n 0, 1) := by decide +kernel
theorem dX3_copy_57 : decode cX3_copy 57 = .ok (.getfield 22, 3) := by decide +kernel
theorem dX3_copy_60 : decode cX3_copy 60 = .ok (.iload_n 2, 1) := by decide +kernel
theorem dX3_copy_61 : decode cX3_copy 61 = .ok (.aload_n 1, 1) := by decide +kernel
theorem dX3_copy_62 : decode cX3_copy 62 = .ok (.getfield 22, 3) := by decide +kernel
theorem dX3_copy_65 : decode cX3_copy 65 = .ok (.iload_n 2, 1) := by decide +kernel
theorem dX3_copy_66 : decode cX3_copy 66 = .ok (.iaload, 1) := by decide +kernel
theorem dX3_copy_67 : decode cX3_copy 67 = .ok (.iastore, 1) := by decide +kernel
theorem dX3_copy_68 : decode cX3_copy 68 = .ok (.aload_n 0, 1) := by decide +kernel
theorem dX3_copy_69 : decode cX3_copy 69 = .ok (.getfield 25, 3) := by decide +kernel
theorem dX3_copy_72 : decode cX3_copy 72 = .ok (.iload_n 2, 1) := by decide +kernel
theorem dX3_copy_73 : decode cX3_copy 73 = .ok (.aload_n 1, 1) := by decide +kernel
theorem dX3_copy_74 : decode cX3_copy 74 = .ok (.getfield 25, 3) := by decide +kernel
theorem dX3_copy_77 : decode cX3_copy 77 = .ok (.iload_n 2, 1) := by decide +kernel
theorem dX3_copy_78 : decode cX3_copy 78 = .ok (.iaload, 1) := by decide +kernel
theorem dX3_copy_79 : decode cX3_copy 79 = .ok (.iastore, 1) := by decide +kernel
theorem dX3_copy_80 : decode cX3_copy 80 = .ok (.iinc 2 1, 3) := by decide +kernel
theorem dX3_copy_83 : decode cX3_copy 83 = .ok (.goto (-57), 3) := by decide +kernel
theorem dX3_copy_86 : decode cX3_copy 86 = .ok (.aload_n 0, 1) := by decide +kernel
theorem dX3_copy_87 : decode cX3_copy 87 = .ok (.dup, 1) := by decide +kernel
theorem dX3_copy_88 : decode cX3_copy 88 = .ok (.getfield 9, 3) := by decide +kernel
theorem dX3_copy_91 : decode cX3_copy 91 = .ok (.iconst 1, 1) := by decide +kernel
theorem dX3_copy_92 : decode cX3_copy 92 = .ok (.iadd, 1) := by decide +kernel
theorem dX3_copy_93 : decode cX3_copy 93 = .ok (.putfield 9, 3) := by decide +kernel
theorem dX3_copy_96 : decode cX3_copy 96 = .ok (.return_, 1) := by decide +kernel
theorem dX4_init_0 : decode cX4_init 0 = .ok (.aload_n 0, 1) := by decide +kernel
theorem dX4_init_1 : decode cX4_init 1 = .ok (.invokespecial 3, 3) := by decide +kernel
theorem dX4_init_4 : decode cX4_init 4 = .ok (.aload_n 0, 1) := by decide +kernel
theorem dX4_init_5 : decode cX4_init 5 = .ok (.bipush 6, 2) := by decide +kernel
theorem dX4_init_7 : decode cX4_init 7 = .ok (.newarray .int, 2) := by decide +kernel
theorem dX4_init_9 : decode cX4_init 9 = .ok (.putfield 9, 3) := by decide +kernel
theorem dX4_init_12 : decode cX4_init 12 = .ok (.aload_n 0, 1) := by decide +kernel
theorem dX4_init_13 : decode cX4_init 13 = .ok (.bipush 6, 2) := by decide +kernel
theorem dX4_init_15 : decode cX4_init 15 = .ok (.newarray .int, 2) := by decide +kernel
theorem dX4_init_17 : decode cX4_init 17 = .ok (.putfield 15, 3) := by decide +kernel
theorem dX4_init_20 : decode cX4_init 20 = .ok (.aload_n 0, 1) := by decide +kernel
theorem dX4_init_21 : decode cX4_init 21 = .ok (.bipush 6, 2) := by decide +kernel
theorem dX4_init_23 : decode cX4_init 23 = .ok (.newarray .int, 2) := by decide +kernel
theorem dX4_init_25 : decode cX4_init 25 = .ok (.putfield 18, 3) := by decide +kernel
theorem dX4_init_28 : decode cX4_init 28 = .ok (.aload_n 0, 1) := by decide +kernel
theorem dX4_init_29 : decode cX4_init 29 = .ok (.bipush 6, 2) := by decide +kernel
theorem dX4_init_31 : decode cX4_init 31 = .ok (.newarray .int, 2) := by decide +kernel
theorem dX4_init_33 : decode cX4_init 33 = .ok (.putfield 21, 3) := by decide +kernel
theorem dX4_init_36 : decode cX4_init 36 = .ok (.aload_n 0, 1) := by decide +kernel
theorem dX4_init_37 : decode cX4_init 37 = .ok (.bipush 6, 2) := by decide +kernel
theorem dX4_init_39 : decode cX4_init 39 = .ok (.newarray .int, 2) := by decide +kernel
theorem dX4_init_41 : decode cX4_init 41 = .ok (.putfield 24, 3) := by decide +kernel
theorem dX4_init_44 : decode cX4_init 44 = .ok (.aload_n 0, 1) := by decide +kernel
theorem dX4_init_45 : decode cX4_init 45 = .ok (.bipush 6, 2) := by decide +kernel
theorem dX4_init_47 : decode cX4_init 47 = .ok (.newarray .int, 2) := by decide +kernel
theorem dX4_init_49 : decode cX4_init 49 = .ok (.putfield 27, 3) := by decide +kernel
theorem dX4_init_52 : decode cX4_init 52 = .ok (.return_, 1) := by decide +kernel
theorem dX4_reckon_0 : decode cX4_reckon 0 = .ok (.iconst 0, 1) := by decide +kernel
theorem dX4_reckon_1 : decode cX4_reckon 1 = .ok (.istore_n 3, 1) := by decide +kernel
theorem dX4_reckon_2 : decode cX4_reckon 2 = .ok (.iload_n 3, 1) := by decide +kernel
theorem dX4_reckon_3 : decode cX4_reckon 3 = .ok (.aload_n 1, 1) := by decide +kernel
theorem dX4_reckon_4 : decode cX4_reckon 4 = .ok (.getfield 30, 3) := by decide +kernel
theorem dX4_reckon_7 : decode cX4_reckon 7 = .ok (.if_icmp .ge 84, 3) := by decide +kernel
theorem dX4_reckon_10 : decode cX4_reckon 10 = .ok (.aload_n 0, 1) := by decide +kernel
theorem dX4_reckon_11 : decode cX4_reckon 11 = .ok (.getfield 9, 3) := by decide +kernel
theorem dX4_reckon_14 : decode cX4_reckon 14 = .ok (.iload_n 3, 1) := by decide +kernel
theorem dX4_reckon_15 : decode cX4_reckon 15 = .ok (.aload_n 0, 1) := by decide +kernel
theorem dX4_reckon_16 : decode cX4_reckon 16 = .ok (.aload_n 1, 1) := by decide +kernel
theorem dX4_reckon_17 : decode cX4_reckon 17 = .ok (.aload_n 2, 1) := by decide +kernel
theorem dX4_reckon_18 : decode cX4_reckon 18 = .ok (.iload_n 3, 1) := by decide +kernel
theorem dX4_reckon_19 : decode cX4_reckon 19 = .ok (.invokevirtual 36, 3) := by decide +kernel
theorem dX4_reckon_22 : decode cX4_reckon 22 = .ok (.iastore, 1) := by decide +kernel
theorem dX4_reckon_23 : decode cX4_reckon 23 = .ok (.aload_n 0, 1) := by decide +kernel
theorem dX4_reckon_24 : decode cX4_reckon 24 = .ok (.aload_n 1, 1) := by decide +kernel
theorem dX4_reckon_25 : decode cX4_reckon 25 = .ok (.aload_n 2, 1) := by decide +kernel
theorem dX4_reckon_26 : decode cX4_reckon 26 = .ok (.iload_n 3, 1) := by decide +kernel
theorem dX4_reckon_27 : decode cX4_reckon 27 = .ok (.invokevirtual 40, 3) := by decide +kernel
theorem dX4_reckon_30 : decode cX4_reckon 30 = .ok (.aload_n 2, 1) := by decide +kernel
theorem dX4_reckon_31 : decode cX4_reckon 31 = .ok (.getfield 44, 3) := by decide +kernel
theorem dX4_reckon_34 : decode cX4_reckon 34 = .ok (.aload_n 0, 1) := by decide +kernel
theorem dX4_reckon_35 : decode cX4_reckon 35 = .ok (.getfield 18, 3) := by decide +kernel
theorem dX4_reckon_38 : decode cX4_reckon 38 = .ok (.iload_n 3, 1) := by decide +kernel
theorem dX4_reckon_39 : decode cX4_reckon 39 = .ok (.iaload, 1) := by decide +kernel
theorem dX4_reckon_40 : decode cX4_reckon 40 = .ok (.iaload, 1) := by decide +kernel
theorem dX4_reckon_41 : decode cX4_reckon 41 = .ok (.aload_n 2, 1) := by decide +kernel
theorem dX4_reckon_42 : decode cX4_reckon 42 = .ok (.getfield 44, 3) := by decide +kernel
theorem dX4_reckon_45 : decode cX4_reckon 45 = .ok (.iload_n 3, 1) := by decide +kernel
theorem dX4_reckon_46 : decode cX4_reckon 46 = .ok (.iaload, 1) := by decide +kernel
theorem dX4_reckon_47 : decode cX4_reckon 47 = .ok (.if_icmp .eq 7, 3) := by decide +kernel
theorem dX4_reckon_50 : decode cX4_reckon 50 = .ok (.iconst 1, 1) := by decide +kernel
theorem dX4_reckon_51 : decode cX4_reckon 51 = .ok (.goto 4, 3) := by decide +kernel
theorem dX4_reckon_54 : decode cX4_reckon 54 = .ok (.iconst 0, 1) := by decide +kernel
theorem dX4_reckon_55 : decode cX4_reckon 55 = .ok (.istore 4, 2) := by decide +kernel
theorem dX4_reckon_57 : decode cX4_reckon 57 = .ok (.aload_n 0, 1) := by decide +kernel
theorem dX4_reckon_58 : decode cX4_reckon 58 = .ok (.getfield 24, 3) := by decide +kernel
theorem dX4_reckon_61 : decode cX4_reckon 61 = .ok (.iload_n 3, 1) := by decide +kernel
theorem dX4_reckon_62 : decode cX4_reckon 62 = .ok (.iload 4, 2) := by decide +kernel
theorem dX4_reckon_64 : decode cX4_reckon 64 = .ok (.ifCond .eq 19, 3) := by decide +kernel
theorem dX4_reckon_67 : decode cX4_reckon 67 = .ok (.aload_n 0, 1) := by decide +kernel
theorem dX4_reckon_68 : decode cX4_reckon 68 = .ok (.getfield 9, 3) := by decide +kernel
theorem dX4_reckon_71 : decode cX4_reckon 71 = .ok (.iload_n 3, 1) := by decide +kernel
theorem dX4_reckon_72 : decode cX4_reckon 72 = .ok (.iaload, 1) := by decide +kernel
theorem dX4_reckon_73 : decode cX4_reckon 73 = .ok (.aload_n 0, 1) := by decide +kernel
theorem dX4_reckon_74 : decode cX4_reckon 74 = .ok (.getfield 21, 3) := by decide +kernel
theorem dX4_reckon_77 : decode cX4_reckon 77 = .ok (.iload_n 3, 1) := by decide +kernel
theorem dX4_reckon_78 : decode cX4_reckon 78 = .ok (.iaload, 1) := by decide +kernel
theorem dX4_reckon_79 : decode cX4_reckon 79 = .ok (.imul, 1) := by decide +kernel
theorem dX4_reckon_80 : decode cX4_reckon 80 = .ok (.goto 4, 3) := by decide +kernel
theorem dX4_reckon_83 : decode cX4_reckon 83 = .ok (.iconst 0, 1) := by decide +kernel
theorem dX4_reckon_84 : decode cX4_reckon 84 = .ok (.iastore, 1) := by decide +kernel
theorem dX4_reckon_85 : decode cX4_reckon 85 = .ok (.iinc 3 1, 3) := by decide +kernel
theorem dX4_reckon_88 : decode cX4_reckon 88 = .ok (.goto (-86), 3) := by decide +kernel
theorem dX4_reckon_91 : decode cX4_reckon 91 = .ok (.aload_n 1, 1) := by decide +kernel
theorem dX4_reckon_92 : decode cX4_reckon 92 = .ok (.getfield 49, 3) := by decide +kernel
theorem dX4_reckon_95 : decode cX4_reckon 95 = .ok (.ifCond .eq 26, 3) := by decide +kernel
theorem dX4_reckon_98 : decode cX4_reckon 98 = .ok (.iconst 0, 1) := by decide +kernel
theorem dX4_reckon_99 : decode cX4_reckon 99 = .ok (.istore_n 3, 1) := by decide +kernel
theorem dX4_reckon_100 : decode cX4_reckon 100 = .ok (.iload_n 3, 1) := by decide +kernel
theorem dX4_reckon_101 : decode cX4_reckon 101 = .ok (.aload_n 2, 1) := by decide +kernel
theorem dX4_reckon_102 : decode cX4_reckon 102 = .ok (.getfield 52, 3) := by decide +kernel
theorem dX4_reckon_105 : decode cX4_reckon 105 = .ok (.if_icmp .ge 16, 3) := by decide +kernel
theorem dX4_reckon_108 : decode cX4_reckon 108 = .ok (.aload_n 0, 1) := by decide +kernel
theorem dX4_reckon_109 : decode cX4_reckon 109 = .ok (.aload_n 1, 1) := by decide +kernel
theorem dX4_reckon_110 : decode cX4_reckon 110 = .ok (.aload_n 2, 1) := by decide +kernel
theorem dX4_reckon_111 : decode cX4_reckon 111 = .ok (.iload_n 3, 1) := by decide +kernel
theorem dX4_reckon_112 : decode cX4_reckon 112 = .ok (.invokevirtual 55, 3) := by decide +kernel
theorem dX4_reckon_115 : decode cX4_reckon 115 = .ok (.iinc 3 1, 3) := by decide +kernel
theorem dX4_reckon_118 : decode cX4_reckon 118 = .ok (.goto (-18), 3) := by decide +kernel
theorem dX4_reckon_121 : decode cX4_reckon 121 = .ok (.iconst 0, 1) := by decide +kernel
theorem dX4_reckon_122 : decode cX4_reckon 122 = .ok (.istore_n 3, 1) := by decide +kernel
theorem dX4_reckon_123 : decode cX4_reckon 123 = .ok (.iload_n 3, 1) := by decide +kernel
theorem dX4_reckon_124 : decode cX4_reckon 124 = .ok (.aload_n 1, 1) := by decide +kernel
theorem dX4_reckon_125 : decode cX4_reckon 125 = .ok (.getfield 30, 3) := by decide +kernel
theorem dX4_reckon_128 : decode cX4_reckon 128 = .ok (.if_icmp .ge 37, 3) := by decide +kernel
theorem dX4_reckon_131 : decode cX4_reckon 131 = .ok (.aload_n 0, 1) := by decide +kernel
theorem dX4_reckon_132 : decode cX4_reckon 132 = .ok (.getfield 27, 3) := by decide +kernel
theorem dX4_reckon_135 : decode cX4_reckon 135 = .ok (.iload_n 3, 1) := by decide +kernel
theorem dX4_reckon_136 : decode cX4_reckon 136 = .ok (.aload_n 0, 1) := by decide +kernel
theorem dX4_reckon_137 : decode cX4_reckon 137 = .ok (.getfield 21, 3) := by decide +kernel
theorem dX4_reckon_140 : decode cX4_reckon 140 = .ok (.iload_n 3, 1) := by decide +kernel
theorem dX4_reckon_141 : decode cX4_reckon 141 = .ok (.iaload, 1) := by decide +kernel
theorem dX4_reckon_142 : decode cX4_reckon 142 = .ok (.aload_n 0, 1) := by decide +kernel
theorem dX4_reckon_143 : decode cX4_reckon 143 = .ok (.getfield 21, 3) := by decide +kernel
theorem dX4_reckon_146 : decode cX4_reckon 146 = .ok (.iload_n 3, 1) := by decide +kernel
theorem dX4_reckon_147 : decode cX4_reckon 147 = .ok (.iaload, 1) := by decide +kernel
theorem dX4_reckon_148 : decode cX4_reckon 148 = .ok (.imul, 1) := by decide +kernel
theorem dX4_reckon_149 : decode cX4_reckon 149 = .ok (.iconst 2, 1) := by decide +kernel
theorem dX4_reckon_150 : decode cX4_reckon 150 = .ok (.aload_n 0, 1) := by decide +kernel
theorem dX4_reckon_151 : decode cX4_reckon 151 = .ok (.getfield 24, 3) := by decide +kernel
theorem dX4_reckon_154 : decode cX4_reckon 154 = .ok (.iload_n 3, 1) := by decide +kernel
theorem dX4_reckon_155 : decode cX4_reckon 155 = .ok (.iaload, 1) := by decide +kernel
theorem dX4_reckon_156 : decode cX4_reckon 156 = .ok (.imul, 1) := by decide +kernel
theorem dX4_reckon_157 : decode cX4_reckon 157 = .ok (.iadd, 1) := by decide +kernel
theorem dX4_reckon_158 : decode cX4_reckon 158 = .ok (.iastore, 1) := by decide +kernel
theorem dX4_reckon_159 : decode cX4_reckon 159 = .ok (.iinc 3 1, 3) := by decide +kernel
theorem dX4_reckon_162 : decode cX4_reckon 162 = .ok (.goto (-39), 3) := by decide +kernel
theorem dX4_reckon_165 : decode cX4_reckon 165 = .ok (.iconst 0, 1) := by decide +kernel
theorem dX4_reckon_166 : decode cX4_reckon 166 = .ok (.istore_n 3, 1) := by decide +kernel
theorem dX4_reckon_167 : decode cX4_reckon 167 = .ok (.iload_n 3, 1) := by decide +kernel
theorem dX4_reckon_168 : decode cX4_reckon 168 = .ok (.aload_n 1, 1) := by decide +kernel
theorem dX4_reckon_169 : decode cX4_reckon 169 = .ok (.getfield 30, 3) := by decide +kernel
theorem dX4_reckon_172 : decode cX4_reckon 172 = .ok (.if_icmp .ge 43, 3) := by decide +kernel
theorem dX4_reckon_175 : decode cX4_reckon 175 = .ok (.aload_n 0, 1) := by decide +kernel
theorem dX4_reckon_176 : decode cX4_reckon 176 = .ok (.getfield 18, 3) := by decide +kernel
theorem dX4_reckon_179 : decode cX4_reckon 179 = .ok (.iload_n 3, 1) := by decide +kernel
theorem dX4_reckon_180 : decode cX4_reckon 180 = .ok (.iaload, 1) := by decide +kernel
theorem dX4_reckon_181 : decode cX4_reckon 181 = .ok (.istore 4, 2) := by decide +kernel
theorem dX4_reckon_183 : decode cX4_reckon 183 = .ok (.aload_n 0, 1) := by decide +kernel
theorem dX4_reckon_184 : decode cX4_reckon 184 = .ok (.getfield 27, 3) := by decide +kernel
theorem dX4_reckon_187 : decode cX4_reckon 187 = .ok (.iload 4, 2) := by decide +kernel
theorem dX4_reckon_189 : decode cX4_reckon 189 = .ok (.dup2, 1) := by decide +kernel
theorem dX4_reckon_190 : decode cX4_reckon 190 = .ok (.iaload, 1) := by decide +kernel
theorem dX4_reckon_191 : decode cX4_reckon 191 = .ok (.iconst 2, 1) := by decide +kernel
theorem dX4_reckon_192 : decode cX4_reckon 192 = .ok (.aload_n 1, 1) := by decide +kernel
theorem dX4_reckon_193 : decode cX4_reckon 193 = .ok (.getfield 58, 3) := by decide +kernel
theorem dX4_reckon_196 : decode cX4_reckon 196 = .ok (.iload 4, 2) := by decide +kernel
theorem dX4_reckon_198 : decode cX4_reckon 198 = .ok (.iaload, 1) := by decide +kernel
theorem dX4_reckon_199 : decode cX4_reckon 199 = .ok (.imul, 1) := by decide +kernel
theorem dX4_reckon_200 : decode cX4_reckon 200 = .ok (.aload_n 0, 1) := by decide +kernel
theorem dX4_reckon_201 : decode cX4_reckon 201 = .ok (.getfield 21, 3) := by decide +kernel
theorem dX4_reckon_204 : decode cX4_reckon 204 = .ok (.iload_n 3, 1) := by decide +kernel
theorem dX4_reckon_205 : decode cX4_reckon 205 = .ok (.iaload, 1) := by decide +kernel
theorem dX4_reckon_206 : decode cX4_reckon 206 = .ok (.imul, 1) := by decide +kernel
theorem dX4_reckon_207 : decode cX4_reckon 207 = .ok (.iadd, 1) := by decide +kernel
theorem dX4_reckon_208 : decode cX4_reckon 208 = .ok (.iastore, 1) := by decide +kernel
theorem dX4_reckon_209 : decode cX4_reckon 209 = .ok (.iinc 3 1, 3) := by decide +kernel
theorem dX4_reckon_212 : decode cX4_reckon 212 = .ok (.goto (-45), 3) := by decide +kernel
theorem dX4_reckon_215 : decode cX4_reckon 215 = .ok (.return_, 1) := by decide +kernel
theorem dX4_wallAround_0 : decode cX4_wallAround 0 = .ok (.aload_n 1, 1) := by decide +kernel
theorem dX4_wallAround_1 : decode cX4_wallAround 1 = .ok (.getfield 61, 3) := by decide +kernel
theorem dX4_wallAround_4 : decode cX4_wallAround 4 = .ok (.iload_n 3, 1) := by decide +kernel
theorem dX4_wallAround_5 : decode cX4_wallAround 5 = .ok (.iaload, 1) := by decide +kernel
theorem dX4_wallAround_6 : decode cX4_wallAround 6 = .ok (.istore 4, 2) := by decide +kernel
theorem dX4_wallAround_8 : decode cX4_wallAround 8 = .ok (.aload_n 1, 1) := by decide +kernel
theorem dX4_wallAround_9 : decode cX4_wallAround 9 = .ok (.getfield 61, 3) := by decide +kernel
theorem dX4_wallAround_12 : decode cX4_wallAround 12 = .ok (.iload_n 3, 1) := by decide +kernel
theorem dX4_wallAround_13 : decode cX4_wallAround 13 = .ok (.iaload, 1) := by decide +kernel
theorem dX4_wallAround_14 : decode cX4_wallAround 14 = .ok (.istore 5, 2) := by decide +kernel
theorem dX4_wallAround_16 : decode cX4_wallAround 16 = .ok (.iconst 0, 1) := by decide +kernel
theorem dX4_wallAround_17 : decode cX4_wallAround 17 = .ok (.istore 6, 2) := by decide +kernel
theorem dX4_wallAround_19 : decode cX4_wallAround 19 = .ok (.iconst 0, 1) := by decide +kernel
theorem dX4_wallAround_20 : decode cX4_wallAround 20 = .ok (.istore 7, 2) := by decide +kernel
theorem dX4_wallAround_22 : decode cX4_wallAround 22 = .ok (.iconst 0, 1) := by decide +kernel
theorem dX4_wallAround_23 : decode cX4_wallAround 23 = .ok (.istore 8, 2) := by decide +kernel
theorem dX4_wallAround_25 : decode cX4_wallAround 25 = .ok (.iload 8, 2) := by decide +kernel
theorem dX4_wallAround_27 : decode cX4_wallAround 27 = .ok (.aload_n 1, 1) := by decide +kernel
theorem dX4_wallAround_28 : decode cX4_wallAround 28 = .ok (.getfield 30, 3) := by decide +kernel
theorem dX4_wallAround_31 : decode cX4_wallAround 31 = .ok (.if_icmp .ge 76, 3) := by decide +kernel
theorem dX4_wallAround_34 : decode cX4_wallAround 34 = .ok (.aload_n 2, 1) := by decide +kernel
theorem dX4_wallAround_35 : decode cX4_wallAround 35 = .ok (.getfield 44, 3) := by decide +kernel
theorem dX4_wallAround_38 : decode cX4_wallAround 38 = .ok (.iload 8, 2) := by decide +kernel
theorem dX4_wallAround_40 : decode cX4_wallAround 40 = .ok (.iaload, 1) := by decide +kernel
theorem dX4_wallAround_41 : decode cX4_wallAround 41 = .ok (.aload_n 2, 1) := by decide +kernel
theorem dX4_wallAround_42 : decode cX4_wallAround 42 = .ok (.getfield 44, 3) := by decide +kernel
theorem dX4_wallAround_45 : decode cX4_wallAround 45 = .ok (.iload_n 3, 1) := by decide +kernel
theorem dX4_wallAround_46 : decode cX4_wallAround 46 = .ok (.iaload, 1) := by decide +kernel
theorem dX4_wallAround_47 : decode cX4_wallAround 47 = .ok (.if_icmp .ne 54, 3) := by decide +kernel
theorem dX4_wallAround_50 : decode cX4_wallAround 50 = .ok (.aload_n 1, 1) := by decide +kernel
theorem dX4_wallAround_51 : decode cX4_wallAround 51 = .ok (.getfield 61, 3) := by decide +kernel
theorem dX4_wallAround_54 : decode cX4_wallAround 54 = .ok (.iload 8, 2) := by decide +kernel
theorem dX4_wallAround_56 : decode cX4_wallAround 56 = .ok (.iaload, 1) := by decide +kernel
theorem dX4_wallAround_57 : decode cX4_wallAround 57 = .ok (.istore 9, 2) := by decide +kernel
theorem dX4_wallAround_59 : decode cX4_wallAround 59 = .ok (.iload 9, 2) := by decide +kernel
theorem dX4_wallAround_61 : decode cX4_wallAround 61 = .ok (.iload 4, 2) := by decide +kernel
theorem dX4_wallAround_63 : decode cX4_wallAround 63 = .ok (.if_icmp .ge 8, 3) := by decide +kernel
theorem dX4_wallAround_66 : decode cX4_wallAround 66 = .ok (.iload 9, 2) := by decide +kernel
theorem dX4_wallAround_68 : decode cX4_wallAround 68 = .ok (.goto 5, 3) := by decide +kernel
theorem dX4_wallAround_71 : decode cX4_wallAround 71 = .ok (.iload 4, 2) := by decide +kernel
theorem dX4_wallAround_73 : decode cX4_wallAround 73 = .ok (.istore 4, 2) := by decide +kernel
theorem dX4_wallAround_75 : decode cX4_wallAround 75 = .ok (.iload 9, 2) := by decide +kernel
theorem dX4_wallAround_77 : decode cX4_wallAround 77 = .ok (.iload 5, 2) := by decide +kernel
theorem dX4_wallAround_79 : decode cX4_wallAround 79 = .ok (.if_icmp .le 8, 3) := by decide +kernel
theorem dX4_wallAround_82 : decode cX4_wallAround 82 = .ok (.iload 9, 2) := by decide +kernel
theorem dX4_wallAround_84 : decode cX4_wallAround 84 = .ok (.goto 5, 3) := by decide +kernel
theorem dX4_wallAround_87 : decode cX4_wallAround 87 = .ok (.iload 5, 2) := by decide +kernel
theorem dX4_wallAround_89 : decode cX4_wallAround 89 = .ok (.istore 5, 2) := by decide +kernel
theorem dX4_wallAround_91 : decode cX4_wallAround 91 = .ok (.iload 6, 2) := by decide +kernel
theorem dX4_wallAround_93 : decode cX4_wallAround 93 = .ok (.iload 9, 2) := by decide +kernel
theorem dX4_wallAround_95 : decode cX4_wallAround 95 = .ok (.iadd, 1) := by decide +kernel
theorem dX4_wallAround_96 : decode cX4_wallAround 96 = .ok (.istore 6, 2) := by decide +kernel
theorem dX4_wallAround_98 : decode cX4_wallAround 98 = .ok (.iinc 7 1, 3) := by decide +kernel
theorem dX4_wallAround_101 : decode cX4_wallAround 101 = .ok (.iinc 8 1, 3) := by decide +kernel
theorem dX4_wallAround_104 : decode cX4_wallAround 104 = .ok (.goto (-79), 3) := by decide +kernel
theorem dX4_wallAround_107 : decode cX4_wallAround 107 = .ok (.aload_n 1, 1) := by decide +kernel
theorem dX4_wallAround_108 : decode cX4_wallAround 108 = .ok (.getfield 64, 3) := by decide +kernel
theorem dX4_wallAround_111 : decode cX4_wallAround 111 = .ok (.ifCond .ne 6, 3) := by decide +kernel
theorem dX4_wallAround_114 : decode cX4_wallAround 114 = .ok (.iload 4, 2) := by decide +kernel
theorem dX4_wallAround_116 : decode cX4_wallAround 116 = .ok (.ireturn, 1) := by decide +kernel
theorem dX4_wallAround_117 : decode cX4_wallAround 117 = .ok (.aload_n 1, 1) := by decide +kernel
theorem dX4_wallAround_118 : decode cX4_wallAround 118 = .ok (.getfield 64, 3) := by decide +kernel
theorem dX4_wallAround_121 : decode cX4_wallAround 121 = .ok (.iconst 1, 1) := by decide +kernel
theorem dX4_wallAround_122 : decode cX4_wallAround 122 = .ok (.if_icmp .ne 6, 3) := by decide +kernel
theorem dX4_wallAround_125 : decode cX4_wallAround 125 = .ok (.iload 5, 2) := by decide +kernel
theorem dX4_wallAround_127 : decode cX4_wallAround 127 = .ok (.ireturn, 1) := by decide +kernel
theorem dX4_wallAround_128 : decode cX4_wallAround 128 = .ok (.iload 7, 2) := by decide +kernel
theorem dX4_wallAround_130 : decode cX4_wallAround 130 = .ok (.ifCond .le 11, 3) := by decide +kernel
theorem dX4_wallAround_133 : decode cX4_wallAround 133 = .ok (.iload 6, 2) := by decide +kernel
theorem dX4_wallAround_135 : decode cX4_wallAround 135 = .ok (.iload 7, 2) := by decide +kernel
theorem dX4_wallAround_137 : decode cX4_wallAround 137 = .ok (.idiv, 1) := by decide +kernel
theorem dX4_wallAround_138 : decode cX4_wallAround 138 = .ok (.goto 4, 3) := by decide +kernel
theorem dX4_wallAround_141 : decode cX4_wallAround 141 = .ok (.iconst 0, 1) := by decide +kernel
theorem dX4_wallAround_142 : decode cX4_wallAround 142 = .ok (.ireturn, 1) := by decide +kernel
theorem dX4_buy_0 : decode cX4_buy 0 = .ok (.iload_n 3, 1) := by decide +kernel
theorem dX4_buy_1 : decode cX4_buy 1 = .ok (.istore 4, 2) := by decide +kernel
theorem dX4_buy_3 : decode cX4_buy 3 = .ok (.sipush 1000, 3) := by decide +kernel
theorem dX4_buy_6 : decode cX4_buy 6 = .ok (.istore 5, 2) := by decide +kernel
theorem dX4_buy_8 : decode cX4_buy 8 = .ok (.iconst 0, 1) := by decide +kernel
theorem dX4_buy_9 : decode cX4_buy 9 = .ok (.istore 6, 2) := by decide +kernel
theorem dX4_buy_11 : decode cX4_buy 11 = .ok (.iload 6, 2) := by decide +kernel
theorem dX4_buy_13 : decode cX4_buy 13 = .ok (.aload_n 1, 1) := by decide +kernel
theorem dX4_buy_14 : decode cX4_buy 14 = .ok (.getfield 30, 3) := by decide +kernel
theorem dX4_buy_17 : decode cX4_buy 17 = .ok (.if_icmp .ge 68, 3) := by decide +kernel
theorem dX4_buy_20 : decode cX4_buy 20 = .ok (.aload_n 1, 1) := by decide +kernel
theorem dX4_buy_21 : decode cX4_buy 21 = .ok (.getfield 67, 3) := by decide +kernel
theorem dX4_buy_24 : decode cX4_buy 24 = .ok (.iload 6, 2) := by decide +kernel
theorem dX4_buy_26 : decode cX4_buy 26 = .ok (.iaload, 1) := by decide +kernel
theorem dX4_buy_27 : decode cX4_buy 27 = .ok (.aload_n 1, 1) := by decide +kernel
theorem dX4_buy_28 : decode cX4_buy 28 = .ok (.getfield 58, 3) := by decide +kernel
theorem dX4_buy_31 : decode cX4_buy 31 = .ok (.iload 6, 2) := by decide +kernel
theorem dX4_buy_33 : decode cX4_buy 33 = .ok (.iaload, 1) := by decide +kernel
theorem dX4_buy_34 : decode cX4_buy 34 = .ok (.iadd, 1) := by decide +kernel
theorem dX4_buy_35 : decode cX4_buy 35 = .ok (.istore 7, 2) := by decide +kernel
theorem dX4_buy_37 : decode cX4_buy 37 = .ok (.aload_n 2, 1) := by decide +kernel
theorem dX4_buy_38 : decode cX4_buy 38 = .ok (.getfield 44, 3) := by decide +kernel
theorem dX4_buy_41 : decode cX4_buy 41 = .ok (.iload 6, 2) := by decide +kernel
theorem dX4_buy_43 : decode cX4_buy 43 = .ok (.iaload, 1) := by decide +kernel
theorem dX4_buy_44 : decode cX4_buy 44 = .ok (.aload_n 2, 1) := by decide +kernel
theorem dX4_buy_45 : decode cX4_buy 45 = .ok (.getfield 44, 3) := by decide +kernel
theorem dX4_buy_48 : decode cX4_buy 48 = .ok (.iload_n 3, 1) := by decide +kernel
theorem dX4_buy_49 : decode cX4_buy 49 = .ok (.iaload, 1) := by decide +kernel
theorem dX4_buy_50 : decode cX4_buy 50 = .ok (.if_icmp .eq 14, 3) := by decide +kernel
theorem dX4_buy_53 : decode cX4_buy 53 = .ok (.iload 7, 2) := by decide +kernel
theorem dX4_buy_55 : decode cX4_buy 55 = .ok (.aload_n 0, 1) := by decide +kernel
theorem dX4_buy_56 : decode cX4_buy 56 = .ok (.getfield 9, 3) := by decide +kernel
theorem dX4_buy_59 : decode cX4_buy 59 = .ok (.iload_n 3, 1) := by decide +kernel
theorem dX4_buy_60 : decode cX4_buy 60 = .ok (.iaload, 1) := by decide +kernel
theorem dX4_buy_61 : decode cX4_buy 61 = .ok (.iadd, 1) := by decide +kernel
theorem dX4_buy_62 : decode cX4_buy 62 = .ok (.istore 7, 2) := by decide +kernel
theorem dX4_buy_64 : decode cX4_buy 64 = .ok (.iload 7, 2) := by decide +kernel
theorem dX4_buy_66 : decode cX4_buy 66 = .ok (.iload 5, 2) := by decide +kernel
theorem dX4_buy_68 : decode cX4_buy 68 = .ok (.if_icmp .ge 11, 3) := by decide +kernel
theorem dX4_buy_71 : decode cX4_buy 71 = .ok (.iload 7, 2) := by decide +kernel
theorem dX4_buy_73 : decode cX4_buy 73 = .ok (.istore 5, 2) := by decide +kernel
theorem dX4_buy_75 : decode cX4_buy 75 = .ok (.iload 6, 2) := by decide +kernel
theorem dX4_buy_77 : decode cX4_buy 77 = .ok (.istore 4, 2) := by decide +kernel
theorem dX4_buy_79 : decode cX4_buy 79 = .ok (.iinc 6 1, 3) := by decide +kernel
theorem dX4_buy_82 : decode cX4_buy 82 = .ok (.goto (-71), 3) := by decide +kernel
theorem dX4_buy_85 : decode cX4_buy 85 = .ok (.aload_n 0, 1) := by decide +kernel
theorem dX4_buy_86 : decode cX4_buy 86 = .ok (.getfield 15, 3) := by decide +kernel
theorem dX4_buy_89 : decode cX4_buy 89 = .ok (.iload_n 3, 1) := by decide +kernel
theorem dX4_buy_90 : decode cX4_buy 90 = .ok (.iload 5, 2) := by decide +kernel
theorem dX4_buy_92 : decode cX4_buy 92 = .ok (.iastore, 1) := by decide +kernel
theorem dX4_buy_93 : decode cX4_buy 93 = .ok (.aload_n 0, 1) := by decide +kernel
theorem dX4_buy_94 : decode cX4_buy 94 = .ok (.getfield 18, 3) := by decide +kernel
theorem dX4_buy_97 : decode cX4_buy 97 = .ok (.iload_n 3, 1) := by decide +kernel
theorem dX4_buy_98 : decode cX4_buy 98 = .ok (.iload 4, 2) := by decide +kernel
theorem dX4_buy_100 : decode cX4_buy 100 = .ok (.iastore, 1) := by decide +kernel
theorem dX4_buy_101 : decode cX4_buy 101 = .ok (.aload_n 0, 1) := by decide +kernel
theorem dX4_buy_102 : decode cX4_buy 102 = .ok (.getfield 21, 3) := by decide +kernel
theorem dX4_buy_105 : decode cX4_buy 105 = .ok (.iload_n 3, 1) := by decide +kernel
theorem dX4_buy_106 : decode cX4_buy 106 = .ok (.aload_n 1, 1) := by decide +kernel
theorem dX4_buy_107 : decode cX4_buy 107 = .ok (.getfield 70, 3) := by decide +kernel
theorem dX4_buy_110 : decode cX4_buy 110 = .ok (.iload_n 3, 1) := by decide +kernel
theorem dX4_buy_111 : decode cX4_buy 111 = .ok (.iaload, 1) := by decide +kernel
theorem dX4_buy_112 : decode cX4_buy 112 = .ok (.iload 5, 2) := by decide +kernel
theorem dX4_buy_114 : decode cX4_buy 114 = .ok (.if_icmp .le 15, 3) := by decide +kernel
theorem dX4_buy_117 : decode cX4_buy 117 = .ok (.aload_n 1, 1) := by decide +kernel
theorem dX4_buy_118 : decode cX4_buy 118 = .ok (.getfield 70, 3) := by decide +kernel
theorem dX4_buy_121 : decode cX4_buy 121 = .ok (.iload_n 3, 1) := by decide +kernel
theorem dX4_buy_122 : decode cX4_buy 122 = .ok (.iaload, 1) := by decide +kernel
theorem dX4_buy_123 : decode cX4_buy 123 = .ok (.iload 5, 2) := by decide +kernel
theorem dX4_buy_125 : decode cX4_buy 125 = .ok (.isub, 1) := by decide +kernel
theorem dX4_buy_126 : decode cX4_buy 126 = .ok (.goto 4, 3) := by decide +kernel
theorem dX4_buy_129 : decode cX4_buy 129 = .ok (.iconst 0, 1) := by decide +kernel
theorem dX4_buy_130 : decode cX4_buy 130 = .ok (.iastore, 1) := by decide +kernel
theorem dX4_buy_131 : decode cX4_buy 131 = .ok (.return_, 1) := by decide +kernel
theorem dX4_shareOut_0 : decode cX4_shareOut 0 = .ok (.aload_n 1, 1) := by decide +kernel
theorem dX4_shareOut_1 : decode cX4_shareOut 1 = .ok (.getfield 49, 3) := by decide +kernel
theorem dX4_shareOut_4 : decode cX4_shareOut 4 = .ok (.iconst 1, 1) := by decide +kernel
theorem dX4_shareOut_5 : decode cX4_shareOut 5 = .ok (.if_icmp .ne 7, 3) := by decide +kernel
theorem dX4_shareOut_8 : decode cX4_shareOut 8 = .ok (.iconst 1, 1) := by decide +kernel
theorem dX4_shareOut_9 : decode cX4_shareOut 9 = .ok (.goto 4, 3) := by decide +kernel
theorem dX4_shareOut_12 : decode cX4_shareOut 12 = .ok (.iconst 0, 1) := by decide +kernel
theorem dX4_shareOut_13 : decode cX4_shareOut 13 = .ok (.istore 4, 2) := by decide +kernel
theorem dX4_shareOut_15 : decode cX4_shareOut 15 = .ok (.iconst 0, 1) := by decide +kernel
theorem dX4_shareOut_16 : decode cX4_shareOut 16 = .ok (.istore 5, 2) := by decide +kernel
theorem dX4_shareOut_18 : decode cX4_shareOut 18 = .ok (.iconst 0, 1) := by decide +kernel
theorem dX4_shareOut_19 : decode cX4_shareOut 19 = .ok (.istore 6, 2) := by decide +kernel
theorem dX4_shareOut_21 : decode cX4_shareOut 21 = .ok (.iconst 0, 1) := by decide +kernel
theorem dX4_shareOut_22 : decode cX4_shareOut 22 = .ok (.istore 7, 2) := by decide +kernel
theorem dX4_shareOut_24 : decode cX4_shareOut 24 = .ok (.iload 7, 2) := by decide +kernel
theorem dX4_shareOut_26 : decode cX4_shareOut 26 = .ok (.aload_n 1, 1) := by decide +kernel
theorem dX4_shareOut_27 : decode cX4_shareOut 27 = .ok (.getfield 30, 3) := by decide +kernel
theorem dX4_shareOut_30 : decode cX4_shareOut 30 = .ok (.if_icmp .ge 53, 3) := by decide +kernel
theorem dX4_shareOut_33 : decode cX4_shareOut 33 = .ok (.aload_n 2, 1) := by decide +kernel
theorem dX4_shareOut_34 : decode cX4_shareOut 34 = .ok (.getfield 44, 3) := by decide +kernel
theorem dX4_shareOut_37 : decode cX4_shareOut 37 = .ok (.iload 7, 2) := by decide +kernel
theorem dX4_shareOut_39 : decode cX4_shareOut 39 = .ok (.iaload, 1) := by decide +kernel
theorem dX4_shareOut_40 : decode cX4_shareOut 40 = .ok (.iload_n 3, 1) := by decide +kernel
theorem dX4_shareOut_41 : decode cX4_shareOut 41 = .ok (.if_icmp .ne 36, 3) := by decide +kernel
theorem dX4_shareOut_44 : decode cX4_shareOut 44 = .ok (.iload 5, 2) := by decide +kernel
theorem dX4_shareOut_46 : decode cX4_shareOut 46 = .ok (.aload_n 0, 1) := by decide +kernel
theorem dX4_shareOut_47 : decode cX4_shareOut 47 = .ok (.getfield 24, 3) := by decide +kernel
theorem dX4_shareOut_50 : decode cX4_shareOut 50 = .ok (.iload 7, 2) := by decide +kernel
theorem dX4_shareOut_52 : decode cX4_shareOut 52 = .ok (.iaload, 1) := by decide +kernel
theorem dX4_shareOut_53 : decode cX4_shareOut 53 = .ok (.iadd, 1) := by decide +kernel
theorem dX4_shareOut_54 : decode cX4_shareOut 54 = .ok (.istore 5, 2) := by decide +kernel
theorem dX4_shareOut_56 : decode cX4_shareOut 56 = .ok (.iload 6, 2) := by decide +kernel
theorem dX4_shareOut_58 : decode cX4_shareOut 58 = .ok (.iload 4, 2) := by decide +kernel
theorem dX4_shareOut_60 : decode cX4_shareOut 60 = .ok (.ifCond .eq 7, 3) := by decide +kernel
theorem dX4_shareOut_63 : decode cX4_shareOut 63 = .ok (.iconst 1, 1) := by decide +kernel
theorem dX4_shareOut_64 : decode cX4_shareOut 64 = .ok (.goto 10, 3) := by decide +kernel
theorem dX4_shareOut_67 : decode cX4_shareOut 67 = .ok (.aload_n 1, 1) := by decide +kernel
theorem dX4_shareOut_68 : decode cX4_shareOut 68 = .ok (.getfield 70, 3) := by decide +kernel
theorem dX4_shareOut_71 : decode cX4_shareOut 71 = .ok (.iload 7, 2) := by decide +kernel
theorem dX4_shareOut_73 : decode cX4_shareOut 73 = .ok (.iaload, 1) := by decide +kernel
theorem dX4_shareOut_74 : decode cX4_shareOut 74 = .ok (.iadd, 1) := by decide +kernel
theorem dX4_shareOut_75 : decode cX4_shareOut 75 = .ok (.istore 6, 2) := by decide +kernel
theorem dX4_shareOut_77 : decode cX4_shareOut 77 = .ok (.iinc 7 1, 3) := by decide +kernel
theorem dX4_shareOut_80 : decode cX4_shareOut 80 = .ok (.goto (-56), 3) := by decide +kernel
theorem dX4_shareOut_83 : decode cX4_shareOut 83 = .ok (.iload 6, 2) := by decide +kernel
theorem dX4_shareOut_85 : decode cX4_shareOut 85 = .ok (.ifCond .gt 4, 3) := by decide +kernel
theorem dX4_shareOut_88 : decode cX4_shareOut 88 = .ok (.return_, 1) := by decide +kernel
theorem dX4_shareOut_89 : decode cX4_shareOut 89 = .ok (.iload 5, 2) := by decide +kernel
theorem dX4_shareOut_91 : decode cX4_shareOut 91 = .ok (.istore 7, 2) := by decide +kernel
theorem dX4_shareOut_93 : decode cX4_shareOut 93 = .ok (.iconst 0, 1) := by decide +kernel
theorem dX4_shareOut_94 : decode cX4_shareOut 94 = .ok (.istore 8, 2) := by decide +kernel
theorem dX4_shareOut_96 : decode cX4_shareOut 96 = .ok (.iload 8, 2) := by decide +kernel
theorem dX4_shareOut_98 : decode cX4_shareOut 98 = .ok (.aload_n 1, 1) := by decide +kernel
theorem dX4_shareOut_99 : decode cX4_shareOut 99 = .ok (.getfield 30, 3) := by decide +kernel
theorem dX4_shareOut_102 : decode cX4_shareOut 102 = .ok (.if_icmp .ge 61, 3) := by decide +kernel
theorem dX4_shareOut_105 : decode cX4_shareOut 105 = .ok (.aload_n 2, 1) := by decide +kernel
theorem dX4_shareOut_106 : decode cX4_shareOut 106 = .ok (.getfield 44, 3) := by decide +kernel
theorem dX4_shareOut_109 : decode cX4_shareOut 109 = .ok (.iload 8, 2) := by decide +kernel
theorem dX4_shareOut_111 : decode cX4_shareOut 111 = .ok (.iaload, 1) := by decide +kernel
theorem dX4_shareOut_112 : decode cX4_shareOut 112 = .ok (.iload_n 3, 1) := by decide +kernel
theorem dX4_shareOut_113 : decode cX4_shareOut 113 = .ok (.if_icmp .ne 44, 3) := by decide +kernel
theorem dX4_shareOut_116 : decode cX4_shareOut 116 = .ok (.aload_n 0, 1) := by decide +kernel
theorem dX4_shareOut_117 : decode cX4_shareOut 117 = .ok (.getfield 24, 3) := by decide +kernel
theorem dX4_shareOut_120 : decode cX4_shareOut 120 = .ok (.iload 8, 2) := by decide +kernel
theorem dX4_shareOut_122 : decode cX4_shareOut 122 = .ok (.iload 5, 2) := by decide +kernel
theorem dX4_shareOut_124 : decode cX4_shareOut 124 = .ok (.iload 4, 2) := by decide +kernel
theorem dX4_shareOut_126 : decode cX4_shareOut 126 = .ok (.ifCond .eq 7, 3) := by decide +kernel
theorem dX4_shareOut_129 : decode cX4_shareOut 129 = .ok (.iconst 1, 1) := by decide +kernel
theorem dX4_shareOut_130 : decode cX4_shareOut 130 = .ok (.goto 10, 3) := by decide +kernel
theorem dX4_shareOut_133 : decode cX4_shareOut 133 = .ok (.aload_n 1, 1) := by decide +kernel
theorem dX4_shareOut_134 : decode cX4_shareOut 134 = .ok (.getfield 70, 3) := by decide +kernel
theorem dX4_shareOut_137 : decode cX4_shareOut 137 = .ok (.iload 8, 2) := by decide +kernel
theorem dX4_shareOut_139 : decode cX4_shareOut 139 = .ok (.iaload, 1) := by decide +kernel
theorem dX4_shareOut_140 : decode cX4_shareOut 140 = .ok (.imul, 1) := by decide +kernel
theorem dX4_shareOut_141 : decode cX4_shareOut 141 = .ok (.iload 6, 2) := by decide +kernel
theorem dX4_shareOut_143 : decode cX4_shareOut 143 = .ok (.idiv, 1) := by decide +kernel
theorem dX4_shareOut_144 : decode cX4_shareOut 144 = .ok (.iastore, 1) := by decide +kernel
theorem dX4_shareOut_145 : decode cX4_shareOut 145 = .ok (.iload 7, 2) := by decide +kernel
theorem dX4_shareOut_147 : decode cX4_shareOut 147 = .ok (.aload_n 0, 1) := by decide +kernel
theorem dX4_shareOut_148 : decode cX4_shareOut 148 = .ok (.getfield 24, 3) := by decide +kernel
theorem dX4_shareOut_151 : decode cX4_shareOut 151 = .ok (.iload 8, 2) := by decide +kernel
theorem dX4_shareOut_153 : decode cX4_shareOut 153 = .ok (.iaload, 1) := by decide +kernel
theorem dX4_shareOut_154 : decode cX4_shareOut 154 = .ok (.isub, 1) := by decide +kernel
theorem dX4_shareOut_155 : decode cX4_shareOut 155 = .ok (.istore 7, 2) := by decide +kernel
theorem dX4_shareOut_157 : decode cX4_shareOut 157 = .ok (.iinc 8 1, 3) := by decide +kernel
theorem dX4_shareOut_160 : decode cX4_shareOut 160 = .ok (.goto (-64), 3) := by decide +kernel
theorem dX4_shareOut_163 : decode cX4_shareOut 163 = .ok (.iconst 0, 1) := by decide +kernel
theorem dX4_shareOut_164 : decode cX4_shareOut 164 = .ok (.istore 8, 2) := by decide +kernel
theorem dX4_shareOut_166 : decode cX4_shareOut 166 = .ok (.iload 8, 2) := by decide +kernel
theorem dX4_shareOut_168 : decode cX4_shareOut 168 = .ok (.aload_n 1, 1) := by decide +kernel
theorem dX4_shareOut_169 : decode cX4_shareOut 169 = .ok (.getfield 30, 3) := by decide +kernel
theorem dX4_shareOut_172 : decode cX4_shareOut 172 = .ok (.if_icmp .ge 39, 3) := by decide +kernel
theorem dX4_shareOut_175 : decode cX4_shareOut 175 = .ok (.iload 7, 2) := by decide +kernel
theorem dX4_shareOut_177 : decode cX4_shareOut 177 = .ok (.ifCond .le 34, 3) := by decide +kernel
theorem dX4_shareOut_180 : decode cX4_shareOut 180 = .ok (.aload_n 2, 1) := by decide +kernel
theorem dX4_shareOut_181 : decode cX4_shareOut 181 = .ok (.getfield 44, 3) := by decide +kernel
theorem dX4_shareOut_184 : decode cX4_shareOut 184 = .ok (.iload 8, 2) := by decide +kernel
theorem dX4_shareOut_186 : decode cX4_shareOut 186 = .ok (.iaload, 1) := by decide +kernel
theorem dX4_shareOut_187 : decode cX4_shareOut 187 = .ok (.iload_n 3, 1) := by decide +kernel
theorem dX4_shareOut_188 : decode cX4_shareOut 188 = .ok (.if_icmp .ne 17, 3) := by decide +kernel
theorem dX4_shareOut_191 : decode cX4_shareOut 191 = .ok (.aload_n 0, 1) := by decide +kernel
theorem dX4_shareOut_192 : decode cX4_shareOut 192 = .ok (.getfield 24, 3) := by decide +kernel
theorem dX4_shareOut_195 : decode cX4_shareOut 195 = .ok (.iload 8, 2) := by decide +kernel
theorem dX4_shareOut_197 : decode cX4_shareOut 197 = .ok (.dup2, 1) := by decide +kernel
theorem dX4_shareOut_198 : decode cX4_shareOut 198 = .ok (.iaload, 1) := by decide +kernel
theorem dX4_shareOut_199 : decode cX4_shareOut 199 = .ok (.iconst 1, 1) := by decide +kernel
theorem dX4_shareOut_200 : decode cX4_shareOut 200 = .ok (.iadd, 1) := by decide +kernel
theorem dX4_shareOut_201 : decode cX4_shareOut 201 = .ok (.iastore, 1) := by decide +kernel
theorem dX4_shareOut_202 : decode cX4_shareOut 202 = .ok (.iinc 7 (-1), 3) := by decide +kernel
theorem dX4_shareOut_205 : decode cX4_shareOut 205 = .ok (.iinc 8 1, 3) := by decide +kernel
theorem dX4_shareOut_208 : decode cX4_shareOut 208 = .ok (.goto (-42), 3) := by decide +kernel
theorem dX4_shareOut_211 : decode cX4_shareOut 211 = .ok (.return_, 1) := by decide +kernel
theorem dX5_init_0 : decode cX5_init 0 = .ok (.aload_n 0, 1) := by decide +kernel
theorem dX5_init_1 : decode cX5_init 1 = .ok (.invokespecial 3, 3) := by decide +kernel
theorem dX5_init_4 : decode cX5_init 4 = .ok (.aload_n 0, 1) := by decide +kernel
theorem dX5_init_5 : decode cX5_init 5 = .ok (.bipush 20, 2) := by decide +kernel
theorem dX5_init_7 : decode cX5_init 7 = .ok (.newarray .int, 2) := by decide +kernel
theorem dX5_init_9 : decode cX5_init 9 = .ok (.putfield 9, 3) := by decide +kernel
theorem dX5_init_12 : decode cX5_init 12 = .ok (.return_, 1) := by decide +kernel
theorem dX5_add_0 : decode cX5_add 0 = .ok (.aload_n 0, 1) := by decide +kernel
theorem dX5_add_1 : decode cX5_add 1 = .ok (.getfield 9, 3) := by decide +kernel
theorem dX5_add_4 : decode cX5_add 4 = .ok (.aload_n 0, 1) := by decide +kernel
theorem dX5_add_5 : decode cX5_add 5 = .ok (.getfield 15, 3) := by decide +kernel
theorem dX5_add_8 : decode cX5_add 8 = .ok (.iload_n 1, 1) := by decide +kernel
theorem dX5_add_9 : decode cX5_add 9 = .ok (.iastore, 1) := by decide +kernel
theorem dX5_add_10 : decode cX5_add 10 = .ok (.aload_n 0, 1) := by decide +kernel
theorem dX5_add_11 : decode cX5_add 11 = .ok (.dup, 1) := by decide +kernel
theorem dX5_add_12 : decode cX5_add 12 = .ok (.getfield 15, 3) := by decide +kernel
theorem dX5_add_15 : decode cX5_add 15 = .ok (.iconst 1, 1) := by decide +kernel
theorem dX5_add_16 : decode cX5_add 16 = .ok (.iadd, 1) := by decide +kernel
theorem dX5_add_17 : decode cX5_add 17 = .ok (.putfield 15, 3) := by decide +kernel
theorem dX5_add_20 : decode cX5_add 20 = .ok (.return_, 1) := by decide +kernel
theorem dX5_firstFault_0 : decode cX5_firstFault 0 = .ok (.iload_n 1, 1) := by decide +kernel
theorem dX5_firstFault_1 : decode cX5_firstFault 1 = .ok (.ifCond .ne 5, 3) := by decide +kernel
theorem dX5_firstFault_4 : decode cX5_firstFault 4 = .ok (.iconst 0, 1) := by decide +kernel
theorem dX5_firstFault_5 : decode cX5_firstFault 5 = .ok (.ireturn, 1) := by decide +kernel
theorem dX5_firstFault_6 : decode cX5_firstFault 6 = .ok (.iconst 1, 1) := by decide +kernel
theorem dX5_firstFault_7 : decode cX5_firstFault 7 = .ok (.iload_n 1, 1) := by decide +kernel
theorem dX5_firstFault_8 : decode cX5_firstFault 8 = .ok (.ishl, 1) := by decide +kernel
theorem dX5_firstFault_9 : decode cX5_firstFault 9 = .ok (.iconst 1, 1) := by decide +kernel
theorem dX5_firstFault_10 : decode cX5_firstFault 10 = .ok (.isub, 1) := by decide +kernel
theorem dX5_firstFault_11 : decode cX5_firstFault 11 = .ok (.istore_n 2, 1) := by decide +kernel
theorem dX5_firstFault_12 : decode cX5_firstFault 12 = .ok (.iconst 0, 1) := by decide +kernel
theorem dX5_firstFault_13 : decode cX5_firstFault 13 = .ok (.istore_n 3, 1) := by decide +kernel
theorem dX5_firstFault_14 : decode cX5_firstFault 14 = .ok (.iconst 0, 1) := by decide +kernel
theorem dX5_firstFault_15 : decode cX5_firstFault 15 = .ok (.istore 4, 2) := by decide +kernel
theorem dX5_firstFault_17 : decode cX5_firstFault 17 = .ok (.iconst 0, 1) := by decide +kernel
theorem dX5_firstFault_18 : decode cX5_firstFault 18 = .ok (.istore 5, 2) := by decide +kernel
theorem dX5_firstFault_20 : decode cX5_firstFault 20 = .ok (.iload 5, 2) := by decide +kernel
theorem dX5_firstFault_22 : decode cX5_firstFault 22 = .ok (.aload_n 0, 1) := by decide +kernel
theorem dX5_firstFault_23 : decode cX5_firstFault 23 = .ok (.getfield 15, 3) := by decide +kernel
theorem dX5_firstFault_26 : decode cX5_firstFault 26 = .ok (.if_icmp .ge 86, 3) := by decide +kernel
theorem dX5_firstFault_29 : decode cX5_firstFault 29 = .ok (.aload_n 0, 1) := by decide +kernel
theorem dX5_firstFault_30 : decode cX5_firstFault 30 = .ok (.getfield 9, 3) := by decide +kernel
theorem dX5_firstFault_33 : decode cX5_firstFault 33 = .ok (.iload 5, 2) := by decide +kernel
theorem dX5_firstFault_35 : decode cX5_firstFault 35 = .ok (.iaload, 1) := by decide +kernel
theorem dX5_firstFault_36 : decode cX5_firstFault 36 = .ok (.bipush 124, 2) := by decide +kernel
theorem dX5_firstFault_38 : decode cX5_firstFault 38 = .ok (.if_icmp .ne 22, 3) := by decide +kernel
theorem dX5_firstFault_41 : decode cX5_firstFault 41 = .ok (.iload 4, 2) := by decide +kernel
theorem dX5_firstFault_43 : decode cX5_firstFault 43 = .ok (.ifCond .eq 8, 3) := by decide +kernel
theorem dX5_firstFault_46 : decode cX5_firstFault 46 = .ok (.iload_n 3, 1) := by decide +kernel
theorem dX5_firstFault_47 : decode cX5_firstFault 47 = .ok (.iload_n 2, 1) := by decide +kernel
theorem dX5_firstFault_48 : decode cX5_firstFault 48 = .ok (.if_icmp .ne 6, 3) := by decide +kernel
theorem dX5_firstFault_51 : decode cX5_firstFault 51 = .ok (.iload 5, 2) := by decide +kernel
theorem dX5_firstFault_53 : decode cX5_firstFault 53 = .ok (.ireturn, 1) := by decide +kernel
theorem dX5_firstFault_54 : decode cX5_firstFault 54 = .ok (.iconst 0, 1) := by decide +kernel
theorem dX5_firstFault_55 : decode cX5_firstFault 55 = .ok (.istore 4, 2) := by decide +kernel
theorem dX5_firstFault_57 : decode cX5_firstFault 57 = .ok (.goto 49, 3) := by decide +kernel
theorem dX5_firstFault_60 : decode cX5_firstFault 60 = .ok (.aload_n 0, 1) := by decide +kernel
theorem dX5_firstFault_61 : decode cX5_firstFault 61 = .ok (.getfield 9, 3) := by decide +kernel
theorem dX5_firstFault_64 : decode cX5_firstFault 64 = .ok (.iload 5, 2) := by decide +kernel
theorem dX5_firstFault_66 : decode cX5_firstFault 66 = .ok (.iaload, 1) := by decide +kernel
theorem dX5_firstFault_67 : decode cX5_firstFault 67 = .ok (.bipush 97, 2) := by decide +kernel
theorem dX5_firstFault_69 : decode cX5_firstFault 69 = .ok (.isub, 1) := by decide +kernel
theorem dX5_firstFault_70 : decode cX5_firstFault 70 = .ok (.istore 6, 2) := by decide +kernel
theorem dX5_firstFault_72 : decode cX5_firstFault 72 = .ok (.iload 6, 2) := by decide +kernel
theorem dX5_firstFault_74 : decode cX5_firstFault 74 = .ok (.ifCond .lt 19, 3) := by decide +kernel
theorem dX5_firstFault_77 : decode cX5_firstFault 77 = .ok (.iload 6, 2) := by decide +kernel
theorem dX5_firstFault_79 : decode cX5_firstFault 79 = .ok (.iload_n 1, 1) := by decide +kernel
theorem dX5_firstFault_80 : decode cX5_firstFault 80 = .ok (.if_icmp .ge 13, 3) := by decide +kernel
theorem dX5_firstFault_83 : decode cX5_firstFault 83 = .ok (.iload_n 3, 1) := by decide +kernel
theorem dX5_firstFault_84 : decode cX5_firstFault 84 = .ok (.iload 6, 2) := by decide +kernel
theorem dX5_firstFault_86 : decode cX5_firstFault 86 = .ok (.ishr, 1) := by decide +kernel
theorem dX5_firstFault_87 : decode cX5_firstFault 87 = .ok (.iconst 1, 1) := by decide +kernel
theorem dX5_firstFault_88 : decode cX5_firstFault 88 = .ok (.iand, 1) := by decide +kernel
theorem dX5_firstFault_89 : decode cX5_firstFault 89 = .ok (.iconst 1, 1) := by decide +kernel
theorem dX5_firstFault_90 : decode cX5_firstFault 90 = .ok (.if_icmp .ne 6, 3) := by decide +kernel
theorem dX5_firstFault_93 : decode cX5_firstFault 93 = .ok (.iload 5, 2) := by decide +kernel
theorem dX5_firstFault_95 : decode cX5_firstFault 95 = .ok (.ireturn, 1) := by decide +kernel
theorem dX5_firstFault_96 : decode cX5_firstFault 96 = .ok (.iload_n 3, 1) := by decide +kernel
theorem dX5_firstFault_97 : decode cX5_firstFault 97 = .ok (.iconst 1, 1) := by decide +kernel
theorem dX5_firstFault_98 : decode cX5_firstFault 98 = .ok (.iload 6, 2) := by decide +kernel
theorem dX5_firstFault_100 : decode cX5_firstFault 100 = .ok (.ishl, 1) := by decide +kernel
theorem dX5_firstFault_101 : decode cX5_firstFault 101 = .ok (.ior, 1) := by decide +kernel
theorem dX5_firstFault_102 : decode cX5_firstFault 102 = .ok (.istore_n 3, 1) := by decide +kernel
theorem dX5_firstFault_103 : decode cX5_firstFault 103 = .ok (.iconst 1, 1) := by decide +kernel
theorem dX5_firstFault_104 : decode cX5_firstFault 104 = .ok (.istore 4, 2) := by decide +kernel
theorem dX5_firstFault_106 : decode cX5_firstFault 106 = .ok (.iinc 5 1, 3) := by decide +kernel
theorem dX5_firstFault_109 : decode cX5_firstFault 109 = .ok (.goto (-89), 3) := by decide +kernel
theorem dX5_firstFault_112 : decode cX5_firstFault 112 = .ok (.iload_n 3, 1) := by decide +kernel
theorem dX5_firstFault_113 : decode cX5_firstFault 113 = .ok (.iload_n 2, 1) := by decide +kernel
theorem dX5_firstFault_114 : decode cX5_firstFault 114 = .ok (.if_icmp .ne 8, 3) := by decide +kernel
theorem dX5_firstFault_117 : decode cX5_firstFault 117 = .ok (.bipush (-6), 2) := by decide +kernel
theorem dX5_firstFault_119 : decode cX5_firstFault 119 = .ok (.goto 7, 3) := by decide +kernel
theorem dX5_firstFault_122 : decode cX5_firstFault 122 = .ok (.aload_n 0, 1) := by decide +kernel
theorem dX5_firstFault_123 : decode cX5_firstFault 123 = .ok (.getfield 15, 3) := by decide +kernel
theorem dX5_firstFault_126 : decode cX5_firstFault 126 = .ok (.ireturn, 1) := by decide +kernel
theorem dX5_putInto_0 : decode cX5_putInto 0 = .ok (.iconst 0, 1) := by decide +kernel
theorem dX5_putInto_1 : decode cX5_putInto 1 = .ok (.istore_n 2, 1) := by decide +kernel
theorem dX5_putInto_2 : decode cX5_putInto 2 = .ok (.iconst 0, 1) := by decide +kernel
theorem dX5_putInto_3 : decode cX5_putInto 3 = .ok (.istore_n 3, 1) := by decide +kernel
theorem dX5_putInto_4 : decode cX5_putInto 4 = .ok (.iload_n 3, 1) := by decide +kernel
theorem dX5_putInto_5 : decode cX5_putInto 5 = .ok (.aload_n 0, 1) := by decide +kernel
theorem dX5_putInto_6 : decode cX5_putInto 6 = .ok (.getfield 15, 3) := by decide +kernel
theorem dX5_putInto_9 : decode cX5_putInto 9 = .ok (.if_icmp .ge 59, 3) := by decide +kernel
theorem dX5_putInto_12 : decode cX5_putInto 12 = .ok (.aload_n 0, 1) := by decide +kernel
theorem dX5_putInto_13 : decode cX5_putInto 13 = .ok (.getfield 9, 3) := by decide +kernel
theorem dX5_putInto_16 : decode cX5_putInto 16 = .ok (.iload_n 3, 1) := by decide +kernel
theorem dX5_putInto_17 : decode cX5_putInto 17 = .ok (.iaload, 1) := by decide +kernel
theorem dX5_putInto_18 : decode cX5_putInto 18 = .ok (.bipush 97, 2) := by decide +kernel
theorem dX5_putInto_20 : decode cX5_putInto 20 = .ok (.isub, 1) := by decide +kernel
theorem dX5_putInto_21 : decode cX5_putInto 21 = .ok (.istore 4, 2) := by decide +kernel
theorem dX5_putInto_23 : decode cX5_putInto 23 = .ok (.aload_n 0, 1) := by decide +kernel
theorem dX5_putInto_24 : decode cX5_putInto 24 = .ok (.getfield 9, 3) := by decide +kernel
theorem dX5_putInto_27 : decode cX5_putInto 27 = .ok (.iload_n 3, 1) := by decide +kernel
theorem dX5_putInto_28 : decode cX5_putInto 28 = .ok (.iaload, 1) := by decide +kernel
theorem dX5_putInto_29 : decode cX5_putInto 29 = .ok (.bipush 124, 2) := by decide +kernel
theorem dX5_putInto_31 : decode cX5_putInto 31 = .ok (.if_icmp .ne 9, 3) := by decide +kernel
theorem dX5_putInto_34 : decode cX5_putInto 34 = .ok (.iinc 2 1, 3) := by decide +kernel
theorem dX5_putInto_37 : decode cX5_putInto 37 = .ok (.goto 25, 3) := by decide +kernel
theorem dX5_putInto_40 : decode cX5_putInto 40 = .ok (.iload 4, 2) := by decide +kernel
theorem dX5_putInto_42 : decode cX5_putInto 42 = .ok (.ifCond .lt 20, 3) := by decide +kernel
theorem dX5_putInto_45 : decode cX5_putInto 45 = .ok (.iload 4, 2) := by decide +kernel
theorem dX5_putInto_47 : decode cX5_putInto 47 = .ok (.aload_n 1, 1) := by decide +kernel
theorem dX5_putInto_48 : decode cX5_putInto 48 = .ok (.getfield 19, 3) := by decide +kernel
theorem dX5_putInto_51 : decode cX5_putInto 51 = .ok (.if_icmp .ge 11, 3) := by decide +kernel
theorem dX5_putInto_54 : decode cX5_putInto 54 = .ok (.aload_n 1, 1) := by decide +kernel
theorem dX5_putInto_55 : decode cX5_putInto 55 = .ok (.getfield 22, 3) := by decide +kernel
theorem dX5_putInto_58 : decode cX5_putInto 58 = .ok (.iload 4, 2) := by decide +kernel
theorem dX5_putInto_60 : decode cX5_putInto 60 = .ok (.iload_n 2, 1) := by decide +kernel
theorem dX5_putInto_61 : decode cX5_putInto 61 = .ok (.iastore, 1) := by decide +kernel
theorem dX5_putInto_62 : decode cX5_putInto 62 = .ok (.iinc 3 1, 3) := by decide +kernel
theorem dX5_putInto_65 : decode cX5_putInto 65 = .ok (.goto (-61), 3) := by decide +kernel
theorem dX5_putInto_68 : decode cX5_putInto 68 = .ok (.aload_n 1, 1) := by decide +kernel
theorem dX5_putInto_69 : decode cX5_putInto 69 = .ok (.invokevirtual 25, 3) := by decide +kernel
theorem dX5_putInto_72 : decode cX5_putInto 72 = .ok (.return_, 1) := by decide +kernel
theorem dX6_init_0 : decode cX6_init 0 = .ok (.aload_n 0, 1) := by decide +kernel
theorem dX6_init_1 : decode cX6_init 1 = .ok (.invokespecial 3, 3) := by decide +kernel
theorem dX6_init_4 : decode cX6_init 4 = .ok (.aload_n 0, 1) := by decide +kernel
theorem dX6_init_5 : decode cX6_init 5 = .ok (.bipush 6, 2) := by decide +kernel
theorem dX6_init_7 : decode cX6_init 7 = .ok (.newarray .int, 2) := by decide +kernel
theorem dX6_init_9 : decode cX6_init 9 = .ok (.putfield 9, 3) := by decide +kernel
theorem dX6_init_12 : decode cX6_init 12 = .ok (.aload_n 0, 1) := by decide +kernel
theorem dX6_init_13 : decode cX6_init 13 = .ok (.bipush 6, 2) := by decide +kernel
theorem dX6_init_15 : decode cX6_init 15 = .ok (.newarray .int, 2) := by decide +kernel
theorem dX6_init_17 : decode cX6_init 17 = .ok (.putfield 15, 3) := by decide +kernel
theorem dX6_init_20 : decode cX6_init 20 = .ok (.return_, 1) := by decide +kernel
theorem dX6_addApart_0 : decode cX6_addApart 0 = .ok (.aload_n 0, 1) := by decide +kernel
theorem dX6_addApart_1 : decode cX6_addApart 1 = .ok (.getfield 9, 3) := by decide +kernel
theorem dX6_addApart_4 : decode cX6_addApart 4 = .ok (.aload_n 0, 1) := by decide +kernel
theorem dX6_addApart_5 : decode cX6_addApart 5 = .ok (.getfield 18, 3) := by decide +kernel
theorem dX6_addApart_8 : decode cX6_addApart 8 = .ok (.aload_n 0, 1) := by decide +kernel
theorem dX6_addApart_9 : decode cX6_addApart 9 = .ok (.getfield 22, 3) := by decide +kernel
theorem dX6_addApart_12 : decode cX6_addApart 12 = .ok (.iastore, 1) := by decide +kernel
theorem dX6_addApart_13 : decode cX6_addApart 13 = .ok (.aload_n 0, 1) := by decide +kernel
theorem dX6_addApart_14 : decode cX6_addApart 14 = .ok (.dup, 1) := by decide +kernel
theorem dX6_addApart_15 : decode cX6_addApart 15 = .ok (.getfield 18, 3) := by decide +kernel
theorem dX6_addApart_18 : decode cX6_addApart 18 = .ok (.iconst 1, 1) := by decide +kernel
theorem dX6_addApart_19 : decode cX6_addApart 19 = .ok (.iadd, 1) := by decide +kernel
theorem dX6_addApart_20 : decode cX6_addApart 20 = .ok (.putfield 18, 3) := by decide +kernel
theorem dX6_addApart_23 : decode cX6_addApart 23 = .ok (.aload_n 0, 1) := by decide +kernel
theorem dX6_addApart_24 : decode cX6_addApart 24 = .ok (.dup, 1) := by decide +kernel
theorem dX6_addApart_25 : decode cX6_addApart 25 = .ok (.getfield 22, 3) := by decide +kernel
theorem dX6_addApart_28 : decode cX6_addApart 28 = .ok (.iconst 1, 1) := by decide +kernel
theorem dX6_addApart_29 : decode cX6_addApart 29 = .ok (.iadd, 1) := by decide +kernel
theorem dX6_addApart_30 : decode cX6_addApart 30 = .ok (.putfield 22, 3) := by decide +kernel
theorem dX6_addApart_33 : decode cX6_addApart 33 = .ok (.return_, 1) := by decide +kernel
theorem dX6_putAllApart_0 : decode cX6_putAllApart 0 = .ok (.aload_n 0, 1) := by decide +kernel
theorem dX6_putAllApart_1 : decode cX6_putAllApart 1 = .ok (.iload_n 1, 1) := by decide +kernel
theorem dX6_putAllApart_2 : decode cX6_putAllApart 2 = .ok (.putfield 18, 3) := by decide +kernel
theorem dX6_putAllApart_5 : decode cX6_putAllApart 5 = .ok (.aload_n 0, 1) := by decide +kernel
theorem dX6_putAllApart_6 : decode cX6_putAllApart 6 = .ok (.iload_n 1, 1) := by decide +kernel
theorem dX6_putAllApart_7 : decode cX6_putAllApart 7 = .ok (.putfield 22, 3) := by decide +kernel
theorem dX6_putAllApart_10 : decode cX6_putAllApart 10 = .ok (.iconst 0, 1) := by decide +kernel
theorem dX6_putAllApart_11 : decode cX6_putAllApart 11 = .ok (.istore_n 2, 1) := by decide +kernel
theorem dX6_putAllApart_12 : decode cX6_putAllApart 12 = .ok (.iload_n 2, 1) := by decide +kernel
theorem dX6_putAllApart_13 : decode cX6_putAllApart 13 = .ok (.iload_n 1, 1) := by decide +kernel
theorem dX6_putAllApart_14 : decode cX6_putAllApart 14 = .ok (.if_icmp .ge 16, 3) := by decide +kernel
theorem dX6_putAllApart_17 : decode cX6_putAllApart 17 = .ok (.aload_n 0, 1) := by decide +kernel
theorem dX6_putAllApart_18 : decode cX6_putAllApart 18 = .ok (.getfield 9, 3) := by decide +kernel
theorem dX6_putAllApart_21 : decode cX6_putAllApart 21 = .ok (.iload_n 2, 1) := by decide +kernel
theorem dX6_putAllApart_22 : decode cX6_putAllApart 22 = .ok (.iload_n 2, 1) := by decide +kernel
theorem dX6_putAllApart_23 : decode cX6_putAllApart 23 = .ok (.iastore, 1) := by decide +kernel
theorem dX6_putAllApart_24 : decode cX6_putAllApart 24 = .ok (.iinc 2 1, 3) := by decide +kernel
theorem dX6_putAllApart_27 : decode cX6_putAllApart 27 = .ok (.goto (-15), 3) := by decide +kernel
theorem dX6_putAllApart_30 : decode cX6_putAllApart 30 = .ok (.return_, 1) := by decide +kernel
theorem dX6_putAllTogether_0 : decode cX6_putAllTogether 0 = .ok (.aload_n 0, 1) := by decide +kernel
theorem dX6_putAllTogether_1 : decode cX6_putAllTogether 1 = .ok (.iload_n 1, 1) := by decide +kernel
theorem dX6_putAllTogether_2 : decode cX6_putAllTogether 2 = .ok (.putfield 18, 3) := by decide +kernel
theorem dX6_putAllTogether_5 : decode cX6_putAllTogether 5 = .ok (.aload_n 0, 1) := by decide +kernel
theorem dX6_putAllTogether_6 : decode cX6_putAllTogether 6 = .ok (.iload_n 1, 1) := by decide +kernel
theorem dX6_putAllTogether_7 : decode cX6_putAllTogether 7 = .ok (.iconst 1, 1) := by decide +kernel
theorem dX6_putAllTogether_8 : decode cX6_putAllTogether 8 = .ok (.invokestatic 25, 3) := by decide +kernel
theorem dX6_putAllTogether_11 : decode cX6_putAllTogether 11 = .ok (.putfield 22, 3) := by decide +kernel
theorem dX6_putAllTogether_14 : decode cX6_putAllTogether 14 = .ok (.iconst 0, 1) := by decide +kernel
theorem dX6_putAllTogether_15 : decode cX6_putAllTogether 15 = .ok (.istore_n 2, 1) := by decide +kernel
theorem dX6_putAllTogether_16 : decode cX6_putAllTogether 16 = .ok (.iload_n 2, 1) := by decide +kernel
theorem dX6_putAllTogether_17 : decode cX6_putAllTogether 17 = .ok (.iload_n 1, 1) := by decide +kernel
theorem dX6_putAllTogether_18 : decode cX6_putAllTogether 18 = .ok (.if_icmp .ge 16, 3) := by decide +kernel
theorem dX6_putAllTogether_21 : decode cX6_putAllTogether 21 = .ok (.aload_n 0, 1) := by decide +kernel
theorem dX6_putAllTogether_22 : decode cX6_putAllTogether 22 = .ok (.getfield 9, 3) := by decide +kernel
theorem dX6_putAllTogether_25 : decode cX6_putAllTogether 25 = .ok (.iload_n 2, 1) := by decide +kernel
theorem dX6_putAllTogether_26 : decode cX6_putAllTogether 26 = .ok (.iconst 0, 1) := by decide +kernel
theorem dX6_putAllTogether_27 : decode cX6_putAllTogether 27 = .ok (.iastore, 1) := by decide +kernel
theorem dX6_putAllTogether_28 : decode cX6_putAllTogether 28 = .ok (.iinc 2 1, 3) := by decide +kernel
theorem dX6_putAllTogether_31 : decode cX6_putAllTogether 31 = .ok (.goto (-15), 3) := by decide +kernel
theorem dX6_putAllTogether_34 : decode cX6_putAllTogether 34 = .ok (.return_, 1) := by decide +kernel
theorem dX6_copy_0 : decode cX6_copy 0 = .ok (.aload_n 0, 1) := by decide +kernel
theorem dX6_copy_1 : decode cX6_copy 1 = .ok (.aload_n 1, 1) := by decide +kernel
theorem dX6_copy_2 : decode cX6_copy 2 = .ok (.getfield 18, 3) := by decide +kernel
theorem dX6_copy_5 : decode cX6_copy 5 = .ok (.putfield 18, 3) := by decide +kernel
theorem dX6_copy_8 : decode cX6_copy 8 = .ok (.aload_n 0, 1) := by decide +kernel
theorem dX6_copy_9 : decode cX6_copy 9 = .ok (.aload_n 1, 1) := by decide +kernel
theorem dX6_copy_10 : decode cX6_copy 10 = .ok (.getfield 22, 3) := by decide +kernel
theorem dX6_copy_13 : decode cX6_copy 13 = .ok (.putfield 22, 3) := by decide +kernel
theorem dX6_copy_16 : decode cX6_copy 16 = .ok (.iconst 0, 1) := by decide +kernel
theorem dX6_copy_17 : decode cX6_copy 17 = .ok (.istore_n 2, 1) := by decide +kernel
theorem dX6_copy_18 : decode cX6_copy 18 = .ok (.iload_n 2, 1) := by decide +kernel
theorem dX6_copy_19 : decode cX6_copy 19 = .ok (.aload_n 0, 1) := by decide +kernel
theorem dX6_copy_20 : decode cX6_copy 20 = .ok (.getfield 18, 3) := by decide +kernel
theorem dX6_copy_23 : decode cX6_copy 23 = .ok (.if_icmp .ge 21, 3) := by decide +kernel
theorem dX6_copy_26 : decode cX6_copy 26 = .ok (.aload_n 0, 1) := by decide +kernel
theorem dX6_copy_27 : decode cX6_copy 27 = .ok (.getfield 9, 3) := by decide +kernel
theorem dX6_copy_30 : decode cX6_copy 30 = .ok (.iload_n 2, 1) := by decide +kernel
theorem dX6_copy_31 : decode cX6_copy 31 = .ok (.aload_n 1, 1) := by decide +kernel
theorem dX6_copy_32 : decode cX6_copy 32 = .ok (.getfield 9, 3) := by decide +kernel
theorem dX6_copy_35 : decode cX6_copy 35 = .ok (.iload_n 2, 1) := by decide +kernel
theorem dX6_copy_36 : decode cX6_copy 36 = .ok (.iaload, 1) := by decide +kernel
theorem dX6_copy_37 : decode cX6_copy 37 = .ok (.iastore, 1) := by decide +kernel
theorem dX6_copy_38 : decode cX6_copy 38 = .ok (.iinc 2 1, 3) := by decide +kernel
theorem dX6_copy_41 : decode cX6_copy 41 = .ok (.goto (-23), 3) := by decide +kernel
theorem dX6_copy_44 : decode cX6_copy 44 = .ok (.return_, 1) := by decide +kernel
theorem dX6_leave_0 : decode cX6_leave 0 = .ok (.aload_n 0, 1) := by decide +kernel
theorem dX6_leave_1 : decode cX6_leave 1 = .ok (.getfield 9, 3) := by decide +kernel
theorem dX6_leave_4 : decode cX6_leave 4 = .ok (.iload_n 1, 1) := by decide +kernel
theorem dX6_leave_5 : decode cX6_leave 5 = .ok (.iconst (-1), 1) := by decide +kernel
theorem dX6_leave_6 : decode cX6_leave 6 = .ok (.iastore, 1) := by decide +kernel
theorem dX6_leave_7 : decode cX6_leave 7 = .ok (.aload_n 0, 1) := by decide +kernel
theorem dX6_leave_8 : decode cX6_leave 8 = .ok (.invokevirtual 31, 3) := by decide +kernel
theorem dX6_leave_11 : decode cX6_leave 11 = .ok (.return_, 1) := by decide +kernel
theorem dX6_move_0 : decode cX6_move 0 = .ok (.aload_n 0, 1) := by decide +kernel
theorem dX6_move_1 : decode cX6_move 1 = .ok (.getfield 9, 3) := by decide +kernel
theorem dX6_move_4 : decode cX6_move 4 = .ok (.iload_n 1, 1) := by decide +kernel
theorem dX6_move_5 : decode cX6_move 5 = .ok (.iload_n 2, 1) := by decide +kernel
theorem dX6_move_6 : decode cX6_move 6 = .ok (.iastore, 1) := by decide +kernel
theorem dX6_move_7 : decode cX6_move 7 = .ok (.aload_n 0, 1) := by decide +kernel
theorem dX6_move_8 : decode cX6_move 8 = .ok (.invokevirtual 31, 3) := by decide +kernel
theorem dX6_move_11 : decode cX6_move 11 = .ok (.return_, 1) := by decide +kernel
theorem dX6_gather_0 : decode cX6_gather 0 = .ok (.iconst 0, 1) := by decide +kernel
theorem dX6_gather_1 : decode cX6_gather 1 = .ok (.istore_n 2, 1) := by decide +kernel
theorem dX6_gather_2 : decode cX6_gather 2 = .ok (.iload_n 2, 1) := by decide +kernel
theorem dX6_gather_3 : decode cX6_gather 3 = .ok (.aload_n 0, 1) := by decide +kernel
theorem dX6_gather_4 : decode cX6_gather 4 = .ok (.getfield 18, 3) := by decide +kernel
theorem dX6_gather_7 : decode cX6_gather 7 = .ok (.if_icmp .ge 25, 3) := by decide +kernel
theorem dX6_gather_10 : decode cX6_gather 10 = .ok (.iload_n 1, 1) := by decide +kernel
theorem dX6_gather_11 : decode cX6_gather 11 = .ok (.iload_n 2, 1) := by decide +kernel
theorem dX6_gather_12 : decode cX6_gather 12 = .ok (.ishr, 1) := by decide +kernel
theorem dX6_gather_13 : decode cX6_gather 13 = .ok (.iconst 1, 1) := by decide +kernel
theorem dX6_gather_14 : decode cX6_gather 14 = .ok (.iand, 1) := by decide +kernel
theorem dX6_gather_15 : decode cX6_gather 15 = .ok (.iconst 1, 1) := by decide +kernel
theorem dX6_gather_16 : decode cX6_gather 16 = .ok (.if_icmp .ne 10, 3) := by decide +kernel
theorem dX6_gather_19 : decode cX6_gather 19 = .ok (.aload_n 0, 1) := by decide +kernel
theorem dX6_gather_20 : decode cX6_gather 20 = .ok (.getfield 9, 3) := by decide +kernel
theorem dX6_gather_23 : decode cX6_gather 23 = .ok (.iload_n 2, 1) := by decide +kernel
theorem dX6_gather_24 : decode cX6_gather 24 = .ok (.iconst (-1), 1) := by decide +kernel
theorem dX6_gather_25 : decode cX6_gather 25 = .ok (.iastore, 1) := by decide +kernel
theorem dX6_gather_26 : decode cX6_gather 26 = .ok (.iinc 2 1, 3) := by decide +kernel
theorem dX6_gather_29 : decode cX6_gather 29 = .ok (.goto (-27), 3) := by decide +kernel
theorem dX6_gather_32 : decode cX6_gather 32 = .ok (.aload_n 0, 1) := by decide +kernel
theorem dX6_gather_33 : decode cX6_gather 33 = .ok (.invokevirtual 31, 3) := by decide +kernel
theorem dX6_gather_36 : decode cX6_gather 36 = .ok (.return_, 1) := by decide +kernel
theorem dX6_scatter_0 : decode cX6_scatter 0 = .ok (.iconst 0, 1) := by decide +kernel
theorem dX6_scatter_1 : decode cX6_scatter 1 = .ok (.istore_n 2, 1) := by decide +kernel
theorem dX6_scatter_2 : decode cX6_scatter 2 = .ok (.iload_n 2, 1) := by decide +kernel
theorem dX6_scatter_3 : decode cX6_scatter 3 = .ok (.aload_n 0, 1) := by decide +kernel
theorem dX6_scatter_4 : decode cX6_scatter 4 = .ok (.getfield 18, 3) := by decide +kernel
theorem dX6_scatter_7 : decode cX6_scatter 7 = .ok (.if_icmp .ge 28, 3) := by decide +kernel
theorem dX6_scatter_10 : decode cX6_scatter 10 = .ok (.aload_n 0, 1) := by decide +kernel
theorem dX6_scatter_11 : decode cX6_scatter 11 = .ok (.getfield 9, 3) := by decide +kernel
theorem dX6_scatter_14 : decode cX6_scatter 14 = .ok (.iload_n 2, 1) := by decide +kernel
theorem dX6_scatter_15 : decode cX6_scatter 15 = .ok (.iaload, 1) := by decide +kernel
theorem dX6_scatter_16 : decode cX6_scatter 16 = .ok (.iload_n 1, 1) := by decide +kernel
theorem dX6_scatter_17 : decode cX6_scatter 17 = .ok (.if_icmp .ne 12, 3) := by decide +kernel
theorem dX6_scatter_20 : decode cX6_scatter 20 = .ok (.aload_n 0, 1) := by decide +kernel
theorem dX6_scatter_21 : decode cX6_scatter 21 = .ok (.getfield 9, 3) := by decide +kernel
theorem dX6_scatter_24 : decode cX6_scatter 24 = .ok (.iload_n 2, 1) := by decide +kernel
theorem dX6_scatter_25 : decode cX6_scatter 25 = .ok (.iconst (-1), 1) := by decide +kernel
theorem dX6_scatter_26 : decode cX6_scatter 26 = .ok (.iload_n 2, 1) := by decide +kernel
theorem dX6_scatter_27 : decode cX6_scatter 27 = .ok (.isub, 1) := by decide +kernel
theorem dX6_scatter_28 : decode cX6_scatter 28 = .ok (.iastore, 1) := by decide +kernel
theorem dX6_scatter_29 : decode cX6_scatter 29 = .ok (.iinc 2 1, 3) := by decide +kernel
theorem dX6_scatter_32 : decode cX6_scatter 32 = .ok (.goto (-30), 3) := by decide +kernel
theorem dX6_scatter_35 : decode cX6_scatter 35 = .ok (.aload_n 0, 1) := by decide +kernel
theorem dX6_scatter_36 : decode cX6_scatter 36 = .ok (.invokevirtual 31, 3) := by decide +kernel
theorem dX6_scatter_39 : decode cX6_scatter 39 = .ok (.return_, 1) := by decide +kernel
theorem dX6_number_0 : decode cX6_number 0 = .ok (.aload_n 0, 1) := by decide +kernel
theorem dX6_number_1 : decode cX6_number 1 = .ok (.iconst 0, 1) := by decide +kernel
theorem dX6_number_2 : decode cX6_number 2 = .ok (.putfield 22, 3) := by decide +kernel
theorem dX6_number_5 : decode cX6_number 5 = .ok (.iconst 0, 1) := by decide +kernel
theorem dX6_number_6 : decode cX6_number 6 = .ok (.istore_n 1, 1) := by decide +kernel
theorem dX6_number_7 : decode cX6_number 7 = .ok (.iload_n 1, 1) := by decide +kernel
theorem dX6_number_8 : decode cX6_number 8 = .ok (.aload_n 0, 1) := by decide +kernel
theorem dX6_number_9 : decode cX6_number 9 = .ok (.getfield 18, 3) := by decide +kernel
theorem dX6_number_12 : decode cX6_number 12 = .ok (.if_icmp .ge 55, 3) := by decide +kernel
theorem dX6_number_15 : decode cX6_number 15 = .ok (.aload_n 0, 1) := by decide +kernel
theorem dX6_number_16 : decode cX6_number 16 = .ok (.iload_n 1, 1) := by decide +kernel
theorem dX6_number_17 : decode cX6_number 17 = .ok (.invokevirtual 34, 3) := by decide +kernel
theorem dX6_number_20 : decode cX6_number 20 = .ok (.istore_n 2, 1) := by decide +kernel
theorem dX6_number_21 : decode cX6_number 21 = .ok (.iload_n 2, 1) := by decide +kernel
theorem dX6_number_22 : decode cX6_number 22 = .ok (.iload_n 1, 1) := by decide +kernel
theorem dX6_number_23 : decode cX6_number 23 = .ok (.if_icmp .ne 26, 3) := by decide +kernel
theorem dX6_number_26 : decode cX6_number 26 = .ok (.aload_n 0, 1) := by decide +kernel
theorem dX6_number_27 : decode cX6_number 27 = .ok (.getfield 15, 3) := by decide +kernel
theorem dX6_number_30 : decode cX6_number 30 = .ok (.iload_n 1, 1) := by decide +kernel
theorem dX6_number_31 : decode cX6_number 31 = .ok (.aload_n 0, 1) := by decide +kernel
theorem dX6_number_32 : decode cX6_number 32 = .ok (.getfield 22, 3) := by decide +kernel
theorem dX6_number_35 : decode cX6_number 35 = .ok (.iastore, 1) := by decide +kernel
theorem dX6_number_36 : decode cX6_number 36 = .ok (.aload_n 0, 1) := by decide +kernel
theorem dX6_number_37 : decode cX6_number 37 = .ok (.dup, 1) := by decide +kernel
theorem dX6_number_38 : decode cX6_number 38 = .ok (.getfield 22, 3) := by decide +kernel
theorem dX6_number_41 : decode cX6_number 41 = .ok (.iconst 1, 1) := by decide +kernel
theorem dX6_number_42 : decode cX6_number 42 = .ok (.iadd, 1) := by decide +kernel
theorem dX6_number_43 : decode cX6_number 43 = .ok (.putfield 22, 3) := by decide +kernel
theorem dX6_number_46 : decode cX6_number 46 = .ok (.goto 15, 3) := by decide +kernel
theorem dX6_number_49 : decode cX6_number 49 = .ok (.aload_n 0, 1) := by decide +kernel
theorem dX6_number_50 : decode cX6_number 50 = .ok (.getfield 15, 3) := by decide +kernel
theorem dX6_number_53 : decode cX6_number 53 = .ok (.iload_n 1, 1) := by decide +kernel
theorem dX6_number_54 : decode cX6_number 54 = .ok (.aload_n 0, 1) := by decide +kernel
theorem dX6_number_55 : decode cX6_number 55 = .ok (.getfield 15, 3) := by decide +kernel
theorem dX6_number_58 : decode cX6_number 58 = .ok (.iload_n 2, 1) := by decide +kernel
theorem dX6_number_59 : decode cX6_number 59 = .ok (.iaload, 1) := by decide +kernel
theorem dX6_number_60 : decode cX6_number 60 = .ok (.iastore, 1) := by decide +kernel
theorem dX6_number_61 : decode cX6_number 61 = .ok (.iinc 1 1, 3) := by decide +kernel
theorem dX6_number_64 : decode cX6_number 64 = .ok (.goto (-57), 3) := by decide +kernel
theorem dX6_number_67 : decode cX6_number 67 = .ok (.iconst 0, 1) := by decide +kernel
theorem dX6_number_68 : decode cX6_number 68 = .ok (.istore_n 1, 1) := by decide +kernel
theorem dX6_number_69 : decode cX6_number 69 = .ok (.iload_n 1, 1) := by decide +kernel
theorem dX6_number_70 : decode cX6_number 70 = .ok (.aload_n 0, 1) := by decide +kernel
theorem dX6_number_71 : decode cX6_number 71 = .ok (.getfield 18, 3) := by decide +kernel
theorem dX6_number_74 : decode cX6_number 74 = .ok (.if_icmp .ge 21, 3) := by decide +kernel
theorem dX6_number_77 : decode cX6_number 77 = .ok (.aload_n 0, 1) := by decide +kernel
theorem dX6_number_78 : decode cX6_number 78 = .ok (.getfield 9, 3) := by decide +kernel
theorem dX6_number_81 : decode cX6_number 81 = .ok (.iload_n 1, 1) := by decide +kernel
theorem dX6_number_82 : decode cX6_number 82 = .ok (.aload_n 0, 1) := by decide +kernel
theorem dX6_number_83 : decode cX6_number 83 = .ok (.getfield 15, 3) := by decide +kernel
theorem dX6_number_86 : decode cX6_number 86 = .ok (.iload_n 1, 1) := by decide +kernel
theorem dX6_number_87 : decode cX6_number 87 = .ok (.iaload, 1) := by decide +kernel
theorem dX6_number_88 : decode cX6_number 88 = .ok (.iastore, 1) := by decide +kernel
theorem dX6_number_89 : decode cX6_number 89 = .ok (.iinc 1 1, 3) := by decide +kernel
theorem dX6_number_92 : decode cX6_number 92 = .ok (.goto (-23), 3) := by decide +kernel
theorem dX6_number_95 : decode cX6_number 95 = .ok (.return_, 1) := by decide +kernel
theorem dX6_firstLike_0 : decode cX6_firstLike 0 = .ok (.iconst 0, 1) := by decide +kernel
theorem dX6_firstLike_1 : decode cX6_firstLike 1 = .ok (.istore_n 2, 1) := by decide +kernel
theorem dX6_firstLike_2 : decode cX6_firstLike 2 = .ok (.iload_n 2, 1) := by decide +kernel
theorem dX6_firstLike_3 : decode cX6_firstLike 3 = .ok (.iload_n 1, 1) := by decide +kernel
theorem dX6_firstLike_4 : decode cX6_firstLike 4 = .ok (.if_icmp .ge 26, 3) := by decide +kernel
theorem dX6_firstLike_7 : decode cX6_firstLike 7 = .ok (.aload_n 0, 1) := by decide +kernel
theorem dX6_firstLike_8 : decode cX6_firstLike 8 = .ok (.getfield 9, 3) := by decide +kernel
theorem dX6_firstLike_11 : decode cX6_firstLike 11 = .ok (.iload_n 2, 1) := by decide +kernel
theorem dX6_firstLike_12 : decode cX6_firstLike 12 = .ok (.iaload, 1) := by decide +kernel
theorem dX6_firstLike_13 : decode cX6_firstLike 13 = .ok (.aload_n 0, 1) := by decide +kernel
theorem dX6_firstLike_14 : decode cX6_firstLike 14 = .ok (.getfield 9, 3) := by decide +kernel
theorem dX6_firstLike_17 : decode cX6_firstLike 17 = .ok (.iload_n 1, 1) := by decide +kernel
theorem dX6_firstLike_18 : decode cX6_firstLike 18 = .ok (.iaload, 1) := by decide +kernel
theorem dX6_firstLike_19 : decode cX6_firstLike 19 = .ok (.if_icmp .ne 5, 3) := by decide +kernel
theorem dX6_firstLike_22 : decode cX6_firstLike 22 = .ok (.iload_n 2, 1) := by decide +kernel
theorem dX6_firstLike_23 : decode cX6_firstLike 23 = .ok (.ireturn, 1) := by decide +kernel
theorem dX6_firstLike_24 : decode cX6_firstLike 24 = .ok (.iinc 2 1, 3) := by decide +kernel
theorem dX6_firstLike_27 : decode cX6_firstLike 27 = .ok (.goto (-25), 3) := by decide +kernel
theorem dX6_firstLike_30 : decode cX6_firstLike 30 = .ok (.iload_n 1, 1) := by decide +kernel
theorem dX6_firstLike_31 : decode cX6_firstLike 31 = .ok (.ireturn, 1) := by decide +kernel
theorem dX6_advance_0 : decode cX6_advance 0 = .ok (.aload_n 0, 1) := by decide +kernel
theorem dX6_advance_1 : decode cX6_advance 1 = .ok (.getfield 18, 3) := by decide +kernel
theorem dX6_advance_4 : decode cX6_advance 4 = .ok (.iconst 1, 1) := by decide +kernel
theorem dX6_advance_5 : decode cX6_advance 5 = .ok (.isub, 1) := by decide +kernel
theorem dX6_advance_6 : decode cX6_advance 6 = .ok (.istore_n 1, 1) := by decide +kernel
theorem dX6_advance_7 : decode cX6_advance 7 = .ok (.iload_n 1, 1) := by decide +kernel
theorem dX6_advance_8 : decode cX6_advance 8 = .ok (.ifCond .le 73, 3) := by decide +kernel
theorem dX6_advance_11 : decode cX6_advance 11 = .ok (.aload_n 0, 1) := by decide +kernel
theorem dX6_advance_12 : decode cX6_advance 12 = .ok (.iload_n 1, 1) := by decide +kernel
theorem dX6_advance_13 : decode cX6_advance 13 = .ok (.invokevirtual 38, 3) := by decide +kernel
theorem dX6_advance_16 : decode cX6_advance 16 = .ok (.istore_n 2, 1) := by decide +kernel
theorem dX6_advance_17 : decode cX6_advance 17 = .ok (.aload_n 0, 1) := by decide +kernel
theorem dX6_advance_18 : decode cX6_advance 18 = .ok (.getfield 9, 3) := by decide +kernel
theorem dX6_advance_21 : decode cX6_advance 21 = .ok (.iload_n 1, 1) := by decide +kernel
theorem dX6_advance_22 : decode cX6_advance 22 = .ok (.iaload, 1) := by decide +kernel
theorem dX6_advance_23 : decode cX6_advance 23 = .ok (.iload_n 2, 1) := by decide +kernel
theorem dX6_advance_24 : decode cX6_advance 24 = .ok (.if_icmp .ge 51, 3) := by decide +kernel
theorem dX6_advance_27 : decode cX6_advance 27 = .ok (.aload_n 0, 1) := by decide +kernel
theorem dX6_advance_28 : decode cX6_advance 28 = .ok (.getfield 9, 3) := by decide +kernel
theorem dX6_advance_31 : decode cX6_advance 31 = .ok (.iload_n 1, 1) := by decide +kernel
theorem dX6_advance_32 : decode cX6_advance 32 = .ok (.dup2, 1) := by decide +kernel
theorem dX6_advance_33 : decode cX6_advance 33 = .ok (.iaload, 1) := by decide +kernel
theorem dX6_advance_34 : decode cX6_advance 34 = .ok (.iconst 1, 1) := by decide +kernel
theorem dX6_advance_35 : decode cX6_advance 35 = .ok (.iadd, 1) := by decide +kernel
theorem dX6_advance_36 : decode cX6_advance 36 = .ok (.iastore, 1) := by decide +kernel
theorem dX6_advance_37 : decode cX6_advance 37 = .ok (.iload_n 1, 1) := by decide +kernel
theorem dX6_advance_38 : decode cX6_advance 38 = .ok (.iconst 1, 1) := by decide +kernel
theorem dX6_advance_39 : decode cX6_advance 39 = .ok (.iadd, 1) := by decide +kernel
theorem dX6_advance_40 : decode cX6_advance 40 = .ok (.istore_n 3, 1) := by decide +kernel
theorem dX6_advance_41 : decode cX6_advance 41 = .ok (.iload_n 3, 1) := by decide +kernel
theorem dX6_advance_42 : decode cX6_advance 42 = .ok (.aload_n 0, 1) := by decide +kernel
theorem dX6_advance_43 : decode cX6_advance 43 = .ok (.getfield 18, 3) := by decide +kernel
theorem dX6_advance_46 : decode cX6_advance 46 = .ok (.if_icmp .ge 16, 3) := by decide +kernel
theorem dX6_advance_49 : decode cX6_advance 49 = .ok (.aload_n 0, 1) := by decide +kernel
theorem dX6_advance_50 : decode cX6_advance 50 = .ok (.getfield 9, 3) := by decide +kernel
theorem dX6_advance_53 : decode cX6_advance 53 = .ok (.iload_n 3, 1) := by decide +kernel
theorem dX6_advance_54 : decode cX6_advance 54 = .ok (.iconst 0, 1) := by decide +kernel
theorem dX6_advance_55 : decode cX6_advance 55 = .ok (.iastore, 1) := by decide +kernel
theorem dX6_advance_56 : decode cX6_advance 56 = .ok (.iinc 3 1, 3) := by decide +kernel
theorem dX6_advance_59 : decode cX6_advance 59 = .ok (.goto (-18), 3) := by decide +kernel
theorem dX6_advance_62 : decode cX6_advance 62 = .ok (.aload_n 0, 1) := by decide +kernel
theorem dX6_advance_63 : decode cX6_advance 63 = .ok (.aload_n 0, 1) := by decide +kernel
theorem dX6_advance_64 : decode cX6_advance 64 = .ok (.aload_n 0, 1) := by decide +kernel
theorem dX6_advance_65 : decode cX6_advance 65 = .ok (.getfield 18, 3) := by decide +kernel
theorem dX6_advance_68 : decode cX6_advance 68 = .ok (.invokevirtual 38, 3) := by decide +kernel
theorem dX6_advance_71 : decode cX6_advance 71 = .ok (.putfield 22, 3) := by decide +kernel
theorem dX6_advance_74 : decode cX6_advance 74 = .ok (.return_, 1) := by decide +kernel
theorem dX6_advance_75 : decode cX6_advance 75 = .ok (.iinc 1 (-1), 3) := by decide +kernel
theorem dX6_advance_78 : decode cX6_advance 78 = .ok (.goto (-71), 3) := by decide +kernel
theorem dX6_advance_81 : decode cX6_advance 81 = .ok (.return_, 1) := by decide +kernel
theorem dX6_unionsAhead_0 : decode cX6_unionsAhead 0 = .ok (.iconst (-1), 1) := by decide +kernel
theorem dX6_unionsAhead_1 : decode cX6_unionsAhead 1 = .ok (.istore_n 2, 1) := by decide +kernel
theorem dX6_unionsAhead_2 : decode cX6_unionsAhead 2 = .ok (.iconst 0, 1) := by decide +kernel
theorem dX6_unionsAhead_3 : decode cX6_unionsAhead 3 = .ok (.istore_n 3, 1) := by decide +kernel
theorem dX6_unionsAhead_4 : decode cX6_unionsAhead 4 = .ok (.iload_n 3, 1) := by decide +kernel
theorem dX6_unionsAhead_5 : decode cX6_unionsAhead 5 = .ok (.iload_n 1, 1) := by decide +kernel
theorem dX6_unionsAhead_6 : decode cX6_unionsAhead 6 = .ok (.if_icmp .ge 20, 3) := by decide +kernel
theorem dX6_unionsAhead_9 : decode cX6_unionsAhead 9 = .ok (.iload_n 2, 1) := by decide +kernel
theorem dX6_unionsAhead_10 : decode cX6_unionsAhead 10 = .ok (.aload_n 0, 1) := by decide +kernel
theorem dX6_unionsAhead_11 : decode cX6_unionsAhead 11 = .ok (.getfield 9, 3) := by decide +kernel
theorem dX6_unionsAhead_14 : decode cX6_unionsAhead 14 = .ok (.iload_n 3, 1) := by decide +kernel
theorem dX6_unionsAhead_15 : decode cX6_unionsAhead 15 = .ok (.iaload, 1) := by decide +kernel
theorem dX6_unionsAhead_16 : decode cX6_unionsAhead 16 = .ok (.invokestatic 41, 3) := by decide +kernel
theorem dX6_unionsAhead_19 : decode cX6_unionsAhead 19 = .ok (.istore_n 2, 1) := by decide +kernel
theorem dX6_unionsAhead_20 : decode cX6_unionsAhead 20 = .ok (.iinc 3 1, 3) := by decide +kernel
theorem dX6_unionsAhead_23 : decode cX6_unionsAhead 23 = .ok (.goto (-19), 3) := by decide +kernel
theorem dX6_unionsAhead_26 : decode cX6_unionsAhead 26 = .ok (.iload_n 2, 1) := by decide +kernel
theorem dX6_unionsAhead_27 : decode cX6_unionsAhead 27 = .ok (.iconst 1, 1) := by decide +kernel
theorem dX6_unionsAhead_28 : decode cX6_unionsAhead 28 = .ok (.iadd, 1) := by decide +kernel
theorem dX6_unionsAhead_29 : decode cX6_unionsAhead 29 = .ok (.ireturn, 1) := by decide +kernel
theorem dX6_place_0 : decode cX6_place 0 = .ok (.iconst 0, 1) := by decide +kernel
theorem dX6_place_1 : decode cX6_place 1 = .ok (.istore_n 1, 1) := by decide +kernel
theorem dX6_place_2 : decode cX6_place 2 = .ok (.iconst 0, 1) := by decide +kernel
theorem dX6_place_3 : decode cX6_place 3 = .ok (.istore_n 2, 1) := by decide +kernel
theorem dX6_place_4 : decode cX6_place 4 = .ok (.iconst 0, 1) := by decide +kernel
theorem dX6_place_5 : decode cX6_place 5 = .ok (.istore_n 3, 1) := by decide +kernel
theorem dX6_place_6 : decode cX6_place 6 = .ok (.iload_n 3, 1) := by decide +kernel
theorem dX6_place_7 : decode cX6_place 7 = .ok (.aload_n 0, 1) := by decide +kernel
theorem dX6_place_8 : decode cX6_place 8 = .ok (.getfield 18, 3) := by decide +kernel
theorem dX6_place_11 : decode cX6_place 11 = .ok (.if_icmp .ge 49, 3) := by decide +kernel
theorem dX6_place_14 : decode cX6_place 14 = .ok (.iload_n 1, 1) := by decide +kernel
theorem dX6_place_15 : decode cX6_place 15 = .ok (.aload_n 0, 1) := by decide +kernel
theorem dX6_place_16 : decode cX6_place 16 = .ok (.getfield 9, 3) := by decide +kernel
theorem dX6_place_19 : decode cX6_place 19 = .ok (.iload_n 3, 1) := by decide +kernel
theorem dX6_place_20 : decode cX6_place 20 = .ok (.iaload, 1) := by decide +kernel
theorem dX6_place_21 : decode cX6_place 21 = .ok (.getstatic 44, 3) := by decide +kernel
theorem dX6_place_24 : decode cX6_place 24 = .ok (.aload_n 0, 1) := by decide +kernel
theorem dX6_place_25 : decode cX6_place 25 = .ok (.getfield 18, 3) := by decide +kernel
theorem dX6_place_28 : decode cX6_place 28 = .ok (.iconst 1, 1) := by decide +kernel
theorem dX6_place_29 : decode cX6_place 29 = .ok (.isub, 1) := by decide +kernel
theorem dX6_place_30 : decode cX6_place 30 = .ok (.iload_n 3, 1) := by decide +kernel
theorem dX6_place_31 : decode cX6_place 31 = .ok (.isub, 1) := by decide +kernel
theorem dX6_place_32 : decode cX6_place 32 = .ok (.bipush 6, 2) := by decide +kernel
theorem dX6_place_34 : decode cX6_place 34 = .ok (.imul, 1) := by decide +kernel
theorem dX6_place_35 : decode cX6_place 35 = .ok (.iload_n 2, 1) := by decide +kernel
theorem dX6_place_36 : decode cX6_place 36 = .ok (.iadd, 1) := by decide +kernel
theorem dX6_place_37 : decode cX6_place 37 = .ok (.iaload, 1) := by decide +kernel
theorem dX6_place_38 : decode cX6_place 38 = .ok (.imul, 1) := by decide +kernel
theorem dX6_place_39 : decode cX6_place 39 = .ok (.iadd, 1) := by decide +kernel
theorem dX6_place_40 : decode cX6_place 40 = .ok (.istore_n 1, 1) := by decide +kernel
theorem dX6_place_41 : decode cX6_place 41 = .ok (.aload_n 0, 1) := by decide +kernel
theorem dX6_place_42 : decode cX6_place 42 = .ok (.getfield 9, 3) := by decide +kernel
theorem dX6_place_45 : decode cX6_place 45 = .ok (.iload_n 3, 1) := by decide +kernel
theorem dX6_place_46 : decode cX6_place 46 = .ok (.iaload, 1) := by decide +kernel
theorem dX6_place_47 : decode cX6_place 47 = .ok (.iload_n 2, 1) := by decide +kernel
theorem dX6_place_48 : decode cX6_place 48 = .ok (.if_icmp .ne 6, 3) := by decide +kernel
theorem dX6_place_51 : decode cX6_place 51 = .ok (.iinc 2 1, 3) := by decide +kernel
theorem dX6_place_54 : decode cX6_place 54 = .ok (.iinc 3 1, 3) := by decide +kernel
theorem dX6_place_57 : decode cX6_place 57 = .ok (.goto (-51), 3) := by decide +kernel
theorem dX6_place_60 : decode cX6_place 60 = .ok (.iload_n 1, 1) := by decide +kernel
theorem dX6_place_61 : decode cX6_place 61 = .ok (.ireturn, 1) := by decide +kernel
theorem dX7_init_0 : decode cX7_init 0 = .ok (.aload_n 0, 1) := by decide +kernel
theorem dX7_init_1 : decode cX7_init 1 = .ok (.invokespecial 3, 3) := by decide +kernel
theorem dX7_init_4 : decode cX7_init 4 = .ok (.aload_n 0, 1) := by decide +kernel
theorem dX7_init_5 : decode cX7_init 5 = .ok (.sipush 609, 3) := by decide +kernel
theorem dX7_init_8 : decode cX7_init 8 = .ok (.newarray .int, 2) := by decide +kernel
theorem dX7_init_10 : decode cX7_init 10 = .ok (.putfield 9, 3) := by decide +kernel
theorem dX7_init_13 : decode cX7_init 13 = .ok (.aload_n 0, 1) := by decide +kernel
theorem dX7_init_14 : decode cX7_init 14 = .ok (.sipush 609, 3) := by decide +kernel
theorem dX7_init_17 : decode cX7_init 17 = .ok (.newarray .int, 2) := by decide +kernel
theorem dX7_init_19 : decode cX7_init 19 = .ok (.putfield 15, 3) := by decide +kernel
theorem dX7_init_22 : decode cX7_init 22 = .ok (.return_, 1) := by decide +kernel
theorem dX7_firstBreaker_0 : decode cX7_firstBreaker 0 = .ok (.iload_n 2, 1) := by decide +kernel
theorem dX7_firstBreaker_1 : decode cX7_firstBreaker 1 = .ok (.sipush 203, 3) := by decide +kernel
theorem dX7_firstBreaker_4 : decode cX7_firstBreaker 4 = .ok (.imul, 1) := by decide +kernel
theorem dX7_firstBreaker_5 : decode cX7_firstBreaker 5 = .ok (.aload_n 3, 1) := by decide +kernel
theorem dX7_firstBreaker_6 : decode cX7_firstBreaker 6 = .ok (.invokevirtual 18, 3) := by decide +kernel
theorem dX7_firstBreaker_9 : decode cX7_firstBreaker 9 = .ok (.iadd, 1) := by decide +kernel
theorem dX7_firstBreaker_10 : decode cX7_firstBreaker 10 = .ok (.istore 4, 2) := by decide +kernel
theorem dX7_firstBreaker_12 : decode cX7_firstBreaker 12 = .ok (.aload_n 0, 1) := by decide +kernel
theorem dX7_firstBreaker_13 : decode cX7_firstBreaker 13 = .ok (.getfield 9, 3) := by decide +kernel
theorem dX7_firstBreaker_16 : decode cX7_firstBreaker 16 = .ok (.iload 4, 2) := by decide +kernel
theorem dX7_firstBreaker_18 : decode cX7_firstBreaker 18 = .ok (.iaload, 1) := by decide +kernel
theorem dX7_firstBreaker_19 : decode cX7_firstBreaker 19 = .ok (.aload_n 1, 1) := by decide +kernel
theorem dX7_firstBreaker_20 : decode cX7_firstBreaker 20 = .ok (.getfield 24, 3) := by decide +kernel
theorem dX7_firstBreaker_23 : decode cX7_firstBreaker 23 = .ok (.getfield 30, 3) := by decide +kernel
theorem dX7_firstBreaker_26 : decode cX7_firstBreaker 26 = .ok (.if_icmp .eq 65, 3) := by decide +kernel
theorem dX7_firstBreaker_29 : decode cX7_firstBreaker 29 = .ok (.iload_n 2, 1) := by decide +kernel
theorem dX7_firstBreaker_30 : decode cX7_firstBreaker 30 = .ok (.iconst 2, 1) := by decide +kernel
theorem dX7_firstBreaker_31 : decode cX7_firstBreaker 31 = .ok (.if_icmp .ne 11, 3) := by decide +kernel
theorem dX7_firstBreaker_34 : decode cX7_firstBreaker 34 = .ok (.aload_n 1, 1) := by decide +kernel
theorem dX7_firstBreaker_35 : decode cX7_firstBreaker 35 = .ok (.aload_n 3, 1) := by decide +kernel
theorem dX7_firstBreaker_36 : decode cX7_firstBreaker 36 = .ok (.invokevirtual 36, 3) := by decide +kernel
theorem dX7_firstBreaker_39 : decode cX7_firstBreaker 39 = .ok (.goto 8, 3) := by decide +kernel
theorem dX7_firstBreaker_42 : decode cX7_firstBreaker 42 = .ok (.aload_n 1, 1) := by decide +kernel
theorem dX7_firstBreaker_43 : decode cX7_firstBreaker 43 = .ok (.aload_n 3, 1) := by decide +kernel
theorem dX7_firstBreaker_44 : decode cX7_firstBreaker 44 = .ok (.invokevirtual 40, 3) := by decide +kernel
theorem dX7_firstBreaker_47 : decode cX7_firstBreaker 47 = .ok (.istore 5, 2) := by decide +kernel
theorem dX7_firstBreaker_49 : decode cX7_firstBreaker 49 = .ok (.iload_n 2, 1) := by decide +kernel
theorem dX7_firstBreaker_50 : decode cX7_firstBreaker 50 = .ok (.iconst 1, 1) := by decide +kernel
theorem dX7_firstBreaker_51 : decode cX7_firstBreaker 51 = .ok (.if_icmp .ne 17, 3) := by decide +kernel
theorem dX7_firstBreaker_54 : decode cX7_firstBreaker 54 = .ok (.iload 5, 2) := by decide +kernel
theorem dX7_firstBreaker_56 : decode cX7_firstBreaker 56 = .ok (.bipush (-6), 2) := by decide +kernel
theorem dX7_firstBreaker_58 : decode cX7_firstBreaker 58 = .ok (.if_icmp .ne 10, 3) := by decide +kernel
theorem dX7_firstBreaker_61 : decode cX7_firstBreaker 61 = .ok (.aload_n 1, 1) := by decide +kernel
theorem dX7_firstBreaker_62 : decode cX7_firstBreaker 62 = .ok (.aload_n 3, 1) := by decide +kernel
theorem dX7_firstBreaker_63 : decode cX7_firstBreaker 63 = .ok (.invokevirtual 43, 3) := by decide +kernel
theorem dX7_firstBreaker_66 : decode cX7_firstBreaker 66 = .ok (.istore 5, 2) := by decide +kernel
theorem dX7_firstBreaker_68 : decode cX7_firstBreaker 68 = .ok (.aload_n 0, 1) := by decide +kernel
theorem dX7_firstBreaker_69 : decode cX7_firstBreaker 69 = .ok (.getfield 15, 3) := by decide +kernel
theorem dX7_firstBreaker_72 : decode cX7_firstBreaker 72 = .ok (.iload 4, 2) := by decide +kernel
theorem dX7_firstBreaker_74 : decode cX7_firstBreaker 74 = .ok (.iload 5, 2) := by decide +kernel
theorem dX7_firstBreaker_76 : decode cX7_firstBreaker 76 = .ok (.iastore, 1) := by decide +kernel
theorem dX7_firstBreaker_77 : decode cX7_firstBreaker 77 = .ok (.aload_n 0, 1) := by decide +kernel
theorem dX7_firstBreaker_78 : decode cX7_firstBreaker 78 = .ok (.getfield 9, 3) := by decide +kernel
theorem dX7_firstBreaker_81 : decode cX7_firstBreaker 81 = .ok (.iload 4, 2) := by decide +kernel
theorem dX7_firstBreaker_83 : decode cX7_firstBreaker 83 = .ok (.aload_n 1, 1) := by decide +kernel
theorem dX7_firstBreaker_84 : decode cX7_firstBreaker 84 = .ok (.getfield 24, 3) := by decide +kernel
theorem dX7_firstBreaker_87 : decode cX7_firstBreaker 87 = .ok (.getfield 30, 3) := by decide +kernel
theorem dX7_firstBreaker_90 : decode cX7_firstBreaker 90 = .ok (.iastore, 1) := by decide +kernel
theorem dX7_firstBreaker_91 : decode cX7_firstBreaker 91 = .ok (.aload_n 0, 1) := by decide +kernel
theorem dX7_firstBreaker_92 : decode cX7_firstBreaker 92 = .ok (.getfield 15, 3) := by decide +kernel
theorem dX7_firstBreaker_95 : decode cX7_firstBreaker 95 = .ok (.iload 4, 2) := by decide +kernel
theorem dX7_firstBreaker_97 : decode cX7_firstBreaker 97 = .ok (.iaload, 1) := by decide +kernel
theorem dX7_firstBreaker_98 : decode cX7_firstBreaker 98 = .ok (.ireturn, 1) := by decide +kernel
end
section
theorem dX8_init_0 : decode cX8_init 0 = .ok (.aload_n 0, 1) := by decide +kernel
theorem dX8_init_1 : decode cX8_init 1 = .ok (.invokespecial 1, 3) := by decide +kernel
theorem dX8_init_4 : decode cX8_init 4 = .ok (.aload_n 0, 1) := by decide +kernel
theorem dX8_init_5 : decode cX8_init 5 = .ok (.new 7, 3) := by decide +kernel
theorem dX8_init_8 : decode cX8_init 8 = .ok (.dup, 1) := by decide +kernel
theorem dX8_init_9 : decode cX8_init 9 = .ok (.invokespecial 9, 3) := by decide +kernel
theorem dX8_init_12 : decode cX8_init 12 = .ok (.putfield 10, 3) := by decide +kernel
theorem dX8_init_15 : decode cX8_init 15 = .ok (.aload_n 0, 1) := by decide +kernel
theorem dX8_init_16 : decode cX8_init 16 = .ok (.new 7, 3) := by decide +kernel
theorem dX8_init_19 : decode cX8_init 19 = .ok (.dup, 1) := by decide +kernel
theorem dX8_init_20 : decode cX8_init 20 = .ok (.invokespecial 9, 3) := by decide +kernel
theorem dX8_init_23 : decode cX8_init 23 = .ok (.putfield 16, 3) := by decide +kernel
theorem dX8_init_26 : decode cX8_init 26 = .ok (.aload_n 0, 1) := by decide +kernel
theorem dX8_init_27 : decode cX8_init 27 = .ok (.aload_n 0, 1) := by decide +kernel
theorem dX8_init_28 : decode cX8_init 28 = .ok (.getfield 10, 3) := by decide +kernel
theorem dX8_init_31 : decode cX8_init 31 = .ok (.getfield 19, 3) := by decide +kernel
theorem dX8_init_34 : decode cX8_init 34 = .ok (.putfield 23, 3) := by decide +kernel
theorem dX8_init_37 : decode cX8_init 37 = .ok (.aload_n 0, 1) := by decide +kernel
theorem dX8_init_38 : decode cX8_init 38 = .ok (.aload_n 0, 1) := by decide +kernel
theorem dX8_init_39 : decode cX8_init 39 = .ok (.getfield 10, 3) := by decide +kernel
theorem dX8_init_42 : decode cX8_init 42 = .ok (.getfield 24, 3) := by decide +kernel
theorem dX8_init_45 : decode cX8_init 45 = .ok (.putfield 28, 3) := by decide +kernel
theorem dX8_init_48 : decode cX8_init 48 = .ok (.aload_n 0, 1) := by decide +kernel
theorem dX8_init_49 : decode cX8_init 49 = .ok (.new 29, 3) := by decide +kernel
theorem dX8_init_52 : decode cX8_init 52 = .ok (.dup, 1) := by decide +kernel
theorem dX8_init_53 : decode cX8_init 53 = .ok (.invokespecial 31, 3) := by decide +kernel
theorem dX8_init_56 : decode cX8_init 56 = .ok (.putfield 32, 3) := by decide +kernel
theorem dX8_init_59 : decode cX8_init 59 = .ok (.aload_n 0, 1) := by decide +kernel
theorem dX8_init_60 : decode cX8_init 60 = .ok (.new 36, 3) := by decide +kernel
theorem dX8_init_63 : decode cX8_init 63 = .ok (.dup, 1) := by decide +kernel
theorem dX8_init_64 : decode cX8_init 64 = .ok (.invokespecial 38, 3) := by decide +kernel
theorem dX8_init_67 : decode cX8_init 67 = .ok (.putfield 39, 3) := by decide +kernel
theorem dX8_init_70 : decode cX8_init 70 = .ok (.aload_n 0, 1) := by decide +kernel
theorem dX8_init_71 : decode cX8_init 71 = .ok (.new 43, 3) := by decide +kernel
theorem dX8_init_74 : decode cX8_init 74 = .ok (.dup, 1) := by decide +kernel
theorem dX8_init_75 : decode cX8_init 75 = .ok (.invokespecial 45, 3) := by decide +kernel
theorem dX8_init_78 : decode cX8_init 78 = .ok (.putfield 46, 3) := by decide +kernel
theorem dX8_init_81 : decode cX8_init 81 = .ok (.aload_n 0, 1) := by decide +kernel
theorem dX8_init_82 : decode cX8_init 82 = .ok (.new 50, 3) := by decide +kernel
theorem dX8_init_85 : decode cX8_init 85 = .ok (.dup, 1) := by decide +kernel
theorem dX8_init_86 : decode cX8_init 86 = .ok (.invokespecial 52, 3) := by decide +kernel
theorem dX8_init_89 : decode cX8_init 89 = .ok (.putfield 53, 3) := by decide +kernel
theorem dX8_init_92 : decode cX8_init 92 = .ok (.aload_n 0, 1) := by decide +kernel
theorem dX8_init_93 : decode cX8_init 93 = .ok (.new 57, 3) := by decide +kernel
theorem dX8_init_96 : decode cX8_init 96 = .ok (.dup, 1) := by decide +kernel
theorem dX8_init_97 : decode cX8_init 97 = .ok (.invokespecial 59, 3) := by decide +kernel
theorem dX8_init_100 : decode cX8_init 100 = .ok (.putfield 60, 3) := by decide +kernel
theorem dX8_init_103 : decode cX8_init 103 = .ok (.aload_n 0, 1) := by decide +kernel
theorem dX8_init_104 : decode cX8_init 104 = .ok (.new 57, 3) := by decide +kernel
theorem dX8_init_107 : decode cX8_init 107 = .ok (.dup, 1) := by decide +kernel
theorem dX8_init_108 : decode cX8_init 108 = .ok (.invokespecial 59, 3) := by decide +kernel
theorem dX8_init_111 : decode cX8_init 111 = .ok (.putfield 64, 3) := by decide +kernel
theorem dX8_init_114 : decode cX8_init 114 = .ok (.return_, 1) := by decide +kernel
theorem dX8_land_0 : decode cX8_land 0 = .ok (.iconst 0, 1) := by decide +kernel
theorem dX8_land_1 : decode cX8_land 1 = .ok (.iload_n 1, 1) := by decide +kernel
theorem dX8_land_2 : decode cX8_land 2 = .ok (.invokestatic 67, 3) := by decide +kernel
theorem dX8_land_5 : decode cX8_land 5 = .ok (.ifCond .eq 32, 3) := by decide +kernel
theorem dX8_land_8 : decode cX8_land 8 = .ok (.iconst 1, 1) := by decide +kernel
theorem dX8_land_9 : decode cX8_land 9 = .ok (.iload_n 2, 1) := by decide +kernel
theorem dX8_land_10 : decode cX8_land 10 = .ok (.invokestatic 67, 3) := by decide +kernel
theorem dX8_land_13 : decode cX8_land 13 = .ok (.ifCond .eq 24, 3) := by decide +kernel
theorem dX8_land_16 : decode cX8_land 16 = .ok (.iconst 2, 1) := by decide +kernel
theorem dX8_land_17 : decode cX8_land 17 = .ok (.iload_n 3, 1) := by decide +kernel
theorem dX8_land_18 : decode cX8_land 18 = .ok (.invokestatic 67, 3) := by decide +kernel
theorem dX8_land_21 : decode cX8_land 21 = .ok (.ifCond .eq 16, 3) := by decide +kernel
theorem dX8_land_24 : decode cX8_land 24 = .ok (.iconst 3, 1) := by decide +kernel
theorem dX8_land_25 : decode cX8_land 25 = .ok (.iload 4, 2) := by decide +kernel
theorem dX8_land_27 : decode cX8_land 27 = .ok (.invokestatic 67, 3) := by decide +kernel
theorem dX8_land_30 : decode cX8_land 30 = .ok (.ifCond .eq 7, 3) := by decide +kernel
theorem dX8_land_33 : decode cX8_land 33 = .ok (.iconst 1, 1) := by decide +kernel
theorem dX8_land_34 : decode cX8_land 34 = .ok (.goto 4, 3) := by decide +kernel
theorem dX8_land_37 : decode cX8_land 37 = .ok (.iconst 0, 1) := by decide +kernel
theorem dX8_land_38 : decode cX8_land 38 = .ok (.istore 5, 2) := by decide +kernel
theorem dX8_land_40 : decode cX8_land 40 = .ok (.iload 5, 2) := by decide +kernel
theorem dX8_land_42 : decode cX8_land 42 = .ok (.ifCond .ne 6, 3) := by decide +kernel
theorem dX8_land_45 : decode cX8_land 45 = .ok (.bipush (-2), 2) := by decide +kernel
theorem dX8_land_47 : decode cX8_land 47 = .ok (.ireturn, 1) := by decide +kernel
theorem dX8_land_48 : decode cX8_land 48 = .ok (.aload_n 0, 1) := by decide +kernel
theorem dX8_land_49 : decode cX8_land 49 = .ok (.getfield 23, 3) := by decide +kernel
theorem dX8_land_52 : decode cX8_land 52 = .ok (.getfield 73, 3) := by decide +kernel
theorem dX8_land_55 : decode cX8_land 55 = .ok (.bipush 6, 2) := by decide +kernel
theorem dX8_land_57 : decode cX8_land 57 = .ok (.if_icmp .lt 6, 3) := by decide +kernel
theorem dX8_land_60 : decode cX8_land 60 = .ok (.bipush (-4), 2) := by decide +kernel
theorem dX8_land_62 : decode cX8_land 62 = .ok (.ireturn, 1) := by decide +kernel
theorem dX8_land_63 : decode cX8_land 63 = .ok (.aload_n 0, 1) := by decide +kernel
theorem dX8_land_64 : decode cX8_land 64 = .ok (.getfield 23, 3) := by decide +kernel
theorem dX8_land_67 : decode cX8_land 67 = .ok (.iload_n 1, 1) := by decide +kernel
theorem dX8_land_68 : decode cX8_land 68 = .ok (.iload_n 2, 1) := by decide +kernel
theorem dX8_land_69 : decode cX8_land 69 = .ok (.iload_n 3, 1) := by decide +kernel
theorem dX8_land_70 : decode cX8_land 70 = .ok (.iload 4, 2) := by decide +kernel
theorem dX8_land_72 : decode cX8_land 72 = .ok (.invokevirtual 77, 3) := by decide +kernel
theorem dX8_land_75 : decode cX8_land 75 = .ok (.istore 6, 2) := by decide +kernel
theorem dX8_land_77 : decode cX8_land 77 = .ok (.aload_n 0, 1) := by decide +kernel
theorem dX8_land_78 : decode cX8_land 78 = .ok (.getfield 60, 3) := by decide +kernel
theorem dX8_land_81 : decode cX8_land 81 = .ok (.invokevirtual 81, 3) := by decide +kernel
theorem dX8_land_84 : decode cX8_land 84 = .ok (.iload 6, 2) := by decide +kernel
theorem dX8_land_86 : decode cX8_land 86 = .ok (.ireturn, 1) := by decide +kernel
theorem dX8_change_0 : decode cX8_change 0 = .ok (.aload_n 0, 1) := by decide +kernel
theorem dX8_change_1 : decode cX8_change 1 = .ok (.iload_n 1, 1) := by decide +kernel
theorem dX8_change_2 : decode cX8_change 2 = .ok (.invokevirtual 84, 3) := by decide +kernel
theorem dX8_change_5 : decode cX8_change 5 = .ok (.ifCond .ne 5, 3) := by decide +kernel
theorem dX8_change_8 : decode cX8_change 8 = .ok (.iconst (-1), 1) := by decide +kernel
theorem dX8_change_9 : decode cX8_change 9 = .ok (.ireturn, 1) := by decide +kernel
theorem dX8_change_10 : decode cX8_change 10 = .ok (.iload_n 2, 1) := by decide +kernel
theorem dX8_change_11 : decode cX8_change 11 = .ok (.iload_n 3, 1) := by decide +kernel
theorem dX8_change_12 : decode cX8_change 12 = .ok (.invokestatic 67, 3) := by decide +kernel
theorem dX8_change_15 : decode cX8_change 15 = .ok (.ifCond .ne 6, 3) := by decide +kernel
theorem dX8_change_18 : decode cX8_change 18 = .ok (.bipush (-2), 2) := by decide +kernel
theorem dX8_change_20 : decode cX8_change 20 = .ok (.ireturn, 1) := by decide +kernel
theorem dX8_change_21 : decode cX8_change 21 = .ok (.aload_n 0, 1) := by decide +kernel
theorem dX8_change_22 : decode cX8_change 22 = .ok (.getfield 23, 3) := by decide +kernel
theorem dX8_change_25 : decode cX8_change 25 = .ok (.iload_n 2, 1) := by decide +kernel
theorem dX8_change_26 : decode cX8_change 26 = .ok (.invokevirtual 88, 3) := by decide +kernel
theorem dX8_change_29 : decode cX8_change 29 = .ok (.iload_n 1, 1) := by decide +kernel
theorem dX8_change_30 : decode cX8_change 30 = .ok (.iaload, 1) := by decide +kernel
theorem dX8_change_31 : decode cX8_change 31 = .ok (.istore 4, 2) := by decide +kernel
theorem dX8_change_33 : decode cX8_change 33 = .ok (.aload_n 0, 1) := by decide +kernel
theorem dX8_change_34 : decode cX8_change 34 = .ok (.getfield 23, 3) := by decide +kernel
theorem dX8_change_37 : decode cX8_change 37 = .ok (.iload_n 2, 1) := by decide +kernel
theorem dX8_change_38 : decode cX8_change 38 = .ok (.iload_n 1, 1) := by decide +kernel
theorem dX8_change_39 : decode cX8_change 39 = .ok (.iload_n 3, 1) := by decide +kernel
theorem dX8_change_40 : decode cX8_change 40 = .ok (.invokevirtual 92, 3) := by decide +kernel
theorem dX8_change_43 : decode cX8_change 43 = .ok (.iload 4, 2) := by decide +kernel
theorem dX8_change_45 : decode cX8_change 45 = .ok (.ireturn, 1) := by decide +kernel
theorem dX8_set_0 : decode cX8_set 0 = .ok (.iload_n 1, 1) := by decide +kernel
theorem dX8_set_1 : decode cX8_set 1 = .ok (.ifCond .lt 17, 3) := by decide +kernel
theorem dX8_set_4 : decode cX8_set 4 = .ok (.iload_n 1, 1) := by decide +kernel
theorem dX8_set_5 : decode cX8_set 5 = .ok (.iconst 1, 1) := by decide +kernel
theorem dX8_set_6 : decode cX8_set 6 = .ok (.if_icmp .gt 12, 3) := by decide +kernel
theorem dX8_set_9 : decode cX8_set 9 = .ok (.iload_n 2, 1) := by decide +kernel
theorem dX8_set_10 : decode cX8_set 10 = .ok (.ifCond .lt 8, 3) := by decide +kernel
theorem dX8_set_13 : decode cX8_set 13 = .ok (.iload_n 2, 1) := by decide +kernel
theorem dX8_set_14 : decode cX8_set 14 = .ok (.iconst 2, 1) := by decide +kernel
theorem dX8_set_15 : decode cX8_set 15 = .ok (.if_icmp .le 6, 3) := by decide +kernel
theorem dX8_set_18 : decode cX8_set 18 = .ok (.bipush (-2), 2) := by decide +kernel
theorem dX8_set_20 : decode cX8_set 20 = .ok (.ireturn, 1) := by decide +kernel
theorem dX8_set_21 : decode cX8_set 21 = .ok (.iload_n 1, 1) := by decide +kernel
theorem dX8_set_22 : decode cX8_set 22 = .ok (.ifCond .ne 13, 3) := by decide +kernel
theorem dX8_set_25 : decode cX8_set 25 = .ok (.aload_n 0, 1) := by decide +kernel
theorem dX8_set_26 : decode cX8_set 26 = .ok (.getfield 23, 3) := by decide +kernel
theorem dX8_set_29 : decode cX8_set 29 = .ok (.getfield 96, 3) := by decide +kernel
theorem dX8_set_32 : decode cX8_set 32 = .ok (.goto 10, 3) := by decide +kernel
theorem dX8_set_35 : decode cX8_set 35 = .ok (.aload_n 0, 1) := by decide +kernel
theorem dX8_set_36 : decode cX8_set 36 = .ok (.getfield 23, 3) := by decide +kernel
theorem dX8_set_39 : decode cX8_set 39 = .ok (.getfield 99, 3) := by decide +kernel
theorem dX8_set_42 : decode cX8_set 42 = .ok (.istore_n 3, 1) := by decide +kernel
theorem dX8_set_43 : decode cX8_set 43 = .ok (.iload_n 1, 1) := by decide +kernel
theorem dX8_set_44 : decode cX8_set 44 = .ok (.ifCond .ne 14, 3) := by decide +kernel
theorem dX8_set_47 : decode cX8_set 47 = .ok (.aload_n 0, 1) := by decide +kernel
theorem dX8_set_48 : decode cX8_set 48 = .ok (.getfield 23, 3) := by decide +kernel
theorem dX8_set_51 : decode cX8_set 51 = .ok (.iload_n 2, 1) := by decide +kernel
theorem dX8_set_52 : decode cX8_set 52 = .ok (.invokevirtual 102, 3) := by decide +kernel
theorem dX8_set_55 : decode cX8_set 55 = .ok (.goto 11, 3) := by decide +kernel
theorem dX8_set_58 : decode cX8_set 58 = .ok (.aload_n 0, 1) := by decide +kernel
theorem dX8_set_59 : decode cX8_set 59 = .ok (.getfield 23, 3) := by decide +kernel
theorem dX8_set_62 : decode cX8_set 62 = .ok (.iload_n 2, 1) := by decide +kernel
theorem dX8_set_63 : decode cX8_set 63 = .ok (.invokevirtual 106, 3) := by decide +kernel
theorem dX8_set_66 : decode cX8_set 66 = .ok (.iload_n 3, 1) := by decide +kernel
theorem dX8_set_67 : decode cX8_set 67 = .ok (.ireturn, 1) := by decide +kernel
theorem dX8_say_0 : decode cX8_say 0 = .ok (.iload_n 1, 1) := by decide +kernel
theorem dX8_say_1 : decode cX8_say 1 = .ok (.bipush 33, 2) := by decide +kernel
theorem dX8_say_3 : decode cX8_say 3 = .ok (.if_icmp .lt 9, 3) := by decide +kernel
theorem dX8_say_6 : decode cX8_say 6 = .ok (.iload_n 1, 1) := by decide +kernel
theorem dX8_say_7 : decode cX8_say 7 = .ok (.bipush 126, 2) := by decide +kernel
theorem dX8_say_9 : decode cX8_say 9 = .ok (.if_icmp .le 6, 3) := by decide +kernel
theorem dX8_say_12 : decode cX8_say 12 = .ok (.bipush (-2), 2) := by decide +kernel
theorem dX8_say_14 : decode cX8_say 14 = .ok (.ireturn, 1) := by decide +kernel
theorem dX8_say_15 : decode cX8_say 15 = .ok (.aload_n 0, 1) := by decide +kernel
theorem dX8_say_16 : decode cX8_say 16 = .ok (.getfield 53, 3) := by decide +kernel
theorem dX8_say_19 : decode cX8_say 19 = .ok (.getfield 109, 3) := by decide +kernel
theorem dX8_say_22 : decode cX8_say 22 = .ok (.bipush 20, 2) := by decide +kernel
theorem dX8_say_24 : decode cX8_say 24 = .ok (.if_icmp .lt 6, 3) := by decide +kernel
theorem dX8_say_27 : decode cX8_say 27 = .ok (.bipush (-4), 2) := by decide +kernel
theorem dX8_say_29 : decode cX8_say 29 = .ok (.ireturn, 1) := by decide +kernel
theorem dX8_say_30 : decode cX8_say 30 = .ok (.aload_n 0, 1) := by decide +kernel
theorem dX8_say_31 : decode cX8_say 31 = .ok (.getfield 53, 3) := by decide +kernel
theorem dX8_say_34 : decode cX8_say 34 = .ok (.iload_n 1, 1) := by decide +kernel
theorem dX8_say_35 : decode cX8_say 35 = .ok (.invokevirtual 110, 3) := by decide +kernel
theorem dX8_say_38 : decode cX8_say 38 = .ok (.aload_n 0, 1) := by decide +kernel
theorem dX8_say_39 : decode cX8_say 39 = .ok (.getfield 53, 3) := by decide +kernel
theorem dX8_say_42 : decode cX8_say 42 = .ok (.getfield 109, 3) := by decide +kernel
theorem dX8_say_45 : decode cX8_say 45 = .ok (.ireturn, 1) := by decide +kernel
theorem dX8_wipe_0 : decode cX8_wipe 0 = .ok (.aload_n 0, 1) := by decide +kernel
theorem dX8_wipe_1 : decode cX8_wipe 1 = .ok (.getfield 53, 3) := by decide +kernel
theorem dX8_wipe_4 : decode cX8_wipe 4 = .ok (.getfield 109, 3) := by decide +kernel
theorem dX8_wipe_7 : decode cX8_wipe 7 = .ok (.istore_n 1, 1) := by decide +kernel
theorem dX8_wipe_8 : decode cX8_wipe 8 = .ok (.aload_n 0, 1) := by decide +kernel
theorem dX8_wipe_9 : decode cX8_wipe 9 = .ok (.getfield 53, 3) := by decide +kernel
theorem dX8_wipe_12 : decode cX8_wipe 12 = .ok (.iconst 0, 1) := by decide +kernel
theorem dX8_wipe_13 : decode cX8_wipe 13 = .ok (.putfield 109, 3) := by decide +kernel
theorem dX8_wipe_16 : decode cX8_wipe 16 = .ok (.iload_n 1, 1) := by decide +kernel
theorem dX8_wipe_17 : decode cX8_wipe 17 = .ok (.ireturn, 1) := by decide +kernel
theorem dX8_fault_0 : decode cX8_fault 0 = .ok (.aload_n 0, 1) := by decide +kernel
theorem dX8_fault_1 : decode cX8_fault 1 = .ok (.getfield 53, 3) := by decide +kernel
theorem dX8_fault_4 : decode cX8_fault 4 = .ok (.aload_n 0, 1) := by decide +kernel
theorem dX8_fault_5 : decode cX8_fault 5 = .ok (.getfield 23, 3) := by decide +kernel
theorem dX8_fault_8 : decode cX8_fault 8 = .ok (.getfield 73, 3) := by decide +kernel
theorem dX8_fault_11 : decode cX8_fault 11 = .ok (.invokevirtual 112, 3) := by decide +kernel
theorem dX8_fault_14 : decode cX8_fault 14 = .ok (.ireturn, 1) := by decide +kernel
theorem dX8_part_0 : decode cX8_part 0 = .ok (.aload_n 0, 1) := by decide +kernel
theorem dX8_part_1 : decode cX8_part 1 = .ok (.getfield 53, 3) := by decide +kernel
theorem dX8_part_4 : decode cX8_part 4 = .ok (.aload_n 0, 1) := by decide +kernel
theorem dX8_part_5 : decode cX8_part 5 = .ok (.getfield 23, 3) := by decide +kernel
theorem dX8_part_8 : decode cX8_part 8 = .ok (.getfield 73, 3) := by decide +kernel
theorem dX8_part_11 : decode cX8_part 11 = .ok (.invokevirtual 112, 3) := by decide +kernel
theorem dX8_part_14 : decode cX8_part 14 = .ok (.bipush (-6), 2) := by decide +kernel
theorem dX8_part_16 : decode cX8_part 16 = .ok (.if_icmp .eq 6, 3) := by decide +kernel
theorem dX8_part_19 : decode cX8_part 19 = .ok (.bipush (-5), 2) := by decide +kernel
theorem dX8_part_21 : decode cX8_part 21 = .ok (.ireturn, 1) := by decide +kernel
theorem dX8_part_22 : decode cX8_part 22 = .ok (.aload_n 0, 1) := by decide +kernel
theorem dX8_part_23 : decode cX8_part 23 = .ok (.getfield 53, 3) := by decide +kernel
theorem dX8_part_26 : decode cX8_part 26 = .ok (.aload_n 0, 1) := by decide +kernel
theorem dX8_part_27 : decode cX8_part 27 = .ok (.getfield 60, 3) := by decide +kernel
theorem dX8_part_30 : decode cX8_part 30 = .ok (.invokevirtual 116, 3) := by decide +kernel
theorem dX8_part_33 : decode cX8_part 33 = .ok (.aload_n 0, 1) := by decide +kernel
theorem dX8_part_34 : decode cX8_part 34 = .ok (.getfield 53, 3) := by decide +kernel
theorem dX8_part_37 : decode cX8_part 37 = .ok (.iconst 0, 1) := by decide +kernel
theorem dX8_part_38 : decode cX8_part 38 = .ok (.putfield 109, 3) := by decide +kernel
theorem dX8_part_41 : decode cX8_part 41 = .ok (.aload_n 0, 1) := by decide +kernel
theorem dX8_part_42 : decode cX8_part 42 = .ok (.getfield 60, 3) := by decide +kernel
theorem dX8_part_45 : decode cX8_part 45 = .ok (.getfield 120, 3) := by decide +kernel
theorem dX8_part_48 : decode cX8_part 48 = .ok (.ireturn, 1) := by decide +kernel
theorem dX8_union_0 : decode cX8_union 0 = .ok (.aload_n 0, 1) := by decide +kernel
theorem dX8_union_1 : decode cX8_union 1 = .ok (.iload_n 1, 1) := by decide +kernel
theorem dX8_union_2 : decode cX8_union 2 = .ok (.invokevirtual 84, 3) := by decide +kernel
theorem dX8_union_5 : decode cX8_union 5 = .ok (.ifCond .eq 15, 3) := by decide +kernel
theorem dX8_union_8 : decode cX8_union 8 = .ok (.aload_n 0, 1) := by decide +kernel
theorem dX8_union_9 : decode cX8_union 9 = .ok (.getfield 60, 3) := by decide +kernel
theorem dX8_union_12 : decode cX8_union 12 = .ok (.getfield 123, 3) := by decide +kernel
theorem dX8_union_15 : decode cX8_union 15 = .ok (.iload_n 1, 1) := by decide +kernel
theorem dX8_union_16 : decode cX8_union 16 = .ok (.iaload, 1) := by decide +kernel
theorem dX8_union_17 : decode cX8_union 17 = .ok (.goto 4, 3) := by decide +kernel
theorem dX8_union_20 : decode cX8_union 20 = .ok (.iconst (-1), 1) := by decide +kernel
theorem dX8_union_21 : decode cX8_union 21 = .ok (.ireturn, 1) := by decide +kernel
theorem dX8_of_0 : decode cX8_of 0 = .ok (.aload_n 0, 1) := by decide +kernel
theorem dX8_of_1 : decode cX8_of 1 = .ok (.iload_n 1, 1) := by decide +kernel
theorem dX8_of_2 : decode cX8_of 2 = .ok (.invokevirtual 84, 3) := by decide +kernel
theorem dX8_of_5 : decode cX8_of 5 = .ok (.ifCond .ne 5, 3) := by decide +kernel
theorem dX8_of_8 : decode cX8_of 8 = .ok (.iconst (-1), 1) := by decide +kernel
theorem dX8_of_9 : decode cX8_of 9 = .ok (.ireturn, 1) := by decide +kernel
theorem dX8_of_10 : decode cX8_of 10 = .ok (.iload_n 2, 1) := by decide +kernel
theorem dX8_of_11 : decode cX8_of 11 = .ok (.ifCond .lt 8, 3) := by decide +kernel
theorem dX8_of_14 : decode cX8_of 14 = .ok (.iload_n 2, 1) := by decide +kernel
theorem dX8_of_15 : decode cX8_of 15 = .ok (.iconst 5, 1) := by decide +kernel
theorem dX8_of_16 : decode cX8_of 16 = .ok (.if_icmp .le 6, 3) := by decide +kernel
theorem dX8_of_19 : decode cX8_of 19 = .ok (.bipush (-2), 2) := by decide +kernel
theorem dX8_of_21 : decode cX8_of 21 = .ok (.ireturn, 1) := by decide +kernel
theorem dX8_of_22 : decode cX8_of 22 = .ok (.aload_n 0, 1) := by decide +kernel
theorem dX8_of_23 : decode cX8_of 23 = .ok (.getfield 46, 3) := by decide +kernel
theorem dX8_of_26 : decode cX8_of 26 = .ok (.aload_n 0, 1) := by decide +kernel
theorem dX8_of_27 : decode cX8_of 27 = .ok (.getfield 23, 3) := by decide +kernel
theorem dX8_of_30 : decode cX8_of 30 = .ok (.aload_n 0, 1) := by decide +kernel
theorem dX8_of_31 : decode cX8_of 31 = .ok (.getfield 60, 3) := by decide +kernel
theorem dX8_of_34 : decode cX8_of 34 = .ok (.invokevirtual 127, 3) := by decide +kernel
theorem dX8_of_37 : decode cX8_of 37 = .ok (.iload_n 2, 1) := by decide +kernel
theorem dX8_of_38 : decode cX8_of 38 = .ok (.tableswitch 101 0 4 #[34, 44, 54, 64, 91], 34) := by decide +kernel
theorem dX8_of_72 : decode cX8_of 72 = .ok (.aload_n 0, 1) := by decide +kernel
theorem dX8_of_73 : decode cX8_of 73 = .ok (.getfield 46, 3) := by decide +kernel
theorem dX8_of_76 : decode cX8_of 76 = .ok (.getfield 131, 3) := by decide +kernel
theorem dX8_of_79 : decode cX8_of 79 = .ok (.iload_n 1, 1) := by decide +kernel
theorem dX8_of_80 : decode cX8_of 80 = .ok (.iaload, 1) := by decide +kernel
theorem dX8_of_81 : decode cX8_of 81 = .ok (.ireturn, 1) := by decide +kernel
theorem dX8_of_82 : decode cX8_of 82 = .ok (.aload_n 0, 1) := by decide +kernel
theorem dX8_of_83 : decode cX8_of 83 = .ok (.getfield 46, 3) := by decide +kernel
theorem dX8_of_86 : decode cX8_of 86 = .ok (.getfield 134, 3) := by decide +kernel
theorem dX8_of_89 : decode cX8_of 89 = .ok (.iload_n 1, 1) := by decide +kernel
theorem dX8_of_90 : decode cX8_of 90 = .ok (.iaload, 1) := by decide +kernel
theorem dX8_of_91 : decode cX8_of 91 = .ok (.ireturn, 1) := by decide +kernel
theorem dX8_of_92 : decode cX8_of 92 = .ok (.aload_n 0, 1) := by decide +kernel
theorem dX8_of_93 : decode cX8_of 93 = .ok (.getfield 46, 3) := by decide +kernel
theorem dX8_of_96 : decode cX8_of 96 = .ok (.getfield 137, 3) := by decide +kernel
theorem dX8_of_99 : decode cX8_of 99 = .ok (.iload_n 1, 1) := by decide +kernel
theorem dX8_of_100 : decode cX8_of 100 = .ok (.iaload, 1) := by decide +kernel
theorem dX8_of_101 : decode cX8_of 101 = .ok (.ireturn, 1) := by decide +kernel
theorem dX8_of_102 : decode cX8_of 102 = .ok (.aload_n 0, 1) := by decide +kernel
theorem dX8_of_103 : decode cX8_of 103 = .ok (.getfield 46, 3) := by decide +kernel
theorem dX8_of_106 : decode cX8_of 106 = .ok (.getfield 137, 3) := by decide +kernel
theorem dX8_of_109 : decode cX8_of 109 = .ok (.iload_n 1, 1) := by decide +kernel
theorem dX8_of_110 : decode cX8_of 110 = .ok (.iaload, 1) := by decide +kernel
theorem dX8_of_111 : decode cX8_of 111 = .ok (.ifCond .le 15, 3) := by decide +kernel
theorem dX8_of_114 : decode cX8_of 114 = .ok (.aload_n 0, 1) := by decide +kernel
theorem dX8_of_115 : decode cX8_of 115 = .ok (.getfield 46, 3) := by decide +kernel
theorem dX8_of_118 : decode cX8_of 118 = .ok (.getfield 140, 3) := by decide +kernel
theorem dX8_of_121 : decode cX8_of 121 = .ok (.iload_n 1, 1) := by decide +kernel
theorem dX8_of_122 : decode cX8_of 122 = .ok (.iaload, 1) := by decide +kernel
theorem dX8_of_123 : decode cX8_of 123 = .ok (.goto 5, 3) := by decide +kernel
theorem dX8_of_126 : decode cX8_of 126 = .ok (.bipush (-6), 2) := by decide +kernel
theorem dX8_of_128 : decode cX8_of 128 = .ok (.ireturn, 1) := by decide +kernel
theorem dX8_of_129 : decode cX8_of 129 = .ok (.aload_n 0, 1) := by decide +kernel
theorem dX8_of_130 : decode cX8_of 130 = .ok (.getfield 46, 3) := by decide +kernel
theorem dX8_of_133 : decode cX8_of 133 = .ok (.getfield 143, 3) := by decide +kernel
theorem dX8_of_136 : decode cX8_of 136 = .ok (.iload_n 1, 1) := by decide +kernel
theorem dX8_of_137 : decode cX8_of 137 = .ok (.iaload, 1) := by decide +kernel
theorem dX8_of_138 : decode cX8_of 138 = .ok (.ireturn, 1) := by decide +kernel
theorem dX8_of_139 : decode cX8_of 139 = .ok (.aload_n 0, 1) := by decide +kernel
theorem dX8_of_140 : decode cX8_of 140 = .ok (.getfield 46, 3) := by decide +kernel
theorem dX8_of_143 : decode cX8_of 143 = .ok (.getfield 146, 3) := by decide +kernel
theorem dX8_of_146 : decode cX8_of 146 = .ok (.iload_n 1, 1) := by decide +kernel
theorem dX8_of_147 : decode cX8_of 147 = .ok (.iaload, 1) := by decide +kernel
theorem dX8_of_148 : decode cX8_of 148 = .ok (.ireturn, 1) := by decide +kernel
theorem dX8_all_0 : decode cX8_all 0 = .ok (.iload_n 1, 1) := by decide +kernel
theorem dX8_all_1 : decode cX8_all 1 = .ok (.tableswitch 53 0 2 #[27, 36, 41], 27) := by decide +kernel
theorem dX8_all_28 : decode cX8_all 28 = .ok (.aload_n 0, 1) := by decide +kernel
theorem dX8_all_29 : decode cX8_all 29 = .ok (.aload_n 0, 1) := by decide +kernel
theorem dX8_all_30 : decode cX8_all 30 = .ok (.getfield 60, 3) := by decide +kernel
theorem dX8_all_33 : decode cX8_all 33 = .ok (.invokevirtual 149, 3) := by decide +kernel
theorem dX8_all_36 : decode cX8_all 36 = .ok (.ireturn, 1) := by decide +kernel
theorem dX8_all_37 : decode cX8_all 37 = .ok (.aload_n 0, 1) := by decide +kernel
theorem dX8_all_38 : decode cX8_all 38 = .ok (.invokevirtual 153, 3) := by decide +kernel
theorem dX8_all_41 : decode cX8_all 41 = .ok (.ireturn, 1) := by decide +kernel
theorem dX8_all_42 : decode cX8_all 42 = .ok (.getstatic 157, 3) := by decide +kernel
theorem dX8_all_45 : decode cX8_all 45 = .ok (.aload_n 0, 1) := by decide +kernel
theorem dX8_all_46 : decode cX8_all 46 = .ok (.getfield 23, 3) := by decide +kernel
theorem dX8_all_49 : decode cX8_all 49 = .ok (.getfield 73, 3) := by decide +kernel
theorem dX8_all_52 : decode cX8_all 52 = .ok (.iaload, 1) := by decide +kernel
theorem dX8_all_53 : decode cX8_all 53 = .ok (.ireturn, 1) := by decide +kernel
theorem dX8_all_54 : decode cX8_all 54 = .ok (.bipush (-2), 2) := by decide +kernel
theorem dX8_all_56 : decode cX8_all 56 = .ok (.ireturn, 1) := by decide +kernel
theorem dX8_goodsTogether_0 : decode cX8_goodsTogether 0 = .ok (.aload_n 0, 1) := by decide +kernel
theorem dX8_goodsTogether_1 : decode cX8_goodsTogether 1 = .ok (.getfield 28, 3) := by decide +kernel
theorem dX8_goodsTogether_4 : decode cX8_goodsTogether 4 = .ok (.aload_n 1, 1) := by decide +kernel
theorem dX8_goodsTogether_5 : decode cX8_goodsTogether 5 = .ok (.invokevirtual 160, 3) := by decide +kernel
theorem dX8_goodsTogether_8 : decode cX8_goodsTogether 8 = .ok (.istore_n 2, 1) := by decide +kernel
theorem dX8_goodsTogether_9 : decode cX8_goodsTogether 9 = .ok (.iconst 0, 1) := by decide +kernel
theorem dX8_goodsTogether_10 : decode cX8_goodsTogether 10 = .ok (.istore_n 3, 1) := by decide +kernel
theorem dX8_goodsTogether_11 : decode cX8_goodsTogether 11 = .ok (.iconst 0, 1) := by decide +kernel
theorem dX8_goodsTogether_12 : decode cX8_goodsTogether 12 = .ok (.istore 4, 2) := by decide +kernel
theorem dX8_goodsTogether_14 : decode cX8_goodsTogether 14 = .ok (.iload 4, 2) := by decide +kernel
theorem dX8_goodsTogether_16 : decode cX8_goodsTogether 16 = .ok (.aload_n 0, 1) := by decide +kernel
theorem dX8_goodsTogether_17 : decode cX8_goodsTogether 17 = .ok (.getfield 23, 3) := by decide +kernel
theorem dX8_goodsTogether_20 : decode cX8_goodsTogether 20 = .ok (.getfield 73, 3) := by decide +kernel
theorem dX8_goodsTogether_23 : decode cX8_goodsTogether 23 = .ok (.if_icmp .ge 22, 3) := by decide +kernel
theorem dX8_goodsTogether_26 : decode cX8_goodsTogether 26 = .ok (.iload_n 3, 1) := by decide +kernel
theorem dX8_goodsTogether_27 : decode cX8_goodsTogether 27 = .ok (.aload_n 0, 1) := by decide +kernel
theorem dX8_goodsTogether_28 : decode cX8_goodsTogether 28 = .ok (.getfield 28, 3) := by decide +kernel
theorem dX8_goodsTogether_31 : decode cX8_goodsTogether 31 = .ok (.iload_n 2, 1) := by decide +kernel
theorem dX8_goodsTogether_32 : decode cX8_goodsTogether 32 = .ok (.iload 4, 2) := by decide +kernel
theorem dX8_goodsTogether_34 : decode cX8_goodsTogether 34 = .ok (.invokevirtual 164, 3) := by decide +kernel
theorem dX8_goodsTogether_37 : decode cX8_goodsTogether 37 = .ok (.iadd, 1) := by decide +kernel
theorem dX8_goodsTogether_38 : decode cX8_goodsTogether 38 = .ok (.istore_n 3, 1) := by decide +kernel
theorem dX8_goodsTogether_39 : decode cX8_goodsTogether 39 = .ok (.iinc 4 1, 3) := by decide +kernel
theorem dX8_goodsTogether_42 : decode cX8_goodsTogether 42 = .ok (.goto (-28), 3) := by decide +kernel
theorem dX8_goodsTogether_45 : decode cX8_goodsTogether 45 = .ok (.iload_n 3, 1) := by decide +kernel
theorem dX8_goodsTogether_46 : decode cX8_goodsTogether 46 = .ok (.ireturn, 1) := by decide +kernel
theorem dX8_bestPlaced_0 : decode cX8_bestPlaced 0 = .ok (.iconst 0, 1) := by decide +kernel
theorem dX8_bestPlaced_1 : decode cX8_bestPlaced 1 = .ok (.istore_n 1, 1) := by decide +kernel
theorem dX8_bestPlaced_2 : decode cX8_bestPlaced 2 = .ok (.aload_n 0, 1) := by decide +kernel
theorem dX8_bestPlaced_3 : decode cX8_bestPlaced 3 = .ok (.getfield 64, 3) := by decide +kernel
theorem dX8_bestPlaced_6 : decode cX8_bestPlaced 6 = .ok (.aload_n 0, 1) := by decide +kernel
theorem dX8_bestPlaced_7 : decode cX8_bestPlaced 7 = .ok (.getfield 23, 3) := by decide +kernel
theorem dX8_bestPlaced_10 : decode cX8_bestPlaced 10 = .ok (.getfield 73, 3) := by decide +kernel
theorem dX8_bestPlaced_13 : decode cX8_bestPlaced 13 = .ok (.invokevirtual 168, 3) := by decide +kernel
theorem dX8_bestPlaced_16 : decode cX8_bestPlaced 16 = .ok (.iconst 0, 1) := by decide +kernel
theorem dX8_bestPlaced_17 : decode cX8_bestPlaced 17 = .ok (.istore_n 2, 1) := by decide +kernel
theorem dX8_bestPlaced_18 : decode cX8_bestPlaced 18 = .ok (.iload_n 2, 1) := by decide +kernel
theorem dX8_bestPlaced_19 : decode cX8_bestPlaced 19 = .ok (.getstatic 157, 3) := by decide +kernel
theorem dX8_bestPlaced_22 : decode cX8_bestPlaced 22 = .ok (.aload_n 0, 1) := by decide +kernel
theorem dX8_bestPlaced_23 : decode cX8_bestPlaced 23 = .ok (.getfield 23, 3) := by decide +kernel
theorem dX8_bestPlaced_26 : decode cX8_bestPlaced 26 = .ok (.getfield 73, 3) := by decide +kernel
theorem dX8_bestPlaced_29 : decode cX8_bestPlaced 29 = .ok (.iaload, 1) := by decide +kernel
theorem dX8_bestPlaced_30 : decode cX8_bestPlaced 30 = .ok (.if_icmp .ge 29, 3) := by decide +kernel
theorem dX8_bestPlaced_33 : decode cX8_bestPlaced 33 = .ok (.iload_n 1, 1) := by decide +kernel
theorem dX8_bestPlaced_34 : decode cX8_bestPlaced 34 = .ok (.aload_n 0, 1) := by decide +kernel
theorem dX8_bestPlaced_35 : decode cX8_bestPlaced 35 = .ok (.aload_n 0, 1) := by decide +kernel
theorem dX8_bestPlaced_36 : decode cX8_bestPlaced 36 = .ok (.getfield 64, 3) := by decide +kernel
theorem dX8_bestPlaced_39 : decode cX8_bestPlaced 39 = .ok (.invokevirtual 149, 3) := by decide +kernel
theorem dX8_bestPlaced_42 : decode cX8_bestPlaced 42 = .ok (.invokestatic 171, 3) := by decide +kernel
theorem dX8_bestPlaced_45 : decode cX8_bestPlaced 45 = .ok (.istore_n 1, 1) := by decide +kernel
theorem dX8_bestPlaced_46 : decode cX8_bestPlaced 46 = .ok (.aload_n 0, 1) := by decide +kernel
theorem dX8_bestPlaced_47 : decode cX8_bestPlaced 47 = .ok (.getfield 64, 3) := by decide +kernel
theorem dX8_bestPlaced_50 : decode cX8_bestPlaced 50 = .ok (.invokevirtual 176, 3) := by decide +kernel
theorem dX8_bestPlaced_53 : decode cX8_bestPlaced 53 = .ok (.iinc 2 1, 3) := by decide +kernel
theorem dX8_bestPlaced_56 : decode cX8_bestPlaced 56 = .ok (.goto (-38), 3) := by decide +kernel
theorem dX8_bestPlaced_59 : decode cX8_bestPlaced 59 = .ok (.iload_n 1, 1) := by decide +kernel
theorem dX8_bestPlaced_60 : decode cX8_bestPlaced 60 = .ok (.ireturn, 1) := by decide +kernel
theorem dX8_breaks_0 : decode cX8_breaks 0 = .ok (.iload_n 1, 1) := by decide +kernel
theorem dX8_breaks_1 : decode cX8_breaks 1 = .ok (.invokestatic 179, 3) := by decide +kernel
theorem dX8_breaks_4 : decode cX8_breaks 4 = .ok (.ifCond .eq 22, 3) := by decide +kernel
theorem dX8_breaks_7 : decode cX8_breaks 7 = .ok (.aload_n 0, 1) := by decide +kernel
theorem dX8_breaks_8 : decode cX8_breaks 8 = .ok (.getfield 32, 3) := by decide +kernel
theorem dX8_breaks_11 : decode cX8_breaks 11 = .ok (.aload_n 0, 1) := by decide +kernel
theorem dX8_breaks_12 : decode cX8_breaks 12 = .ok (.getfield 10, 3) := by decide +kernel
theorem dX8_breaks_15 : decode cX8_breaks 15 = .ok (.iload_n 1, 1) := by decide +kernel
theorem dX8_breaks_16 : decode cX8_breaks 16 = .ok (.aload_n 0, 1) := by decide +kernel
theorem dX8_breaks_17 : decode cX8_breaks 17 = .ok (.getfield 60, 3) := by decide +kernel
theorem dX8_breaks_20 : decode cX8_breaks 20 = .ok (.invokevirtual 182, 3) := by decide +kernel
theorem dX8_breaks_23 : decode cX8_breaks 23 = .ok (.goto 5, 3) := by decide +kernel
theorem dX8_breaks_26 : decode cX8_breaks 26 = .ok (.bipush (-2), 2) := by decide +kernel
theorem dX8_breaks_28 : decode cX8_breaks 28 = .ok (.ireturn, 1) := by decide +kernel
theorem dX8_rests_0 : decode cX8_rests 0 = .ok (.iload_n 2, 1) := by decide +kernel
theorem dX8_rests_1 : decode cX8_rests 1 = .ok (.iconst (-1), 1) := by decide +kernel
theorem dX8_rests_2 : decode cX8_rests 2 = .ok (.if_icmp .eq 13, 3) := by decide +kernel
theorem dX8_rests_5 : decode cX8_rests 5 = .ok (.aload_n 0, 1) := by decide +kernel
theorem dX8_rests_6 : decode cX8_rests 6 = .ok (.iload_n 3, 1) := by decide +kernel
theorem dX8_rests_7 : decode cX8_rests 7 = .ok (.invokevirtual 84, 3) := by decide +kernel
theorem dX8_rests_10 : decode cX8_rests 10 = .ok (.ifCond .ne 5, 3) := by decide +kernel
theorem dX8_rests_13 : decode cX8_rests 13 = .ok (.iconst (-1), 1) := by decide +kernel
theorem dX8_rests_14 : decode cX8_rests 14 = .ok (.ireturn, 1) := by decide +kernel
theorem dX8_rests_15 : decode cX8_rests 15 = .ok (.iload_n 1, 1) := by decide +kernel
theorem dX8_rests_16 : decode cX8_rests 16 = .ok (.invokestatic 179, 3) := by decide +kernel
theorem dX8_rests_19 : decode cX8_rests 19 = .ok (.ifCond .ne 6, 3) := by decide +kernel
theorem dX8_rests_22 : decode cX8_rests 22 = .ok (.bipush (-2), 2) := by decide +kernel
theorem dX8_rests_24 : decode cX8_rests 24 = .ok (.ireturn, 1) := by decide +kernel
theorem dX8_rests_25 : decode cX8_rests 25 = .ok (.iconst 0, 1) := by decide +kernel
theorem dX8_rests_26 : decode cX8_rests 26 = .ok (.istore 4, 2) := by decide +kernel
theorem dX8_rests_28 : decode cX8_rests 28 = .ok (.aload_n 0, 1) := by decide +kernel
theorem dX8_rests_29 : decode cX8_rests 29 = .ok (.getfield 64, 3) := by decide +kernel
theorem dX8_rests_32 : decode cX8_rests 32 = .ok (.aload_n 0, 1) := by decide +kernel
theorem dX8_rests_33 : decode cX8_rests 33 = .ok (.getfield 23, 3) := by decide +kernel
theorem dX8_rests_36 : decode cX8_rests 36 = .ok (.getfield 73, 3) := by decide +kernel
theorem dX8_rests_39 : decode cX8_rests 39 = .ok (.invokevirtual 168, 3) := by decide +kernel
theorem dX8_rests_42 : decode cX8_rests 42 = .ok (.iconst 0, 1) := by decide +kernel
theorem dX8_rests_43 : decode cX8_rests 43 = .ok (.istore 5, 2) := by decide +kernel
theorem dX8_rests_45 : decode cX8_rests 45 = .ok (.iload 5, 2) := by decide +kernel
theorem dX8_rests_47 : decode cX8_rests 47 = .ok (.getstatic 157, 3) := by decide +kernel
theorem dX8_rests_50 : decode cX8_rests 50 = .ok (.aload_n 0, 1) := by decide +kernel
theorem dX8_rests_51 : decode cX8_rests 51 = .ok (.getfield 23, 3) := by decide +kernel
theorem dX8_rests_54 : decode cX8_rests 54 = .ok (.getfield 73, 3) := by decide +kernel
theorem dX8_rests_57 : decode cX8_rests 57 = .ok (.iaload, 1) := by decide +kernel
theorem dX8_rests_58 : decode cX8_rests 58 = .ok (.if_icmp .ge 56, 3) := by decide +kernel
theorem dX8_rests_61 : decode cX8_rests 61 = .ok (.aload_n 0, 1) := by decide +kernel
theorem dX8_rests_62 : decode cX8_rests 62 = .ok (.getfield 32, 3) := by decide +kernel
theorem dX8_rests_65 : decode cX8_rests 65 = .ok (.aload_n 0, 1) := by decide +kernel
theorem dX8_rests_66 : decode cX8_rests 66 = .ok (.getfield 10, 3) := by decide +kernel
theorem dX8_rests_69 : decode cX8_rests 69 = .ok (.iload_n 1, 1) := by decide +kernel
theorem dX8_rests_70 : decode cX8_rests 70 = .ok (.aload_n 0, 1) := by decide +kernel
theorem dX8_rests_71 : decode cX8_rests 71 = .ok (.getfield 64, 3) := by decide +kernel
theorem dX8_rests_74 : decode cX8_rests 74 = .ok (.invokevirtual 182, 3) := by decide +kernel
theorem dX8_rests_77 : decode cX8_rests 77 = .ok (.bipush (-6), 2) := by decide +kernel
theorem dX8_rests_79 : decode cX8_rests 79 = .ok (.if_icmp .ne 22, 3) := by decide +kernel
theorem dX8_rests_82 : decode cX8_rests 82 = .ok (.iload 4, 2) := by decide +kernel
theorem dX8_rests_84 : decode cX8_rests 84 = .ok (.iload_n 2, 1) := by decide +kernel
theorem dX8_rests_85 : decode cX8_rests 85 = .ok (.if_icmp .ne 13, 3) := by decide +kernel
theorem dX8_rests_88 : decode cX8_rests 88 = .ok (.aload_n 0, 1) := by decide +kernel
theorem dX8_rests_89 : decode cX8_rests 89 = .ok (.getfield 64, 3) := by decide +kernel
theorem dX8_rests_92 : decode cX8_rests 92 = .ok (.getfield 123, 3) := by decide +kernel
theorem dX8_rests_95 : decode cX8_rests 95 = .ok (.iload_n 3, 1) := by decide +kernel
theorem dX8_rests_96 : decode cX8_rests 96 = .ok (.iaload, 1) := by decide +kernel
theorem dX8_rests_97 : decode cX8_rests 97 = .ok (.ireturn, 1) := by decide +kernel
theorem dX8_rests_98 : decode cX8_rests 98 = .ok (.iinc 4 1, 3) := by decide +kernel
theorem dX8_rests_101 : decode cX8_rests 101 = .ok (.aload_n 0, 1) := by decide +kernel
theorem dX8_rests_102 : decode cX8_rests 102 = .ok (.getfield 64, 3) := by decide +kernel
theorem dX8_rests_105 : decode cX8_rests 105 = .ok (.invokevirtual 176, 3) := by decide +kernel
theorem dX8_rests_108 : decode cX8_rests 108 = .ok (.iinc 5 1, 3) := by decide +kernel
theorem dX8_rests_111 : decode cX8_rests 111 = .ok (.goto (-66), 3) := by decide +kernel
theorem dX8_rests_114 : decode cX8_rests 114 = .ok (.iload_n 2, 1) := by decide +kernel
theorem dX8_rests_115 : decode cX8_rests 115 = .ok (.iconst (-1), 1) := by decide +kernel
theorem dX8_rests_116 : decode cX8_rests 116 = .ok (.if_icmp .ne 8, 3) := by decide +kernel
theorem dX8_rests_119 : decode cX8_rests 119 = .ok (.iload 4, 2) := by decide +kernel
theorem dX8_rests_121 : decode cX8_rests 121 = .ok (.goto 5, 3) := by decide +kernel
theorem dX8_rests_124 : decode cX8_rests 124 = .ok (.bipush (-6), 2) := by decide +kernel
theorem dX8_rests_126 : decode cX8_rests 126 = .ok (.ireturn, 1) := by decide +kernel
theorem dX8_go_0 : decode cX8_go 0 = .ok (.aload_n 0, 1) := by decide +kernel
theorem dX8_go_1 : decode cX8_go 1 = .ok (.iload_n 1, 1) := by decide +kernel
theorem dX8_go_2 : decode cX8_go 2 = .ok (.invokevirtual 84, 3) := by decide +kernel
theorem dX8_go_5 : decode cX8_go 5 = .ok (.ifCond .ne 5, 3) := by decide +kernel
theorem dX8_go_8 : decode cX8_go 8 = .ok (.iconst (-1), 1) := by decide +kernel
theorem dX8_go_9 : decode cX8_go 9 = .ok (.ireturn, 1) := by decide +kernel
theorem dX8_go_10 : decode cX8_go 10 = .ok (.iload_n 2, 1) := by decide +kernel
theorem dX8_go_11 : decode cX8_go 11 = .ok (.bipush 10, 2) := by decide +kernel
theorem dX8_go_13 : decode cX8_go 13 = .ok (.if_icmp .lt 13, 3) := by decide +kernel
theorem dX8_go_16 : decode cX8_go 16 = .ok (.iload_n 2, 1) := by decide +kernel
theorem dX8_go_17 : decode cX8_go 17 = .ok (.bipush 15, 2) := by decide +kernel
theorem dX8_go_19 : decode cX8_go 19 = .ok (.if_icmp .gt 7, 3) := by decide +kernel
theorem dX8_go_22 : decode cX8_go 22 = .ok (.iconst 1, 1) := by decide +kernel
theorem dX8_go_23 : decode cX8_go 23 = .ok (.goto 4, 3) := by decide +kernel
theorem dX8_go_26 : decode cX8_go 26 = .ok (.iconst 0, 1) := by decide +kernel
theorem dX8_go_27 : decode cX8_go 27 = .ok (.istore_n 3, 1) := by decide +kernel
theorem dX8_go_28 : decode cX8_go 28 = .ok (.iload_n 2, 1) := by decide +kernel
theorem dX8_go_29 : decode cX8_go 29 = .ok (.ifCond .eq 15, 3) := by decide +kernel
theorem dX8_go_32 : decode cX8_go 32 = .ok (.iload_n 2, 1) := by decide +kernel
theorem dX8_go_33 : decode cX8_go 33 = .ok (.iconst 1, 1) := by decide +kernel
theorem dX8_go_34 : decode cX8_go 34 = .ok (.if_icmp .eq 10, 3) := by decide +kernel
theorem dX8_go_37 : decode cX8_go 37 = .ok (.iload_n 3, 1) := by decide +kernel
theorem dX8_go_38 : decode cX8_go 38 = .ok (.ifCond .ne 6, 3) := by decide +kernel
theorem dX8_go_41 : decode cX8_go 41 = .ok (.bipush (-2), 2) := by decide +kernel
theorem dX8_go_43 : decode cX8_go 43 = .ok (.ireturn, 1) := by decide +kernel
theorem dX8_go_44 : decode cX8_go 44 = .ok (.iload_n 3, 1) := by decide +kernel
theorem dX8_go_45 : decode cX8_go 45 = .ok (.ifCond .eq 17, 3) := by decide +kernel
theorem dX8_go_48 : decode cX8_go 48 = .ok (.aload_n 0, 1) := by decide +kernel
theorem dX8_go_49 : decode cX8_go 49 = .ok (.iload_n 2, 1) := by decide +kernel
theorem dX8_go_50 : decode cX8_go 50 = .ok (.bipush 10, 2) := by decide +kernel
theorem dX8_go_52 : decode cX8_go 52 = .ok (.isub, 1) := by decide +kernel
theorem dX8_go_53 : decode cX8_go 53 = .ok (.invokevirtual 84, 3) := by decide +kernel
theorem dX8_go_56 : decode cX8_go 56 = .ok (.ifCond .ne 6, 3) := by decide +kernel
theorem dX8_go_59 : decode cX8_go 59 = .ok (.bipush (-6), 2) := by decide +kernel
theorem dX8_go_61 : decode cX8_go 61 = .ok (.ireturn, 1) := by decide +kernel
theorem dX8_go_62 : decode cX8_go 62 = .ok (.aload_n 0, 1) := by decide +kernel
theorem dX8_go_63 : decode cX8_go 63 = .ok (.getfield 39, 3) := by decide +kernel
theorem dX8_go_66 : decode cX8_go 66 = .ok (.aload_n 0, 1) := by decide +kernel
theorem dX8_go_67 : decode cX8_go 67 = .ok (.getfield 10, 3) := by decide +kernel
theorem dX8_go_70 : decode cX8_go 70 = .ok (.aload_n 0, 1) := by decide +kernel
theorem dX8_go_71 : decode cX8_go 71 = .ok (.getfield 60, 3) := by decide +kernel
theorem dX8_go_74 : decode cX8_go 74 = .ok (.iload_n 1, 1) := by decide +kernel
theorem dX8_go_75 : decode cX8_go 75 = .ok (.invokevirtual 186, 3) := by decide +kernel
theorem dX8_go_78 : decode cX8_go 78 = .ok (.iload_n 3, 1) := by decide +kernel
theorem dX8_go_79 : decode cX8_go 79 = .ok (.ifCond .eq 19, 3) := by decide +kernel
theorem dX8_go_82 : decode cX8_go 82 = .ok (.aload_n 0, 1) := by decide +kernel
theorem dX8_go_83 : decode cX8_go 83 = .ok (.getfield 39, 3) := by decide +kernel
theorem dX8_go_86 : decode cX8_go 86 = .ok (.getfield 190, 3) := by decide +kernel
theorem dX8_go_89 : decode cX8_go 89 = .ok (.getfield 123, 3) := by decide +kernel
theorem dX8_go_92 : decode cX8_go 92 = .ok (.iload_n 2, 1) := by decide +kernel
theorem dX8_go_93 : decode cX8_go 93 = .ok (.bipush 10, 2) := by decide +kernel
theorem dX8_go_95 : decode cX8_go 95 = .ok (.isub, 1) := by decide +kernel
theorem dX8_go_96 : decode cX8_go 96 = .ok (.iaload, 1) := by decide +kernel
theorem dX8_go_97 : decode cX8_go 97 = .ok (.ireturn, 1) := by decide +kernel
theorem dX8_go_98 : decode cX8_go 98 = .ok (.iload_n 2, 1) := by decide +kernel
theorem dX8_go_99 : decode cX8_go 99 = .ok (.ifCond .ne 13, 3) := by decide +kernel
theorem dX8_go_102 : decode cX8_go 102 = .ok (.aload_n 0, 1) := by decide +kernel
theorem dX8_go_103 : decode cX8_go 103 = .ok (.getfield 39, 3) := by decide +kernel
theorem dX8_go_106 : decode cX8_go 106 = .ok (.getfield 192, 3) := by decide +kernel
theorem dX8_go_109 : decode cX8_go 109 = .ok (.goto 10, 3) := by decide +kernel
theorem dX8_go_112 : decode cX8_go 112 = .ok (.aload_n 0, 1) := by decide +kernel
theorem dX8_go_113 : decode cX8_go 113 = .ok (.getfield 39, 3) := by decide +kernel
theorem dX8_go_116 : decode cX8_go 116 = .ok (.getfield 195, 3) := by decide +kernel
theorem dX8_go_119 : decode cX8_go 119 = .ok (.ireturn, 1) := by decide +kernel
theorem dX8_whole_0 : decode cX8_whole 0 = .ok (.iload_n 1, 1) := by decide +kernel
theorem dX8_whole_1 : decode cX8_whole 1 = .ok (.ifCond .lt 8, 3) := by decide +kernel
theorem dX8_whole_4 : decode cX8_whole 4 = .ok (.iload_n 1, 1) := by decide +kernel
theorem dX8_whole_5 : decode cX8_whole 5 = .ok (.iconst 2, 1) := by decide +kernel
theorem dX8_whole_6 : decode cX8_whole 6 = .ok (.if_icmp .le 6, 3) := by decide +kernel
theorem dX8_whole_9 : decode cX8_whole 9 = .ok (.bipush (-2), 2) := by decide +kernel
theorem dX8_whole_11 : decode cX8_whole 11 = .ok (.ireturn, 1) := by decide +kernel
theorem dX8_whole_12 : decode cX8_whole 12 = .ok (.aload_n 0, 1) := by decide +kernel
theorem dX8_whole_13 : decode cX8_whole 13 = .ok (.getfield 64, 3) := by decide +kernel
theorem dX8_whole_16 : decode cX8_whole 16 = .ok (.aload_n 0, 1) := by decide +kernel
theorem dX8_whole_17 : decode cX8_whole 17 = .ok (.getfield 23, 3) := by decide +kernel
theorem dX8_whole_20 : decode cX8_whole 20 = .ok (.getfield 73, 3) := by decide +kernel
theorem dX8_whole_23 : decode cX8_whole 23 = .ok (.invokevirtual 198, 3) := by decide +kernel
theorem dX8_whole_26 : decode cX8_whole 26 = .ok (.aload_n 0, 1) := by decide +kernel
theorem dX8_whole_27 : decode cX8_whole 27 = .ok (.getfield 28, 3) := by decide +kernel
theorem dX8_whole_30 : decode cX8_whole 30 = .ok (.aload_n 0, 1) := by decide +kernel
theorem dX8_whole_31 : decode cX8_whole 31 = .ok (.getfield 64, 3) := by decide +kernel
theorem dX8_whole_34 : decode cX8_whole 34 = .ok (.invokevirtual 160, 3) := by decide +kernel
theorem dX8_whole_37 : decode cX8_whole 37 = .ok (.istore_n 2, 1) := by decide +kernel
theorem dX8_whole_38 : decode cX8_whole 38 = .ok (.aload_n 0, 1) := by decide +kernel
theorem dX8_whole_39 : decode cX8_whole 39 = .ok (.getfield 64, 3) := by decide +kernel
theorem dX8_whole_42 : decode cX8_whole 42 = .ok (.aload_n 0, 1) := by decide +kernel
theorem dX8_whole_43 : decode cX8_whole 43 = .ok (.getfield 23, 3) := by decide +kernel
theorem dX8_whole_46 : decode cX8_whole 46 = .ok (.getfield 73, 3) := by decide +kernel
theorem dX8_whole_49 : decode cX8_whole 49 = .ok (.invokevirtual 168, 3) := by decide +kernel
theorem dX8_whole_52 : decode cX8_whole 52 = .ok (.aload_n 0, 1) := by decide +kernel
theorem dX8_whole_53 : decode cX8_whole 53 = .ok (.getfield 28, 3) := by decide +kernel
theorem dX8_whole_56 : decode cX8_whole 56 = .ok (.aload_n 0, 1) := by decide +kernel
theorem dX8_whole_57 : decode cX8_whole 57 = .ok (.getfield 64, 3) := by decide +kernel
theorem dX8_whole_60 : decode cX8_whole 60 = .ok (.invokevirtual 160, 3) := by decide +kernel
theorem dX8_whole_63 : decode cX8_whole 63 = .ok (.istore_n 3, 1) := by decide +kernel
theorem dX8_whole_64 : decode cX8_whole 64 = .ok (.iconst 0, 1) := by decide +kernel
theorem dX8_whole_65 : decode cX8_whole 65 = .ok (.istore 4, 2) := by decide +kernel
theorem dX8_whole_67 : decode cX8_whole 67 = .ok (.iconst 0, 1) := by decide +kernel
theorem dX8_whole_68 : decode cX8_whole 68 = .ok (.istore 5, 2) := by decide +kernel
theorem dX8_whole_70 : decode cX8_whole 70 = .ok (.iconst 0, 1) := by decide +kernel
theorem dX8_whole_71 : decode cX8_whole 71 = .ok (.istore 6, 2) := by decide +kernel
theorem dX8_whole_73 : decode cX8_whole 73 = .ok (.iload 6, 2) := by decide +kernel
theorem dX8_whole_75 : decode cX8_whole 75 = .ok (.aload_n 0, 1) := by decide +kernel
theorem dX8_whole_76 : decode cX8_whole 76 = .ok (.getfield 23, 3) := by decide +kernel
theorem dX8_whole_79 : decode cX8_whole 79 = .ok (.getfield 73, 3) := by decide +kernel
theorem dX8_whole_82 : decode cX8_whole 82 = .ok (.if_icmp .ge 55, 3) := by decide +kernel
theorem dX8_whole_85 : decode cX8_whole 85 = .ok (.aload_n 0, 1) := by decide +kernel
theorem dX8_whole_86 : decode cX8_whole 86 = .ok (.getfield 28, 3) := by decide +kernel
theorem dX8_whole_89 : decode cX8_whole 89 = .ok (.iload_n 3, 1) := by decide +kernel
theorem dX8_whole_90 : decode cX8_whole 90 = .ok (.iload 6, 2) := by decide +kernel
theorem dX8_whole_92 : decode cX8_whole 92 = .ok (.invokevirtual 164, 3) := by decide +kernel
theorem dX8_whole_95 : decode cX8_whole 95 = .ok (.aload_n 0, 1) := by decide +kernel
theorem dX8_whole_96 : decode cX8_whole 96 = .ok (.getfield 28, 3) := by decide +kernel
theorem dX8_whole_99 : decode cX8_whole 99 = .ok (.iload_n 2, 1) := by decide +kernel
theorem dX8_whole_100 : decode cX8_whole 100 = .ok (.iload 6, 2) := by decide +kernel
theorem dX8_whole_102 : decode cX8_whole 102 = .ok (.invokevirtual 164, 3) := by decide +kernel
theorem dX8_whole_105 : decode cX8_whole 105 = .ok (.isub, 1) := by decide +kernel
theorem dX8_whole_106 : decode cX8_whole 106 = .ok (.istore 7, 2) := by decide +kernel
theorem dX8_whole_108 : decode cX8_whole 108 = .ok (.iload 4, 2) := by decide +kernel
theorem dX8_whole_110 : decode cX8_whole 110 = .ok (.iconst 0, 1) := by decide +kernel
theorem dX8_whole_111 : decode cX8_whole 111 = .ok (.iload 7, 2) := by decide +kernel
theorem dX8_whole_113 : decode cX8_whole 113 = .ok (.ineg, 1) := by decide +kernel
theorem dX8_whole_114 : decode cX8_whole 114 = .ok (.invokestatic 171, 3) := by decide +kernel
theorem dX8_whole_117 : decode cX8_whole 117 = .ok (.iadd, 1) := by decide +kernel
theorem dX8_whole_118 : decode cX8_whole 118 = .ok (.istore 4, 2) := by decide +kernel
theorem dX8_whole_120 : decode cX8_whole 120 = .ok (.iload 5, 2) := by decide +kernel
theorem dX8_whole_122 : decode cX8_whole 122 = .ok (.iconst 0, 1) := by decide +kernel
theorem dX8_whole_123 : decode cX8_whole 123 = .ok (.iload 7, 2) := by decide +kernel
theorem dX8_whole_125 : decode cX8_whole 125 = .ok (.invokestatic 171, 3) := by decide +kernel
theorem dX8_whole_128 : decode cX8_whole 128 = .ok (.iadd, 1) := by decide +kernel
theorem dX8_whole_129 : decode cX8_whole 129 = .ok (.istore 5, 2) := by decide +kernel
theorem dX8_whole_131 : decode cX8_whole 131 = .ok (.iinc 6 1, 3) := by decide +kernel
theorem dX8_whole_134 : decode cX8_whole 134 = .ok (.goto (-61), 3) := by decide +kernel
theorem dX8_whole_137 : decode cX8_whole 137 = .ok (.iload_n 1, 1) := by decide +kernel
theorem dX8_whole_138 : decode cX8_whole 138 = .ok (.iconst 2, 1) := by decide +kernel
theorem dX8_whole_139 : decode cX8_whole 139 = .ok (.if_icmp .ne 16, 3) := by decide +kernel
theorem dX8_whole_142 : decode cX8_whole 142 = .ok (.iload 4, 2) := by decide +kernel
theorem dX8_whole_144 : decode cX8_whole 144 = .ok (.iload 5, 2) := by decide +kernel
theorem dX8_whole_146 : decode cX8_whole 146 = .ok (.if_icmp .gt 7, 3) := by decide +kernel
theorem dX8_whole_149 : decode cX8_whole 149 = .ok (.iconst 1, 1) := by decide +kernel
theorem dX8_whole_150 : decode cX8_whole 150 = .ok (.goto 4, 3) := by decide +kernel
theorem dX8_whole_153 : decode cX8_whole 153 = .ok (.iconst 0, 1) := by decide +kernel
theorem dX8_whole_154 : decode cX8_whole 154 = .ok (.ireturn, 1) := by decide +kernel
theorem dX8_whole_155 : decode cX8_whole 155 = .ok (.iload_n 1, 1) := by decide +kernel
theorem dX8_whole_156 : decode cX8_whole 156 = .ok (.ifCond .ne 8, 3) := by decide +kernel
theorem dX8_whole_159 : decode cX8_whole 159 = .ok (.iload 4, 2) := by decide +kernel
theorem dX8_whole_161 : decode cX8_whole 161 = .ok (.goto 5, 3) := by decide +kernel
theorem dX8_whole_164 : decode cX8_whole 164 = .ok (.iload 5, 2) := by decide +kernel
theorem dX8_whole_166 : decode cX8_whole 166 = .ok (.ireturn, 1) := by decide +kernel
theorem dX8_rules_0 : decode cX8_rules 0 = .ok (.iconst 0, 1) := by decide +kernel
theorem dX8_rules_1 : decode cX8_rules 1 = .ok (.istore_n 1, 1) := by decide +kernel
theorem dX8_rules_2 : decode cX8_rules 2 = .ok (.aload_n 0, 1) := by decide +kernel
theorem dX8_rules_3 : decode cX8_rules 3 = .ok (.getfield 16, 3) := by decide +kernel
theorem dX8_rules_6 : decode cX8_rules 6 = .ok (.getfield 19, 3) := by decide +kernel
theorem dX8_rules_9 : decode cX8_rules 9 = .ok (.aload_n 0, 1) := by decide +kernel
theorem dX8_rules_10 : decode cX8_rules 10 = .ok (.getfield 23, 3) := by decide +kernel
theorem dX8_rules_13 : decode cX8_rules 13 = .ok (.invokevirtual 201, 3) := by decide +kernel
theorem dX8_rules_16 : decode cX8_rules 16 = .ok (.iconst 0, 1) := by decide +kernel
theorem dX8_rules_17 : decode cX8_rules 17 = .ok (.istore_n 2, 1) := by decide +kernel
theorem dX8_rules_18 : decode cX8_rules 18 = .ok (.iload_n 2, 1) := by decide +kernel
theorem dX8_rules_19 : decode cX8_rules 19 = .ok (.iconst 2, 1) := by decide +kernel
theorem dX8_rules_20 : decode cX8_rules 20 = .ok (.if_icmp .gt 42, 3) := by decide +kernel
theorem dX8_rules_23 : decode cX8_rules 23 = .ok (.aload_n 0, 1) := by decide +kernel
theorem dX8_rules_24 : decode cX8_rules 24 = .ok (.getfield 16, 3) := by decide +kernel
theorem dX8_rules_27 : decode cX8_rules 27 = .ok (.getfield 19, 3) := by decide +kernel
theorem dX8_rules_30 : decode cX8_rules 30 = .ok (.iload_n 2, 1) := by decide +kernel
theorem dX8_rules_31 : decode cX8_rules 31 = .ok (.invokevirtual 106, 3) := by decide +kernel
theorem dX8_rules_34 : decode cX8_rules 34 = .ok (.aload_n 0, 1) := by decide +kernel
theorem dX8_rules_35 : decode cX8_rules 35 = .ok (.getfield 16, 3) := by decide +kernel
theorem dX8_rules_38 : decode cX8_rules 38 = .ok (.aload_n 0, 1) := by decide +kernel
theorem dX8_rules_39 : decode cX8_rules 39 = .ok (.getfield 60, 3) := by decide +kernel
theorem dX8_rules_42 : decode cX8_rules 42 = .ok (.invokevirtual 205, 3) := by decide +kernel
theorem dX8_rules_45 : decode cX8_rules 45 = .ok (.bipush (-6), 2) := by decide +kernel
theorem dX8_rules_47 : decode cX8_rules 47 = .ok (.if_icmp .ne 9, 3) := by decide +kernel
theorem dX8_rules_50 : decode cX8_rules 50 = .ok (.iload_n 1, 1) := by decide +kernel
theorem dX8_rules_51 : decode cX8_rules 51 = .ok (.iconst 1, 1) := by decide +kernel
theorem dX8_rules_52 : decode cX8_rules 52 = .ok (.iload_n 2, 1) := by decide +kernel
theorem dX8_rules_53 : decode cX8_rules 53 = .ok (.ishl, 1) := by decide +kernel
theorem dX8_rules_54 : decode cX8_rules 54 = .ok (.ior, 1) := by decide +kernel
theorem dX8_rules_55 : decode cX8_rules 55 = .ok (.istore_n 1, 1) := by decide +kernel
theorem dX8_rules_56 : decode cX8_rules 56 = .ok (.iinc 2 1, 3) := by decide +kernel
theorem dX8_rules_59 : decode cX8_rules 59 = .ok (.goto (-41), 3) := by decide +kernel
theorem dX8_rules_62 : decode cX8_rules 62 = .ok (.iload_n 1, 1) := by decide +kernel
theorem dX8_rules_63 : decode cX8_rules 63 = .ok (.ireturn, 1) := by decide +kernel
theorem dX8_propose_0 : decode cX8_propose 0 = .ok (.aload_n 0, 1) := by decide +kernel
theorem dX8_propose_1 : decode cX8_propose 1 = .ok (.iload_n 1, 1) := by decide +kernel
theorem dX8_propose_2 : decode cX8_propose 2 = .ok (.invokevirtual 84, 3) := by decide +kernel
theorem dX8_propose_5 : decode cX8_propose 5 = .ok (.ifCond .ne 5, 3) := by decide +kernel
theorem dX8_propose_8 : decode cX8_propose 8 = .ok (.iconst (-1), 1) := by decide +kernel
theorem dX8_propose_9 : decode cX8_propose 9 = .ok (.ireturn, 1) := by decide +kernel
theorem dX8_propose_10 : decode cX8_propose 10 = .ok (.iload_n 2, 1) := by decide +kernel
theorem dX8_propose_11 : decode cX8_propose 11 = .ok (.ifCond .lt 8, 3) := by decide +kernel
theorem dX8_propose_14 : decode cX8_propose 14 = .ok (.iload_n 2, 1) := by decide +kernel
theorem dX8_propose_15 : decode cX8_propose 15 = .ok (.iconst 1, 1) := by decide +kernel
theorem dX8_propose_16 : decode cX8_propose 16 = .ok (.if_icmp .le 6, 3) := by decide +kernel
theorem dX8_propose_19 : decode cX8_propose 19 = .ok (.bipush (-2), 2) := by decide +kernel
theorem dX8_propose_21 : decode cX8_propose 21 = .ok (.ireturn, 1) := by decide +kernel
theorem dX8_propose_22 : decode cX8_propose 22 = .ok (.bipush (-6), 2) := by decide +kernel
theorem dX8_propose_24 : decode cX8_propose 24 = .ok (.istore_n 3, 1) := by decide +kernel
theorem dX8_propose_25 : decode cX8_propose 25 = .ok (.bipush (-6), 2) := by decide +kernel
theorem dX8_propose_27 : decode cX8_propose 27 = .ok (.istore 4, 2) := by decide +kernel
theorem dX8_propose_29 : decode cX8_propose 29 = .ok (.iconst 1, 1) := by decide +kernel
theorem dX8_propose_30 : decode cX8_propose 30 = .ok (.istore 5, 2) := by decide +kernel
theorem dX8_propose_32 : decode cX8_propose 32 = .ok (.iload 5, 2) := by decide +kernel
theorem dX8_propose_34 : decode cX8_propose 34 = .ok (.iconst 1, 1) := by decide +kernel
theorem dX8_propose_35 : decode cX8_propose 35 = .ok (.aload_n 0, 1) := by decide +kernel
theorem dX8_propose_36 : decode cX8_propose 36 = .ok (.getfield 23, 3) := by decide +kernel
theorem dX8_propose_39 : decode cX8_propose 39 = .ok (.getfield 73, 3) := by decide +kernel
theorem dX8_propose_42 : decode cX8_propose 42 = .ok (.ishl, 1) := by decide +kernel
theorem dX8_propose_43 : decode cX8_propose 43 = .ok (.if_icmp .ge 65, 3) := by decide +kernel
theorem dX8_propose_46 : decode cX8_propose 46 = .ok (.iload 5, 2) := by decide +kernel
theorem dX8_propose_48 : decode cX8_propose 48 = .ok (.iload_n 1, 1) := by decide +kernel
theorem dX8_propose_49 : decode cX8_propose 49 = .ok (.ishr, 1) := by decide +kernel
theorem dX8_propose_50 : decode cX8_propose 50 = .ok (.iconst 1, 1) := by decide +kernel
theorem dX8_propose_51 : decode cX8_propose 51 = .ok (.iand, 1) := by decide +kernel
theorem dX8_propose_52 : decode cX8_propose 52 = .ok (.iconst 1, 1) := by decide +kernel
theorem dX8_propose_53 : decode cX8_propose 53 = .ok (.if_icmp .ne 49, 3) := by decide +kernel
theorem dX8_propose_56 : decode cX8_propose 56 = .ok (.aload_n 0, 1) := by decide +kernel
theorem dX8_propose_57 : decode cX8_propose 57 = .ok (.getfield 10, 3) := by decide +kernel
theorem dX8_propose_60 : decode cX8_propose 60 = .ok (.aload_n 0, 1) := by decide +kernel
theorem dX8_propose_61 : decode cX8_propose 61 = .ok (.getfield 60, 3) := by decide +kernel
theorem dX8_propose_64 : decode cX8_propose 64 = .ok (.iload 5, 2) := by decide +kernel
theorem dX8_propose_66 : decode cX8_propose 66 = .ok (.invokevirtual 208, 3) := by decide +kernel
theorem dX8_propose_69 : decode cX8_propose 69 = .ok (.ifCond .eq 33, 3) := by decide +kernel
theorem dX8_propose_72 : decode cX8_propose 72 = .ok (.aload_n 0, 1) := by decide +kernel
theorem dX8_propose_73 : decode cX8_propose 73 = .ok (.getfield 10, 3) := by decide +kernel
theorem dX8_propose_76 : decode cX8_propose 76 = .ok (.aload_n 0, 1) := by decide +kernel
theorem dX8_propose_77 : decode cX8_propose 77 = .ok (.getfield 60, 3) := by decide +kernel
theorem dX8_propose_80 : decode cX8_propose 80 = .ok (.iload 5, 2) := by decide +kernel
theorem dX8_propose_82 : decode cX8_propose 82 = .ok (.iload_n 1, 1) := by decide +kernel
theorem dX8_propose_83 : decode cX8_propose 83 = .ok (.invokevirtual 212, 3) := by decide +kernel
theorem dX8_propose_86 : decode cX8_propose 86 = .ok (.istore 6, 2) := by decide +kernel
theorem dX8_propose_88 : decode cX8_propose 88 = .ok (.iload 6, 2) := by decide +kernel
theorem dX8_propose_90 : decode cX8_propose 90 = .ok (.iload 4, 2) := by decide +kernel
theorem dX8_propose_92 : decode cX8_propose 92 = .ok (.if_icmp .le 10, 3) := by decide +kernel
theorem dX8_propose_95 : decode cX8_propose 95 = .ok (.iload 5, 2) := by decide +kernel
theorem dX8_propose_97 : decode cX8_propose 97 = .ok (.istore_n 3, 1) := by decide +kernel
theorem dX8_propose_98 : decode cX8_propose 98 = .ok (.iload 6, 2) := by decide +kernel
theorem dX8_propose_100 : decode cX8_propose 100 = .ok (.istore 4, 2) := by decide +kernel
theorem dX8_propose_102 : decode cX8_propose 102 = .ok (.iinc 5 1, 3) := by decide +kernel
theorem dX8_propose_105 : decode cX8_propose 105 = .ok (.goto (-73), 3) := by decide +kernel
theorem dX8_propose_108 : decode cX8_propose 108 = .ok (.iload_n 2, 1) := by decide +kernel
theorem dX8_propose_109 : decode cX8_propose 109 = .ok (.ifCond .ne 7, 3) := by decide +kernel
theorem dX8_propose_112 : decode cX8_propose 112 = .ok (.iload_n 3, 1) := by decide +kernel
theorem dX8_propose_113 : decode cX8_propose 113 = .ok (.goto 5, 3) := by decide +kernel
theorem dX8_propose_116 : decode cX8_propose 116 = .ok (.iload 4, 2) := by decide +kernel
theorem dX8_propose_118 : decode cX8_propose 118 = .ok (.ireturn, 1) := by decide +kernel
theorem dX8_enter_0 : decode cX8_enter 0 = .ok (.aload_n 0, 1) := by decide +kernel
theorem dX8_enter_1 : decode cX8_enter 1 = .ok (.iload_n 1, 1) := by decide +kernel
theorem dX8_enter_2 : decode cX8_enter 2 = .ok (.invokevirtual 84, 3) := by decide +kernel
theorem dX8_enter_5 : decode cX8_enter 5 = .ok (.ifCond .ne 6, 3) := by decide +kernel
theorem dX8_enter_8 : decode cX8_enter 8 = .ok (.ldc 216, 2) := by decide +kernel
theorem dX8_enter_10 : decode cX8_enter 10 = .ok (.ireturn, 1) := by decide +kernel
theorem dX8_enter_11 : decode cX8_enter 11 = .ok (.aload_n 0, 1) := by decide +kernel
theorem dX8_enter_12 : decode cX8_enter 12 = .ok (.iload_n 2, 1) := by decide +kernel
theorem dX8_enter_13 : decode cX8_enter 13 = .ok (.invokevirtual 217, 3) := by decide +kernel
theorem dX8_enter_16 : decode cX8_enter 16 = .ok (.ifCond .eq 25, 3) := by decide +kernel
theorem dX8_enter_19 : decode cX8_enter 19 = .ok (.aload_n 0, 1) := by decide +kernel
theorem dX8_enter_20 : decode cX8_enter 20 = .ok (.getfield 60, 3) := by decide +kernel
theorem dX8_enter_23 : decode cX8_enter 23 = .ok (.getfield 123, 3) := by decide +kernel
theorem dX8_enter_26 : decode cX8_enter 26 = .ok (.iload_n 1, 1) := by decide +kernel
theorem dX8_enter_27 : decode cX8_enter 27 = .ok (.iaload, 1) := by decide +kernel
theorem dX8_enter_28 : decode cX8_enter 28 = .ok (.iload_n 2, 1) := by decide +kernel
theorem dX8_enter_29 : decode cX8_enter 29 = .ok (.if_icmp .eq 12, 3) := by decide +kernel
theorem dX8_enter_32 : decode cX8_enter 32 = .ok (.iload_n 3, 1) := by decide +kernel
theorem dX8_enter_33 : decode cX8_enter 33 = .ok (.ifCond .lt 8, 3) := by decide +kernel
theorem dX8_enter_36 : decode cX8_enter 36 = .ok (.iload_n 3, 1) := by decide +kernel
theorem dX8_enter_37 : decode cX8_enter 37 = .ok (.iconst 1, 1) := by decide +kernel
theorem dX8_enter_38 : decode cX8_enter 38 = .ok (.if_icmp .le 6, 3) := by decide +kernel
theorem dX8_enter_41 : decode cX8_enter 41 = .ok (.ldc 220, 2) := by decide +kernel
theorem dX8_enter_43 : decode cX8_enter 43 = .ok (.ireturn, 1) := by decide +kernel
theorem dX8_enter_44 : decode cX8_enter 44 = .ok (.aload_n 0, 1) := by decide +kernel
theorem dX8_enter_45 : decode cX8_enter 45 = .ok (.getfield 64, 3) := by decide +kernel
theorem dX8_enter_48 : decode cX8_enter 48 = .ok (.aload_n 0, 1) := by decide +kernel
theorem dX8_enter_49 : decode cX8_enter 49 = .ok (.getfield 60, 3) := by decide +kernel
theorem dX8_enter_52 : decode cX8_enter 52 = .ok (.invokevirtual 221, 3) := by decide +kernel
theorem dX8_enter_55 : decode cX8_enter 55 = .ok (.aload_n 0, 1) := by decide +kernel
theorem dX8_enter_56 : decode cX8_enter 56 = .ok (.getfield 64, 3) := by decide +kernel
theorem dX8_enter_59 : decode cX8_enter 59 = .ok (.iload_n 1, 1) := by decide +kernel
theorem dX8_enter_60 : decode cX8_enter 60 = .ok (.iload_n 2, 1) := by decide +kernel
theorem dX8_enter_61 : decode cX8_enter 61 = .ok (.invokevirtual 223, 3) := by decide +kernel
theorem dX8_enter_64 : decode cX8_enter 64 = .ok (.aload_n 0, 1) := by decide +kernel
theorem dX8_enter_65 : decode cX8_enter 65 = .ok (.getfield 28, 3) := by decide +kernel
theorem dX8_enter_68 : decode cX8_enter 68 = .ok (.aload_n 0, 1) := by decide +kernel
theorem dX8_enter_69 : decode cX8_enter 69 = .ok (.getfield 60, 3) := by decide +kernel
theorem dX8_enter_72 : decode cX8_enter 72 = .ok (.invokevirtual 160, 3) := by decide +kernel
theorem dX8_enter_75 : decode cX8_enter 75 = .ok (.istore 4, 2) := by decide +kernel
theorem dX8_enter_77 : decode cX8_enter 77 = .ok (.aload_n 0, 1) := by decide +kernel
theorem dX8_enter_78 : decode cX8_enter 78 = .ok (.getfield 28, 3) := by decide +kernel
theorem dX8_enter_81 : decode cX8_enter 81 = .ok (.aload_n 0, 1) := by decide +kernel
theorem dX8_enter_82 : decode cX8_enter 82 = .ok (.getfield 64, 3) := by decide +kernel
theorem dX8_enter_85 : decode cX8_enter 85 = .ok (.invokevirtual 160, 3) := by decide +kernel
theorem dX8_enter_88 : decode cX8_enter 88 = .ok (.istore 5, 2) := by decide +kernel
theorem dX8_enter_90 : decode cX8_enter 90 = .ok (.iload_n 3, 1) := by decide +kernel
theorem dX8_enter_91 : decode cX8_enter 91 = .ok (.ifCond .ne 25, 3) := by decide +kernel
theorem dX8_enter_94 : decode cX8_enter 94 = .ok (.aload_n 0, 1) := by decide +kernel
theorem dX8_enter_95 : decode cX8_enter 95 = .ok (.getfield 28, 3) := by decide +kernel
theorem dX8_enter_98 : decode cX8_enter 98 = .ok (.iload 5, 2) := by decide +kernel
theorem dX8_enter_100 : decode cX8_enter 100 = .ok (.iload_n 1, 1) := by decide +kernel
theorem dX8_enter_101 : decode cX8_enter 101 = .ok (.invokevirtual 164, 3) := by decide +kernel
theorem dX8_enter_104 : decode cX8_enter 104 = .ok (.aload_n 0, 1) := by decide +kernel
theorem dX8_enter_105 : decode cX8_enter 105 = .ok (.getfield 28, 3) := by decide +kernel
theorem dX8_enter_108 : decode cX8_enter 108 = .ok (.iload 4, 2) := by decide +kernel
theorem dX8_enter_110 : decode cX8_enter 110 = .ok (.iload_n 1, 1) := by decide +kernel
theorem dX8_enter_111 : decode cX8_enter 111 = .ok (.invokevirtual 164, 3) := by decide +kernel
theorem dX8_enter_114 : decode cX8_enter 114 = .ok (.isub, 1) := by decide +kernel
theorem dX8_enter_115 : decode cX8_enter 115 = .ok (.ireturn, 1) := by decide +kernel
theorem dX8_enter_116 : decode cX8_enter 116 = .ok (.iconst 0, 1) := by decide +kernel
theorem dX8_enter_117 : decode cX8_enter 117 = .ok (.istore 6, 2) := by decide +kernel
theorem dX8_enter_119 : decode cX8_enter 119 = .ok (.iconst 0, 1) := by decide +kernel
theorem dX8_enter_120 : decode cX8_enter 120 = .ok (.istore 7, 2) := by decide +kernel
theorem dX8_enter_122 : decode cX8_enter 122 = .ok (.iload 7, 2) := by decide +kernel
theorem dX8_enter_124 : decode cX8_enter 124 = .ok (.aload_n 0, 1) := by decide +kernel
theorem dX8_enter_125 : decode cX8_enter 125 = .ok (.getfield 23, 3) := by decide +kernel
theorem dX8_enter_128 : decode cX8_enter 128 = .ok (.getfield 73, 3) := by decide +kernel
theorem dX8_enter_131 : decode cX8_enter 131 = .ok (.if_icmp .ge 51, 3) := by decide +kernel
theorem dX8_enter_134 : decode cX8_enter 134 = .ok (.aload_n 0, 1) := by decide +kernel
theorem dX8_enter_135 : decode cX8_enter 135 = .ok (.getfield 60, 3) := by decide +kernel
theorem dX8_enter_138 : decode cX8_enter 138 = .ok (.getfield 123, 3) := by decide +kernel
theorem dX8_enter_141 : decode cX8_enter 141 = .ok (.iload 7, 2) := by decide +kernel
theorem dX8_enter_143 : decode cX8_enter 143 = .ok (.iaload, 1) := by decide +kernel
theorem dX8_enter_144 : decode cX8_enter 144 = .ok (.iload_n 2, 1) := by decide +kernel
theorem dX8_enter_145 : decode cX8_enter 145 = .ok (.if_icmp .ne 31, 3) := by decide +kernel
theorem dX8_enter_148 : decode cX8_enter 148 = .ok (.iload 6, 2) := by decide +kernel
theorem dX8_enter_150 : decode cX8_enter 150 = .ok (.aload_n 0, 1) := by decide +kernel
theorem dX8_enter_151 : decode cX8_enter 151 = .ok (.getfield 28, 3) := by decide +kernel
theorem dX8_enter_154 : decode cX8_enter 154 = .ok (.iload 5, 2) := by decide +kernel
theorem dX8_enter_156 : decode cX8_enter 156 = .ok (.iload 7, 2) := by decide +kernel
theorem dX8_enter_158 : decode cX8_enter 158 = .ok (.invokevirtual 164, 3) := by decide +kernel
theorem dX8_enter_161 : decode cX8_enter 161 = .ok (.aload_n 0, 1) := by decide +kernel
theorem dX8_enter_162 : decode cX8_enter 162 = .ok (.getfield 28, 3) := by decide +kernel
theorem dX8_enter_165 : decode cX8_enter 165 = .ok (.iload 4, 2) := by decide +kernel
theorem dX8_enter_167 : decode cX8_enter 167 = .ok (.iload 7, 2) := by decide +kernel
theorem dX8_enter_169 : decode cX8_enter 169 = .ok (.invokevirtual 164, 3) := by decide +kernel
theorem dX8_enter_172 : decode cX8_enter 172 = .ok (.isub, 1) := by decide +kernel
theorem dX8_enter_173 : decode cX8_enter 173 = .ok (.iadd, 1) := by decide +kernel
theorem dX8_enter_174 : decode cX8_enter 174 = .ok (.istore 6, 2) := by decide +kernel
theorem dX8_enter_176 : decode cX8_enter 176 = .ok (.iinc 7 1, 3) := by decide +kernel
theorem dX8_enter_179 : decode cX8_enter 179 = .ok (.goto (-57), 3) := by decide +kernel
theorem dX8_enter_182 : decode cX8_enter 182 = .ok (.iload 6, 2) := by decide +kernel
theorem dX8_enter_184 : decode cX8_enter 184 = .ok (.ireturn, 1) := by decide +kernel
theorem dX8_holds_0 : decode cX8_holds 0 = .ok (.iconst 0, 1) := by decide +kernel
theorem dX8_holds_1 : decode cX8_holds 1 = .ok (.istore_n 1, 1) := by decide +kernel
theorem dX8_holds_2 : decode cX8_holds 2 = .ok (.iconst 0, 1) := by decide +kernel
theorem dX8_holds_3 : decode cX8_holds 3 = .ok (.istore_n 2, 1) := by decide +kernel
theorem dX8_holds_4 : decode cX8_holds 4 = .ok (.iload_n 2, 1) := by decide +kernel
theorem dX8_holds_5 : decode cX8_holds 5 = .ok (.aload_n 0, 1) := by decide +kernel
theorem dX8_holds_6 : decode cX8_holds 6 = .ok (.getfield 23, 3) := by decide +kernel
theorem dX8_holds_9 : decode cX8_holds 9 = .ok (.getfield 73, 3) := by decide +kernel
theorem dX8_holds_12 : decode cX8_holds 12 = .ok (.if_icmp .ge 26, 3) := by decide +kernel
theorem dX8_holds_15 : decode cX8_holds 15 = .ok (.iload_n 1, 1) := by decide +kernel
theorem dX8_holds_16 : decode cX8_holds 16 = .ok (.aload_n 0, 1) := by decide +kernel
theorem dX8_holds_17 : decode cX8_holds 17 = .ok (.getfield 10, 3) := by decide +kernel
theorem dX8_holds_20 : decode cX8_holds 20 = .ok (.aload_n 0, 1) := by decide +kernel
theorem dX8_holds_21 : decode cX8_holds 21 = .ok (.getfield 60, 3) := by decide +kernel
theorem dX8_holds_24 : decode cX8_holds 24 = .ok (.iload_n 2, 1) := by decide +kernel
theorem dX8_holds_25 : decode cX8_holds 25 = .ok (.invokevirtual 227, 3) := by decide +kernel
theorem dX8_holds_28 : decode cX8_holds 28 = .ok (.invokestatic 171, 3) := by decide +kernel
theorem dX8_holds_31 : decode cX8_holds 31 = .ok (.istore_n 1, 1) := by decide +kernel
theorem dX8_holds_32 : decode cX8_holds 32 = .ok (.iinc 2 1, 3) := by decide +kernel
theorem dX8_holds_35 : decode cX8_holds 35 = .ok (.goto (-31), 3) := by decide +kernel
theorem dX8_holds_38 : decode cX8_holds 38 = .ok (.iload_n 1, 1) := by decide +kernel
theorem dX8_holds_39 : decode cX8_holds 39 = .ok (.ireturn, 1) := by decide +kernel
theorem dX8_hurt_0 : decode cX8_hurt 0 = .ok (.aload_n 0, 1) := by decide +kernel
theorem dX8_hurt_1 : decode cX8_hurt 1 = .ok (.iload_n 1, 1) := by decide +kernel
theorem dX8_hurt_2 : decode cX8_hurt 2 = .ok (.invokevirtual 217, 3) := by decide +kernel
theorem dX8_hurt_5 : decode cX8_hurt 5 = .ok (.ifCond .ne 6, 3) := by decide +kernel
theorem dX8_hurt_8 : decode cX8_hurt 8 = .ok (.bipush (-2), 2) := by decide +kernel
theorem dX8_hurt_10 : decode cX8_hurt 10 = .ok (.ireturn, 1) := by decide +kernel
theorem dX8_hurt_11 : decode cX8_hurt 11 = .ok (.aload_n 0, 1) := by decide +kernel
theorem dX8_hurt_12 : decode cX8_hurt 12 = .ok (.getfield 64, 3) := by decide +kernel
theorem dX8_hurt_15 : decode cX8_hurt 15 = .ok (.aload_n 0, 1) := by decide +kernel
theorem dX8_hurt_16 : decode cX8_hurt 16 = .ok (.getfield 60, 3) := by decide +kernel
theorem dX8_hurt_19 : decode cX8_hurt 19 = .ok (.invokevirtual 221, 3) := by decide +kernel
theorem dX8_hurt_22 : decode cX8_hurt 22 = .ok (.aload_n 0, 1) := by decide +kernel
theorem dX8_hurt_23 : decode cX8_hurt 23 = .ok (.getfield 64, 3) := by decide +kernel
theorem dX8_hurt_26 : decode cX8_hurt 26 = .ok (.iload_n 1, 1) := by decide +kernel
theorem dX8_hurt_27 : decode cX8_hurt 27 = .ok (.invokevirtual 231, 3) := by decide +kernel
theorem dX8_hurt_30 : decode cX8_hurt 30 = .ok (.aload_n 0, 1) := by decide +kernel
theorem dX8_hurt_31 : decode cX8_hurt 31 = .ok (.getfield 28, 3) := by decide +kernel
theorem dX8_hurt_34 : decode cX8_hurt 34 = .ok (.aload_n 0, 1) := by decide +kernel
theorem dX8_hurt_35 : decode cX8_hurt 35 = .ok (.getfield 60, 3) := by decide +kernel
theorem dX8_hurt_38 : decode cX8_hurt 38 = .ok (.invokevirtual 160, 3) := by decide +kernel
theorem dX8_hurt_41 : decode cX8_hurt 41 = .ok (.istore_n 2, 1) := by decide +kernel
theorem dX8_hurt_42 : decode cX8_hurt 42 = .ok (.aload_n 0, 1) := by decide +kernel
theorem dX8_hurt_43 : decode cX8_hurt 43 = .ok (.getfield 28, 3) := by decide +kernel
theorem dX8_hurt_46 : decode cX8_hurt 46 = .ok (.aload_n 0, 1) := by decide +kernel
theorem dX8_hurt_47 : decode cX8_hurt 47 = .ok (.getfield 64, 3) := by decide +kernel
theorem dX8_hurt_50 : decode cX8_hurt 50 = .ok (.invokevirtual 160, 3) := by decide +kernel
theorem dX8_hurt_53 : decode cX8_hurt 53 = .ok (.istore_n 3, 1) := by decide +kernel
theorem dX8_hurt_54 : decode cX8_hurt 54 = .ok (.iconst 0, 1) := by decide +kernel
theorem dX8_hurt_55 : decode cX8_hurt 55 = .ok (.istore 4, 2) := by decide +kernel
theorem dX8_hurt_57 : decode cX8_hurt 57 = .ok (.iconst 0, 1) := by decide +kernel
theorem dX8_hurt_58 : decode cX8_hurt 58 = .ok (.istore 5, 2) := by decide +kernel
theorem dX8_hurt_60 : decode cX8_hurt 60 = .ok (.iload 5, 2) := by decide +kernel
theorem dX8_hurt_62 : decode cX8_hurt 62 = .ok (.aload_n 0, 1) := by decide +kernel
theorem dX8_hurt_63 : decode cX8_hurt 63 = .ok (.getfield 23, 3) := by decide +kernel
theorem dX8_hurt_66 : decode cX8_hurt 66 = .ok (.getfield 73, 3) := by decide +kernel
theorem dX8_hurt_69 : decode cX8_hurt 69 = .ok (.if_icmp .ge 55, 3) := by decide +kernel
theorem dX8_hurt_72 : decode cX8_hurt 72 = .ok (.aload_n 0, 1) := by decide +kernel
theorem dX8_hurt_73 : decode cX8_hurt 73 = .ok (.getfield 60, 3) := by decide +kernel
theorem dX8_hurt_76 : decode cX8_hurt 76 = .ok (.getfield 123, 3) := by decide +kernel
theorem dX8_hurt_79 : decode cX8_hurt 79 = .ok (.iload 5, 2) := by decide +kernel
theorem dX8_hurt_81 : decode cX8_hurt 81 = .ok (.iaload, 1) := by decide +kernel
theorem dX8_hurt_82 : decode cX8_hurt 82 = .ok (.iload_n 1, 1) := by decide +kernel
theorem dX8_hurt_83 : decode cX8_hurt 83 = .ok (.if_icmp .eq 35, 3) := by decide +kernel
theorem dX8_hurt_86 : decode cX8_hurt 86 = .ok (.aload_n 0, 1) := by decide +kernel
theorem dX8_hurt_87 : decode cX8_hurt 87 = .ok (.getfield 28, 3) := by decide +kernel
theorem dX8_hurt_90 : decode cX8_hurt 90 = .ok (.iload_n 2, 1) := by decide +kernel
theorem dX8_hurt_91 : decode cX8_hurt 91 = .ok (.iload 5, 2) := by decide +kernel
theorem dX8_hurt_93 : decode cX8_hurt 93 = .ok (.invokevirtual 164, 3) := by decide +kernel
theorem dX8_hurt_96 : decode cX8_hurt 96 = .ok (.aload_n 0, 1) := by decide +kernel
theorem dX8_hurt_97 : decode cX8_hurt 97 = .ok (.getfield 28, 3) := by decide +kernel
theorem dX8_hurt_100 : decode cX8_hurt 100 = .ok (.iload_n 3, 1) := by decide +kernel
theorem dX8_hurt_101 : decode cX8_hurt 101 = .ok (.iload 5, 2) := by decide +kernel
theorem dX8_hurt_103 : decode cX8_hurt 103 = .ok (.invokevirtual 164, 3) := by decide +kernel
theorem dX8_hurt_106 : decode cX8_hurt 106 = .ok (.if_icmp .ge 12, 3) := by decide +kernel
theorem dX8_hurt_109 : decode cX8_hurt 109 = .ok (.iload 4, 2) := by decide +kernel
theorem dX8_hurt_111 : decode cX8_hurt 111 = .ok (.iconst 1, 1) := by decide +kernel
theorem dX8_hurt_112 : decode cX8_hurt 112 = .ok (.iload 5, 2) := by decide +kernel
theorem dX8_hurt_114 : decode cX8_hurt 114 = .ok (.ishl, 1) := by decide +kernel
theorem dX8_hurt_115 : decode cX8_hurt 115 = .ok (.ior, 1) := by decide +kernel
theorem dX8_hurt_116 : decode cX8_hurt 116 = .ok (.istore 4, 2) := by decide +kernel
theorem dX8_hurt_118 : decode cX8_hurt 118 = .ok (.iinc 5 1, 3) := by decide +kernel
theorem dX8_hurt_121 : decode cX8_hurt 121 = .ok (.goto (-61), 3) := by decide +kernel
theorem dX8_hurt_124 : decode cX8_hurt 124 = .ok (.iload 4, 2) := by decide +kernel
theorem dX8_hurt_126 : decode cX8_hurt 126 = .ok (.ireturn, 1) := by decide +kernel
theorem dX8_edge_0 : decode cX8_edge 0 = .ok (.aload_n 0, 1) := by decide +kernel
theorem dX8_edge_1 : decode cX8_edge 1 = .ok (.iload_n 1, 1) := by decide +kernel
theorem dX8_edge_2 : decode cX8_edge 2 = .ok (.invokevirtual 84, 3) := by decide +kernel
theorem dX8_edge_5 : decode cX8_edge 5 = .ok (.ifCond .ne 5, 3) := by decide +kernel
theorem dX8_edge_8 : decode cX8_edge 8 = .ok (.iconst (-1), 1) := by decide +kernel
theorem dX8_edge_9 : decode cX8_edge 9 = .ok (.ireturn, 1) := by decide +kernel
theorem dX8_edge_10 : decode cX8_edge 10 = .ok (.aload_n 0, 1) := by decide +kernel
theorem dX8_edge_11 : decode cX8_edge 11 = .ok (.getfield 10, 3) := by decide +kernel
theorem dX8_edge_14 : decode cX8_edge 14 = .ok (.aload_n 0, 1) := by decide +kernel
theorem dX8_edge_15 : decode cX8_edge 15 = .ok (.getfield 60, 3) := by decide +kernel
theorem dX8_edge_18 : decode cX8_edge 18 = .ok (.invokevirtual 205, 3) := by decide +kernel
theorem dX8_edge_21 : decode cX8_edge 21 = .ok (.bipush (-6), 2) := by decide +kernel
theorem dX8_edge_23 : decode cX8_edge 23 = .ok (.if_icmp .ne 7, 3) := by decide +kernel
theorem dX8_edge_26 : decode cX8_edge 26 = .ok (.iconst 1, 1) := by decide +kernel
theorem dX8_edge_27 : decode cX8_edge 27 = .ok (.goto 4, 3) := by decide +kernel
theorem dX8_edge_30 : decode cX8_edge 30 = .ok (.iconst 0, 1) := by decide +kernel
theorem dX8_edge_31 : decode cX8_edge 31 = .ok (.istore_n 2, 1) := by decide +kernel
theorem dX8_edge_32 : decode cX8_edge 32 = .ok (.aload_n 0, 1) := by decide +kernel
theorem dX8_edge_33 : decode cX8_edge 33 = .ok (.getfield 23, 3) := by decide +kernel
theorem dX8_edge_36 : decode cX8_edge 36 = .ok (.getfield 234, 3) := by decide +kernel
theorem dX8_edge_39 : decode cX8_edge 39 = .ok (.iload_n 1, 1) := by decide +kernel
theorem dX8_edge_40 : decode cX8_edge 40 = .ok (.iaload, 1) := by decide +kernel
theorem dX8_edge_41 : decode cX8_edge 41 = .ok (.istore_n 3, 1) := by decide +kernel
theorem dX8_edge_42 : decode cX8_edge 42 = .ok (.aload_n 0, 1) := by decide +kernel
theorem dX8_edge_43 : decode cX8_edge 43 = .ok (.getfield 16, 3) := by decide +kernel
theorem dX8_edge_46 : decode cX8_edge 46 = .ok (.getfield 19, 3) := by decide +kernel
theorem dX8_edge_49 : decode cX8_edge 49 = .ok (.aload_n 0, 1) := by decide +kernel
theorem dX8_edge_50 : decode cX8_edge 50 = .ok (.getfield 23, 3) := by decide +kernel
theorem dX8_edge_53 : decode cX8_edge 53 = .ok (.invokevirtual 201, 3) := by decide +kernel
theorem dX8_edge_56 : decode cX8_edge 56 = .ok (.iconst 1, 1) := by decide +kernel
theorem dX8_edge_57 : decode cX8_edge 57 = .ok (.istore 4, 2) := by decide +kernel
theorem dX8_edge_59 : decode cX8_edge 59 = .ok (.iload 4, 2) := by decide +kernel
theorem dX8_edge_61 : decode cX8_edge 61 = .ok (.bipush 98, 2) := by decide +kernel
theorem dX8_edge_63 : decode cX8_edge 63 = .ok (.if_icmp .gt 45, 3) := by decide +kernel
theorem dX8_edge_66 : decode cX8_edge 66 = .ok (.aload_n 0, 1) := by decide +kernel
theorem dX8_edge_67 : decode cX8_edge 67 = .ok (.iload_n 1, 1) := by decide +kernel
theorem dX8_edge_68 : decode cX8_edge 68 = .ok (.iload_n 3, 1) := by decide +kernel
theorem dX8_edge_69 : decode cX8_edge 69 = .ok (.iload 4, 2) := by decide +kernel
theorem dX8_edge_71 : decode cX8_edge 71 = .ok (.isub, 1) := by decide +kernel
theorem dX8_edge_72 : decode cX8_edge 72 = .ok (.iload_n 2, 1) := by decide +kernel
theorem dX8_edge_73 : decode cX8_edge 73 = .ok (.invokevirtual 237, 3) := by decide +kernel
theorem dX8_edge_76 : decode cX8_edge 76 = .ok (.ifCond .eq 8, 3) := by decide +kernel
theorem dX8_edge_79 : decode cX8_edge 79 = .ok (.iload_n 3, 1) := by decide +kernel
theorem dX8_edge_80 : decode cX8_edge 80 = .ok (.iload 4, 2) := by decide +kernel
theorem dX8_edge_82 : decode cX8_edge 82 = .ok (.isub, 1) := by decide +kernel
theorem dX8_edge_83 : decode cX8_edge 83 = .ok (.ireturn, 1) := by decide +kernel
theorem dX8_edge_84 : decode cX8_edge 84 = .ok (.aload_n 0, 1) := by decide +kernel
theorem dX8_edge_85 : decode cX8_edge 85 = .ok (.iload_n 1, 1) := by decide +kernel
theorem dX8_edge_86 : decode cX8_edge 86 = .ok (.iload_n 3, 1) := by decide +kernel
theorem dX8_edge_87 : decode cX8_edge 87 = .ok (.iload 4, 2) := by decide +kernel
theorem dX8_edge_89 : decode cX8_edge 89 = .ok (.iadd, 1) := by decide +kernel
theorem dX8_edge_90 : decode cX8_edge 90 = .ok (.iload_n 2, 1) := by decide +kernel
theorem dX8_edge_91 : decode cX8_edge 91 = .ok (.invokevirtual 237, 3) := by decide +kernel
theorem dX8_edge_94 : decode cX8_edge 94 = .ok (.ifCond .eq 8, 3) := by decide +kernel
theorem dX8_edge_97 : decode cX8_edge 97 = .ok (.iload_n 3, 1) := by decide +kernel
theorem dX8_edge_98 : decode cX8_edge 98 = .ok (.iload 4, 2) := by decide +kernel
theorem dX8_edge_100 : decode cX8_edge 100 = .ok (.iadd, 1) := by decide +kernel
theorem dX8_edge_101 : decode cX8_edge 101 = .ok (.ireturn, 1) := by decide +kernel
theorem dX8_edge_102 : decode cX8_edge 102 = .ok (.iinc 4 1, 3) := by decide +kernel
theorem dX8_edge_105 : decode cX8_edge 105 = .ok (.goto (-46), 3) := by decide +kernel
theorem dX8_edge_108 : decode cX8_edge 108 = .ok (.bipush (-6), 2) := by decide +kernel
theorem dX8_edge_110 : decode cX8_edge 110 = .ok (.ireturn, 1) := by decide +kernel
theorem dX8_turnsStay_0 : decode cX8_turnsStay 0 = .ok (.iconst 1, 1) := by decide +kernel
theorem dX8_turnsStay_1 : decode cX8_turnsStay 1 = .ok (.iload_n 2, 1) := by decide +kernel
theorem dX8_turnsStay_2 : decode cX8_turnsStay 2 = .ok (.invokestatic 67, 3) := by decide +kernel
theorem dX8_turnsStay_5 : decode cX8_turnsStay 5 = .ok (.ifCond .ne 5, 3) := by decide +kernel
theorem dX8_turnsStay_8 : decode cX8_turnsStay 8 = .ok (.iconst 0, 1) := by decide +kernel
theorem dX8_turnsStay_9 : decode cX8_turnsStay 9 = .ok (.ireturn, 1) := by decide +kernel
theorem dX8_turnsStay_10 : decode cX8_turnsStay 10 = .ok (.aload_n 0, 1) := by decide +kernel
theorem dX8_turnsStay_11 : decode cX8_turnsStay 11 = .ok (.getfield 16, 3) := by decide +kernel
theorem dX8_turnsStay_14 : decode cX8_turnsStay 14 = .ok (.getfield 19, 3) := by decide +kernel
theorem dX8_turnsStay_17 : decode cX8_turnsStay 17 = .ok (.iconst 1, 1) := by decide +kernel
theorem dX8_turnsStay_18 : decode cX8_turnsStay 18 = .ok (.iload_n 1, 1) := by decide +kernel
theorem dX8_turnsStay_19 : decode cX8_turnsStay 19 = .ok (.iload_n 2, 1) := by decide +kernel
theorem dX8_turnsStay_20 : decode cX8_turnsStay 20 = .ok (.invokevirtual 92, 3) := by decide +kernel
theorem dX8_turnsStay_23 : decode cX8_turnsStay 23 = .ok (.aload_n 0, 1) := by decide +kernel
theorem dX8_turnsStay_24 : decode cX8_turnsStay 24 = .ok (.getfield 16, 3) := by decide +kernel
theorem dX8_turnsStay_27 : decode cX8_turnsStay 27 = .ok (.aload_n 0, 1) := by decide +kernel
theorem dX8_turnsStay_28 : decode cX8_turnsStay 28 = .ok (.getfield 60, 3) := by decide +kernel
theorem dX8_turnsStay_31 : decode cX8_turnsStay 31 = .ok (.invokevirtual 205, 3) := by decide +kernel
theorem dX8_turnsStay_34 : decode cX8_turnsStay 34 = .ok (.bipush (-6), 2) := by decide +kernel
theorem dX8_turnsStay_36 : decode cX8_turnsStay 36 = .ok (.if_icmp .ne 7, 3) := by decide +kernel
theorem dX8_turnsStay_39 : decode cX8_turnsStay 39 = .ok (.iconst 1, 1) := by decide +kernel
theorem dX8_turnsStay_40 : decode cX8_turnsStay 40 = .ok (.goto 4, 3) := by decide +kernel
theorem dX8_turnsStay_43 : decode cX8_turnsStay 43 = .ok (.iconst 0, 1) := by decide +kernel
theorem dX8_turnsStay_44 : decode cX8_turnsStay 44 = .ok (.iload_n 3, 1) := by decide +kernel
theorem dX8_turnsStay_45 : decode cX8_turnsStay 45 = .ok (.if_icmp .eq 7, 3) := by decide +kernel
theorem dX8_turnsStay_48 : decode cX8_turnsStay 48 = .ok (.iconst 1, 1) := by decide +kernel
theorem dX8_turnsStay_49 : decode cX8_turnsStay 49 = .ok (.goto 4, 3) := by decide +kernel
theorem dX8_turnsStay_52 : decode cX8_turnsStay 52 = .ok (.iconst 0, 1) := by decide +kernel
theorem dX8_turnsStay_53 : decode cX8_turnsStay 53 = .ok (.ireturn, 1) := by decide +kernel
theorem dX8_told_0 : decode cX8_told 0 = .ok (.iload_n 1, 1) := by decide +kernel
theorem dX8_told_1 : decode cX8_told 1 = .ok (.bipush 10, 2) := by decide +kernel
theorem dX8_told_3 : decode cX8_told 3 = .ok (.if_icmp .lt 38, 3) := by decide +kernel
theorem dX8_told_6 : decode cX8_told 6 = .ok (.iload_n 1, 1) := by decide +kernel
theorem dX8_told_7 : decode cX8_told 7 = .ok (.bipush 15, 2) := by decide +kernel
theorem dX8_told_9 : decode cX8_told 9 = .ok (.if_icmp .gt 32, 3) := by decide +kernel
theorem dX8_told_12 : decode cX8_told 12 = .ok (.aload_n 0, 1) := by decide +kernel
theorem dX8_told_13 : decode cX8_told 13 = .ok (.iload_n 1, 1) := by decide +kernel
theorem dX8_told_14 : decode cX8_told 14 = .ok (.bipush 10, 2) := by decide +kernel
theorem dX8_told_16 : decode cX8_told 16 = .ok (.isub, 1) := by decide +kernel
theorem dX8_told_17 : decode cX8_told 17 = .ok (.invokevirtual 84, 3) := by decide +kernel
theorem dX8_told_20 : decode cX8_told 20 = .ok (.ifCond .eq 18, 3) := by decide +kernel
theorem dX8_told_23 : decode cX8_told 23 = .ok (.aload_n 0, 1) := by decide +kernel
theorem dX8_told_24 : decode cX8_told 24 = .ok (.getfield 23, 3) := by decide +kernel
theorem dX8_told_27 : decode cX8_told 27 = .ok (.getfield 234, 3) := by decide +kernel
theorem dX8_told_30 : decode cX8_told 30 = .ok (.iload_n 1, 1) := by decide +kernel
theorem dX8_told_31 : decode cX8_told 31 = .ok (.bipush 10, 2) := by decide +kernel
theorem dX8_told_33 : decode cX8_told 33 = .ok (.isub, 1) := by decide +kernel
theorem dX8_told_34 : decode cX8_told 34 = .ok (.iaload, 1) := by decide +kernel
theorem dX8_told_35 : decode cX8_told 35 = .ok (.goto 5, 3) := by decide +kernel
theorem dX8_told_38 : decode cX8_told 38 = .ok (.bipush (-6), 2) := by decide +kernel
theorem dX8_told_40 : decode cX8_told 40 = .ok (.ireturn, 1) := by decide +kernel
theorem dX8_told_41 : decode cX8_told 41 = .ok (.iload_n 1, 1) := by decide +kernel
theorem dX8_told_42 : decode cX8_told 42 = .ok (.tableswitch 74 0 4 #[34, 42, 50, 58, 66], 34) := by decide +kernel
theorem dX8_told_76 : decode cX8_told 76 = .ok (.aload_n 0, 1) := by decide +kernel
theorem dX8_told_77 : decode cX8_told 77 = .ok (.getfield 23, 3) := by decide +kernel
theorem dX8_told_80 : decode cX8_told 80 = .ok (.getfield 73, 3) := by decide +kernel
theorem dX8_told_83 : decode cX8_told 83 = .ok (.ireturn, 1) := by decide +kernel
theorem dX8_told_84 : decode cX8_told 84 = .ok (.aload_n 0, 1) := by decide +kernel
theorem dX8_told_85 : decode cX8_told 85 = .ok (.getfield 53, 3) := by decide +kernel
theorem dX8_told_88 : decode cX8_told 88 = .ok (.getfield 109, 3) := by decide +kernel
theorem dX8_told_91 : decode cX8_told 91 = .ok (.ireturn, 1) := by decide +kernel
theorem dX8_told_92 : decode cX8_told 92 = .ok (.aload_n 0, 1) := by decide +kernel
theorem dX8_told_93 : decode cX8_told 93 = .ok (.getfield 23, 3) := by decide +kernel
theorem dX8_told_96 : decode cX8_told 96 = .ok (.getfield 96, 3) := by decide +kernel
theorem dX8_told_99 : decode cX8_told 99 = .ok (.ireturn, 1) := by decide +kernel
theorem dX8_told_100 : decode cX8_told 100 = .ok (.aload_n 0, 1) := by decide +kernel
theorem dX8_told_101 : decode cX8_told 101 = .ok (.getfield 23, 3) := by decide +kernel
theorem dX8_told_104 : decode cX8_told 104 = .ok (.getfield 99, 3) := by decide +kernel
theorem dX8_told_107 : decode cX8_told 107 = .ok (.ireturn, 1) := by decide +kernel
theorem dX8_told_108 : decode cX8_told 108 = .ok (.aload_n 0, 1) := by decide +kernel
theorem dX8_told_109 : decode cX8_told 109 = .ok (.getfield 60, 3) := by decide +kernel
theorem dX8_told_112 : decode cX8_told 112 = .ok (.getfield 120, 3) := by decide +kernel
theorem dX8_told_115 : decode cX8_told 115 = .ok (.ireturn, 1) := by decide +kernel
theorem dX8_told_116 : decode cX8_told 116 = .ok (.bipush (-2), 2) := by decide +kernel
theorem dX8_told_118 : decode cX8_told 118 = .ok (.ireturn, 1) := by decide +kernel
theorem dX8_isLand_0 : decode cX8_isLand 0 = .ok (.iload_n 1, 1) := by decide +kernel
theorem dX8_isLand_1 : decode cX8_isLand 1 = .ok (.ifCond .lt 18, 3) := by decide +kernel
theorem dX8_isLand_4 : decode cX8_isLand 4 = .ok (.iload_n 1, 1) := by decide +kernel
theorem dX8_isLand_5 : decode cX8_isLand 5 = .ok (.aload_n 0, 1) := by decide +kernel
theorem dX8_isLand_6 : decode cX8_isLand 6 = .ok (.getfield 23, 3) := by decide +kernel
theorem dX8_isLand_9 : decode cX8_isLand 9 = .ok (.getfield 73, 3) := by decide +kernel
theorem dX8_isLand_12 : decode cX8_isLand 12 = .ok (.if_icmp .ge 7, 3) := by decide +kernel
theorem dX8_isLand_15 : decode cX8_isLand 15 = .ok (.iconst 1, 1) := by decide +kernel
theorem dX8_isLand_16 : decode cX8_isLand 16 = .ok (.goto 4, 3) := by decide +kernel
theorem dX8_isLand_19 : decode cX8_isLand 19 = .ok (.iconst 0, 1) := by decide +kernel
theorem dX8_isLand_20 : decode cX8_isLand 20 = .ok (.ireturn, 1) := by decide +kernel
theorem dX8_isUnion_0 : decode cX8_isUnion 0 = .ok (.iload_n 1, 1) := by decide +kernel
theorem dX8_isUnion_1 : decode cX8_isUnion 1 = .ok (.ifCond .lt 18, 3) := by decide +kernel
theorem dX8_isUnion_4 : decode cX8_isUnion 4 = .ok (.iload_n 1, 1) := by decide +kernel
theorem dX8_isUnion_5 : decode cX8_isUnion 5 = .ok (.aload_n 0, 1) := by decide +kernel
theorem dX8_isUnion_6 : decode cX8_isUnion 6 = .ok (.getfield 60, 3) := by decide +kernel
theorem dX8_isUnion_9 : decode cX8_isUnion 9 = .ok (.getfield 120, 3) := by decide +kernel
theorem dX8_isUnion_12 : decode cX8_isUnion 12 = .ok (.if_icmp .ge 7, 3) := by decide +kernel
theorem dX8_isUnion_15 : decode cX8_isUnion 15 = .ok (.iconst 1, 1) := by decide +kernel
theorem dX8_isUnion_16 : decode cX8_isUnion 16 = .ok (.goto 4, 3) := by decide +kernel
theorem dX8_isUnion_19 : decode cX8_isUnion 19 = .ok (.iconst 0, 1) := by decide +kernel
theorem dX8_isUnion_20 : decode cX8_isUnion 20 = .ok (.ireturn, 1) := by decide +kernel
theorem dX8_isRest_0 : decode cX8_isRest 0 = .ok (.iload_n 0, 1) := by decide +kernel
theorem dX8_isRest_1 : decode cX8_isRest 1 = .ok (.ifCond .lt 12, 3) := by decide +kernel
theorem dX8_isRest_4 : decode cX8_isRest 4 = .ok (.iload_n 0, 1) := by decide +kernel
theorem dX8_isRest_5 : decode cX8_isRest 5 = .ok (.iconst 3, 1) := by decide +kernel
theorem dX8_isRest_6 : decode cX8_isRest 6 = .ok (.if_icmp .ge 7, 3) := by decide +kernel
theorem dX8_isRest_9 : decode cX8_isRest 9 = .ok (.iconst 1, 1) := by decide +kernel
theorem dX8_isRest_10 : decode cX8_isRest 10 = .ok (.goto 4, 3) := by decide +kernel
theorem dX8_isRest_13 : decode cX8_isRest 13 = .ok (.iconst 0, 1) := by decide +kernel
theorem dX8_isRest_14 : decode cX8_isRest 14 = .ok (.ireturn, 1) := by decide +kernel
end
section
theorem dX9_init_0 : decode cX9_init 0 = .ok (.aload_n 0, 1) := by decide +kernel
theorem dX9_init_1 : decode cX9_init 1 = .ok (.invokespecial 1, 3) := by decide +kernel
theorem dX9_init_4 : decode cX9_init 4 = .ok (.aload_n 0, 1) := by decide +kernel
theorem dX9_init_5 : decode cX9_init 5 = .ok (.bipush 24, 2) := by decide +kernel
theorem dX9_init_7 : decode cX9_init 7 = .ok (.newarray .int, 2) := by decide +kernel
theorem dX9_init_9 : decode cX9_init 9 = .ok (.putfield 7, 3) := by decide +kernel
theorem dX9_init_12 : decode cX9_init 12 = .ok (.aload_n 0, 1) := by decide +kernel
theorem dX9_init_13 : decode cX9_init 13 = .ok (.bipush 6, 2) := by decide +kernel
theorem dX9_init_15 : decode cX9_init 15 = .ok (.newarray .int, 2) := by decide +kernel
theorem dX9_init_17 : decode cX9_init 17 = .ok (.putfield 13, 3) := by decide +kernel
theorem dX9_init_20 : decode cX9_init 20 = .ok (.aload_n 0, 1) := by decide +kernel
theorem dX9_init_21 : decode cX9_init 21 = .ok (.bipush 6, 2) := by decide +kernel
theorem dX9_init_23 : decode cX9_init 23 = .ok (.newarray .int, 2) := by decide +kernel
theorem dX9_init_25 : decode cX9_init 25 = .ok (.putfield 16, 3) := by decide +kernel
theorem dX9_init_28 : decode cX9_init 28 = .ok (.aload_n 0, 1) := by decide +kernel
theorem dX9_init_29 : decode cX9_init 29 = .ok (.bipush 20, 2) := by decide +kernel
theorem dX9_init_31 : decode cX9_init 31 = .ok (.newarray .int, 2) := by decide +kernel
theorem dX9_init_33 : decode cX9_init 33 = .ok (.putfield 19, 3) := by decide +kernel
theorem dX9_init_36 : decode cX9_init 36 = .ok (.aload_n 0, 1) := by decide +kernel
theorem dX9_init_37 : decode cX9_init 37 = .ok (.bipush 8, 2) := by decide +kernel
theorem dX9_init_39 : decode cX9_init 39 = .ok (.newarray .int, 2) := by decide +kernel
theorem dX9_init_41 : decode cX9_init 41 = .ok (.putfield 22, 3) := by decide +kernel
theorem dX9_init_44 : decode cX9_init 44 = .ok (.aload_n 0, 1) := by decide +kernel
theorem dX9_init_45 : decode cX9_init 45 = .ok (.bipush 6, 2) := by decide +kernel
theorem dX9_init_47 : decode cX9_init 47 = .ok (.newarray .int, 2) := by decide +kernel
theorem dX9_init_49 : decode cX9_init 49 = .ok (.putfield 25, 3) := by decide +kernel
theorem dX9_init_52 : decode cX9_init 52 = .ok (.aload_n 0, 1) := by decide +kernel
theorem dX9_init_53 : decode cX9_init 53 = .ok (.bipush 6, 2) := by decide +kernel
theorem dX9_init_55 : decode cX9_init 55 = .ok (.newarray .int, 2) := by decide +kernel
theorem dX9_init_57 : decode cX9_init 57 = .ok (.putfield 28, 3) := by decide +kernel
theorem dX9_init_60 : decode cX9_init 60 = .ok (.aload_n 0, 1) := by decide +kernel
theorem dX9_init_61 : decode cX9_init 61 = .ok (.bipush 6, 2) := by decide +kernel
theorem dX9_init_63 : decode cX9_init 63 = .ok (.newarray .int, 2) := by decide +kernel
theorem dX9_init_65 : decode cX9_init 65 = .ok (.putfield 31, 3) := by decide +kernel
theorem dX9_init_68 : decode cX9_init 68 = .ok (.aload_n 0, 1) := by decide +kernel
theorem dX9_init_69 : decode cX9_init 69 = .ok (.bipush 6, 2) := by decide +kernel
theorem dX9_init_71 : decode cX9_init 71 = .ok (.newarray .int, 2) := by decide +kernel
theorem dX9_init_73 : decode cX9_init 73 = .ok (.putfield 34, 3) := by decide +kernel
theorem dX9_init_76 : decode cX9_init 76 = .ok (.aload_n 0, 1) := by decide +kernel
theorem dX9_init_77 : decode cX9_init 77 = .ok (.bipush 6, 2) := by decide +kernel
theorem dX9_init_79 : decode cX9_init 79 = .ok (.newarray .int, 2) := by decide +kernel
theorem dX9_init_81 : decode cX9_init 81 = .ok (.putfield 37, 3) := by decide +kernel
theorem dX9_init_84 : decode cX9_init 84 = .ok (.aload_n 0, 1) := by decide +kernel
theorem dX9_init_85 : decode cX9_init 85 = .ok (.bipush 6, 2) := by decide +kernel
theorem dX9_init_87 : decode cX9_init 87 = .ok (.newarray .int, 2) := by decide +kernel
theorem dX9_init_89 : decode cX9_init 89 = .ok (.putfield 40, 3) := by decide +kernel
theorem dX9_init_92 : decode cX9_init 92 = .ok (.aload_n 0, 1) := by decide +kernel
theorem dX9_init_93 : decode cX9_init 93 = .ok (.bipush 6, 2) := by decide +kernel
theorem dX9_init_95 : decode cX9_init 95 = .ok (.newarray .int, 2) := by decide +kernel
theorem dX9_init_97 : decode cX9_init 97 = .ok (.putfield 43, 3) := by decide +kernel
theorem dX9_init_100 : decode cX9_init 100 = .ok (.aload_n 0, 1) := by decide +kernel
theorem dX9_init_101 : decode cX9_init 101 = .ok (.bipush 6, 2) := by decide +kernel
theorem dX9_init_103 : decode cX9_init 103 = .ok (.newarray .int, 2) := by decide +kernel
theorem dX9_init_105 : decode cX9_init 105 = .ok (.putfield 46, 3) := by decide +kernel
theorem dX9_init_108 : decode cX9_init 108 = .ok (.aload_n 0, 1) := by decide +kernel
theorem dX9_init_109 : decode cX9_init 109 = .ok (.bipush 6, 2) := by decide +kernel
theorem dX9_init_111 : decode cX9_init 111 = .ok (.newarray .int, 2) := by decide +kernel
theorem dX9_init_113 : decode cX9_init 113 = .ok (.putfield 49, 3) := by decide +kernel
theorem dX9_init_116 : decode cX9_init 116 = .ok (.aload_n 0, 1) := by decide +kernel
theorem dX9_init_117 : decode cX9_init 117 = .ok (.sipush 501, 3) := by decide +kernel
theorem dX9_init_120 : decode cX9_init 120 = .ok (.newarray .int, 2) := by decide +kernel
theorem dX9_init_122 : decode cX9_init 122 = .ok (.putfield 52, 3) := by decide +kernel
theorem dX9_init_125 : decode cX9_init 125 = .ok (.return_, 1) := by decide +kernel
theorem dX9_in_0 : decode cX9_in 0 = .ok (.lload_n 0, 1) := by decide +kernel
theorem dX9_in_1 : decode cX9_in 1 = .ok (.lload_n 2, 1) := by decide +kernel
theorem dX9_in_2 : decode cX9_in 2 = .ok (.lcmp, 1) := by decide +kernel
theorem dX9_in_3 : decode cX9_in 3 = .ok (.ifCond .lt 14, 3) := by decide +kernel
theorem dX9_in_6 : decode cX9_in 6 = .ok (.lload_n 0, 1) := by decide +kernel
theorem dX9_in_7 : decode cX9_in 7 = .ok (.lload 4, 2) := by decide +kernel
theorem dX9_in_9 : decode cX9_in 9 = .ok (.lcmp, 1) := by decide +kernel
theorem dX9_in_10 : decode cX9_in 10 = .ok (.ifCond .gt 7, 3) := by decide +kernel
theorem dX9_in_13 : decode cX9_in 13 = .ok (.iconst 1, 1) := by decide +kernel
theorem dX9_in_14 : decode cX9_in 14 = .ok (.goto 4, 3) := by decide +kernel
theorem dX9_in_17 : decode cX9_in 17 = .ok (.iconst 0, 1) := by decide +kernel
theorem dX9_in_18 : decode cX9_in 18 = .ok (.ireturn, 1) := by decide +kernel
theorem dX9_isLand_0 : decode cX9_isLand 0 = .ok (.iload_n 1, 1) := by decide +kernel
theorem dX9_isLand_1 : decode cX9_isLand 1 = .ok (.i2l, 1) := by decide +kernel
theorem dX9_isLand_2 : decode cX9_isLand 2 = .ok (.lconst 0, 1) := by decide +kernel
theorem dX9_isLand_3 : decode cX9_isLand 3 = .ok (.aload_n 0, 1) := by decide +kernel
theorem dX9_isLand_4 : decode cX9_isLand 4 = .ok (.getfield 55, 3) := by decide +kernel
theorem dX9_isLand_7 : decode cX9_isLand 7 = .ok (.iconst 1, 1) := by decide +kernel
theorem dX9_isLand_8 : decode cX9_isLand 8 = .ok (.isub, 1) := by decide +kernel
theorem dX9_isLand_9 : decode cX9_isLand 9 = .ok (.i2l, 1) := by decide +kernel
theorem dX9_isLand_10 : decode cX9_isLand 10 = .ok (.invokestatic 59, 3) := by decide +kernel
theorem dX9_isLand_13 : decode cX9_isLand 13 = .ok (.ireturn, 1) := by decide +kernel
theorem dX9_isNumber_0 : decode cX9_isNumber 0 = .ok (.iload_n 1, 1) := by decide +kernel
theorem dX9_isNumber_1 : decode cX9_isNumber 1 = .ok (.i2l, 1) := by decide +kernel
theorem dX9_isNumber_2 : decode cX9_isNumber 2 = .ok (.iload_n 0, 1) := by decide +kernel
theorem dX9_isNumber_3 : decode cX9_isNumber 3 = .ok (.iconst 2, 1) := by decide +kernel
theorem dX9_isNumber_4 : decode cX9_isNumber 4 = .ok (.if_icmp .ge 7, 3) := by decide +kernel
theorem dX9_isNumber_7 : decode cX9_isNumber 7 = .ok (.lconst 1, 1) := by decide +kernel
theorem dX9_isNumber_8 : decode cX9_isNumber 8 = .ok (.goto 4, 3) := by decide +kernel
theorem dX9_isNumber_11 : decode cX9_isNumber 11 = .ok (.lconst 0, 1) := by decide +kernel
theorem dX9_isNumber_12 : decode cX9_isNumber 12 = .ok (.iload_n 0, 1) := by decide +kernel
theorem dX9_isNumber_13 : decode cX9_isNumber 13 = .ok (.iconst 2, 1) := by decide +kernel
theorem dX9_isNumber_14 : decode cX9_isNumber 14 = .ok (.if_icmp .ge 9, 3) := by decide +kernel
theorem dX9_isNumber_17 : decode cX9_isNumber 17 = .ok (.ldc2_w 63, 3) := by decide +kernel
theorem dX9_isNumber_20 : decode cX9_isNumber 20 = .ok (.goto 17, 3) := by decide +kernel
theorem dX9_isNumber_23 : decode cX9_isNumber 23 = .ok (.iload_n 0, 1) := by decide +kernel
theorem dX9_isNumber_24 : decode cX9_isNumber 24 = .ok (.iconst 2, 1) := by decide +kernel
theorem dX9_isNumber_25 : decode cX9_isNumber 25 = .ok (.if_icmp .ne 9, 3) := by decide +kernel
theorem dX9_isNumber_28 : decode cX9_isNumber 28 = .ok (.ldc2_w 65, 3) := by decide +kernel
theorem dX9_isNumber_31 : decode cX9_isNumber 31 = .ok (.goto 6, 3) := by decide +kernel
theorem dX9_isNumber_34 : decode cX9_isNumber 34 = .ok (.ldc2_w 67, 3) := by decide +kernel
theorem dX9_isNumber_37 : decode cX9_isNumber 37 = .ok (.invokestatic 59, 3) := by decide +kernel
theorem dX9_isNumber_40 : decode cX9_isNumber 40 = .ok (.ireturn, 1) := by decide +kernel
theorem dX9_land_0 : decode cX9_land 0 = .ok (.iconst 0, 1) := by decide +kernel
theorem dX9_land_1 : decode cX9_land 1 = .ok (.iload_n 1, 1) := by decide +kernel
theorem dX9_land_2 : decode cX9_land 2 = .ok (.invokestatic 69, 3) := by decide +kernel
theorem dX9_land_5 : decode cX9_land 5 = .ok (.ifCond .eq 28, 3) := by decide +kernel
theorem dX9_land_8 : decode cX9_land 8 = .ok (.iconst 1, 1) := by decide +kernel
theorem dX9_land_9 : decode cX9_land 9 = .ok (.iload_n 2, 1) := by decide +kernel
theorem dX9_land_10 : decode cX9_land 10 = .ok (.invokestatic 69, 3) := by decide +kernel
theorem dX9_land_13 : decode cX9_land 13 = .ok (.ifCond .eq 20, 3) := by decide +kernel
theorem dX9_land_16 : decode cX9_land 16 = .ok (.iconst 2, 1) := by decide +kernel
theorem dX9_land_17 : decode cX9_land 17 = .ok (.iload_n 3, 1) := by decide +kernel
theorem dX9_land_18 : decode cX9_land 18 = .ok (.invokestatic 69, 3) := by decide +kernel
theorem dX9_land_21 : decode cX9_land 21 = .ok (.ifCond .eq 12, 3) := by decide +kernel
theorem dX9_land_24 : decode cX9_land 24 = .ok (.iconst 3, 1) := by decide +kernel
theorem dX9_land_25 : decode cX9_land 25 = .ok (.iload 4, 2) := by decide +kernel
theorem dX9_land_27 : decode cX9_land 27 = .ok (.invokestatic 69, 3) := by decide +kernel
theorem dX9_land_30 : decode cX9_land 30 = .ok (.ifCond .ne 6, 3) := by decide +kernel
theorem dX9_land_33 : decode cX9_land 33 = .ok (.bipush (-2), 2) := by decide +kernel
theorem dX9_land_35 : decode cX9_land 35 = .ok (.ireturn, 1) := by decide +kernel
theorem dX9_land_36 : decode cX9_land 36 = .ok (.aload_n 0, 1) := by decide +kernel
theorem dX9_land_37 : decode cX9_land 37 = .ok (.getfield 55, 3) := by decide +kernel
theorem dX9_land_40 : decode cX9_land 40 = .ok (.bipush 6, 2) := by decide +kernel
theorem dX9_land_42 : decode cX9_land 42 = .ok (.if_icmp .ne 6, 3) := by decide +kernel
theorem dX9_land_45 : decode cX9_land 45 = .ok (.bipush (-4), 2) := by decide +kernel
theorem dX9_land_47 : decode cX9_land 47 = .ok (.ireturn, 1) := by decide +kernel
theorem dX9_land_48 : decode cX9_land 48 = .ok (.aload_n 0, 1) := by decide +kernel
theorem dX9_land_49 : decode cX9_land 49 = .ok (.getfield 7, 3) := by decide +kernel
theorem dX9_land_52 : decode cX9_land 52 = .ok (.iconst 4, 1) := by decide +kernel
theorem dX9_land_53 : decode cX9_land 53 = .ok (.aload_n 0, 1) := by decide +kernel
theorem dX9_land_54 : decode cX9_land 54 = .ok (.getfield 55, 3) := by decide +kernel
theorem dX9_land_57 : decode cX9_land 57 = .ok (.imul, 1) := by decide +kernel
theorem dX9_land_58 : decode cX9_land 58 = .ok (.iload_n 1, 1) := by decide +kernel
theorem dX9_land_59 : decode cX9_land 59 = .ok (.iastore, 1) := by decide +kernel
theorem dX9_land_60 : decode cX9_land 60 = .ok (.aload_n 0, 1) := by decide +kernel
theorem dX9_land_61 : decode cX9_land 61 = .ok (.getfield 7, 3) := by decide +kernel
theorem dX9_land_64 : decode cX9_land 64 = .ok (.iconst 4, 1) := by decide +kernel
theorem dX9_land_65 : decode cX9_land 65 = .ok (.aload_n 0, 1) := by decide +kernel
theorem dX9_land_66 : decode cX9_land 66 = .ok (.getfield 55, 3) := by decide +kernel
theorem dX9_land_69 : decode cX9_land 69 = .ok (.imul, 1) := by decide +kernel
theorem dX9_land_70 : decode cX9_land 70 = .ok (.iconst 1, 1) := by decide +kernel
theorem dX9_land_71 : decode cX9_land 71 = .ok (.iadd, 1) := by decide +kernel
theorem dX9_land_72 : decode cX9_land 72 = .ok (.iload_n 2, 1) := by decide +kernel
theorem dX9_land_73 : decode cX9_land 73 = .ok (.iastore, 1) := by decide +kernel
theorem dX9_land_74 : decode cX9_land 74 = .ok (.aload_n 0, 1) := by decide +kernel
theorem dX9_land_75 : decode cX9_land 75 = .ok (.getfield 7, 3) := by decide +kernel
theorem dX9_land_78 : decode cX9_land 78 = .ok (.iconst 4, 1) := by decide +kernel
theorem dX9_land_79 : decode cX9_land 79 = .ok (.aload_n 0, 1) := by decide +kernel
theorem dX9_land_80 : decode cX9_land 80 = .ok (.getfield 55, 3) := by decide +kernel
theorem dX9_land_83 : decode cX9_land 83 = .ok (.imul, 1) := by decide +kernel
theorem dX9_land_84 : decode cX9_land 84 = .ok (.iconst 2, 1) := by decide +kernel
theorem dX9_land_85 : decode cX9_land 85 = .ok (.iadd, 1) := by decide +kernel
theorem dX9_land_86 : decode cX9_land 86 = .ok (.iload_n 3, 1) := by decide +kernel
theorem dX9_land_87 : decode cX9_land 87 = .ok (.iastore, 1) := by decide +kernel
theorem dX9_land_88 : decode cX9_land 88 = .ok (.aload_n 0, 1) := by decide +kernel
theorem dX9_land_89 : decode cX9_land 89 = .ok (.getfield 7, 3) := by decide +kernel
theorem dX9_land_92 : decode cX9_land 92 = .ok (.iconst 4, 1) := by decide +kernel
theorem dX9_land_93 : decode cX9_land 93 = .ok (.aload_n 0, 1) := by decide +kernel
theorem dX9_land_94 : decode cX9_land 94 = .ok (.getfield 55, 3) := by decide +kernel
theorem dX9_land_97 : decode cX9_land 97 = .ok (.imul, 1) := by decide +kernel
theorem dX9_land_98 : decode cX9_land 98 = .ok (.iconst 3, 1) := by decide +kernel
theorem dX9_land_99 : decode cX9_land 99 = .ok (.iadd, 1) := by decide +kernel
theorem dX9_land_100 : decode cX9_land 100 = .ok (.iload 4, 2) := by decide +kernel
theorem dX9_land_102 : decode cX9_land 102 = .ok (.iastore, 1) := by decide +kernel
theorem dX9_land_103 : decode cX9_land 103 = .ok (.aload_n 0, 1) := by decide +kernel
theorem dX9_land_104 : decode cX9_land 104 = .ok (.getfield 13, 3) := by decide +kernel
theorem dX9_land_107 : decode cX9_land 107 = .ok (.aload_n 0, 1) := by decide +kernel
theorem dX9_land_108 : decode cX9_land 108 = .ok (.getfield 55, 3) := by decide +kernel
theorem dX9_land_111 : decode cX9_land 111 = .ok (.aload_n 0, 1) := by decide +kernel
theorem dX9_land_112 : decode cX9_land 112 = .ok (.aload_n 0, 1) := by decide +kernel
theorem dX9_land_113 : decode cX9_land 113 = .ok (.getfield 13, 3) := by decide +kernel
theorem dX9_land_116 : decode cX9_land 116 = .ok (.invokevirtual 73, 3) := by decide +kernel
theorem dX9_land_119 : decode cX9_land 119 = .ok (.iastore, 1) := by decide +kernel
theorem dX9_land_120 : decode cX9_land 120 = .ok (.aload_n 0, 1) := by decide +kernel
theorem dX9_land_121 : decode cX9_land 121 = .ok (.dup, 1) := by decide +kernel
theorem dX9_land_122 : decode cX9_land 122 = .ok (.getfield 55, 3) := by decide +kernel
theorem dX9_land_125 : decode cX9_land 125 = .ok (.iconst 1, 1) := by decide +kernel
theorem dX9_land_126 : decode cX9_land 126 = .ok (.iadd, 1) := by decide +kernel
theorem dX9_land_127 : decode cX9_land 127 = .ok (.putfield 55, 3) := by decide +kernel
theorem dX9_land_130 : decode cX9_land 130 = .ok (.aload_n 0, 1) := by decide +kernel
theorem dX9_land_131 : decode cX9_land 131 = .ok (.getfield 55, 3) := by decide +kernel
theorem dX9_land_134 : decode cX9_land 134 = .ok (.iconst 1, 1) := by decide +kernel
theorem dX9_land_135 : decode cX9_land 135 = .ok (.isub, 1) := by decide +kernel
theorem dX9_land_136 : decode cX9_land 136 = .ok (.ireturn, 1) := by decide +kernel
theorem dX9_change_0 : decode cX9_change 0 = .ok (.aload_n 0, 1) := by decide +kernel
theorem dX9_change_1 : decode cX9_change 1 = .ok (.iload_n 1, 1) := by decide +kernel
theorem dX9_change_2 : decode cX9_change 2 = .ok (.invokevirtual 77, 3) := by decide +kernel
theorem dX9_change_5 : decode cX9_change 5 = .ok (.ifCond .ne 5, 3) := by decide +kernel
theorem dX9_change_8 : decode cX9_change 8 = .ok (.iconst (-1), 1) := by decide +kernel
theorem dX9_change_9 : decode cX9_change 9 = .ok (.ireturn, 1) := by decide +kernel
theorem dX9_change_10 : decode cX9_change 10 = .ok (.iload_n 2, 1) := by decide +kernel
theorem dX9_change_11 : decode cX9_change 11 = .ok (.i2l, 1) := by decide +kernel
theorem dX9_change_12 : decode cX9_change 12 = .ok (.lconst 0, 1) := by decide +kernel
theorem dX9_change_13 : decode cX9_change 13 = .ok (.ldc2_w 81, 3) := by decide +kernel
theorem dX9_change_16 : decode cX9_change 16 = .ok (.invokestatic 59, 3) := by decide +kernel
theorem dX9_change_19 : decode cX9_change 19 = .ok (.ifCond .eq 11, 3) := by decide +kernel
theorem dX9_change_22 : decode cX9_change 22 = .ok (.iload_n 2, 1) := by decide +kernel
theorem dX9_change_23 : decode cX9_change 23 = .ok (.iload_n 3, 1) := by decide +kernel
theorem dX9_change_24 : decode cX9_change 24 = .ok (.invokestatic 69, 3) := by decide +kernel
theorem dX9_change_27 : decode cX9_change 27 = .ok (.ifCond .ne 6, 3) := by decide +kernel
theorem dX9_change_30 : decode cX9_change 30 = .ok (.bipush (-2), 2) := by decide +kernel
theorem dX9_change_32 : decode cX9_change 32 = .ok (.ireturn, 1) := by decide +kernel
theorem dX9_change_33 : decode cX9_change 33 = .ok (.aload_n 0, 1) := by decide +kernel
theorem dX9_change_34 : decode cX9_change 34 = .ok (.getfield 7, 3) := by decide +kernel
theorem dX9_change_37 : decode cX9_change 37 = .ok (.iconst 4, 1) := by decide +kernel
theorem dX9_change_38 : decode cX9_change 38 = .ok (.iload_n 1, 1) := by decide +kernel
theorem dX9_change_39 : decode cX9_change 39 = .ok (.imul, 1) := by decide +kernel
theorem dX9_change_40 : decode cX9_change 40 = .ok (.iload_n 2, 1) := by decide +kernel
theorem dX9_change_41 : decode cX9_change 41 = .ok (.iadd, 1) := by decide +kernel
theorem dX9_change_42 : decode cX9_change 42 = .ok (.iaload, 1) := by decide +kernel
theorem dX9_change_43 : decode cX9_change 43 = .ok (.istore 4, 2) := by decide +kernel
theorem dX9_change_45 : decode cX9_change 45 = .ok (.aload_n 0, 1) := by decide +kernel
theorem dX9_change_46 : decode cX9_change 46 = .ok (.getfield 7, 3) := by decide +kernel
theorem dX9_change_49 : decode cX9_change 49 = .ok (.iconst 4, 1) := by decide +kernel
theorem dX9_change_50 : decode cX9_change 50 = .ok (.iload_n 1, 1) := by decide +kernel
theorem dX9_change_51 : decode cX9_change 51 = .ok (.imul, 1) := by decide +kernel
theorem dX9_change_52 : decode cX9_change 52 = .ok (.iload_n 2, 1) := by decide +kernel
theorem dX9_change_53 : decode cX9_change 53 = .ok (.iadd, 1) := by decide +kernel
theorem dX9_change_54 : decode cX9_change 54 = .ok (.iload_n 3, 1) := by decide +kernel
theorem dX9_change_55 : decode cX9_change 55 = .ok (.iastore, 1) := by decide +kernel
theorem dX9_change_56 : decode cX9_change 56 = .ok (.iload 4, 2) := by decide +kernel
theorem dX9_change_58 : decode cX9_change 58 = .ok (.ireturn, 1) := by decide +kernel
theorem dX9_set_0 : decode cX9_set 0 = .ok (.iload_n 1, 1) := by decide +kernel
theorem dX9_set_1 : decode cX9_set 1 = .ok (.i2l, 1) := by decide +kernel
theorem dX9_set_2 : decode cX9_set 2 = .ok (.lconst 0, 1) := by decide +kernel
theorem dX9_set_3 : decode cX9_set 3 = .ok (.lconst 1, 1) := by decide +kernel
theorem dX9_set_4 : decode cX9_set 4 = .ok (.invokestatic 59, 3) := by decide +kernel
theorem dX9_set_7 : decode cX9_set 7 = .ok (.ifCond .eq 15, 3) := by decide +kernel
theorem dX9_set_10 : decode cX9_set 10 = .ok (.iload_n 2, 1) := by decide +kernel
theorem dX9_set_11 : decode cX9_set 11 = .ok (.i2l, 1) := by decide +kernel
theorem dX9_set_12 : decode cX9_set 12 = .ok (.lconst 0, 1) := by decide +kernel
theorem dX9_set_13 : decode cX9_set 13 = .ok (.ldc2_w 83, 3) := by decide +kernel
theorem dX9_set_16 : decode cX9_set 16 = .ok (.invokestatic 59, 3) := by decide +kernel
theorem dX9_set_19 : decode cX9_set 19 = .ok (.ifCond .ne 6, 3) := by decide +kernel
theorem dX9_set_22 : decode cX9_set 22 = .ok (.bipush (-2), 2) := by decide +kernel
theorem dX9_set_24 : decode cX9_set 24 = .ok (.ireturn, 1) := by decide +kernel
theorem dX9_set_25 : decode cX9_set 25 = .ok (.iload_n 1, 1) := by decide +kernel
theorem dX9_set_26 : decode cX9_set 26 = .ok (.ifCond .ne 10, 3) := by decide +kernel
theorem dX9_set_29 : decode cX9_set 29 = .ok (.aload_n 0, 1) := by decide +kernel
theorem dX9_set_30 : decode cX9_set 30 = .ok (.getfield 85, 3) := by decide +kernel
theorem dX9_set_33 : decode cX9_set 33 = .ok (.goto 7, 3) := by decide +kernel
theorem dX9_set_36 : decode cX9_set 36 = .ok (.aload_n 0, 1) := by decide +kernel
theorem dX9_set_37 : decode cX9_set 37 = .ok (.getfield 88, 3) := by decide +kernel
theorem dX9_set_40 : decode cX9_set 40 = .ok (.istore_n 3, 1) := by decide +kernel
theorem dX9_set_41 : decode cX9_set 41 = .ok (.iload_n 1, 1) := by decide +kernel
theorem dX9_set_42 : decode cX9_set 42 = .ok (.ifCond .ne 11, 3) := by decide +kernel
theorem dX9_set_45 : decode cX9_set 45 = .ok (.aload_n 0, 1) := by decide +kernel
theorem dX9_set_46 : decode cX9_set 46 = .ok (.iload_n 2, 1) := by decide +kernel
theorem dX9_set_47 : decode cX9_set 47 = .ok (.putfield 85, 3) := by decide +kernel
theorem dX9_set_50 : decode cX9_set 50 = .ok (.goto 8, 3) := by decide +kernel
theorem dX9_set_53 : decode cX9_set 53 = .ok (.aload_n 0, 1) := by decide +kernel
theorem dX9_set_54 : decode cX9_set 54 = .ok (.iload_n 2, 1) := by decide +kernel
theorem dX9_set_55 : decode cX9_set 55 = .ok (.putfield 88, 3) := by decide +kernel
theorem dX9_set_58 : decode cX9_set 58 = .ok (.iload_n 3, 1) := by decide +kernel
theorem dX9_set_59 : decode cX9_set 59 = .ok (.ireturn, 1) := by decide +kernel
theorem dX9_manyOf_0 : decode cX9_manyOf 0 = .ok (.iconst 0, 1) := by decide +kernel
theorem dX9_manyOf_1 : decode cX9_manyOf 1 = .ok (.istore_n 2, 1) := by decide +kernel
theorem dX9_manyOf_2 : decode cX9_manyOf 2 = .ok (.iconst 0, 1) := by decide +kernel
theorem dX9_manyOf_3 : decode cX9_manyOf 3 = .ok (.istore_n 3, 1) := by decide +kernel
theorem dX9_manyOf_4 : decode cX9_manyOf 4 = .ok (.iload_n 3, 1) := by decide +kernel
theorem dX9_manyOf_5 : decode cX9_manyOf 5 = .ok (.aload_n 0, 1) := by decide +kernel
theorem dX9_manyOf_6 : decode cX9_manyOf 6 = .ok (.getfield 55, 3) := by decide +kernel
theorem dX9_manyOf_9 : decode cX9_manyOf 9 = .ok (.if_icmp .ge 26, 3) := by decide +kernel
theorem dX9_manyOf_12 : decode cX9_manyOf 12 = .ok (.aload_n 1, 1) := by decide +kernel
theorem dX9_manyOf_13 : decode cX9_manyOf 13 = .ok (.iload_n 3, 1) := by decide +kernel
theorem dX9_manyOf_14 : decode cX9_manyOf 14 = .ok (.iaload, 1) := by decide +kernel
theorem dX9_manyOf_15 : decode cX9_manyOf 15 = .ok (.iload_n 2, 1) := by decide +kernel
theorem dX9_manyOf_16 : decode cX9_manyOf 16 = .ok (.if_icmp .lt 11, 3) := by decide +kernel
theorem dX9_manyOf_19 : decode cX9_manyOf 19 = .ok (.aload_n 1, 1) := by decide +kernel
theorem dX9_manyOf_20 : decode cX9_manyOf 20 = .ok (.iload_n 3, 1) := by decide +kernel
theorem dX9_manyOf_21 : decode cX9_manyOf 21 = .ok (.iaload, 1) := by decide +kernel
theorem dX9_manyOf_22 : decode cX9_manyOf 22 = .ok (.iconst 1, 1) := by decide +kernel
theorem dX9_manyOf_23 : decode cX9_manyOf 23 = .ok (.iadd, 1) := by decide +kernel
theorem dX9_manyOf_24 : decode cX9_manyOf 24 = .ok (.goto 4, 3) := by decide +kernel
theorem dX9_manyOf_27 : decode cX9_manyOf 27 = .ok (.iload_n 2, 1) := by decide +kernel
theorem dX9_manyOf_28 : decode cX9_manyOf 28 = .ok (.istore_n 2, 1) := by decide +kernel
theorem dX9_manyOf_29 : decode cX9_manyOf 29 = .ok (.iinc 3 1, 3) := by decide +kernel
theorem dX9_manyOf_32 : decode cX9_manyOf 32 = .ok (.goto (-28), 3) := by decide +kernel
theorem dX9_manyOf_35 : decode cX9_manyOf 35 = .ok (.iload_n 2, 1) := by decide +kernel
theorem dX9_manyOf_36 : decode cX9_manyOf 36 = .ok (.ireturn, 1) := by decide +kernel
theorem dX9_say_0 : decode cX9_say 0 = .ok (.iload_n 1, 1) := by decide +kernel
theorem dX9_say_1 : decode cX9_say 1 = .ok (.i2l, 1) := by decide +kernel
theorem dX9_say_2 : decode cX9_say 2 = .ok (.ldc2_w 91, 3) := by decide +kernel
theorem dX9_say_5 : decode cX9_say 5 = .ok (.ldc2_w 93, 3) := by decide +kernel
theorem dX9_say_8 : decode cX9_say 8 = .ok (.invokestatic 59, 3) := by decide +kernel
theorem dX9_say_11 : decode cX9_say 11 = .ok (.ifCond .ne 6, 3) := by decide +kernel
theorem dX9_say_14 : decode cX9_say 14 = .ok (.bipush (-2), 2) := by decide +kernel
theorem dX9_say_16 : decode cX9_say 16 = .ok (.ireturn, 1) := by decide +kernel
theorem dX9_say_17 : decode cX9_say 17 = .ok (.aload_n 0, 1) := by decide +kernel
theorem dX9_say_18 : decode cX9_say 18 = .ok (.getfield 95, 3) := by decide +kernel
theorem dX9_say_21 : decode cX9_say 21 = .ok (.bipush 20, 2) := by decide +kernel
theorem dX9_say_23 : decode cX9_say 23 = .ok (.if_icmp .ne 6, 3) := by decide +kernel
theorem dX9_say_26 : decode cX9_say 26 = .ok (.bipush (-4), 2) := by decide +kernel
theorem dX9_say_28 : decode cX9_say 28 = .ok (.ireturn, 1) := by decide +kernel
theorem dX9_say_29 : decode cX9_say 29 = .ok (.aload_n 0, 1) := by decide +kernel
theorem dX9_say_30 : decode cX9_say 30 = .ok (.getfield 19, 3) := by decide +kernel
theorem dX9_say_33 : decode cX9_say 33 = .ok (.aload_n 0, 1) := by decide +kernel
theorem dX9_say_34 : decode cX9_say 34 = .ok (.getfield 95, 3) := by decide +kernel
theorem dX9_say_37 : decode cX9_say 37 = .ok (.iload_n 1, 1) := by decide +kernel
theorem dX9_say_38 : decode cX9_say 38 = .ok (.iastore, 1) := by decide +kernel
theorem dX9_say_39 : decode cX9_say 39 = .ok (.aload_n 0, 1) := by decide +kernel
theorem dX9_say_40 : decode cX9_say 40 = .ok (.dup, 1) := by decide +kernel
theorem dX9_say_41 : decode cX9_say 41 = .ok (.getfield 95, 3) := by decide +kernel
theorem dX9_say_44 : decode cX9_say 44 = .ok (.iconst 1, 1) := by decide +kernel
theorem dX9_say_45 : decode cX9_say 45 = .ok (.iadd, 1) := by decide +kernel
theorem dX9_say_46 : decode cX9_say 46 = .ok (.putfield 95, 3) := by decide +kernel
theorem dX9_say_49 : decode cX9_say 49 = .ok (.aload_n 0, 1) := by decide +kernel
theorem dX9_say_50 : decode cX9_say 50 = .ok (.getfield 95, 3) := by decide +kernel
theorem dX9_say_53 : decode cX9_say 53 = .ok (.ireturn, 1) := by decide +kernel
theorem dX9_wipe_0 : decode cX9_wipe 0 = .ok (.aload_n 0, 1) := by decide +kernel
theorem dX9_wipe_1 : decode cX9_wipe 1 = .ok (.getfield 95, 3) := by decide +kernel
theorem dX9_wipe_4 : decode cX9_wipe 4 = .ok (.istore_n 1, 1) := by decide +kernel
theorem dX9_wipe_5 : decode cX9_wipe 5 = .ok (.aload_n 0, 1) := by decide +kernel
theorem dX9_wipe_6 : decode cX9_wipe 6 = .ok (.iconst 0, 1) := by decide +kernel
theorem dX9_wipe_7 : decode cX9_wipe 7 = .ok (.putfield 95, 3) := by decide +kernel
theorem dX9_wipe_10 : decode cX9_wipe 10 = .ok (.iload_n 1, 1) := by decide +kernel
theorem dX9_wipe_11 : decode cX9_wipe 11 = .ok (.ireturn, 1) := by decide +kernel
theorem dX9_fault_0 : decode cX9_fault 0 = .ok (.iconst 0, 1) := by decide +kernel
theorem dX9_fault_1 : decode cX9_fault 1 = .ok (.istore_n 1, 1) := by decide +kernel
theorem dX9_fault_2 : decode cX9_fault 2 = .ok (.iconst 0, 1) := by decide +kernel
theorem dX9_fault_3 : decode cX9_fault 3 = .ok (.istore_n 2, 1) := by decide +kernel
theorem dX9_fault_4 : decode cX9_fault 4 = .ok (.iconst 0, 1) := by decide +kernel
theorem dX9_fault_5 : decode cX9_fault 5 = .ok (.istore_n 3, 1) := by decide +kernel
theorem dX9_fault_6 : decode cX9_fault 6 = .ok (.iload_n 3, 1) := by decide +kernel
theorem dX9_fault_7 : decode cX9_fault 7 = .ok (.aload_n 0, 1) := by decide +kernel
theorem dX9_fault_8 : decode cX9_fault 8 = .ok (.getfield 95, 3) := by decide +kernel
theorem dX9_fault_11 : decode cX9_fault 11 = .ok (.if_icmp .ge 122, 3) := by decide +kernel
theorem dX9_fault_14 : decode cX9_fault 14 = .ok (.aload_n 0, 1) := by decide +kernel
theorem dX9_fault_15 : decode cX9_fault 15 = .ok (.getfield 19, 3) := by decide +kernel
theorem dX9_fault_18 : decode cX9_fault 18 = .ok (.iload_n 3, 1) := by decide +kernel
theorem dX9_fault_19 : decode cX9_fault 19 = .ok (.iaload, 1) := by decide +kernel
theorem dX9_fault_20 : decode cX9_fault 20 = .ok (.istore 4, 2) := by decide +kernel
theorem dX9_fault_22 : decode cX9_fault 22 = .ok (.iload 4, 2) := by decide +kernel
theorem dX9_fault_24 : decode cX9_fault 24 = .ok (.i2l, 1) := by decide +kernel
theorem dX9_fault_25 : decode cX9_fault 25 = .ok (.ldc2_w 98, 3) := by decide +kernel
theorem dX9_fault_28 : decode cX9_fault 28 = .ok (.bipush 97, 2) := by decide +kernel
theorem dX9_fault_30 : decode cX9_fault 30 = .ok (.aload_n 0, 1) := by decide +kernel
theorem dX9_fault_31 : decode cX9_fault 31 = .ok (.getfield 55, 3) := by decide +kernel
theorem dX9_fault_34 : decode cX9_fault 34 = .ok (.iadd, 1) := by decide +kernel
theorem dX9_fault_35 : decode cX9_fault 35 = .ok (.iconst 1, 1) := by decide +kernel
theorem dX9_fault_36 : decode cX9_fault 36 = .ok (.isub, 1) := by decide +kernel
theorem dX9_fault_37 : decode cX9_fault 37 = .ok (.i2l, 1) := by decide +kernel
theorem dX9_fault_38 : decode cX9_fault 38 = .ok (.invokestatic 59, 3) := by decide +kernel
theorem dX9_fault_41 : decode cX9_fault 41 = .ok (.ifCond .eq 19, 3) := by decide +kernel
theorem dX9_fault_44 : decode cX9_fault 44 = .ok (.iload_n 1, 1) := by decide +kernel
theorem dX9_fault_45 : decode cX9_fault 45 = .ok (.iload 4, 2) := by decide +kernel
theorem dX9_fault_47 : decode cX9_fault 47 = .ok (.bipush 97, 2) := by decide +kernel
theorem dX9_fault_49 : decode cX9_fault 49 = .ok (.isub, 1) := by decide +kernel
theorem dX9_fault_50 : decode cX9_fault 50 = .ok (.ishr, 1) := by decide +kernel
theorem dX9_fault_51 : decode cX9_fault 51 = .ok (.iconst 1, 1) := by decide +kernel
theorem dX9_fault_52 : decode cX9_fault 52 = .ok (.iand, 1) := by decide +kernel
theorem dX9_fault_53 : decode cX9_fault 53 = .ok (.ifCond .ne 7, 3) := by decide +kernel
theorem dX9_fault_56 : decode cX9_fault 56 = .ok (.iconst 1, 1) := by decide +kernel
theorem dX9_fault_57 : decode cX9_fault 57 = .ok (.goto 4, 3) := by decide +kernel
theorem dX9_fault_60 : decode cX9_fault 60 = .ok (.iconst 0, 1) := by decide +kernel
theorem dX9_fault_61 : decode cX9_fault 61 = .ok (.istore 5, 2) := by decide +kernel
theorem dX9_fault_63 : decode cX9_fault 63 = .ok (.iload 4, 2) := by decide +kernel
theorem dX9_fault_65 : decode cX9_fault 65 = .ok (.bipush 124, 2) := by decide +kernel
theorem dX9_fault_67 : decode cX9_fault 67 = .ok (.if_icmp .ne 23, 3) := by decide +kernel
theorem dX9_fault_70 : decode cX9_fault 70 = .ok (.iload_n 2, 1) := by decide +kernel
theorem dX9_fault_71 : decode cX9_fault 71 = .ok (.ifCond .eq 19, 3) := by decide +kernel
theorem dX9_fault_74 : decode cX9_fault 74 = .ok (.iload_n 1, 1) := by decide +kernel
theorem dX9_fault_75 : decode cX9_fault 75 = .ok (.iconst 1, 1) := by decide +kernel
theorem dX9_fault_76 : decode cX9_fault 76 = .ok (.aload_n 0, 1) := by decide +kernel
theorem dX9_fault_77 : decode cX9_fault 77 = .ok (.getfield 55, 3) := by decide +kernel
theorem dX9_fault_80 : decode cX9_fault 80 = .ok (.ishl, 1) := by decide +kernel
theorem dX9_fault_81 : decode cX9_fault 81 = .ok (.iconst 1, 1) := by decide +kernel
theorem dX9_fault_82 : decode cX9_fault 82 = .ok (.isub, 1) := by decide +kernel
theorem dX9_fault_83 : decode cX9_fault 83 = .ok (.if_icmp .eq 7, 3) := by decide +kernel
theorem dX9_fault_86 : decode cX9_fault 86 = .ok (.iconst 1, 1) := by decide +kernel
theorem dX9_fault_87 : decode cX9_fault 87 = .ok (.goto 4, 3) := by decide +kernel
theorem dX9_fault_90 : decode cX9_fault 90 = .ok (.iconst 0, 1) := by decide +kernel
theorem dX9_fault_91 : decode cX9_fault 91 = .ok (.istore 6, 2) := by decide +kernel
theorem dX9_fault_93 : decode cX9_fault 93 = .ok (.iload 5, 2) := by decide +kernel
theorem dX9_fault_95 : decode cX9_fault 95 = .ok (.ifCond .ne 10, 3) := by decide +kernel
theorem dX9_fault_98 : decode cX9_fault 98 = .ok (.iload 6, 2) := by decide +kernel
theorem dX9_fault_100 : decode cX9_fault 100 = .ok (.ifCond .ne 5, 3) := by decide +kernel
theorem dX9_fault_103 : decode cX9_fault 103 = .ok (.iload_n 3, 1) := by decide +kernel
theorem dX9_fault_104 : decode cX9_fault 104 = .ok (.ireturn, 1) := by decide +kernel
theorem dX9_fault_105 : decode cX9_fault 105 = .ok (.iload_n 1, 1) := by decide +kernel
theorem dX9_fault_106 : decode cX9_fault 106 = .ok (.iload 5, 2) := by decide +kernel
theorem dX9_fault_108 : decode cX9_fault 108 = .ok (.ifCond .eq 13, 3) := by decide +kernel
theorem dX9_fault_111 : decode cX9_fault 111 = .ok (.iconst 1, 1) := by decide +kernel
theorem dX9_fault_112 : decode cX9_fault 112 = .ok (.iload 4, 2) := by decide +kernel
theorem dX9_fault_114 : decode cX9_fault 114 = .ok (.bipush 97, 2) := by decide +kernel
theorem dX9_fault_116 : decode cX9_fault 116 = .ok (.isub, 1) := by decide +kernel
theorem dX9_fault_117 : decode cX9_fault 117 = .ok (.ishl, 1) := by decide +kernel
theorem dX9_fault_118 : decode cX9_fault 118 = .ok (.goto 4, 3) := by decide +kernel
theorem dX9_fault_121 : decode cX9_fault 121 = .ok (.iconst 0, 1) := by decide +kernel
theorem dX9_fault_122 : decode cX9_fault 122 = .ok (.ior, 1) := by decide +kernel
theorem dX9_fault_123 : decode cX9_fault 123 = .ok (.istore_n 1, 1) := by decide +kernel
theorem dX9_fault_124 : decode cX9_fault 124 = .ok (.iload 5, 2) := by decide +kernel
theorem dX9_fault_126 : decode cX9_fault 126 = .ok (.istore_n 2, 1) := by decide +kernel
theorem dX9_fault_127 : decode cX9_fault 127 = .ok (.iinc 3 1, 3) := by decide +kernel
theorem dX9_fault_130 : decode cX9_fault 130 = .ok (.goto (-124), 3) := by decide +kernel
theorem dX9_fault_133 : decode cX9_fault 133 = .ok (.iload_n 2, 1) := by decide +kernel
theorem dX9_fault_134 : decode cX9_fault 134 = .ok (.ifCond .eq 20, 3) := by decide +kernel
theorem dX9_fault_137 : decode cX9_fault 137 = .ok (.iload_n 1, 1) := by decide +kernel
theorem dX9_fault_138 : decode cX9_fault 138 = .ok (.iconst 1, 1) := by decide +kernel
theorem dX9_fault_139 : decode cX9_fault 139 = .ok (.aload_n 0, 1) := by decide +kernel
theorem dX9_fault_140 : decode cX9_fault 140 = .ok (.getfield 55, 3) := by decide +kernel
theorem dX9_fault_143 : decode cX9_fault 143 = .ok (.ishl, 1) := by decide +kernel
theorem dX9_fault_144 : decode cX9_fault 144 = .ok (.iconst 1, 1) := by decide +kernel
theorem dX9_fault_145 : decode cX9_fault 145 = .ok (.isub, 1) := by decide +kernel
theorem dX9_fault_146 : decode cX9_fault 146 = .ok (.if_icmp .ne 8, 3) := by decide +kernel
theorem dX9_fault_149 : decode cX9_fault 149 = .ok (.bipush (-6), 2) := by decide +kernel
theorem dX9_fault_151 : decode cX9_fault 151 = .ok (.goto 7, 3) := by decide +kernel
theorem dX9_fault_154 : decode cX9_fault 154 = .ok (.aload_n 0, 1) := by decide +kernel
theorem dX9_fault_155 : decode cX9_fault 155 = .ok (.getfield 95, 3) := by decide +kernel
theorem dX9_fault_158 : decode cX9_fault 158 = .ok (.ireturn, 1) := by decide +kernel
theorem dX9_part_0 : decode cX9_part 0 = .ok (.aload_n 0, 1) := by decide +kernel
theorem dX9_part_1 : decode cX9_part 1 = .ok (.invokevirtual 100, 3) := by decide +kernel
theorem dX9_part_4 : decode cX9_part 4 = .ok (.ifCond .lt 6, 3) := by decide +kernel
theorem dX9_part_7 : decode cX9_part 7 = .ok (.bipush (-5), 2) := by decide +kernel
theorem dX9_part_9 : decode cX9_part 9 = .ok (.ireturn, 1) := by decide +kernel
theorem dX9_part_10 : decode cX9_part 10 = .ok (.iconst 0, 1) := by decide +kernel
theorem dX9_part_11 : decode cX9_part 11 = .ok (.istore_n 1, 1) := by decide +kernel
theorem dX9_part_12 : decode cX9_part 12 = .ok (.iconst 0, 1) := by decide +kernel
theorem dX9_part_13 : decode cX9_part 13 = .ok (.istore_n 2, 1) := by decide +kernel
theorem dX9_part_14 : decode cX9_part 14 = .ok (.iload_n 2, 1) := by decide +kernel
theorem dX9_part_15 : decode cX9_part 15 = .ok (.aload_n 0, 1) := by decide +kernel
theorem dX9_part_16 : decode cX9_part 16 = .ok (.getfield 95, 3) := by decide +kernel
theorem dX9_part_19 : decode cX9_part 19 = .ok (.if_icmp .ge 41, 3) := by decide +kernel
theorem dX9_part_22 : decode cX9_part 22 = .ok (.aload_n 0, 1) := by decide +kernel
theorem dX9_part_23 : decode cX9_part 23 = .ok (.getfield 19, 3) := by decide +kernel
theorem dX9_part_26 : decode cX9_part 26 = .ok (.iload_n 2, 1) := by decide +kernel
theorem dX9_part_27 : decode cX9_part 27 = .ok (.iaload, 1) := by decide +kernel
theorem dX9_part_28 : decode cX9_part 28 = .ok (.bipush 124, 2) := by decide +kernel
theorem dX9_part_30 : decode cX9_part 30 = .ok (.if_icmp .ne 9, 3) := by decide +kernel
theorem dX9_part_33 : decode cX9_part 33 = .ok (.iinc 1 1, 3) := by decide +kernel
theorem dX9_part_36 : decode cX9_part 36 = .ok (.goto 18, 3) := by decide +kernel
theorem dX9_part_39 : decode cX9_part 39 = .ok (.aload_n 0, 1) := by decide +kernel
theorem dX9_part_40 : decode cX9_part 40 = .ok (.getfield 13, 3) := by decide +kernel
theorem dX9_part_43 : decode cX9_part 43 = .ok (.aload_n 0, 1) := by decide +kernel
theorem dX9_part_44 : decode cX9_part 44 = .ok (.getfield 19, 3) := by decide +kernel
theorem dX9_part_47 : decode cX9_part 47 = .ok (.iload_n 2, 1) := by decide +kernel
theorem dX9_part_48 : decode cX9_part 48 = .ok (.iaload, 1) := by decide +kernel
theorem dX9_part_49 : decode cX9_part 49 = .ok (.bipush 97, 2) := by decide +kernel
theorem dX9_part_51 : decode cX9_part 51 = .ok (.isub, 1) := by decide +kernel
theorem dX9_part_52 : decode cX9_part 52 = .ok (.iload_n 1, 1) := by decide +kernel
theorem dX9_part_53 : decode cX9_part 53 = .ok (.iastore, 1) := by decide +kernel
theorem dX9_part_54 : decode cX9_part 54 = .ok (.iinc 2 1, 3) := by decide +kernel
theorem dX9_part_57 : decode cX9_part 57 = .ok (.goto (-43), 3) := by decide +kernel
theorem dX9_part_60 : decode cX9_part 60 = .ok (.aload_n 0, 1) := by decide +kernel
theorem dX9_part_61 : decode cX9_part 61 = .ok (.iconst 0, 1) := by decide +kernel
theorem dX9_part_62 : decode cX9_part 62 = .ok (.putfield 95, 3) := by decide +kernel
theorem dX9_part_65 : decode cX9_part 65 = .ok (.aload_n 0, 1) := by decide +kernel
theorem dX9_part_66 : decode cX9_part 66 = .ok (.aload_n 0, 1) := by decide +kernel
theorem dX9_part_67 : decode cX9_part 67 = .ok (.getfield 13, 3) := by decide +kernel
theorem dX9_part_70 : decode cX9_part 70 = .ok (.invokevirtual 104, 3) := by decide +kernel
theorem dX9_part_73 : decode cX9_part 73 = .ok (.aload_n 0, 1) := by decide +kernel
theorem dX9_part_74 : decode cX9_part 74 = .ok (.aload_n 0, 1) := by decide +kernel
theorem dX9_part_75 : decode cX9_part 75 = .ok (.getfield 13, 3) := by decide +kernel
theorem dX9_part_78 : decode cX9_part 78 = .ok (.invokevirtual 73, 3) := by decide +kernel
theorem dX9_part_81 : decode cX9_part 81 = .ok (.ireturn, 1) := by decide +kernel
theorem dX9_number_0 : decode cX9_number 0 = .ok (.iconst 0, 1) := by decide +kernel
theorem dX9_number_1 : decode cX9_number 1 = .ok (.istore_n 2, 1) := by decide +kernel
theorem dX9_number_2 : decode cX9_number 2 = .ok (.iconst 0, 1) := by decide +kernel
theorem dX9_number_3 : decode cX9_number 3 = .ok (.istore_n 3, 1) := by decide +kernel
theorem dX9_number_4 : decode cX9_number 4 = .ok (.iload_n 3, 1) := by decide +kernel
theorem dX9_number_5 : decode cX9_number 5 = .ok (.bipush 8, 2) := by decide +kernel
theorem dX9_number_7 : decode cX9_number 7 = .ok (.if_icmp .ge 17, 3) := by decide +kernel
theorem dX9_number_10 : decode cX9_number 10 = .ok (.aload_n 0, 1) := by decide +kernel
theorem dX9_number_11 : decode cX9_number 11 = .ok (.getfield 22, 3) := by decide +kernel
theorem dX9_number_14 : decode cX9_number 14 = .ok (.iload_n 3, 1) := by decide +kernel
theorem dX9_number_15 : decode cX9_number 15 = .ok (.bipush (-6), 2) := by decide +kernel
theorem dX9_number_17 : decode cX9_number 17 = .ok (.iastore, 1) := by decide +kernel
theorem dX9_number_18 : decode cX9_number 18 = .ok (.iinc 3 1, 3) := by decide +kernel
theorem dX9_number_21 : decode cX9_number 21 = .ok (.goto (-17), 3) := by decide +kernel
theorem dX9_number_24 : decode cX9_number 24 = .ok (.iconst 0, 1) := by decide +kernel
theorem dX9_number_25 : decode cX9_number 25 = .ok (.istore_n 3, 1) := by decide +kernel
theorem dX9_number_26 : decode cX9_number 26 = .ok (.iload_n 3, 1) := by decide +kernel
theorem dX9_number_27 : decode cX9_number 27 = .ok (.aload_n 0, 1) := by decide +kernel
theorem dX9_number_28 : decode cX9_number 28 = .ok (.getfield 55, 3) := by decide +kernel
theorem dX9_number_31 : decode cX9_number 31 = .ok (.if_icmp .ge 45, 3) := by decide +kernel
theorem dX9_number_34 : decode cX9_number 34 = .ok (.aload_n 0, 1) := by decide +kernel
theorem dX9_number_35 : decode cX9_number 35 = .ok (.getfield 22, 3) := by decide +kernel
theorem dX9_number_38 : decode cX9_number 38 = .ok (.aload_n 1, 1) := by decide +kernel
theorem dX9_number_39 : decode cX9_number 39 = .ok (.iload_n 3, 1) := by decide +kernel
theorem dX9_number_40 : decode cX9_number 40 = .ok (.iaload, 1) := by decide +kernel
theorem dX9_number_41 : decode cX9_number 41 = .ok (.iaload, 1) := by decide +kernel
theorem dX9_number_42 : decode cX9_number 42 = .ok (.bipush (-6), 2) := by decide +kernel
theorem dX9_number_44 : decode cX9_number 44 = .ok (.if_icmp .ne 15, 3) := by decide +kernel
theorem dX9_number_47 : decode cX9_number 47 = .ok (.aload_n 0, 1) := by decide +kernel
theorem dX9_number_48 : decode cX9_number 48 = .ok (.getfield 22, 3) := by decide +kernel
theorem dX9_number_51 : decode cX9_number 51 = .ok (.aload_n 1, 1) := by decide +kernel
theorem dX9_number_52 : decode cX9_number 52 = .ok (.iload_n 3, 1) := by decide +kernel
theorem dX9_number_53 : decode cX9_number 53 = .ok (.iaload, 1) := by decide +kernel
theorem dX9_number_54 : decode cX9_number 54 = .ok (.iload_n 2, 1) := by decide +kernel
theorem dX9_number_55 : decode cX9_number 55 = .ok (.iastore, 1) := by decide +kernel
theorem dX9_number_56 : decode cX9_number 56 = .ok (.iinc 2 1, 3) := by decide +kernel
theorem dX9_number_59 : decode cX9_number 59 = .ok (.aload_n 1, 1) := by decide +kernel
theorem dX9_number_60 : decode cX9_number 60 = .ok (.iload_n 3, 1) := by decide +kernel
theorem dX9_number_61 : decode cX9_number 61 = .ok (.aload_n 0, 1) := by decide +kernel
theorem dX9_number_62 : decode cX9_number 62 = .ok (.getfield 22, 3) := by decide +kernel
theorem dX9_number_65 : decode cX9_number 65 = .ok (.aload_n 1, 1) := by decide +kernel
theorem dX9_number_66 : decode cX9_number 66 = .ok (.iload_n 3, 1) := by decide +kernel
theorem dX9_number_67 : decode cX9_number 67 = .ok (.iaload, 1) := by decide +kernel
theorem dX9_number_68 : decode cX9_number 68 = .ok (.iaload, 1) := by decide +kernel
theorem dX9_number_69 : decode cX9_number 69 = .ok (.iastore, 1) := by decide +kernel
theorem dX9_number_70 : decode cX9_number 70 = .ok (.iinc 3 1, 3) := by decide +kernel
theorem dX9_number_73 : decode cX9_number 73 = .ok (.goto (-47), 3) := by decide +kernel
theorem dX9_number_76 : decode cX9_number 76 = .ok (.return_, 1) := by decide +kernel
theorem dX9_union_0 : decode cX9_union 0 = .ok (.aload_n 0, 1) := by decide +kernel
theorem dX9_union_1 : decode cX9_union 1 = .ok (.iload_n 1, 1) := by decide +kernel
theorem dX9_union_2 : decode cX9_union 2 = .ok (.invokevirtual 77, 3) := by decide +kernel
theorem dX9_union_5 : decode cX9_union 5 = .ok (.ifCond .eq 12, 3) := by decide +kernel
theorem dX9_union_8 : decode cX9_union 8 = .ok (.aload_n 0, 1) := by decide +kernel
theorem dX9_union_9 : decode cX9_union 9 = .ok (.getfield 13, 3) := by decide +kernel
theorem dX9_union_12 : decode cX9_union 12 = .ok (.iload_n 1, 1) := by decide +kernel
theorem dX9_union_13 : decode cX9_union 13 = .ok (.iaload, 1) := by decide +kernel
theorem dX9_union_14 : decode cX9_union 14 = .ok (.goto 4, 3) := by decide +kernel
theorem dX9_union_17 : decode cX9_union 17 = .ok (.iconst (-1), 1) := by decide +kernel
theorem dX9_union_18 : decode cX9_union 18 = .ok (.ireturn, 1) := by decide +kernel
theorem dX9_wallOf_0 : decode cX9_wallOf 0 = .ok (.bipush 100, 2) := by decide +kernel
theorem dX9_wallOf_2 : decode cX9_wallOf 2 = .ok (.istore_n 3, 1) := by decide +kernel
theorem dX9_wallOf_3 : decode cX9_wallOf 3 = .ok (.iconst 0, 1) := by decide +kernel
theorem dX9_wallOf_4 : decode cX9_wallOf 4 = .ok (.istore 4, 2) := by decide +kernel
theorem dX9_wallOf_6 : decode cX9_wallOf 6 = .ok (.iconst 0, 1) := by decide +kernel
theorem dX9_wallOf_7 : decode cX9_wallOf 7 = .ok (.istore 5, 2) := by decide +kernel
theorem dX9_wallOf_9 : decode cX9_wallOf 9 = .ok (.iconst 0, 1) := by decide +kernel
theorem dX9_wallOf_10 : decode cX9_wallOf 10 = .ok (.istore 6, 2) := by decide +kernel
theorem dX9_wallOf_12 : decode cX9_wallOf 12 = .ok (.iconst 0, 1) := by decide +kernel
theorem dX9_wallOf_13 : decode cX9_wallOf 13 = .ok (.istore 7, 2) := by decide +kernel
theorem dX9_wallOf_15 : decode cX9_wallOf 15 = .ok (.iload 7, 2) := by decide +kernel
theorem dX9_wallOf_17 : decode cX9_wallOf 17 = .ok (.aload_n 0, 1) := by decide +kernel
theorem dX9_wallOf_18 : decode cX9_wallOf 18 = .ok (.getfield 55, 3) := by decide +kernel
theorem dX9_wallOf_21 : decode cX9_wallOf 21 = .ok (.if_icmp .ge 71, 3) := by decide +kernel
theorem dX9_wallOf_24 : decode cX9_wallOf 24 = .ok (.aload_n 1, 1) := by decide +kernel
theorem dX9_wallOf_25 : decode cX9_wallOf 25 = .ok (.iload 7, 2) := by decide +kernel
theorem dX9_wallOf_27 : decode cX9_wallOf 27 = .ok (.iaload, 1) := by decide +kernel
theorem dX9_wallOf_28 : decode cX9_wallOf 28 = .ok (.aload_n 1, 1) := by decide +kernel
theorem dX9_wallOf_29 : decode cX9_wallOf 29 = .ok (.iload_n 2, 1) := by decide +kernel
theorem dX9_wallOf_30 : decode cX9_wallOf 30 = .ok (.iaload, 1) := by decide +kernel
theorem dX9_wallOf_31 : decode cX9_wallOf 31 = .ok (.if_icmp .ne 55, 3) := by decide +kernel
theorem dX9_wallOf_34 : decode cX9_wallOf 34 = .ok (.aload_n 0, 1) := by decide +kernel
theorem dX9_wallOf_35 : decode cX9_wallOf 35 = .ok (.getfield 7, 3) := by decide +kernel
theorem dX9_wallOf_38 : decode cX9_wallOf 38 = .ok (.iconst 4, 1) := by decide +kernel
theorem dX9_wallOf_39 : decode cX9_wallOf 39 = .ok (.iload 7, 2) := by decide +kernel
theorem dX9_wallOf_41 : decode cX9_wallOf 41 = .ok (.imul, 1) := by decide +kernel
theorem dX9_wallOf_42 : decode cX9_wallOf 42 = .ok (.iconst 3, 1) := by decide +kernel
theorem dX9_wallOf_43 : decode cX9_wallOf 43 = .ok (.iadd, 1) := by decide +kernel
theorem dX9_wallOf_44 : decode cX9_wallOf 44 = .ok (.iaload, 1) := by decide +kernel
theorem dX9_wallOf_45 : decode cX9_wallOf 45 = .ok (.istore 8, 2) := by decide +kernel
theorem dX9_wallOf_47 : decode cX9_wallOf 47 = .ok (.iload 8, 2) := by decide +kernel
theorem dX9_wallOf_49 : decode cX9_wallOf 49 = .ok (.iload_n 3, 1) := by decide +kernel
theorem dX9_wallOf_50 : decode cX9_wallOf 50 = .ok (.if_icmp .ge 8, 3) := by decide +kernel
theorem dX9_wallOf_53 : decode cX9_wallOf 53 = .ok (.iload 8, 2) := by decide +kernel
theorem dX9_wallOf_55 : decode cX9_wallOf 55 = .ok (.goto 4, 3) := by decide +kernel
theorem dX9_wallOf_58 : decode cX9_wallOf 58 = .ok (.iload_n 3, 1) := by decide +kernel
theorem dX9_wallOf_59 : decode cX9_wallOf 59 = .ok (.istore_n 3, 1) := by decide +kernel
theorem dX9_wallOf_60 : decode cX9_wallOf 60 = .ok (.iload 8, 2) := by decide +kernel
theorem dX9_wallOf_62 : decode cX9_wallOf 62 = .ok (.iload 4, 2) := by decide +kernel
theorem dX9_wallOf_64 : decode cX9_wallOf 64 = .ok (.if_icmp .le 8, 3) := by decide +kernel
theorem dX9_wallOf_67 : decode cX9_wallOf 67 = .ok (.iload 8, 2) := by decide +kernel
theorem dX9_wallOf_69 : decode cX9_wallOf 69 = .ok (.goto 5, 3) := by decide +kernel
theorem dX9_wallOf_72 : decode cX9_wallOf 72 = .ok (.iload 4, 2) := by decide +kernel
theorem dX9_wallOf_74 : decode cX9_wallOf 74 = .ok (.istore 4, 2) := by decide +kernel
theorem dX9_wallOf_76 : decode cX9_wallOf 76 = .ok (.iload 5, 2) := by decide +kernel
theorem dX9_wallOf_78 : decode cX9_wallOf 78 = .ok (.iload 8, 2) := by decide +kernel
theorem dX9_wallOf_80 : decode cX9_wallOf 80 = .ok (.iadd, 1) := by decide +kernel
theorem dX9_wallOf_81 : decode cX9_wallOf 81 = .ok (.istore 5, 2) := by decide +kernel
theorem dX9_wallOf_83 : decode cX9_wallOf 83 = .ok (.iinc 6 1, 3) := by decide +kernel
theorem dX9_wallOf_86 : decode cX9_wallOf 86 = .ok (.iinc 7 1, 3) := by decide +kernel
theorem dX9_wallOf_89 : decode cX9_wallOf 89 = .ok (.goto (-74), 3) := by decide +kernel
theorem dX9_wallOf_92 : decode cX9_wallOf 92 = .ok (.aload_n 0, 1) := by decide +kernel
theorem dX9_wallOf_93 : decode cX9_wallOf 93 = .ok (.getfield 85, 3) := by decide +kernel
theorem dX9_wallOf_96 : decode cX9_wallOf 96 = .ok (.ifCond .ne 7, 3) := by decide +kernel
theorem dX9_wallOf_99 : decode cX9_wallOf 99 = .ok (.iload_n 3, 1) := by decide +kernel
theorem dX9_wallOf_100 : decode cX9_wallOf 100 = .ok (.goto 21, 3) := by decide +kernel
theorem dX9_wallOf_103 : decode cX9_wallOf 103 = .ok (.aload_n 0, 1) := by decide +kernel
theorem dX9_wallOf_104 : decode cX9_wallOf 104 = .ok (.getfield 85, 3) := by decide +kernel
theorem dX9_wallOf_107 : decode cX9_wallOf 107 = .ok (.iconst 1, 1) := by decide +kernel
theorem dX9_wallOf_108 : decode cX9_wallOf 108 = .ok (.if_icmp .ne 8, 3) := by decide +kernel
theorem dX9_wallOf_111 : decode cX9_wallOf 111 = .ok (.iload 4, 2) := by decide +kernel
theorem dX9_wallOf_113 : decode cX9_wallOf 113 = .ok (.goto 8, 3) := by decide +kernel
theorem dX9_wallOf_116 : decode cX9_wallOf 116 = .ok (.iload 5, 2) := by decide +kernel
theorem dX9_wallOf_118 : decode cX9_wallOf 118 = .ok (.iload 6, 2) := by decide +kernel
theorem dX9_wallOf_120 : decode cX9_wallOf 120 = .ok (.idiv, 1) := by decide +kernel
theorem dX9_wallOf_121 : decode cX9_wallOf 121 = .ok (.ireturn, 1) := by decide +kernel
theorem dX9_findGoods_0 : decode cX9_findGoods 0 = .ok (.iconst 0, 1) := by decide +kernel
theorem dX9_findGoods_1 : decode cX9_findGoods 1 = .ok (.istore_n 2, 1) := by decide +kernel
theorem dX9_findGoods_2 : decode cX9_findGoods 2 = .ok (.iload_n 2, 1) := by decide +kernel
theorem dX9_findGoods_3 : decode cX9_findGoods 3 = .ok (.aload_n 0, 1) := by decide +kernel
theorem dX9_findGoods_4 : decode cX9_findGoods 4 = .ok (.getfield 55, 3) := by decide +kernel
theorem dX9_findGoods_7 : decode cX9_findGoods 7 = .ok (.if_icmp .ge 187, 3) := by decide +kernel
theorem dX9_findGoods_10 : decode cX9_findGoods 10 = .ok (.aload_n 0, 1) := by decide +kernel
theorem dX9_findGoods_11 : decode cX9_findGoods 11 = .ok (.aload_n 1, 1) := by decide +kernel
theorem dX9_findGoods_12 : decode cX9_findGoods 12 = .ok (.iload_n 2, 1) := by decide +kernel
theorem dX9_findGoods_13 : decode cX9_findGoods 13 = .ok (.invokevirtual 108, 3) := by decide +kernel
theorem dX9_findGoods_16 : decode cX9_findGoods 16 = .ok (.istore_n 3, 1) := by decide +kernel
theorem dX9_findGoods_17 : decode cX9_findGoods 17 = .ok (.aload_n 0, 1) := by decide +kernel
theorem dX9_findGoods_18 : decode cX9_findGoods 18 = .ok (.getfield 34, 3) := by decide +kernel
theorem dX9_findGoods_21 : decode cX9_findGoods 21 = .ok (.iload_n 2, 1) := by decide +kernel
theorem dX9_findGoods_22 : decode cX9_findGoods 22 = .ok (.bipush (-6), 2) := by decide +kernel
theorem dX9_findGoods_24 : decode cX9_findGoods 24 = .ok (.iastore, 1) := by decide +kernel
theorem dX9_findGoods_25 : decode cX9_findGoods 25 = .ok (.iconst 0, 1) := by decide +kernel
theorem dX9_findGoods_26 : decode cX9_findGoods 26 = .ok (.istore 4, 2) := by decide +kernel
theorem dX9_findGoods_28 : decode cX9_findGoods 28 = .ok (.iload 4, 2) := by decide +kernel
theorem dX9_findGoods_30 : decode cX9_findGoods 30 = .ok (.aload_n 0, 1) := by decide +kernel
theorem dX9_findGoods_31 : decode cX9_findGoods 31 = .ok (.getfield 55, 3) := by decide +kernel
theorem dX9_findGoods_34 : decode cX9_findGoods 34 = .ok (.if_icmp .ge 88, 3) := by decide +kernel
theorem dX9_findGoods_37 : decode cX9_findGoods 37 = .ok (.aload_n 0, 1) := by decide +kernel
theorem dX9_findGoods_38 : decode cX9_findGoods 38 = .ok (.getfield 7, 3) := by decide +kernel
theorem dX9_findGoods_41 : decode cX9_findGoods 41 = .ok (.iconst 4, 1) := by decide +kernel
theorem dX9_findGoods_42 : decode cX9_findGoods 42 = .ok (.iload 4, 2) := by decide +kernel
theorem dX9_findGoods_44 : decode cX9_findGoods 44 = .ok (.imul, 1) := by decide +kernel
theorem dX9_findGoods_45 : decode cX9_findGoods 45 = .ok (.iconst 1, 1) := by decide +kernel
theorem dX9_findGoods_46 : decode cX9_findGoods 46 = .ok (.iadd, 1) := by decide +kernel
theorem dX9_findGoods_47 : decode cX9_findGoods 47 = .ok (.iaload, 1) := by decide +kernel
theorem dX9_findGoods_48 : decode cX9_findGoods 48 = .ok (.aload_n 0, 1) := by decide +kernel
theorem dX9_findGoods_49 : decode cX9_findGoods 49 = .ok (.getfield 7, 3) := by decide +kernel
theorem dX9_findGoods_52 : decode cX9_findGoods 52 = .ok (.iconst 4, 1) := by decide +kernel
theorem dX9_findGoods_53 : decode cX9_findGoods 53 = .ok (.iload 4, 2) := by decide +kernel
theorem dX9_findGoods_55 : decode cX9_findGoods 55 = .ok (.imul, 1) := by decide +kernel
theorem dX9_findGoods_56 : decode cX9_findGoods 56 = .ok (.iconst 2, 1) := by decide +kernel
theorem dX9_findGoods_57 : decode cX9_findGoods 57 = .ok (.iadd, 1) := by decide +kernel
theorem dX9_findGoods_58 : decode cX9_findGoods 58 = .ok (.iaload, 1) := by decide +kernel
theorem dX9_findGoods_59 : decode cX9_findGoods 59 = .ok (.iadd, 1) := by decide +kernel
theorem dX9_findGoods_60 : decode cX9_findGoods 60 = .ok (.aload_n 1, 1) := by decide +kernel
theorem dX9_findGoods_61 : decode cX9_findGoods 61 = .ok (.iload 4, 2) := by decide +kernel
theorem dX9_findGoods_63 : decode cX9_findGoods 63 = .ok (.iaload, 1) := by decide +kernel
theorem dX9_findGoods_64 : decode cX9_findGoods 64 = .ok (.aload_n 1, 1) := by decide +kernel
theorem dX9_findGoods_65 : decode cX9_findGoods 65 = .ok (.iload_n 2, 1) := by decide +kernel
theorem dX9_findGoods_66 : decode cX9_findGoods 66 = .ok (.iaload, 1) := by decide +kernel
theorem dX9_findGoods_67 : decode cX9_findGoods 67 = .ok (.if_icmp .ne 7, 3) := by decide +kernel
theorem dX9_findGoods_70 : decode cX9_findGoods 70 = .ok (.iconst 0, 1) := by decide +kernel
theorem dX9_findGoods_71 : decode cX9_findGoods 71 = .ok (.goto 4, 3) := by decide +kernel
theorem dX9_findGoods_74 : decode cX9_findGoods 74 = .ok (.iload_n 3, 1) := by decide +kernel
theorem dX9_findGoods_75 : decode cX9_findGoods 75 = .ok (.iadd, 1) := by decide +kernel
theorem dX9_findGoods_76 : decode cX9_findGoods 76 = .ok (.istore 5, 2) := by decide +kernel
theorem dX9_findGoods_78 : decode cX9_findGoods 78 = .ok (.aload_n 0, 1) := by decide +kernel
theorem dX9_findGoods_79 : decode cX9_findGoods 79 = .ok (.getfield 34, 3) := by decide +kernel
theorem dX9_findGoods_82 : decode cX9_findGoods 82 = .ok (.iload_n 2, 1) := by decide +kernel
theorem dX9_findGoods_83 : decode cX9_findGoods 83 = .ok (.iaload, 1) := by decide +kernel
theorem dX9_findGoods_84 : decode cX9_findGoods 84 = .ok (.bipush (-6), 2) := by decide +kernel
theorem dX9_findGoods_86 : decode cX9_findGoods 86 = .ok (.if_icmp .eq 14, 3) := by decide +kernel
theorem dX9_findGoods_89 : decode cX9_findGoods 89 = .ok (.iload 5, 2) := by decide +kernel
theorem dX9_findGoods_91 : decode cX9_findGoods 91 = .ok (.aload_n 0, 1) := by decide +kernel
theorem dX9_findGoods_92 : decode cX9_findGoods 92 = .ok (.getfield 28, 3) := by decide +kernel
theorem dX9_findGoods_95 : decode cX9_findGoods 95 = .ok (.iload_n 2, 1) := by decide +kernel
theorem dX9_findGoods_96 : decode cX9_findGoods 96 = .ok (.iaload, 1) := by decide +kernel
theorem dX9_findGoods_97 : decode cX9_findGoods 97 = .ok (.if_icmp .ge 19, 3) := by decide +kernel
theorem dX9_findGoods_100 : decode cX9_findGoods 100 = .ok (.aload_n 0, 1) := by decide +kernel
theorem dX9_findGoods_101 : decode cX9_findGoods 101 = .ok (.getfield 28, 3) := by decide +kernel
theorem dX9_findGoods_104 : decode cX9_findGoods 104 = .ok (.iload_n 2, 1) := by decide +kernel
theorem dX9_findGoods_105 : decode cX9_findGoods 105 = .ok (.iload 5, 2) := by decide +kernel
theorem dX9_findGoods_107 : decode cX9_findGoods 107 = .ok (.iastore, 1) := by decide +kernel
theorem dX9_findGoods_108 : decode cX9_findGoods 108 = .ok (.aload_n 0, 1) := by decide +kernel
theorem dX9_findGoods_109 : decode cX9_findGoods 109 = .ok (.getfield 34, 3) := by decide +kernel
theorem dX9_findGoods_112 : decode cX9_findGoods 112 = .ok (.iload_n 2, 1) := by decide +kernel
theorem dX9_findGoods_113 : decode cX9_findGoods 113 = .ok (.iload 4, 2) := by decide +kernel
theorem dX9_findGoods_115 : decode cX9_findGoods 115 = .ok (.iastore, 1) := by decide +kernel
theorem dX9_findGoods_116 : decode cX9_findGoods 116 = .ok (.iinc 4 1, 3) := by decide +kernel
theorem dX9_findGoods_119 : decode cX9_findGoods 119 = .ok (.goto (-91), 3) := by decide +kernel
theorem dX9_findGoods_122 : decode cX9_findGoods 122 = .ok (.aload_n 0, 1) := by decide +kernel
theorem dX9_findGoods_123 : decode cX9_findGoods 123 = .ok (.getfield 7, 3) := by decide +kernel
theorem dX9_findGoods_126 : decode cX9_findGoods 126 = .ok (.iconst 4, 1) := by decide +kernel
theorem dX9_findGoods_127 : decode cX9_findGoods 127 = .ok (.iload_n 2, 1) := by decide +kernel
theorem dX9_findGoods_128 : decode cX9_findGoods 128 = .ok (.imul, 1) := by decide +kernel
theorem dX9_findGoods_129 : decode cX9_findGoods 129 = .ok (.iaload, 1) := by decide +kernel
theorem dX9_findGoods_130 : decode cX9_findGoods 130 = .ok (.aload_n 0, 1) := by decide +kernel
theorem dX9_findGoods_131 : decode cX9_findGoods 131 = .ok (.getfield 28, 3) := by decide +kernel
theorem dX9_findGoods_134 : decode cX9_findGoods 134 = .ok (.iload_n 2, 1) := by decide +kernel
theorem dX9_findGoods_135 : decode cX9_findGoods 135 = .ok (.iaload, 1) := by decide +kernel
theorem dX9_findGoods_136 : decode cX9_findGoods 136 = .ok (.isub, 1) := by decide +kernel
theorem dX9_findGoods_137 : decode cX9_findGoods 137 = .ok (.istore 4, 2) := by decide +kernel
theorem dX9_findGoods_139 : decode cX9_findGoods 139 = .ok (.aload_n 0, 1) := by decide +kernel
theorem dX9_findGoods_140 : decode cX9_findGoods 140 = .ok (.getfield 31, 3) := by decide +kernel
theorem dX9_findGoods_143 : decode cX9_findGoods 143 = .ok (.iload_n 2, 1) := by decide +kernel
theorem dX9_findGoods_144 : decode cX9_findGoods 144 = .ok (.iload 4, 2) := by decide +kernel
theorem dX9_findGoods_146 : decode cX9_findGoods 146 = .ok (.ifCond .le 8, 3) := by decide +kernel
theorem dX9_findGoods_149 : decode cX9_findGoods 149 = .ok (.iload 4, 2) := by decide +kernel
theorem dX9_findGoods_151 : decode cX9_findGoods 151 = .ok (.goto 4, 3) := by decide +kernel
theorem dX9_findGoods_154 : decode cX9_findGoods 154 = .ok (.iconst 0, 1) := by decide +kernel
theorem dX9_findGoods_155 : decode cX9_findGoods 155 = .ok (.iastore, 1) := by decide +kernel
theorem dX9_findGoods_156 : decode cX9_findGoods 156 = .ok (.aload_n 0, 1) := by decide +kernel
theorem dX9_findGoods_157 : decode cX9_findGoods 157 = .ok (.getfield 37, 3) := by decide +kernel
theorem dX9_findGoods_160 : decode cX9_findGoods 160 = .ok (.iload_n 2, 1) := by decide +kernel
theorem dX9_findGoods_161 : decode cX9_findGoods 161 = .ok (.aload_n 1, 1) := by decide +kernel
theorem dX9_findGoods_162 : decode cX9_findGoods 162 = .ok (.aload_n 0, 1) := by decide +kernel
theorem dX9_findGoods_163 : decode cX9_findGoods 163 = .ok (.getfield 34, 3) := by decide +kernel
theorem dX9_findGoods_166 : decode cX9_findGoods 166 = .ok (.iload_n 2, 1) := by decide +kernel
theorem dX9_findGoods_167 : decode cX9_findGoods 167 = .ok (.iaload, 1) := by decide +kernel
theorem dX9_findGoods_168 : decode cX9_findGoods 168 = .ok (.iaload, 1) := by decide +kernel
theorem dX9_findGoods_169 : decode cX9_findGoods 169 = .ok (.aload_n 1, 1) := by decide +kernel
theorem dX9_findGoods_170 : decode cX9_findGoods 170 = .ok (.iload_n 2, 1) := by decide +kernel
theorem dX9_findGoods_171 : decode cX9_findGoods 171 = .ok (.iaload, 1) := by decide +kernel
theorem dX9_findGoods_172 : decode cX9_findGoods 172 = .ok (.if_icmp .ne 7, 3) := by decide +kernel
theorem dX9_findGoods_175 : decode cX9_findGoods 175 = .ok (.iconst 0, 1) := by decide +kernel
theorem dX9_findGoods_176 : decode cX9_findGoods 176 = .ok (.goto 11, 3) := by decide +kernel
theorem dX9_findGoods_179 : decode cX9_findGoods 179 = .ok (.iload_n 3, 1) := by decide +kernel
theorem dX9_findGoods_180 : decode cX9_findGoods 180 = .ok (.aload_n 0, 1) := by decide +kernel
theorem dX9_findGoods_181 : decode cX9_findGoods 181 = .ok (.getfield 31, 3) := by decide +kernel
theorem dX9_findGoods_184 : decode cX9_findGoods 184 = .ok (.iload_n 2, 1) := by decide +kernel
theorem dX9_findGoods_185 : decode cX9_findGoods 185 = .ok (.iaload, 1) := by decide +kernel
theorem dX9_findGoods_186 : decode cX9_findGoods 186 = .ok (.imul, 1) := by decide +kernel
theorem dX9_findGoods_187 : decode cX9_findGoods 187 = .ok (.iastore, 1) := by decide +kernel
theorem dX9_findGoods_188 : decode cX9_findGoods 188 = .ok (.iinc 2 1, 3) := by decide +kernel
theorem dX9_findGoods_191 : decode cX9_findGoods 191 = .ok (.goto (-189), 3) := by decide +kernel
theorem dX9_findGoods_194 : decode cX9_findGoods 194 = .ok (.iconst 0, 1) := by decide +kernel
theorem dX9_findGoods_195 : decode cX9_findGoods 195 = .ok (.istore_n 2, 1) := by decide +kernel
theorem dX9_findGoods_196 : decode cX9_findGoods 196 = .ok (.iload_n 2, 1) := by decide +kernel
theorem dX9_findGoods_197 : decode cX9_findGoods 197 = .ok (.aload_n 0, 1) := by decide +kernel
theorem dX9_findGoods_198 : decode cX9_findGoods 198 = .ok (.getfield 55, 3) := by decide +kernel
theorem dX9_findGoods_201 : decode cX9_findGoods 201 = .ok (.if_icmp .ge 49, 3) := by decide +kernel
theorem dX9_findGoods_204 : decode cX9_findGoods 204 = .ok (.aload_n 0, 1) := by decide +kernel
theorem dX9_findGoods_205 : decode cX9_findGoods 205 = .ok (.getfield 40, 3) := by decide +kernel
theorem dX9_findGoods_208 : decode cX9_findGoods 208 = .ok (.iload_n 2, 1) := by decide +kernel
theorem dX9_findGoods_209 : decode cX9_findGoods 209 = .ok (.aload_n 0, 1) := by decide +kernel
theorem dX9_findGoods_210 : decode cX9_findGoods 210 = .ok (.aload_n 1, 1) := by decide +kernel
theorem dX9_findGoods_211 : decode cX9_findGoods 211 = .ok (.iload_n 2, 1) := by decide +kernel
theorem dX9_findGoods_212 : decode cX9_findGoods 212 = .ok (.invokevirtual 112, 3) := by decide +kernel
theorem dX9_findGoods_215 : decode cX9_findGoods 215 = .ok (.iastore, 1) := by decide +kernel
theorem dX9_findGoods_216 : decode cX9_findGoods 216 = .ok (.aload_n 0, 1) := by decide +kernel
theorem dX9_findGoods_217 : decode cX9_findGoods 217 = .ok (.getfield 25, 3) := by decide +kernel
theorem dX9_findGoods_220 : decode cX9_findGoods 220 = .ok (.iload_n 2, 1) := by decide +kernel
theorem dX9_findGoods_221 : decode cX9_findGoods 221 = .ok (.aload_n 0, 1) := by decide +kernel
theorem dX9_findGoods_222 : decode cX9_findGoods 222 = .ok (.getfield 31, 3) := by decide +kernel
theorem dX9_findGoods_225 : decode cX9_findGoods 225 = .ok (.iload_n 2, 1) := by decide +kernel
theorem dX9_findGoods_226 : decode cX9_findGoods 226 = .ok (.iaload, 1) := by decide +kernel
theorem dX9_findGoods_227 : decode cX9_findGoods 227 = .ok (.aload_n 0, 1) := by decide +kernel
theorem dX9_findGoods_228 : decode cX9_findGoods 228 = .ok (.getfield 31, 3) := by decide +kernel
theorem dX9_findGoods_231 : decode cX9_findGoods 231 = .ok (.iload_n 2, 1) := by decide +kernel
theorem dX9_findGoods_232 : decode cX9_findGoods 232 = .ok (.iaload, 1) := by decide +kernel
theorem dX9_findGoods_233 : decode cX9_findGoods 233 = .ok (.imul, 1) := by decide +kernel
theorem dX9_findGoods_234 : decode cX9_findGoods 234 = .ok (.iconst 2, 1) := by decide +kernel
theorem dX9_findGoods_235 : decode cX9_findGoods 235 = .ok (.aload_n 0, 1) := by decide +kernel
theorem dX9_findGoods_236 : decode cX9_findGoods 236 = .ok (.getfield 40, 3) := by decide +kernel
theorem dX9_findGoods_239 : decode cX9_findGoods 239 = .ok (.iload_n 2, 1) := by decide +kernel
theorem dX9_findGoods_240 : decode cX9_findGoods 240 = .ok (.iaload, 1) := by decide +kernel
theorem dX9_findGoods_241 : decode cX9_findGoods 241 = .ok (.imul, 1) := by decide +kernel
theorem dX9_findGoods_242 : decode cX9_findGoods 242 = .ok (.iadd, 1) := by decide +kernel
theorem dX9_findGoods_243 : decode cX9_findGoods 243 = .ok (.iastore, 1) := by decide +kernel
theorem dX9_findGoods_244 : decode cX9_findGoods 244 = .ok (.iinc 2 1, 3) := by decide +kernel
theorem dX9_findGoods_247 : decode cX9_findGoods 247 = .ok (.goto (-51), 3) := by decide +kernel
theorem dX9_findGoods_250 : decode cX9_findGoods 250 = .ok (.iconst 0, 1) := by decide +kernel
theorem dX9_findGoods_251 : decode cX9_findGoods 251 = .ok (.istore_n 2, 1) := by decide +kernel
theorem dX9_findGoods_252 : decode cX9_findGoods 252 = .ok (.iload_n 2, 1) := by decide +kernel
theorem dX9_findGoods_253 : decode cX9_findGoods 253 = .ok (.aload_n 0, 1) := by decide +kernel
theorem dX9_findGoods_254 : decode cX9_findGoods 254 = .ok (.getfield 55, 3) := by decide +kernel
theorem dX9_findGoods_257 : decode cX9_findGoods 257 = .ok (.if_icmp .ge 47, 3) := by decide +kernel
theorem dX9_findGoods_260 : decode cX9_findGoods 260 = .ok (.aload_n 0, 1) := by decide +kernel
theorem dX9_findGoods_261 : decode cX9_findGoods 261 = .ok (.getfield 25, 3) := by decide +kernel
theorem dX9_findGoods_264 : decode cX9_findGoods 264 = .ok (.aload_n 0, 1) := by decide +kernel
theorem dX9_findGoods_265 : decode cX9_findGoods 265 = .ok (.getfield 34, 3) := by decide +kernel
theorem dX9_findGoods_268 : decode cX9_findGoods 268 = .ok (.iload_n 2, 1) := by decide +kernel
theorem dX9_findGoods_269 : decode cX9_findGoods 269 = .ok (.iaload, 1) := by decide +kernel
theorem dX9_findGoods_270 : decode cX9_findGoods 270 = .ok (.dup2, 1) := by decide +kernel
theorem dX9_findGoods_271 : decode cX9_findGoods 271 = .ok (.iaload, 1) := by decide +kernel
theorem dX9_findGoods_272 : decode cX9_findGoods 272 = .ok (.iconst 2, 1) := by decide +kernel
theorem dX9_findGoods_273 : decode cX9_findGoods 273 = .ok (.aload_n 0, 1) := by decide +kernel
theorem dX9_findGoods_274 : decode cX9_findGoods 274 = .ok (.getfield 7, 3) := by decide +kernel
theorem dX9_findGoods_277 : decode cX9_findGoods 277 = .ok (.iconst 4, 1) := by decide +kernel
theorem dX9_findGoods_278 : decode cX9_findGoods 278 = .ok (.aload_n 0, 1) := by decide +kernel
theorem dX9_findGoods_279 : decode cX9_findGoods 279 = .ok (.getfield 34, 3) := by decide +kernel
theorem dX9_findGoods_282 : decode cX9_findGoods 282 = .ok (.iload_n 2, 1) := by decide +kernel
theorem dX9_findGoods_283 : decode cX9_findGoods 283 = .ok (.iaload, 1) := by decide +kernel
theorem dX9_findGoods_284 : decode cX9_findGoods 284 = .ok (.imul, 1) := by decide +kernel
theorem dX9_findGoods_285 : decode cX9_findGoods 285 = .ok (.iconst 2, 1) := by decide +kernel
theorem dX9_findGoods_286 : decode cX9_findGoods 286 = .ok (.iadd, 1) := by decide +kernel
theorem dX9_findGoods_287 : decode cX9_findGoods 287 = .ok (.iaload, 1) := by decide +kernel
theorem dX9_findGoods_288 : decode cX9_findGoods 288 = .ok (.imul, 1) := by decide +kernel
theorem dX9_findGoods_289 : decode cX9_findGoods 289 = .ok (.aload_n 0, 1) := by decide +kernel
theorem dX9_findGoods_290 : decode cX9_findGoods 290 = .ok (.getfield 31, 3) := by decide +kernel
theorem dX9_findGoods_293 : decode cX9_findGoods 293 = .ok (.iload_n 2, 1) := by decide +kernel
theorem dX9_findGoods_294 : decode cX9_findGoods 294 = .ok (.iaload, 1) := by decide +kernel
theorem dX9_findGoods_295 : decode cX9_findGoods 295 = .ok (.imul, 1) := by decide +kernel
theorem dX9_findGoods_296 : decode cX9_findGoods 296 = .ok (.iadd, 1) := by decide +kernel
theorem dX9_findGoods_297 : decode cX9_findGoods 297 = .ok (.iastore, 1) := by decide +kernel
theorem dX9_findGoods_298 : decode cX9_findGoods 298 = .ok (.iinc 2 1, 3) := by decide +kernel
theorem dX9_findGoods_301 : decode cX9_findGoods 301 = .ok (.goto (-49), 3) := by decide +kernel
theorem dX9_findGoods_304 : decode cX9_findGoods 304 = .ok (.return_, 1) := by decide +kernel
theorem dX9_shareOf_0 : decode cX9_shareOf 0 = .ok (.aload_n 0, 1) := by decide +kernel
theorem dX9_shareOf_1 : decode cX9_shareOf 1 = .ok (.getfield 88, 3) := by decide +kernel
theorem dX9_shareOf_4 : decode cX9_shareOf 4 = .ok (.ifCond .ne 10, 3) := by decide +kernel
theorem dX9_shareOf_7 : decode cX9_shareOf 7 = .ok (.aload_n 0, 1) := by decide +kernel
theorem dX9_shareOf_8 : decode cX9_shareOf 8 = .ok (.getfield 37, 3) := by decide +kernel
theorem dX9_shareOf_11 : decode cX9_shareOf 11 = .ok (.iload_n 2, 1) := by decide +kernel
theorem dX9_shareOf_12 : decode cX9_shareOf 12 = .ok (.iaload, 1) := by decide +kernel
theorem dX9_shareOf_13 : decode cX9_shareOf 13 = .ok (.ireturn, 1) := by decide +kernel
theorem dX9_shareOf_14 : decode cX9_shareOf 14 = .ok (.iconst 0, 1) := by decide +kernel
theorem dX9_shareOf_15 : decode cX9_shareOf 15 = .ok (.istore_n 3, 1) := by decide +kernel
theorem dX9_shareOf_16 : decode cX9_shareOf 16 = .ok (.iconst 0, 1) := by decide +kernel
theorem dX9_shareOf_17 : decode cX9_shareOf 17 = .ok (.istore 4, 2) := by decide +kernel
theorem dX9_shareOf_19 : decode cX9_shareOf 19 = .ok (.iconst 0, 1) := by decide +kernel
theorem dX9_shareOf_20 : decode cX9_shareOf 20 = .ok (.istore 5, 2) := by decide +kernel
theorem dX9_shareOf_22 : decode cX9_shareOf 22 = .ok (.iconst 0, 1) := by decide +kernel
theorem dX9_shareOf_23 : decode cX9_shareOf 23 = .ok (.istore 6, 2) := by decide +kernel
theorem dX9_shareOf_25 : decode cX9_shareOf 25 = .ok (.iconst 0, 1) := by decide +kernel
theorem dX9_shareOf_26 : decode cX9_shareOf 26 = .ok (.istore 7, 2) := by decide +kernel
theorem dX9_shareOf_28 : decode cX9_shareOf 28 = .ok (.iload 7, 2) := by decide +kernel
theorem dX9_shareOf_30 : decode cX9_shareOf 30 = .ok (.aload_n 0, 1) := by decide +kernel
theorem dX9_shareOf_31 : decode cX9_shareOf 31 = .ok (.getfield 55, 3) := by decide +kernel
theorem dX9_shareOf_34 : decode cX9_shareOf 34 = .ok (.if_icmp .ge 62, 3) := by decide +kernel
theorem dX9_shareOf_37 : decode cX9_shareOf 37 = .ok (.aload_n 1, 1) := by decide +kernel
theorem dX9_shareOf_38 : decode cX9_shareOf 38 = .ok (.iload 7, 2) := by decide +kernel
theorem dX9_shareOf_40 : decode cX9_shareOf 40 = .ok (.iaload, 1) := by decide +kernel
theorem dX9_shareOf_41 : decode cX9_shareOf 41 = .ok (.aload_n 1, 1) := by decide +kernel
theorem dX9_shareOf_42 : decode cX9_shareOf 42 = .ok (.iload_n 2, 1) := by decide +kernel
theorem dX9_shareOf_43 : decode cX9_shareOf 43 = .ok (.iaload, 1) := by decide +kernel
theorem dX9_shareOf_44 : decode cX9_shareOf 44 = .ok (.if_icmp .ne 46, 3) := by decide +kernel
theorem dX9_shareOf_47 : decode cX9_shareOf 47 = .ok (.iload_n 3, 1) := by decide +kernel
theorem dX9_shareOf_48 : decode cX9_shareOf 48 = .ok (.aload_n 0, 1) := by decide +kernel
theorem dX9_shareOf_49 : decode cX9_shareOf 49 = .ok (.getfield 37, 3) := by decide +kernel
theorem dX9_shareOf_52 : decode cX9_shareOf 52 = .ok (.iload 7, 2) := by decide +kernel
theorem dX9_shareOf_54 : decode cX9_shareOf 54 = .ok (.iaload, 1) := by decide +kernel
theorem dX9_shareOf_55 : decode cX9_shareOf 55 = .ok (.iadd, 1) := by decide +kernel
theorem dX9_shareOf_56 : decode cX9_shareOf 56 = .ok (.istore_n 3, 1) := by decide +kernel
theorem dX9_shareOf_57 : decode cX9_shareOf 57 = .ok (.iload 5, 2) := by decide +kernel
theorem dX9_shareOf_59 : decode cX9_shareOf 59 = .ok (.aload_n 0, 1) := by decide +kernel
theorem dX9_shareOf_60 : decode cX9_shareOf 60 = .ok (.getfield 7, 3) := by decide +kernel
theorem dX9_shareOf_63 : decode cX9_shareOf 63 = .ok (.iconst 4, 1) := by decide +kernel
theorem dX9_shareOf_64 : decode cX9_shareOf 64 = .ok (.iload 7, 2) := by decide +kernel
theorem dX9_shareOf_66 : decode cX9_shareOf 66 = .ok (.imul, 1) := by decide +kernel
theorem dX9_shareOf_67 : decode cX9_shareOf 67 = .ok (.iaload, 1) := by decide +kernel
theorem dX9_shareOf_68 : decode cX9_shareOf 68 = .ok (.iadd, 1) := by decide +kernel
theorem dX9_shareOf_69 : decode cX9_shareOf 69 = .ok (.istore 5, 2) := by decide +kernel
theorem dX9_shareOf_71 : decode cX9_shareOf 71 = .ok (.iinc 4 1, 3) := by decide +kernel
theorem dX9_shareOf_74 : decode cX9_shareOf 74 = .ok (.iload 6, 2) := by decide +kernel
theorem dX9_shareOf_76 : decode cX9_shareOf 76 = .ok (.iload 7, 2) := by decide +kernel
theorem dX9_shareOf_78 : decode cX9_shareOf 78 = .ok (.iload_n 2, 1) := by decide +kernel
theorem dX9_shareOf_79 : decode cX9_shareOf 79 = .ok (.if_icmp .ge 7, 3) := by decide +kernel
theorem dX9_shareOf_82 : decode cX9_shareOf 82 = .ok (.iconst 1, 1) := by decide +kernel
theorem dX9_shareOf_83 : decode cX9_shareOf 83 = .ok (.goto 4, 3) := by decide +kernel
theorem dX9_shareOf_86 : decode cX9_shareOf 86 = .ok (.iconst 0, 1) := by decide +kernel
theorem dX9_shareOf_87 : decode cX9_shareOf 87 = .ok (.iadd, 1) := by decide +kernel
theorem dX9_shareOf_88 : decode cX9_shareOf 88 = .ok (.istore 6, 2) := by decide +kernel
theorem dX9_shareOf_90 : decode cX9_shareOf 90 = .ok (.iinc 7 1, 3) := by decide +kernel
theorem dX9_shareOf_93 : decode cX9_shareOf 93 = .ok (.goto (-65), 3) := by decide +kernel
theorem dX9_shareOf_96 : decode cX9_shareOf 96 = .ok (.iconst 0, 1) := by decide +kernel
theorem dX9_shareOf_97 : decode cX9_shareOf 97 = .ok (.istore 7, 2) := by decide +kernel
theorem dX9_shareOf_99 : decode cX9_shareOf 99 = .ok (.iconst 0, 1) := by decide +kernel
theorem dX9_shareOf_100 : decode cX9_shareOf 100 = .ok (.istore 8, 2) := by decide +kernel
theorem dX9_shareOf_102 : decode cX9_shareOf 102 = .ok (.iload 8, 2) := by decide +kernel
theorem dX9_shareOf_104 : decode cX9_shareOf 104 = .ok (.aload_n 0, 1) := by decide +kernel
theorem dX9_shareOf_105 : decode cX9_shareOf 105 = .ok (.getfield 55, 3) := by decide +kernel
theorem dX9_shareOf_108 : decode cX9_shareOf 108 = .ok (.if_icmp .ge 57, 3) := by decide +kernel
theorem dX9_shareOf_111 : decode cX9_shareOf 111 = .ok (.iload 7, 2) := by decide +kernel
theorem dX9_shareOf_113 : decode cX9_shareOf 113 = .ok (.aload_n 1, 1) := by decide +kernel
theorem dX9_shareOf_114 : decode cX9_shareOf 114 = .ok (.iload 8, 2) := by decide +kernel
theorem dX9_shareOf_116 : decode cX9_shareOf 116 = .ok (.iaload, 1) := by decide +kernel
theorem dX9_shareOf_117 : decode cX9_shareOf 117 = .ok (.aload_n 1, 1) := by decide +kernel
theorem dX9_shareOf_118 : decode cX9_shareOf 118 = .ok (.iload_n 2, 1) := by decide +kernel
theorem dX9_shareOf_119 : decode cX9_shareOf 119 = .ok (.iaload, 1) := by decide +kernel
theorem dX9_shareOf_120 : decode cX9_shareOf 120 = .ok (.if_icmp .eq 7, 3) := by decide +kernel
theorem dX9_shareOf_123 : decode cX9_shareOf 123 = .ok (.iconst 0, 1) := by decide +kernel
theorem dX9_shareOf_124 : decode cX9_shareOf 124 = .ok (.goto 32, 3) := by decide +kernel
theorem dX9_shareOf_127 : decode cX9_shareOf 127 = .ok (.aload_n 0, 1) := by decide +kernel
theorem dX9_shareOf_128 : decode cX9_shareOf 128 = .ok (.getfield 88, 3) := by decide +kernel
theorem dX9_shareOf_131 : decode cX9_shareOf 131 = .ok (.iconst 1, 1) := by decide +kernel
theorem dX9_shareOf_132 : decode cX9_shareOf 132 = .ok (.if_icmp .ne 10, 3) := by decide +kernel
theorem dX9_shareOf_135 : decode cX9_shareOf 135 = .ok (.iload_n 3, 1) := by decide +kernel
theorem dX9_shareOf_136 : decode cX9_shareOf 136 = .ok (.iload 4, 2) := by decide +kernel
theorem dX9_shareOf_138 : decode cX9_shareOf 138 = .ok (.idiv, 1) := by decide +kernel
theorem dX9_shareOf_139 : decode cX9_shareOf 139 = .ok (.goto 17, 3) := by decide +kernel
theorem dX9_shareOf_142 : decode cX9_shareOf 142 = .ok (.iload_n 3, 1) := by decide +kernel
theorem dX9_shareOf_143 : decode cX9_shareOf 143 = .ok (.aload_n 0, 1) := by decide +kernel
theorem dX9_shareOf_144 : decode cX9_shareOf 144 = .ok (.getfield 7, 3) := by decide +kernel
theorem dX9_shareOf_147 : decode cX9_shareOf 147 = .ok (.iconst 4, 1) := by decide +kernel
theorem dX9_shareOf_148 : decode cX9_shareOf 148 = .ok (.iload 8, 2) := by decide +kernel
theorem dX9_shareOf_150 : decode cX9_shareOf 150 = .ok (.imul, 1) := by decide +kernel
theorem dX9_shareOf_151 : decode cX9_shareOf 151 = .ok (.iaload, 1) := by decide +kernel
theorem dX9_shareOf_152 : decode cX9_shareOf 152 = .ok (.imul, 1) := by decide +kernel
theorem dX9_shareOf_153 : decode cX9_shareOf 153 = .ok (.iload 5, 2) := by decide +kernel
theorem dX9_shareOf_155 : decode cX9_shareOf 155 = .ok (.idiv, 1) := by decide +kernel
theorem dX9_shareOf_156 : decode cX9_shareOf 156 = .ok (.iadd, 1) := by decide +kernel
theorem dX9_shareOf_157 : decode cX9_shareOf 157 = .ok (.istore 7, 2) := by decide +kernel
theorem dX9_shareOf_159 : decode cX9_shareOf 159 = .ok (.iinc 8 1, 3) := by decide +kernel
theorem dX9_shareOf_162 : decode cX9_shareOf 162 = .ok (.goto (-60), 3) := by decide +kernel
theorem dX9_shareOf_165 : decode cX9_shareOf 165 = .ok (.aload_n 0, 1) := by decide +kernel
theorem dX9_shareOf_166 : decode cX9_shareOf 166 = .ok (.getfield 88, 3) := by decide +kernel
theorem dX9_shareOf_169 : decode cX9_shareOf 169 = .ok (.iconst 1, 1) := by decide +kernel
theorem dX9_shareOf_170 : decode cX9_shareOf 170 = .ok (.if_icmp .ne 10, 3) := by decide +kernel
theorem dX9_shareOf_173 : decode cX9_shareOf 173 = .ok (.iload_n 3, 1) := by decide +kernel
theorem dX9_shareOf_174 : decode cX9_shareOf 174 = .ok (.iload 4, 2) := by decide +kernel
theorem dX9_shareOf_176 : decode cX9_shareOf 176 = .ok (.idiv, 1) := by decide +kernel
theorem dX9_shareOf_177 : decode cX9_shareOf 177 = .ok (.goto 16, 3) := by decide +kernel
theorem dX9_shareOf_180 : decode cX9_shareOf 180 = .ok (.iload_n 3, 1) := by decide +kernel
theorem dX9_shareOf_181 : decode cX9_shareOf 181 = .ok (.aload_n 0, 1) := by decide +kernel
theorem dX9_shareOf_182 : decode cX9_shareOf 182 = .ok (.getfield 7, 3) := by decide +kernel
theorem dX9_shareOf_185 : decode cX9_shareOf 185 = .ok (.iconst 4, 1) := by decide +kernel
theorem dX9_shareOf_186 : decode cX9_shareOf 186 = .ok (.iload_n 2, 1) := by decide +kernel
theorem dX9_shareOf_187 : decode cX9_shareOf 187 = .ok (.imul, 1) := by decide +kernel
theorem dX9_shareOf_188 : decode cX9_shareOf 188 = .ok (.iaload, 1) := by decide +kernel
theorem dX9_shareOf_189 : decode cX9_shareOf 189 = .ok (.imul, 1) := by decide +kernel
theorem dX9_shareOf_190 : decode cX9_shareOf 190 = .ok (.iload 5, 2) := by decide +kernel
theorem dX9_shareOf_192 : decode cX9_shareOf 192 = .ok (.idiv, 1) := by decide +kernel
theorem dX9_shareOf_193 : decode cX9_shareOf 193 = .ok (.istore 8, 2) := by decide +kernel
theorem dX9_shareOf_195 : decode cX9_shareOf 195 = .ok (.iload 8, 2) := by decide +kernel
theorem dX9_shareOf_197 : decode cX9_shareOf 197 = .ok (.iload 6, 2) := by decide +kernel
theorem dX9_shareOf_199 : decode cX9_shareOf 199 = .ok (.iload_n 3, 1) := by decide +kernel
theorem dX9_shareOf_200 : decode cX9_shareOf 200 = .ok (.iload 7, 2) := by decide +kernel
theorem dX9_shareOf_202 : decode cX9_shareOf 202 = .ok (.isub, 1) := by decide +kernel
theorem dX9_shareOf_203 : decode cX9_shareOf 203 = .ok (.if_icmp .ge 7, 3) := by decide +kernel
theorem dX9_shareOf_206 : decode cX9_shareOf 206 = .ok (.iconst 1, 1) := by decide +kernel
theorem dX9_shareOf_207 : decode cX9_shareOf 207 = .ok (.goto 4, 3) := by decide +kernel
theorem dX9_shareOf_210 : decode cX9_shareOf 210 = .ok (.iconst 0, 1) := by decide +kernel
theorem dX9_shareOf_211 : decode cX9_shareOf 211 = .ok (.iadd, 1) := by decide +kernel
theorem dX9_shareOf_212 : decode cX9_shareOf 212 = .ok (.ireturn, 1) := by decide +kernel
theorem dX9_copy_0 : decode cX9_copy 0 = .ok (.iconst 0, 1) := by decide +kernel
theorem dX9_copy_1 : decode cX9_copy 1 = .ok (.istore_n 3, 1) := by decide +kernel
theorem dX9_copy_2 : decode cX9_copy 2 = .ok (.iload_n 3, 1) := by decide +kernel
theorem dX9_copy_3 : decode cX9_copy 3 = .ok (.bipush 6, 2) := by decide +kernel
theorem dX9_copy_5 : decode cX9_copy 5 = .ok (.if_icmp .ge 15, 3) := by decide +kernel
theorem dX9_copy_8 : decode cX9_copy 8 = .ok (.aload_n 2, 1) := by decide +kernel
theorem dX9_copy_9 : decode cX9_copy 9 = .ok (.iload_n 3, 1) := by decide +kernel
theorem dX9_copy_10 : decode cX9_copy 10 = .ok (.aload_n 1, 1) := by decide +kernel
theorem dX9_copy_11 : decode cX9_copy 11 = .ok (.iload_n 3, 1) := by decide +kernel
theorem dX9_copy_12 : decode cX9_copy 12 = .ok (.iaload, 1) := by decide +kernel
theorem dX9_copy_13 : decode cX9_copy 13 = .ok (.iastore, 1) := by decide +kernel
theorem dX9_copy_14 : decode cX9_copy 14 = .ok (.iinc 3 1, 3) := by decide +kernel
theorem dX9_copy_17 : decode cX9_copy 17 = .ok (.goto (-15), 3) := by decide +kernel
theorem dX9_copy_20 : decode cX9_copy 20 = .ok (.return_, 1) := by decide +kernel
theorem dX9_together_0 : decode cX9_together 0 = .ok (.iconst 0, 1) := by decide +kernel
theorem dX9_together_1 : decode cX9_together 1 = .ok (.istore_n 1, 1) := by decide +kernel
theorem dX9_together_2 : decode cX9_together 2 = .ok (.iconst 0, 1) := by decide +kernel
theorem dX9_together_3 : decode cX9_together 3 = .ok (.istore_n 2, 1) := by decide +kernel
theorem dX9_together_4 : decode cX9_together 4 = .ok (.iload_n 2, 1) := by decide +kernel
theorem dX9_together_5 : decode cX9_together 5 = .ok (.aload_n 0, 1) := by decide +kernel
theorem dX9_together_6 : decode cX9_together 6 = .ok (.getfield 55, 3) := by decide +kernel
theorem dX9_together_9 : decode cX9_together 9 = .ok (.if_icmp .ge 18, 3) := by decide +kernel
theorem dX9_together_12 : decode cX9_together 12 = .ok (.iload_n 1, 1) := by decide +kernel
theorem dX9_together_13 : decode cX9_together 13 = .ok (.aload_n 0, 1) := by decide +kernel
theorem dX9_together_14 : decode cX9_together 14 = .ok (.getfield 25, 3) := by decide +kernel
theorem dX9_together_17 : decode cX9_together 17 = .ok (.iload_n 2, 1) := by decide +kernel
theorem dX9_together_18 : decode cX9_together 18 = .ok (.iaload, 1) := by decide +kernel
theorem dX9_together_19 : decode cX9_together 19 = .ok (.iadd, 1) := by decide +kernel
theorem dX9_together_20 : decode cX9_together 20 = .ok (.istore_n 1, 1) := by decide +kernel
theorem dX9_together_21 : decode cX9_together 21 = .ok (.iinc 2 1, 3) := by decide +kernel
theorem dX9_together_24 : decode cX9_together 24 = .ok (.goto (-20), 3) := by decide +kernel
theorem dX9_together_27 : decode cX9_together 27 = .ok (.iload_n 1, 1) := by decide +kernel
theorem dX9_together_28 : decode cX9_together 28 = .ok (.ireturn, 1) := by decide +kernel
theorem dX9_of_0 : decode cX9_of 0 = .ok (.aload_n 0, 1) := by decide +kernel
theorem dX9_of_1 : decode cX9_of 1 = .ok (.iload_n 1, 1) := by decide +kernel
theorem dX9_of_2 : decode cX9_of 2 = .ok (.invokevirtual 77, 3) := by decide +kernel
theorem dX9_of_5 : decode cX9_of 5 = .ok (.ifCond .ne 5, 3) := by decide +kernel
theorem dX9_of_8 : decode cX9_of 8 = .ok (.iconst (-1), 1) := by decide +kernel
theorem dX9_of_9 : decode cX9_of 9 = .ok (.ireturn, 1) := by decide +kernel
theorem dX9_of_10 : decode cX9_of 10 = .ok (.aload_n 0, 1) := by decide +kernel
theorem dX9_of_11 : decode cX9_of 11 = .ok (.aload_n 0, 1) := by decide +kernel
theorem dX9_of_12 : decode cX9_of 12 = .ok (.getfield 13, 3) := by decide +kernel
theorem dX9_of_15 : decode cX9_of 15 = .ok (.invokevirtual 115, 3) := by decide +kernel
theorem dX9_of_18 : decode cX9_of 18 = .ok (.iload_n 2, 1) := by decide +kernel
theorem dX9_of_19 : decode cX9_of 19 = .ok (.tableswitch 96 0 5 #[37, 44, 51, 58, 79, 89], 37) := by decide +kernel
theorem dX9_of_56 : decode cX9_of 56 = .ok (.aload_n 0, 1) := by decide +kernel
theorem dX9_of_57 : decode cX9_of 57 = .ok (.getfield 25, 3) := by decide +kernel
theorem dX9_of_60 : decode cX9_of 60 = .ok (.iload_n 1, 1) := by decide +kernel
theorem dX9_of_61 : decode cX9_of 61 = .ok (.iaload, 1) := by decide +kernel
theorem dX9_of_62 : decode cX9_of 62 = .ok (.ireturn, 1) := by decide +kernel
theorem dX9_of_63 : decode cX9_of 63 = .ok (.aload_n 0, 1) := by decide +kernel
theorem dX9_of_64 : decode cX9_of 64 = .ok (.getfield 28, 3) := by decide +kernel
theorem dX9_of_67 : decode cX9_of 67 = .ok (.iload_n 1, 1) := by decide +kernel
theorem dX9_of_68 : decode cX9_of 68 = .ok (.iaload, 1) := by decide +kernel
theorem dX9_of_69 : decode cX9_of 69 = .ok (.ireturn, 1) := by decide +kernel
theorem dX9_of_70 : decode cX9_of 70 = .ok (.aload_n 0, 1) := by decide +kernel
theorem dX9_of_71 : decode cX9_of 71 = .ok (.getfield 31, 3) := by decide +kernel
theorem dX9_of_74 : decode cX9_of 74 = .ok (.iload_n 1, 1) := by decide +kernel
theorem dX9_of_75 : decode cX9_of 75 = .ok (.iaload, 1) := by decide +kernel
theorem dX9_of_76 : decode cX9_of 76 = .ok (.ireturn, 1) := by decide +kernel
theorem dX9_of_77 : decode cX9_of 77 = .ok (.aload_n 0, 1) := by decide +kernel
theorem dX9_of_78 : decode cX9_of 78 = .ok (.getfield 31, 3) := by decide +kernel
theorem dX9_of_81 : decode cX9_of 81 = .ok (.iload_n 1, 1) := by decide +kernel
theorem dX9_of_82 : decode cX9_of 82 = .ok (.iaload, 1) := by decide +kernel
theorem dX9_of_83 : decode cX9_of 83 = .ok (.ifCond .ne 8, 3) := by decide +kernel
theorem dX9_of_86 : decode cX9_of 86 = .ok (.bipush (-6), 2) := by decide +kernel
theorem dX9_of_88 : decode cX9_of 88 = .ok (.goto 9, 3) := by decide +kernel
theorem dX9_of_91 : decode cX9_of 91 = .ok (.aload_n 0, 1) := by decide +kernel
theorem dX9_of_92 : decode cX9_of 92 = .ok (.getfield 34, 3) := by decide +kernel
theorem dX9_of_95 : decode cX9_of 95 = .ok (.iload_n 1, 1) := by decide +kernel
theorem dX9_of_96 : decode cX9_of 96 = .ok (.iaload, 1) := by decide +kernel
theorem dX9_of_97 : decode cX9_of 97 = .ok (.ireturn, 1) := by decide +kernel
theorem dX9_of_98 : decode cX9_of 98 = .ok (.aload_n 0, 1) := by decide +kernel
theorem dX9_of_99 : decode cX9_of 99 = .ok (.aload_n 0, 1) := by decide +kernel
theorem dX9_of_100 : decode cX9_of 100 = .ok (.getfield 13, 3) := by decide +kernel
theorem dX9_of_103 : decode cX9_of 103 = .ok (.iload_n 1, 1) := by decide +kernel
theorem dX9_of_104 : decode cX9_of 104 = .ok (.invokevirtual 108, 3) := by decide +kernel
theorem dX9_of_107 : decode cX9_of 107 = .ok (.ireturn, 1) := by decide +kernel
theorem dX9_of_108 : decode cX9_of 108 = .ok (.aload_n 0, 1) := by decide +kernel
theorem dX9_of_109 : decode cX9_of 109 = .ok (.getfield 40, 3) := by decide +kernel
theorem dX9_of_112 : decode cX9_of 112 = .ok (.iload_n 1, 1) := by decide +kernel
theorem dX9_of_113 : decode cX9_of 113 = .ok (.iaload, 1) := by decide +kernel
theorem dX9_of_114 : decode cX9_of 114 = .ok (.ireturn, 1) := by decide +kernel
theorem dX9_of_115 : decode cX9_of 115 = .ok (.bipush (-2), 2) := by decide +kernel
theorem dX9_of_117 : decode cX9_of 117 = .ok (.ireturn, 1) := by decide +kernel
theorem dX9_firstParting_0 : decode cX9_firstParting 0 = .ok (.iconst 0, 1) := by decide +kernel
theorem dX9_firstParting_1 : decode cX9_firstParting 1 = .ok (.istore_n 1, 1) := by decide +kernel
theorem dX9_firstParting_2 : decode cX9_firstParting 2 = .ok (.iload_n 1, 1) := by decide +kernel
theorem dX9_firstParting_3 : decode cX9_firstParting 3 = .ok (.bipush 6, 2) := by decide +kernel
theorem dX9_firstParting_5 : decode cX9_firstParting 5 = .ok (.if_icmp .ge 16, 3) := by decide +kernel
theorem dX9_firstParting_8 : decode cX9_firstParting 8 = .ok (.aload_n 0, 1) := by decide +kernel
theorem dX9_firstParting_9 : decode cX9_firstParting 9 = .ok (.getfield 43, 3) := by decide +kernel
theorem dX9_firstParting_12 : decode cX9_firstParting 12 = .ok (.iload_n 1, 1) := by decide +kernel
theorem dX9_firstParting_13 : decode cX9_firstParting 13 = .ok (.iconst 0, 1) := by decide +kernel
theorem dX9_firstParting_14 : decode cX9_firstParting 14 = .ok (.iastore, 1) := by decide +kernel
theorem dX9_firstParting_15 : decode cX9_firstParting 15 = .ok (.iinc 1 1, 3) := by decide +kernel
theorem dX9_firstParting_18 : decode cX9_firstParting 18 = .ok (.goto (-16), 3) := by decide +kernel
theorem dX9_firstParting_21 : decode cX9_firstParting 21 = .ok (.return_, 1) := by decide +kernel
theorem dX9_nextParting_0 : decode cX9_nextParting 0 = .ok (.aload_n 0, 1) := by decide +kernel
theorem dX9_nextParting_1 : decode cX9_nextParting 1 = .ok (.getfield 55, 3) := by decide +kernel
theorem dX9_nextParting_4 : decode cX9_nextParting 4 = .ok (.iconst 1, 1) := by decide +kernel
theorem dX9_nextParting_5 : decode cX9_nextParting 5 = .ok (.isub, 1) := by decide +kernel
theorem dX9_nextParting_6 : decode cX9_nextParting 6 = .ok (.istore_n 1, 1) := by decide +kernel
theorem dX9_nextParting_7 : decode cX9_nextParting 7 = .ok (.iload_n 1, 1) := by decide +kernel
theorem dX9_nextParting_8 : decode cX9_nextParting 8 = .ok (.ifCond .le 92, 3) := by decide +kernel
theorem dX9_nextParting_11 : decode cX9_nextParting 11 = .ok (.iconst 0, 1) := by decide +kernel
theorem dX9_nextParting_12 : decode cX9_nextParting 12 = .ok (.istore_n 2, 1) := by decide +kernel
theorem dX9_nextParting_13 : decode cX9_nextParting 13 = .ok (.iconst 0, 1) := by decide +kernel
theorem dX9_nextParting_14 : decode cX9_nextParting 14 = .ok (.istore_n 3, 1) := by decide +kernel
theorem dX9_nextParting_15 : decode cX9_nextParting 15 = .ok (.iload_n 3, 1) := by decide +kernel
theorem dX9_nextParting_16 : decode cX9_nextParting 16 = .ok (.iload_n 1, 1) := by decide +kernel
theorem dX9_nextParting_17 : decode cX9_nextParting 17 = .ok (.if_icmp .ge 30, 3) := by decide +kernel
theorem dX9_nextParting_20 : decode cX9_nextParting 20 = .ok (.aload_n 0, 1) := by decide +kernel
theorem dX9_nextParting_21 : decode cX9_nextParting 21 = .ok (.getfield 43, 3) := by decide +kernel
theorem dX9_nextParting_24 : decode cX9_nextParting 24 = .ok (.iload_n 3, 1) := by decide +kernel
theorem dX9_nextParting_25 : decode cX9_nextParting 25 = .ok (.iaload, 1) := by decide +kernel
theorem dX9_nextParting_26 : decode cX9_nextParting 26 = .ok (.iload_n 2, 1) := by decide +kernel
theorem dX9_nextParting_27 : decode cX9_nextParting 27 = .ok (.if_icmp .le 12, 3) := by decide +kernel
theorem dX9_nextParting_30 : decode cX9_nextParting 30 = .ok (.aload_n 0, 1) := by decide +kernel
theorem dX9_nextParting_31 : decode cX9_nextParting 31 = .ok (.getfield 43, 3) := by decide +kernel
theorem dX9_nextParting_34 : decode cX9_nextParting 34 = .ok (.iload_n 3, 1) := by decide +kernel
theorem dX9_nextParting_35 : decode cX9_nextParting 35 = .ok (.iaload, 1) := by decide +kernel
theorem dX9_nextParting_36 : decode cX9_nextParting 36 = .ok (.goto 4, 3) := by decide +kernel
theorem dX9_nextParting_39 : decode cX9_nextParting 39 = .ok (.iload_n 2, 1) := by decide +kernel
theorem dX9_nextParting_40 : decode cX9_nextParting 40 = .ok (.istore_n 2, 1) := by decide +kernel
theorem dX9_nextParting_41 : decode cX9_nextParting 41 = .ok (.iinc 3 1, 3) := by decide +kernel
theorem dX9_nextParting_44 : decode cX9_nextParting 44 = .ok (.goto (-29), 3) := by decide +kernel
theorem dX9_nextParting_47 : decode cX9_nextParting 47 = .ok (.aload_n 0, 1) := by decide +kernel
theorem dX9_nextParting_48 : decode cX9_nextParting 48 = .ok (.getfield 43, 3) := by decide +kernel
theorem dX9_nextParting_51 : decode cX9_nextParting 51 = .ok (.iload_n 1, 1) := by decide +kernel
theorem dX9_nextParting_52 : decode cX9_nextParting 52 = .ok (.iaload, 1) := by decide +kernel
theorem dX9_nextParting_53 : decode cX9_nextParting 53 = .ok (.iload_n 2, 1) := by decide +kernel
theorem dX9_nextParting_54 : decode cX9_nextParting 54 = .ok (.if_icmp .gt 40, 3) := by decide +kernel
theorem dX9_nextParting_57 : decode cX9_nextParting 57 = .ok (.aload_n 0, 1) := by decide +kernel
theorem dX9_nextParting_58 : decode cX9_nextParting 58 = .ok (.getfield 43, 3) := by decide +kernel
theorem dX9_nextParting_61 : decode cX9_nextParting 61 = .ok (.iload_n 1, 1) := by decide +kernel
theorem dX9_nextParting_62 : decode cX9_nextParting 62 = .ok (.dup2, 1) := by decide +kernel
theorem dX9_nextParting_63 : decode cX9_nextParting 63 = .ok (.iaload, 1) := by decide +kernel
theorem dX9_nextParting_64 : decode cX9_nextParting 64 = .ok (.iconst 1, 1) := by decide +kernel
theorem dX9_nextParting_65 : decode cX9_nextParting 65 = .ok (.iadd, 1) := by decide +kernel
theorem dX9_nextParting_66 : decode cX9_nextParting 66 = .ok (.iastore, 1) := by decide +kernel
theorem dX9_nextParting_67 : decode cX9_nextParting 67 = .ok (.iload_n 1, 1) := by decide +kernel
theorem dX9_nextParting_68 : decode cX9_nextParting 68 = .ok (.iconst 1, 1) := by decide +kernel
theorem dX9_nextParting_69 : decode cX9_nextParting 69 = .ok (.iadd, 1) := by decide +kernel
theorem dX9_nextParting_70 : decode cX9_nextParting 70 = .ok (.istore_n 3, 1) := by decide +kernel
theorem dX9_nextParting_71 : decode cX9_nextParting 71 = .ok (.iload_n 3, 1) := by decide +kernel
theorem dX9_nextParting_72 : decode cX9_nextParting 72 = .ok (.aload_n 0, 1) := by decide +kernel
theorem dX9_nextParting_73 : decode cX9_nextParting 73 = .ok (.getfield 55, 3) := by decide +kernel
theorem dX9_nextParting_76 : decode cX9_nextParting 76 = .ok (.if_icmp .ge 16, 3) := by decide +kernel
theorem dX9_nextParting_79 : decode cX9_nextParting 79 = .ok (.aload_n 0, 1) := by decide +kernel
theorem dX9_nextParting_80 : decode cX9_nextParting 80 = .ok (.getfield 43, 3) := by decide +kernel
theorem dX9_nextParting_83 : decode cX9_nextParting 83 = .ok (.iload_n 3, 1) := by decide +kernel
theorem dX9_nextParting_84 : decode cX9_nextParting 84 = .ok (.iconst 0, 1) := by decide +kernel
theorem dX9_nextParting_85 : decode cX9_nextParting 85 = .ok (.iastore, 1) := by decide +kernel
theorem dX9_nextParting_86 : decode cX9_nextParting 86 = .ok (.iinc 3 1, 3) := by decide +kernel
theorem dX9_nextParting_89 : decode cX9_nextParting 89 = .ok (.goto (-18), 3) := by decide +kernel
theorem dX9_nextParting_92 : decode cX9_nextParting 92 = .ok (.iconst 1, 1) := by decide +kernel
theorem dX9_nextParting_93 : decode cX9_nextParting 93 = .ok (.ireturn, 1) := by decide +kernel
theorem dX9_nextParting_94 : decode cX9_nextParting 94 = .ok (.iinc 1 (-1), 3) := by decide +kernel
theorem dX9_nextParting_97 : decode cX9_nextParting 97 = .ok (.goto (-90), 3) := by decide +kernel
theorem dX9_nextParting_100 : decode cX9_nextParting 100 = .ok (.iconst 0, 1) := by decide +kernel
theorem dX9_nextParting_101 : decode cX9_nextParting 101 = .ok (.ireturn, 1) := by decide +kernel
theorem dX9_all_0 : decode cX9_all 0 = .ok (.iload_n 1, 1) := by decide +kernel
theorem dX9_all_1 : decode cX9_all 1 = .ok (.i2l, 1) := by decide +kernel
theorem dX9_all_2 : decode cX9_all 2 = .ok (.lconst 0, 1) := by decide +kernel
theorem dX9_all_3 : decode cX9_all 3 = .ok (.ldc2_w 83, 3) := by decide +kernel
theorem dX9_all_6 : decode cX9_all 6 = .ok (.invokestatic 59, 3) := by decide +kernel
theorem dX9_all_9 : decode cX9_all 9 = .ok (.ifCond .ne 6, 3) := by decide +kernel
theorem dX9_all_12 : decode cX9_all 12 = .ok (.bipush (-2), 2) := by decide +kernel
theorem dX9_all_14 : decode cX9_all 14 = .ok (.ireturn, 1) := by decide +kernel
theorem dX9_all_15 : decode cX9_all 15 = .ok (.iload_n 1, 1) := by decide +kernel
theorem dX9_all_16 : decode cX9_all 16 = .ok (.ifCond .ne 16, 3) := by decide +kernel
theorem dX9_all_19 : decode cX9_all 19 = .ok (.aload_n 0, 1) := by decide +kernel
theorem dX9_all_20 : decode cX9_all 20 = .ok (.aload_n 0, 1) := by decide +kernel
theorem dX9_all_21 : decode cX9_all 21 = .ok (.getfield 13, 3) := by decide +kernel
theorem dX9_all_24 : decode cX9_all 24 = .ok (.invokevirtual 115, 3) := by decide +kernel
theorem dX9_all_27 : decode cX9_all 27 = .ok (.aload_n 0, 1) := by decide +kernel
theorem dX9_all_28 : decode cX9_all 28 = .ok (.invokevirtual 118, 3) := by decide +kernel
theorem dX9_all_31 : decode cX9_all 31 = .ok (.ireturn, 1) := by decide +kernel
theorem dX9_all_32 : decode cX9_all 32 = .ok (.iconst 0, 1) := by decide +kernel
theorem dX9_all_33 : decode cX9_all 33 = .ok (.istore_n 2, 1) := by decide +kernel
theorem dX9_all_34 : decode cX9_all 34 = .ok (.iconst 0, 1) := by decide +kernel
theorem dX9_all_35 : decode cX9_all 35 = .ok (.istore_n 3, 1) := by decide +kernel
theorem dX9_all_36 : decode cX9_all 36 = .ok (.aload_n 0, 1) := by decide +kernel
theorem dX9_all_37 : decode cX9_all 37 = .ok (.invokevirtual 121, 3) := by decide +kernel
theorem dX9_all_40 : decode cX9_all 40 = .ok (.iconst 1, 1) := by decide +kernel
theorem dX9_all_41 : decode cX9_all 41 = .ok (.istore 4, 2) := by decide +kernel
theorem dX9_all_43 : decode cX9_all 43 = .ok (.iload 4, 2) := by decide +kernel
theorem dX9_all_45 : decode cX9_all 45 = .ok (.ifCond .eq 40, 3) := by decide +kernel
theorem dX9_all_48 : decode cX9_all 48 = .ok (.aload_n 0, 1) := by decide +kernel
theorem dX9_all_49 : decode cX9_all 49 = .ok (.aload_n 0, 1) := by decide +kernel
theorem dX9_all_50 : decode cX9_all 50 = .ok (.getfield 43, 3) := by decide +kernel
theorem dX9_all_53 : decode cX9_all 53 = .ok (.invokevirtual 115, 3) := by decide +kernel
theorem dX9_all_56 : decode cX9_all 56 = .ok (.aload_n 0, 1) := by decide +kernel
theorem dX9_all_57 : decode cX9_all 57 = .ok (.invokevirtual 118, 3) := by decide +kernel
theorem dX9_all_60 : decode cX9_all 60 = .ok (.iload_n 2, 1) := by decide +kernel
theorem dX9_all_61 : decode cX9_all 61 = .ok (.if_icmp .le 10, 3) := by decide +kernel
theorem dX9_all_64 : decode cX9_all 64 = .ok (.aload_n 0, 1) := by decide +kernel
theorem dX9_all_65 : decode cX9_all 65 = .ok (.invokevirtual 118, 3) := by decide +kernel
theorem dX9_all_68 : decode cX9_all 68 = .ok (.goto 4, 3) := by decide +kernel
theorem dX9_all_71 : decode cX9_all 71 = .ok (.iload_n 2, 1) := by decide +kernel
theorem dX9_all_72 : decode cX9_all 72 = .ok (.istore_n 2, 1) := by decide +kernel
theorem dX9_all_73 : decode cX9_all 73 = .ok (.iinc 3 1, 3) := by decide +kernel
theorem dX9_all_76 : decode cX9_all 76 = .ok (.aload_n 0, 1) := by decide +kernel
theorem dX9_all_77 : decode cX9_all 77 = .ok (.invokevirtual 124, 3) := by decide +kernel
theorem dX9_all_80 : decode cX9_all 80 = .ok (.istore 4, 2) := by decide +kernel
theorem dX9_all_82 : decode cX9_all 82 = .ok (.goto (-39), 3) := by decide +kernel
theorem dX9_all_85 : decode cX9_all 85 = .ok (.iload_n 1, 1) := by decide +kernel
theorem dX9_all_86 : decode cX9_all 86 = .ok (.iconst 1, 1) := by decide +kernel
theorem dX9_all_87 : decode cX9_all 87 = .ok (.if_icmp .ne 7, 3) := by decide +kernel
theorem dX9_all_90 : decode cX9_all 90 = .ok (.iload_n 2, 1) := by decide +kernel
theorem dX9_all_91 : decode cX9_all 91 = .ok (.goto 4, 3) := by decide +kernel
theorem dX9_all_94 : decode cX9_all 94 = .ok (.iload_n 3, 1) := by decide +kernel
theorem dX9_all_95 : decode cX9_all 95 = .ok (.ireturn, 1) := by decide +kernel
theorem dX9_keepGoods_0 : decode cX9_keepGoods 0 = .ok (.aload_n 0, 1) := by decide +kernel
theorem dX9_keepGoods_1 : decode cX9_keepGoods 1 = .ok (.aload_n 1, 1) := by decide +kernel
theorem dX9_keepGoods_2 : decode cX9_keepGoods 2 = .ok (.invokevirtual 115, 3) := by decide +kernel
theorem dX9_keepGoods_5 : decode cX9_keepGoods 5 = .ok (.aload_n 0, 1) := by decide +kernel
theorem dX9_keepGoods_6 : decode cX9_keepGoods 6 = .ok (.aload_n 0, 1) := by decide +kernel
theorem dX9_keepGoods_7 : decode cX9_keepGoods 7 = .ok (.getfield 25, 3) := by decide +kernel
theorem dX9_keepGoods_10 : decode cX9_keepGoods 10 = .ok (.aload_n 0, 1) := by decide +kernel
theorem dX9_keepGoods_11 : decode cX9_keepGoods 11 = .ok (.getfield 46, 3) := by decide +kernel
theorem dX9_keepGoods_14 : decode cX9_keepGoods 14 = .ok (.invokevirtual 128, 3) := by decide +kernel
theorem dX9_keepGoods_17 : decode cX9_keepGoods 17 = .ok (.return_, 1) := by decide +kernel
theorem dX9_gainApart_0 : decode cX9_gainApart 0 = .ok (.aload_n 0, 1) := by decide +kernel
theorem dX9_gainApart_1 : decode cX9_gainApart 1 = .ok (.aload_n 1, 1) := by decide +kernel
theorem dX9_gainApart_2 : decode cX9_gainApart 2 = .ok (.aload_n 0, 1) := by decide +kernel
theorem dX9_gainApart_3 : decode cX9_gainApart 3 = .ok (.getfield 16, 3) := by decide +kernel
theorem dX9_gainApart_6 : decode cX9_gainApart 6 = .ok (.invokevirtual 128, 3) := by decide +kernel
theorem dX9_gainApart_9 : decode cX9_gainApart 9 = .ok (.aload_n 0, 1) := by decide +kernel
theorem dX9_gainApart_10 : decode cX9_gainApart 10 = .ok (.getfield 16, 3) := by decide +kernel
theorem dX9_gainApart_13 : decode cX9_gainApart 13 = .ok (.iload_n 2, 1) := by decide +kernel
theorem dX9_gainApart_14 : decode cX9_gainApart 14 = .ok (.bipush 7, 2) := by decide +kernel
theorem dX9_gainApart_16 : decode cX9_gainApart 16 = .ok (.iastore, 1) := by decide +kernel
theorem dX9_gainApart_17 : decode cX9_gainApart 17 = .ok (.aload_n 0, 1) := by decide +kernel
theorem dX9_gainApart_18 : decode cX9_gainApart 18 = .ok (.aload_n 0, 1) := by decide +kernel
theorem dX9_gainApart_19 : decode cX9_gainApart 19 = .ok (.getfield 16, 3) := by decide +kernel
theorem dX9_gainApart_22 : decode cX9_gainApart 22 = .ok (.invokevirtual 115, 3) := by decide +kernel
theorem dX9_gainApart_25 : decode cX9_gainApart 25 = .ok (.aload_n 0, 1) := by decide +kernel
theorem dX9_gainApart_26 : decode cX9_gainApart 26 = .ok (.getfield 25, 3) := by decide +kernel
theorem dX9_gainApart_29 : decode cX9_gainApart 29 = .ok (.iload_n 2, 1) := by decide +kernel
theorem dX9_gainApart_30 : decode cX9_gainApart 30 = .ok (.iaload, 1) := by decide +kernel
theorem dX9_gainApart_31 : decode cX9_gainApart 31 = .ok (.aload_n 0, 1) := by decide +kernel
theorem dX9_gainApart_32 : decode cX9_gainApart 32 = .ok (.getfield 46, 3) := by decide +kernel
theorem dX9_gainApart_35 : decode cX9_gainApart 35 = .ok (.iload_n 2, 1) := by decide +kernel
theorem dX9_gainApart_36 : decode cX9_gainApart 36 = .ok (.iaload, 1) := by decide +kernel
theorem dX9_gainApart_37 : decode cX9_gainApart 37 = .ok (.isub, 1) := by decide +kernel
theorem dX9_gainApart_38 : decode cX9_gainApart 38 = .ok (.ireturn, 1) := by decide +kernel
theorem dX9_gainIn_0 : decode cX9_gainIn 0 = .ok (.aload_n 0, 1) := by decide +kernel
theorem dX9_gainIn_1 : decode cX9_gainIn 1 = .ok (.aload_n 1, 1) := by decide +kernel
theorem dX9_gainIn_2 : decode cX9_gainIn 2 = .ok (.aload_n 0, 1) := by decide +kernel
theorem dX9_gainIn_3 : decode cX9_gainIn 3 = .ok (.getfield 16, 3) := by decide +kernel
theorem dX9_gainIn_6 : decode cX9_gainIn 6 = .ok (.invokevirtual 128, 3) := by decide +kernel
theorem dX9_gainIn_9 : decode cX9_gainIn 9 = .ok (.aload_n 0, 1) := by decide +kernel
theorem dX9_gainIn_10 : decode cX9_gainIn 10 = .ok (.getfield 16, 3) := by decide +kernel
theorem dX9_gainIn_13 : decode cX9_gainIn 13 = .ok (.iload_n 2, 1) := by decide +kernel
theorem dX9_gainIn_14 : decode cX9_gainIn 14 = .ok (.iload_n 3, 1) := by decide +kernel
theorem dX9_gainIn_15 : decode cX9_gainIn 15 = .ok (.iastore, 1) := by decide +kernel
theorem dX9_gainIn_16 : decode cX9_gainIn 16 = .ok (.aload_n 0, 1) := by decide +kernel
theorem dX9_gainIn_17 : decode cX9_gainIn 17 = .ok (.aload_n 0, 1) := by decide +kernel
theorem dX9_gainIn_18 : decode cX9_gainIn 18 = .ok (.getfield 16, 3) := by decide +kernel
theorem dX9_gainIn_21 : decode cX9_gainIn 21 = .ok (.invokevirtual 115, 3) := by decide +kernel
theorem dX9_gainIn_24 : decode cX9_gainIn 24 = .ok (.iconst 1, 1) := by decide +kernel
theorem dX9_gainIn_25 : decode cX9_gainIn 25 = .ok (.istore 4, 2) := by decide +kernel
theorem dX9_gainIn_27 : decode cX9_gainIn 27 = .ok (.iconst 0, 1) := by decide +kernel
theorem dX9_gainIn_28 : decode cX9_gainIn 28 = .ok (.istore 5, 2) := by decide +kernel
theorem dX9_gainIn_30 : decode cX9_gainIn 30 = .ok (.iload 5, 2) := by decide +kernel
theorem dX9_gainIn_32 : decode cX9_gainIn 32 = .ok (.aload_n 0, 1) := by decide +kernel
theorem dX9_gainIn_33 : decode cX9_gainIn 33 = .ok (.getfield 55, 3) := by decide +kernel
theorem dX9_gainIn_36 : decode cX9_gainIn 36 = .ok (.if_icmp .ge 46, 3) := by decide +kernel
theorem dX9_gainIn_39 : decode cX9_gainIn 39 = .ok (.iload 4, 2) := by decide +kernel
theorem dX9_gainIn_41 : decode cX9_gainIn 41 = .ok (.ifCond .eq 32, 3) := by decide +kernel
theorem dX9_gainIn_44 : decode cX9_gainIn 44 = .ok (.aload_n 1, 1) := by decide +kernel
theorem dX9_gainIn_45 : decode cX9_gainIn 45 = .ok (.iload 5, 2) := by decide +kernel
theorem dX9_gainIn_47 : decode cX9_gainIn 47 = .ok (.iaload, 1) := by decide +kernel
theorem dX9_gainIn_48 : decode cX9_gainIn 48 = .ok (.iload_n 3, 1) := by decide +kernel
theorem dX9_gainIn_49 : decode cX9_gainIn 49 = .ok (.if_icmp .ne 20, 3) := by decide +kernel
theorem dX9_gainIn_52 : decode cX9_gainIn 52 = .ok (.aload_n 0, 1) := by decide +kernel
theorem dX9_gainIn_53 : decode cX9_gainIn 53 = .ok (.getfield 25, 3) := by decide +kernel
theorem dX9_gainIn_56 : decode cX9_gainIn 56 = .ok (.iload 5, 2) := by decide +kernel
theorem dX9_gainIn_58 : decode cX9_gainIn 58 = .ok (.iaload, 1) := by decide +kernel
theorem dX9_gainIn_59 : decode cX9_gainIn 59 = .ok (.aload_n 0, 1) := by decide +kernel
theorem dX9_gainIn_60 : decode cX9_gainIn 60 = .ok (.getfield 46, 3) := by decide +kernel
theorem dX9_gainIn_63 : decode cX9_gainIn 63 = .ok (.iload 5, 2) := by decide +kernel
theorem dX9_gainIn_65 : decode cX9_gainIn 65 = .ok (.iaload, 1) := by decide +kernel
theorem dX9_gainIn_66 : decode cX9_gainIn 66 = .ok (.if_icmp .lt 7, 3) := by decide +kernel
theorem dX9_gainIn_69 : decode cX9_gainIn 69 = .ok (.iconst 1, 1) := by decide +kernel
theorem dX9_gainIn_70 : decode cX9_gainIn 70 = .ok (.goto 4, 3) := by decide +kernel
theorem dX9_gainIn_73 : decode cX9_gainIn 73 = .ok (.iconst 0, 1) := by decide +kernel
theorem dX9_gainIn_74 : decode cX9_gainIn 74 = .ok (.istore 4, 2) := by decide +kernel
theorem dX9_gainIn_76 : decode cX9_gainIn 76 = .ok (.iinc 5 1, 3) := by decide +kernel
theorem dX9_gainIn_79 : decode cX9_gainIn 79 = .ok (.goto (-49), 3) := by decide +kernel
theorem dX9_gainIn_82 : decode cX9_gainIn 82 = .ok (.iload 4, 2) := by decide +kernel
theorem dX9_gainIn_84 : decode cX9_gainIn 84 = .ok (.ifCond .eq 19, 3) := by decide +kernel
theorem dX9_gainIn_87 : decode cX9_gainIn 87 = .ok (.aload_n 0, 1) := by decide +kernel
theorem dX9_gainIn_88 : decode cX9_gainIn 88 = .ok (.getfield 25, 3) := by decide +kernel
theorem dX9_gainIn_91 : decode cX9_gainIn 91 = .ok (.iload_n 2, 1) := by decide +kernel
theorem dX9_gainIn_92 : decode cX9_gainIn 92 = .ok (.iaload, 1) := by decide +kernel
theorem dX9_gainIn_93 : decode cX9_gainIn 93 = .ok (.aload_n 0, 1) := by decide +kernel
theorem dX9_gainIn_94 : decode cX9_gainIn 94 = .ok (.getfield 46, 3) := by decide +kernel
theorem dX9_gainIn_97 : decode cX9_gainIn 97 = .ok (.iload_n 2, 1) := by decide +kernel
theorem dX9_gainIn_98 : decode cX9_gainIn 98 = .ok (.iaload, 1) := by decide +kernel
theorem dX9_gainIn_99 : decode cX9_gainIn 99 = .ok (.isub, 1) := by decide +kernel
theorem dX9_gainIn_100 : decode cX9_gainIn 100 = .ok (.goto 4, 3) := by decide +kernel
theorem dX9_gainIn_103 : decode cX9_gainIn 103 = .ok (.iconst 0, 1) := by decide +kernel
theorem dX9_gainIn_104 : decode cX9_gainIn 104 = .ok (.ireturn, 1) := by decide +kernel
theorem dX9_leaver_0 : decode cX9_leaver 0 = .ok (.iconst 0, 1) := by decide +kernel
theorem dX9_leaver_1 : decode cX9_leaver 1 = .ok (.istore_n 2, 1) := by decide +kernel
theorem dX9_leaver_2 : decode cX9_leaver 2 = .ok (.iload_n 2, 1) := by decide +kernel
theorem dX9_leaver_3 : decode cX9_leaver 3 = .ok (.aload_n 0, 1) := by decide +kernel
theorem dX9_leaver_4 : decode cX9_leaver 4 = .ok (.getfield 55, 3) := by decide +kernel
theorem dX9_leaver_7 : decode cX9_leaver 7 = .ok (.if_icmp .ge 20, 3) := by decide +kernel
theorem dX9_leaver_10 : decode cX9_leaver 10 = .ok (.aload_n 0, 1) := by decide +kernel
theorem dX9_leaver_11 : decode cX9_leaver 11 = .ok (.aload_n 1, 1) := by decide +kernel
theorem dX9_leaver_12 : decode cX9_leaver 12 = .ok (.iload_n 2, 1) := by decide +kernel
theorem dX9_leaver_13 : decode cX9_leaver 13 = .ok (.invokevirtual 132, 3) := by decide +kernel
theorem dX9_leaver_16 : decode cX9_leaver 16 = .ok (.ifCond .le 5, 3) := by decide +kernel
theorem dX9_leaver_19 : decode cX9_leaver 19 = .ok (.iload_n 2, 1) := by decide +kernel
theorem dX9_leaver_20 : decode cX9_leaver 20 = .ok (.ireturn, 1) := by decide +kernel
theorem dX9_leaver_21 : decode cX9_leaver 21 = .ok (.iinc 2 1, 3) := by decide +kernel
theorem dX9_leaver_24 : decode cX9_leaver 24 = .ok (.goto (-22), 3) := by decide +kernel
theorem dX9_leaver_27 : decode cX9_leaver 27 = .ok (.bipush (-6), 2) := by decide +kernel
theorem dX9_leaver_29 : decode cX9_leaver 29 = .ok (.ireturn, 1) := by decide +kernel
theorem dX9_joiner_0 : decode cX9_joiner 0 = .ok (.aload_n 0, 1) := by decide +kernel
theorem dX9_joiner_1 : decode cX9_joiner 1 = .ok (.aload_n 1, 1) := by decide +kernel
theorem dX9_joiner_2 : decode cX9_joiner 2 = .ok (.invokevirtual 73, 3) := by decide +kernel
theorem dX9_joiner_5 : decode cX9_joiner 5 = .ok (.istore_n 2, 1) := by decide +kernel
theorem dX9_joiner_6 : decode cX9_joiner 6 = .ok (.iconst 0, 1) := by decide +kernel
theorem dX9_joiner_7 : decode cX9_joiner 7 = .ok (.istore_n 3, 1) := by decide +kernel
theorem dX9_joiner_8 : decode cX9_joiner 8 = .ok (.iload_n 3, 1) := by decide +kernel
theorem dX9_joiner_9 : decode cX9_joiner 9 = .ok (.aload_n 0, 1) := by decide +kernel
theorem dX9_joiner_10 : decode cX9_joiner 10 = .ok (.getfield 55, 3) := by decide +kernel
theorem dX9_joiner_13 : decode cX9_joiner 13 = .ok (.if_icmp .ge 54, 3) := by decide +kernel
theorem dX9_joiner_16 : decode cX9_joiner 16 = .ok (.iconst 0, 1) := by decide +kernel
theorem dX9_joiner_17 : decode cX9_joiner 17 = .ok (.istore 4, 2) := by decide +kernel
theorem dX9_joiner_19 : decode cX9_joiner 19 = .ok (.iload 4, 2) := by decide +kernel
theorem dX9_joiner_21 : decode cX9_joiner 21 = .ok (.iload_n 2, 1) := by decide +kernel
theorem dX9_joiner_22 : decode cX9_joiner 22 = .ok (.if_icmp .ge 39, 3) := by decide +kernel
theorem dX9_joiner_25 : decode cX9_joiner 25 = .ok (.iload 4, 2) := by decide +kernel
theorem dX9_joiner_27 : decode cX9_joiner 27 = .ok (.aload_n 1, 1) := by decide +kernel
theorem dX9_joiner_28 : decode cX9_joiner 28 = .ok (.iload_n 3, 1) := by decide +kernel
theorem dX9_joiner_29 : decode cX9_joiner 29 = .ok (.iaload, 1) := by decide +kernel
theorem dX9_joiner_30 : decode cX9_joiner 30 = .ok (.if_icmp .eq 25, 3) := by decide +kernel
theorem dX9_joiner_33 : decode cX9_joiner 33 = .ok (.aload_n 0, 1) := by decide +kernel
theorem dX9_joiner_34 : decode cX9_joiner 34 = .ok (.aload_n 1, 1) := by decide +kernel
theorem dX9_joiner_35 : decode cX9_joiner 35 = .ok (.iload_n 3, 1) := by decide +kernel
theorem dX9_joiner_36 : decode cX9_joiner 36 = .ok (.iload 4, 2) := by decide +kernel
theorem dX9_joiner_38 : decode cX9_joiner 38 = .ok (.invokevirtual 135, 3) := by decide +kernel
theorem dX9_joiner_41 : decode cX9_joiner 41 = .ok (.ifCond .le 14, 3) := by decide +kernel
theorem dX9_joiner_44 : decode cX9_joiner 44 = .ok (.bipush 100, 2) := by decide +kernel
theorem dX9_joiner_46 : decode cX9_joiner 46 = .ok (.bipush 10, 2) := by decide +kernel
theorem dX9_joiner_48 : decode cX9_joiner 48 = .ok (.iload_n 3, 1) := by decide +kernel
theorem dX9_joiner_49 : decode cX9_joiner 49 = .ok (.imul, 1) := by decide +kernel
theorem dX9_joiner_50 : decode cX9_joiner 50 = .ok (.iadd, 1) := by decide +kernel
theorem dX9_joiner_51 : decode cX9_joiner 51 = .ok (.iload 4, 2) := by decide +kernel
theorem dX9_joiner_53 : decode cX9_joiner 53 = .ok (.iadd, 1) := by decide +kernel
theorem dX9_joiner_54 : decode cX9_joiner 54 = .ok (.ireturn, 1) := by decide +kernel
theorem dX9_joiner_55 : decode cX9_joiner 55 = .ok (.iinc 4 1, 3) := by decide +kernel
theorem dX9_joiner_58 : decode cX9_joiner 58 = .ok (.goto (-39), 3) := by decide +kernel
theorem dX9_joiner_61 : decode cX9_joiner 61 = .ok (.iinc 3 1, 3) := by decide +kernel
theorem dX9_joiner_64 : decode cX9_joiner 64 = .ok (.goto (-56), 3) := by decide +kernel
theorem dX9_joiner_67 : decode cX9_joiner 67 = .ok (.bipush (-6), 2) := by decide +kernel
theorem dX9_joiner_69 : decode cX9_joiner 69 = .ok (.ireturn, 1) := by decide +kernel
theorem dX9_isUnion_0 : decode cX9_isUnion 0 = .ok (.iconst 0, 1) := by decide +kernel
theorem dX9_isUnion_1 : decode cX9_isUnion 1 = .ok (.istore_n 3, 1) := by decide +kernel
theorem dX9_isUnion_2 : decode cX9_isUnion 2 = .ok (.iload_n 2, 1) := by decide +kernel
theorem dX9_isUnion_3 : decode cX9_isUnion 3 = .ok (.iload_n 3, 1) := by decide +kernel
theorem dX9_isUnion_4 : decode cX9_isUnion 4 = .ok (.ishr, 1) := by decide +kernel
theorem dX9_isUnion_5 : decode cX9_isUnion 5 = .ok (.iconst 1, 1) := by decide +kernel
theorem dX9_isUnion_6 : decode cX9_isUnion 6 = .ok (.iand, 1) := by decide +kernel
theorem dX9_isUnion_7 : decode cX9_isUnion 7 = .ok (.ifCond .ne 9, 3) := by decide +kernel
theorem dX9_isUnion_10 : decode cX9_isUnion 10 = .ok (.iinc 3 1, 3) := by decide +kernel
theorem dX9_isUnion_13 : decode cX9_isUnion 13 = .ok (.goto (-11), 3) := by decide +kernel
theorem dX9_isUnion_16 : decode cX9_isUnion 16 = .ok (.iconst 1, 1) := by decide +kernel
theorem dX9_isUnion_17 : decode cX9_isUnion 17 = .ok (.istore 4, 2) := by decide +kernel
theorem dX9_isUnion_19 : decode cX9_isUnion 19 = .ok (.iconst 0, 1) := by decide +kernel
theorem dX9_isUnion_20 : decode cX9_isUnion 20 = .ok (.istore 5, 2) := by decide +kernel
theorem dX9_isUnion_22 : decode cX9_isUnion 22 = .ok (.iload 5, 2) := by decide +kernel
theorem dX9_isUnion_24 : decode cX9_isUnion 24 = .ok (.aload_n 0, 1) := by decide +kernel
theorem dX9_isUnion_25 : decode cX9_isUnion 25 = .ok (.getfield 55, 3) := by decide +kernel
theorem dX9_isUnion_28 : decode cX9_isUnion 28 = .ok (.if_icmp .ge 54, 3) := by decide +kernel
theorem dX9_isUnion_31 : decode cX9_isUnion 31 = .ok (.iload 4, 2) := by decide +kernel
theorem dX9_isUnion_33 : decode cX9_isUnion 33 = .ok (.ifCond .eq 40, 3) := by decide +kernel
theorem dX9_isUnion_36 : decode cX9_isUnion 36 = .ok (.iload_n 2, 1) := by decide +kernel
theorem dX9_isUnion_37 : decode cX9_isUnion 37 = .ok (.iload 5, 2) := by decide +kernel
theorem dX9_isUnion_39 : decode cX9_isUnion 39 = .ok (.ishr, 1) := by decide +kernel
theorem dX9_isUnion_40 : decode cX9_isUnion 40 = .ok (.iconst 1, 1) := by decide +kernel
theorem dX9_isUnion_41 : decode cX9_isUnion 41 = .ok (.iand, 1) := by decide +kernel
theorem dX9_isUnion_42 : decode cX9_isUnion 42 = .ok (.iconst 1, 1) := by decide +kernel
theorem dX9_isUnion_43 : decode cX9_isUnion 43 = .ok (.if_icmp .ne 7, 3) := by decide +kernel
theorem dX9_isUnion_46 : decode cX9_isUnion 46 = .ok (.iconst 1, 1) := by decide +kernel
theorem dX9_isUnion_47 : decode cX9_isUnion 47 = .ok (.goto 4, 3) := by decide +kernel
theorem dX9_isUnion_50 : decode cX9_isUnion 50 = .ok (.iconst 0, 1) := by decide +kernel
theorem dX9_isUnion_51 : decode cX9_isUnion 51 = .ok (.aload_n 1, 1) := by decide +kernel
theorem dX9_isUnion_52 : decode cX9_isUnion 52 = .ok (.iload 5, 2) := by decide +kernel
theorem dX9_isUnion_54 : decode cX9_isUnion 54 = .ok (.iaload, 1) := by decide +kernel
theorem dX9_isUnion_55 : decode cX9_isUnion 55 = .ok (.aload_n 1, 1) := by decide +kernel
theorem dX9_isUnion_56 : decode cX9_isUnion 56 = .ok (.iload_n 3, 1) := by decide +kernel
theorem dX9_isUnion_57 : decode cX9_isUnion 57 = .ok (.iaload, 1) := by decide +kernel
theorem dX9_isUnion_58 : decode cX9_isUnion 58 = .ok (.if_icmp .ne 7, 3) := by decide +kernel
theorem dX9_isUnion_61 : decode cX9_isUnion 61 = .ok (.iconst 1, 1) := by decide +kernel
theorem dX9_isUnion_62 : decode cX9_isUnion 62 = .ok (.goto 4, 3) := by decide +kernel
theorem dX9_isUnion_65 : decode cX9_isUnion 65 = .ok (.iconst 0, 1) := by decide +kernel
theorem dX9_isUnion_66 : decode cX9_isUnion 66 = .ok (.if_icmp .ne 7, 3) := by decide +kernel
theorem dX9_isUnion_69 : decode cX9_isUnion 69 = .ok (.iconst 1, 1) := by decide +kernel
theorem dX9_isUnion_70 : decode cX9_isUnion 70 = .ok (.goto 4, 3) := by decide +kernel
theorem dX9_isUnion_73 : decode cX9_isUnion 73 = .ok (.iconst 0, 1) := by decide +kernel
theorem dX9_isUnion_74 : decode cX9_isUnion 74 = .ok (.istore 4, 2) := by decide +kernel
theorem dX9_isUnion_76 : decode cX9_isUnion 76 = .ok (.iinc 5 1, 3) := by decide +kernel
theorem dX9_isUnion_79 : decode cX9_isUnion 79 = .ok (.goto (-57), 3) := by decide +kernel
theorem dX9_isUnion_82 : decode cX9_isUnion 82 = .ok (.iload 4, 2) := by decide +kernel
theorem dX9_isUnion_84 : decode cX9_isUnion 84 = .ok (.ireturn, 1) := by decide +kernel
theorem dX9_isBetter_0 : decode cX9_isBetter 0 = .ok (.aload_n 0, 1) := by decide +kernel
theorem dX9_isBetter_1 : decode cX9_isBetter 1 = .ok (.aload_n 1, 1) := by decide +kernel
theorem dX9_isBetter_2 : decode cX9_isBetter 2 = .ok (.iload_n 2, 1) := by decide +kernel
theorem dX9_isBetter_3 : decode cX9_isBetter 3 = .ok (.invokevirtual 139, 3) := by decide +kernel
theorem dX9_isBetter_6 : decode cX9_isBetter 6 = .ok (.ifCond .eq 5, 3) := by decide +kernel
theorem dX9_isBetter_9 : decode cX9_isBetter 9 = .ok (.iconst 0, 1) := by decide +kernel
theorem dX9_isBetter_10 : decode cX9_isBetter 10 = .ok (.ireturn, 1) := by decide +kernel
theorem dX9_isBetter_11 : decode cX9_isBetter 11 = .ok (.aload_n 0, 1) := by decide +kernel
theorem dX9_isBetter_12 : decode cX9_isBetter 12 = .ok (.aload_n 1, 1) := by decide +kernel
theorem dX9_isBetter_13 : decode cX9_isBetter 13 = .ok (.aload_n 0, 1) := by decide +kernel
theorem dX9_isBetter_14 : decode cX9_isBetter 14 = .ok (.getfield 16, 3) := by decide +kernel
theorem dX9_isBetter_17 : decode cX9_isBetter 17 = .ok (.invokevirtual 128, 3) := by decide +kernel
theorem dX9_isBetter_20 : decode cX9_isBetter 20 = .ok (.iconst 0, 1) := by decide +kernel
theorem dX9_isBetter_21 : decode cX9_isBetter 21 = .ok (.istore_n 3, 1) := by decide +kernel
theorem dX9_isBetter_22 : decode cX9_isBetter 22 = .ok (.iload_n 3, 1) := by decide +kernel
theorem dX9_isBetter_23 : decode cX9_isBetter 23 = .ok (.aload_n 0, 1) := by decide +kernel
theorem dX9_isBetter_24 : decode cX9_isBetter 24 = .ok (.getfield 55, 3) := by decide +kernel
theorem dX9_isBetter_27 : decode cX9_isBetter 27 = .ok (.if_icmp .ge 35, 3) := by decide +kernel
theorem dX9_isBetter_30 : decode cX9_isBetter 30 = .ok (.aload_n 0, 1) := by decide +kernel
theorem dX9_isBetter_31 : decode cX9_isBetter 31 = .ok (.getfield 16, 3) := by decide +kernel
theorem dX9_isBetter_34 : decode cX9_isBetter 34 = .ok (.iload_n 3, 1) := by decide +kernel
theorem dX9_isBetter_35 : decode cX9_isBetter 35 = .ok (.iload_n 2, 1) := by decide +kernel
theorem dX9_isBetter_36 : decode cX9_isBetter 36 = .ok (.iload_n 3, 1) := by decide +kernel
theorem dX9_isBetter_37 : decode cX9_isBetter 37 = .ok (.ishr, 1) := by decide +kernel
theorem dX9_isBetter_38 : decode cX9_isBetter 38 = .ok (.iconst 1, 1) := by decide +kernel
theorem dX9_isBetter_39 : decode cX9_isBetter 39 = .ok (.iand, 1) := by decide +kernel
theorem dX9_isBetter_40 : decode cX9_isBetter 40 = .ok (.iconst 1, 1) := by decide +kernel
theorem dX9_isBetter_41 : decode cX9_isBetter 41 = .ok (.if_icmp .ne 8, 3) := by decide +kernel
theorem dX9_isBetter_44 : decode cX9_isBetter 44 = .ok (.bipush 7, 2) := by decide +kernel
theorem dX9_isBetter_46 : decode cX9_isBetter 46 = .ok (.goto 9, 3) := by decide +kernel
theorem dX9_isBetter_49 : decode cX9_isBetter 49 = .ok (.aload_n 0, 1) := by decide +kernel
theorem dX9_isBetter_50 : decode cX9_isBetter 50 = .ok (.getfield 16, 3) := by decide +kernel
theorem dX9_isBetter_53 : decode cX9_isBetter 53 = .ok (.iload_n 3, 1) := by decide +kernel
theorem dX9_isBetter_54 : decode cX9_isBetter 54 = .ok (.iaload, 1) := by decide +kernel
theorem dX9_isBetter_55 : decode cX9_isBetter 55 = .ok (.iastore, 1) := by decide +kernel
theorem dX9_isBetter_56 : decode cX9_isBetter 56 = .ok (.iinc 3 1, 3) := by decide +kernel
theorem dX9_isBetter_59 : decode cX9_isBetter 59 = .ok (.goto (-37), 3) := by decide +kernel
theorem dX9_isBetter_62 : decode cX9_isBetter 62 = .ok (.aload_n 0, 1) := by decide +kernel
theorem dX9_isBetter_63 : decode cX9_isBetter 63 = .ok (.aload_n 0, 1) := by decide +kernel
theorem dX9_isBetter_64 : decode cX9_isBetter 64 = .ok (.getfield 16, 3) := by decide +kernel
theorem dX9_isBetter_67 : decode cX9_isBetter 67 = .ok (.invokevirtual 115, 3) := by decide +kernel
theorem dX9_isBetter_70 : decode cX9_isBetter 70 = .ok (.iconst 1, 1) := by decide +kernel
theorem dX9_isBetter_71 : decode cX9_isBetter 71 = .ok (.istore_n 3, 1) := by decide +kernel
theorem dX9_isBetter_72 : decode cX9_isBetter 72 = .ok (.iconst 0, 1) := by decide +kernel
theorem dX9_isBetter_73 : decode cX9_isBetter 73 = .ok (.istore 4, 2) := by decide +kernel
theorem dX9_isBetter_75 : decode cX9_isBetter 75 = .ok (.iload 4, 2) := by decide +kernel
theorem dX9_isBetter_77 : decode cX9_isBetter 77 = .ok (.aload_n 0, 1) := by decide +kernel
theorem dX9_isBetter_78 : decode cX9_isBetter 78 = .ok (.getfield 55, 3) := by decide +kernel
theorem dX9_isBetter_81 : decode cX9_isBetter 81 = .ok (.if_icmp .ge 45, 3) := by decide +kernel
theorem dX9_isBetter_84 : decode cX9_isBetter 84 = .ok (.iload_n 3, 1) := by decide +kernel
theorem dX9_isBetter_85 : decode cX9_isBetter 85 = .ok (.ifCond .eq 33, 3) := by decide +kernel
theorem dX9_isBetter_88 : decode cX9_isBetter 88 = .ok (.iload_n 2, 1) := by decide +kernel
theorem dX9_isBetter_89 : decode cX9_isBetter 89 = .ok (.iload 4, 2) := by decide +kernel
theorem dX9_isBetter_91 : decode cX9_isBetter 91 = .ok (.ishr, 1) := by decide +kernel
theorem dX9_isBetter_92 : decode cX9_isBetter 92 = .ok (.iconst 1, 1) := by decide +kernel
theorem dX9_isBetter_93 : decode cX9_isBetter 93 = .ok (.iand, 1) := by decide +kernel
theorem dX9_isBetter_94 : decode cX9_isBetter 94 = .ok (.ifCond .eq 20, 3) := by decide +kernel
theorem dX9_isBetter_97 : decode cX9_isBetter 97 = .ok (.aload_n 0, 1) := by decide +kernel
theorem dX9_isBetter_98 : decode cX9_isBetter 98 = .ok (.getfield 25, 3) := by decide +kernel
theorem dX9_isBetter_101 : decode cX9_isBetter 101 = .ok (.iload 4, 2) := by decide +kernel
theorem dX9_isBetter_103 : decode cX9_isBetter 103 = .ok (.iaload, 1) := by decide +kernel
theorem dX9_isBetter_104 : decode cX9_isBetter 104 = .ok (.aload_n 0, 1) := by decide +kernel
theorem dX9_isBetter_105 : decode cX9_isBetter 105 = .ok (.getfield 46, 3) := by decide +kernel
theorem dX9_isBetter_108 : decode cX9_isBetter 108 = .ok (.iload 4, 2) := by decide +kernel
theorem dX9_isBetter_110 : decode cX9_isBetter 110 = .ok (.iaload, 1) := by decide +kernel
theorem dX9_isBetter_111 : decode cX9_isBetter 111 = .ok (.if_icmp .le 7, 3) := by decide +kernel
theorem dX9_isBetter_114 : decode cX9_isBetter 114 = .ok (.iconst 1, 1) := by decide +kernel
theorem dX9_isBetter_115 : decode cX9_isBetter 115 = .ok (.goto 4, 3) := by decide +kernel
theorem dX9_isBetter_118 : decode cX9_isBetter 118 = .ok (.iconst 0, 1) := by decide +kernel
theorem dX9_isBetter_119 : decode cX9_isBetter 119 = .ok (.istore_n 3, 1) := by decide +kernel
theorem dX9_isBetter_120 : decode cX9_isBetter 120 = .ok (.iinc 4 1, 3) := by decide +kernel
theorem dX9_isBetter_123 : decode cX9_isBetter 123 = .ok (.goto (-48), 3) := by decide +kernel
theorem dX9_isBetter_126 : decode cX9_isBetter 126 = .ok (.iload_n 3, 1) := by decide +kernel
theorem dX9_isBetter_127 : decode cX9_isBetter 127 = .ok (.ireturn, 1) := by decide +kernel
theorem dX9_breakerOf_0 : decode cX9_breakerOf 0 = .ok (.aload_n 0, 1) := by decide +kernel
theorem dX9_breakerOf_1 : decode cX9_breakerOf 1 = .ok (.aload_n 1, 1) := by decide +kernel
theorem dX9_breakerOf_2 : decode cX9_breakerOf 2 = .ok (.invokevirtual 143, 3) := by decide +kernel
theorem dX9_breakerOf_5 : decode cX9_breakerOf 5 = .ok (.iload_n 2, 1) := by decide +kernel
theorem dX9_breakerOf_6 : decode cX9_breakerOf 6 = .ok (.iconst 1, 1) := by decide +kernel
theorem dX9_breakerOf_7 : decode cX9_breakerOf 7 = .ok (.if_icmp .le 39, 3) := by decide +kernel
theorem dX9_breakerOf_10 : decode cX9_breakerOf 10 = .ok (.iconst 1, 1) := by decide +kernel
theorem dX9_breakerOf_11 : decode cX9_breakerOf 11 = .ok (.istore_n 3, 1) := by decide +kernel
theorem dX9_breakerOf_12 : decode cX9_breakerOf 12 = .ok (.iload_n 3, 1) := by decide +kernel
theorem dX9_breakerOf_13 : decode cX9_breakerOf 13 = .ok (.iconst 1, 1) := by decide +kernel
theorem dX9_breakerOf_14 : decode cX9_breakerOf 14 = .ok (.aload_n 0, 1) := by decide +kernel
theorem dX9_breakerOf_15 : decode cX9_breakerOf 15 = .ok (.getfield 55, 3) := by decide +kernel
theorem dX9_breakerOf_18 : decode cX9_breakerOf 18 = .ok (.ishl, 1) := by decide +kernel
theorem dX9_breakerOf_19 : decode cX9_breakerOf 19 = .ok (.if_icmp .ge 24, 3) := by decide +kernel
theorem dX9_breakerOf_22 : decode cX9_breakerOf 22 = .ok (.aload_n 0, 1) := by decide +kernel
theorem dX9_breakerOf_23 : decode cX9_breakerOf 23 = .ok (.aload_n 1, 1) := by decide +kernel
theorem dX9_breakerOf_24 : decode cX9_breakerOf 24 = .ok (.iload_n 3, 1) := by decide +kernel
theorem dX9_breakerOf_25 : decode cX9_breakerOf 25 = .ok (.invokevirtual 146, 3) := by decide +kernel
theorem dX9_breakerOf_28 : decode cX9_breakerOf 28 = .ok (.ifCond .eq 9, 3) := by decide +kernel
theorem dX9_breakerOf_31 : decode cX9_breakerOf 31 = .ok (.sipush 1000, 3) := by decide +kernel
theorem dX9_breakerOf_34 : decode cX9_breakerOf 34 = .ok (.iload_n 3, 1) := by decide +kernel
theorem dX9_breakerOf_35 : decode cX9_breakerOf 35 = .ok (.iadd, 1) := by decide +kernel
theorem dX9_breakerOf_36 : decode cX9_breakerOf 36 = .ok (.ireturn, 1) := by decide +kernel
theorem dX9_breakerOf_37 : decode cX9_breakerOf 37 = .ok (.iinc 3 1, 3) := by decide +kernel
theorem dX9_breakerOf_40 : decode cX9_breakerOf 40 = .ok (.goto (-28), 3) := by decide +kernel
theorem dX9_breakerOf_43 : decode cX9_breakerOf 43 = .ok (.bipush (-6), 2) := by decide +kernel
theorem dX9_breakerOf_45 : decode cX9_breakerOf 45 = .ok (.ireturn, 1) := by decide +kernel
theorem dX9_breakerOf_46 : decode cX9_breakerOf 46 = .ok (.aload_n 0, 1) := by decide +kernel
theorem dX9_breakerOf_47 : decode cX9_breakerOf 47 = .ok (.aload_n 1, 1) := by decide +kernel
theorem dX9_breakerOf_48 : decode cX9_breakerOf 48 = .ok (.invokevirtual 149, 3) := by decide +kernel
theorem dX9_breakerOf_51 : decode cX9_breakerOf 51 = .ok (.istore_n 3, 1) := by decide +kernel
theorem dX9_breakerOf_52 : decode cX9_breakerOf 52 = .ok (.iload_n 3, 1) := by decide +kernel
theorem dX9_breakerOf_53 : decode cX9_breakerOf 53 = .ok (.ifCond .ge 7, 3) := by decide +kernel
theorem dX9_breakerOf_56 : decode cX9_breakerOf 56 = .ok (.iload_n 2, 1) := by decide +kernel
theorem dX9_breakerOf_57 : decode cX9_breakerOf 57 = .ok (.ifCond .ne 7, 3) := by decide +kernel
theorem dX9_breakerOf_60 : decode cX9_breakerOf 60 = .ok (.iload_n 3, 1) := by decide +kernel
theorem dX9_breakerOf_61 : decode cX9_breakerOf 61 = .ok (.goto 8, 3) := by decide +kernel
theorem dX9_breakerOf_64 : decode cX9_breakerOf 64 = .ok (.aload_n 0, 1) := by decide +kernel
theorem dX9_breakerOf_65 : decode cX9_breakerOf 65 = .ok (.aload_n 1, 1) := by decide +kernel
theorem dX9_breakerOf_66 : decode cX9_breakerOf 66 = .ok (.invokevirtual 152, 3) := by decide +kernel
theorem dX9_breakerOf_69 : decode cX9_breakerOf 69 = .ok (.ireturn, 1) := by decide +kernel
theorem dX9_breaks_0 : decode cX9_breaks 0 = .ok (.iload_n 1, 1) := by decide +kernel
theorem dX9_breaks_1 : decode cX9_breaks 1 = .ok (.i2l, 1) := by decide +kernel
theorem dX9_breaks_2 : decode cX9_breaks 2 = .ok (.lconst 0, 1) := by decide +kernel
theorem dX9_breaks_3 : decode cX9_breaks 3 = .ok (.ldc2_w 83, 3) := by decide +kernel
theorem dX9_breaks_6 : decode cX9_breaks 6 = .ok (.invokestatic 59, 3) := by decide +kernel
theorem dX9_breaks_9 : decode cX9_breaks 9 = .ok (.ifCond .eq 15, 3) := by decide +kernel
theorem dX9_breaks_12 : decode cX9_breaks 12 = .ok (.aload_n 0, 1) := by decide +kernel
theorem dX9_breaks_13 : decode cX9_breaks 13 = .ok (.aload_n 0, 1) := by decide +kernel
theorem dX9_breaks_14 : decode cX9_breaks 14 = .ok (.getfield 13, 3) := by decide +kernel
theorem dX9_breaks_17 : decode cX9_breaks 17 = .ok (.iload_n 1, 1) := by decide +kernel
theorem dX9_breaks_18 : decode cX9_breaks 18 = .ok (.invokevirtual 155, 3) := by decide +kernel
theorem dX9_breaks_21 : decode cX9_breaks 21 = .ok (.goto 5, 3) := by decide +kernel
theorem dX9_breaks_24 : decode cX9_breaks 24 = .ok (.bipush (-2), 2) := by decide +kernel
theorem dX9_breaks_26 : decode cX9_breaks 26 = .ok (.ireturn, 1) := by decide +kernel
theorem dX9_rests_0 : decode cX9_rests 0 = .ok (.iload_n 2, 1) := by decide +kernel
theorem dX9_rests_1 : decode cX9_rests 1 = .ok (.iconst (-1), 1) := by decide +kernel
theorem dX9_rests_2 : decode cX9_rests 2 = .ok (.if_icmp .eq 13, 3) := by decide +kernel
theorem dX9_rests_5 : decode cX9_rests 5 = .ok (.aload_n 0, 1) := by decide +kernel
theorem dX9_rests_6 : decode cX9_rests 6 = .ok (.iload_n 3, 1) := by decide +kernel
theorem dX9_rests_7 : decode cX9_rests 7 = .ok (.invokevirtual 77, 3) := by decide +kernel
theorem dX9_rests_10 : decode cX9_rests 10 = .ok (.ifCond .ne 5, 3) := by decide +kernel
theorem dX9_rests_13 : decode cX9_rests 13 = .ok (.iconst (-1), 1) := by decide +kernel
theorem dX9_rests_14 : decode cX9_rests 14 = .ok (.ireturn, 1) := by decide +kernel
theorem dX9_rests_15 : decode cX9_rests 15 = .ok (.iload_n 1, 1) := by decide +kernel
theorem dX9_rests_16 : decode cX9_rests 16 = .ok (.i2l, 1) := by decide +kernel
theorem dX9_rests_17 : decode cX9_rests 17 = .ok (.lconst 0, 1) := by decide +kernel
theorem dX9_rests_18 : decode cX9_rests 18 = .ok (.ldc2_w 83, 3) := by decide +kernel
theorem dX9_rests_21 : decode cX9_rests 21 = .ok (.invokestatic 59, 3) := by decide +kernel
theorem dX9_rests_24 : decode cX9_rests 24 = .ok (.ifCond .ne 6, 3) := by decide +kernel
theorem dX9_rests_27 : decode cX9_rests 27 = .ok (.bipush (-2), 2) := by decide +kernel
theorem dX9_rests_29 : decode cX9_rests 29 = .ok (.ireturn, 1) := by decide +kernel
theorem dX9_rests_30 : decode cX9_rests 30 = .ok (.iconst 0, 1) := by decide +kernel
theorem dX9_rests_31 : decode cX9_rests 31 = .ok (.istore 4, 2) := by decide +kernel
theorem dX9_rests_33 : decode cX9_rests 33 = .ok (.aload_n 0, 1) := by decide +kernel
theorem dX9_rests_34 : decode cX9_rests 34 = .ok (.invokevirtual 121, 3) := by decide +kernel
theorem dX9_rests_37 : decode cX9_rests 37 = .ok (.iconst 1, 1) := by decide +kernel
theorem dX9_rests_38 : decode cX9_rests 38 = .ok (.istore 5, 2) := by decide +kernel
theorem dX9_rests_40 : decode cX9_rests 40 = .ok (.iload 5, 2) := by decide +kernel
theorem dX9_rests_42 : decode cX9_rests 42 = .ok (.ifCond .eq 40, 3) := by decide +kernel
theorem dX9_rests_45 : decode cX9_rests 45 = .ok (.aload_n 0, 1) := by decide +kernel
theorem dX9_rests_46 : decode cX9_rests 46 = .ok (.aload_n 0, 1) := by decide +kernel
theorem dX9_rests_47 : decode cX9_rests 47 = .ok (.getfield 43, 3) := by decide +kernel
theorem dX9_rests_50 : decode cX9_rests 50 = .ok (.iload_n 1, 1) := by decide +kernel
theorem dX9_rests_51 : decode cX9_rests 51 = .ok (.invokevirtual 155, 3) := by decide +kernel
theorem dX9_rests_54 : decode cX9_rests 54 = .ok (.ifCond .ge 19, 3) := by decide +kernel
theorem dX9_rests_57 : decode cX9_rests 57 = .ok (.iload 4, 2) := by decide +kernel
theorem dX9_rests_59 : decode cX9_rests 59 = .ok (.iload_n 2, 1) := by decide +kernel
theorem dX9_rests_60 : decode cX9_rests 60 = .ok (.if_icmp .ne 10, 3) := by decide +kernel
theorem dX9_rests_63 : decode cX9_rests 63 = .ok (.aload_n 0, 1) := by decide +kernel
theorem dX9_rests_64 : decode cX9_rests 64 = .ok (.getfield 43, 3) := by decide +kernel
theorem dX9_rests_67 : decode cX9_rests 67 = .ok (.iload_n 3, 1) := by decide +kernel
theorem dX9_rests_68 : decode cX9_rests 68 = .ok (.iaload, 1) := by decide +kernel
theorem dX9_rests_69 : decode cX9_rests 69 = .ok (.ireturn, 1) := by decide +kernel
theorem dX9_rests_70 : decode cX9_rests 70 = .ok (.iinc 4 1, 3) := by decide +kernel
theorem dX9_rests_73 : decode cX9_rests 73 = .ok (.aload_n 0, 1) := by decide +kernel
theorem dX9_rests_74 : decode cX9_rests 74 = .ok (.invokevirtual 124, 3) := by decide +kernel
theorem dX9_rests_77 : decode cX9_rests 77 = .ok (.istore 5, 2) := by decide +kernel
theorem dX9_rests_79 : decode cX9_rests 79 = .ok (.goto (-39), 3) := by decide +kernel
theorem dX9_rests_82 : decode cX9_rests 82 = .ok (.iload_n 2, 1) := by decide +kernel
theorem dX9_rests_83 : decode cX9_rests 83 = .ok (.iconst (-1), 1) := by decide +kernel
theorem dX9_rests_84 : decode cX9_rests 84 = .ok (.if_icmp .ne 8, 3) := by decide +kernel
theorem dX9_rests_87 : decode cX9_rests 87 = .ok (.iload 4, 2) := by decide +kernel
theorem dX9_rests_89 : decode cX9_rests 89 = .ok (.goto 5, 3) := by decide +kernel
theorem dX9_rests_92 : decode cX9_rests 92 = .ok (.bipush (-6), 2) := by decide +kernel
theorem dX9_rests_94 : decode cX9_rests 94 = .ok (.ireturn, 1) := by decide +kernel
theorem dX9_stateOf_0 : decode cX9_stateOf 0 = .ok (.iload_n 2, 1) := by decide +kernel
theorem dX9_stateOf_1 : decode cX9_stateOf 1 = .ok (.istore_n 3, 1) := by decide +kernel
theorem dX9_stateOf_2 : decode cX9_stateOf 2 = .ok (.iconst 0, 1) := by decide +kernel
theorem dX9_stateOf_3 : decode cX9_stateOf 3 = .ok (.istore 4, 2) := by decide +kernel
theorem dX9_stateOf_5 : decode cX9_stateOf 5 = .ok (.iload 4, 2) := by decide +kernel
theorem dX9_stateOf_7 : decode cX9_stateOf 7 = .ok (.aload_n 0, 1) := by decide +kernel
theorem dX9_stateOf_8 : decode cX9_stateOf 8 = .ok (.getfield 55, 3) := by decide +kernel
theorem dX9_stateOf_11 : decode cX9_stateOf 11 = .ok (.if_icmp .ge 19, 3) := by decide +kernel
theorem dX9_stateOf_14 : decode cX9_stateOf 14 = .ok (.bipush 7, 2) := by decide +kernel
theorem dX9_stateOf_16 : decode cX9_stateOf 16 = .ok (.iload_n 3, 1) := by decide +kernel
theorem dX9_stateOf_17 : decode cX9_stateOf 17 = .ok (.imul, 1) := by decide +kernel
theorem dX9_stateOf_18 : decode cX9_stateOf 18 = .ok (.aload_n 1, 1) := by decide +kernel
theorem dX9_stateOf_19 : decode cX9_stateOf 19 = .ok (.iload 4, 2) := by decide +kernel
theorem dX9_stateOf_21 : decode cX9_stateOf 21 = .ok (.iaload, 1) := by decide +kernel
theorem dX9_stateOf_22 : decode cX9_stateOf 22 = .ok (.iadd, 1) := by decide +kernel
theorem dX9_stateOf_23 : decode cX9_stateOf 23 = .ok (.istore_n 3, 1) := by decide +kernel
theorem dX9_stateOf_24 : decode cX9_stateOf 24 = .ok (.iinc 4 1, 3) := by decide +kernel
theorem dX9_stateOf_27 : decode cX9_stateOf 27 = .ok (.goto (-22), 3) := by decide +kernel
theorem dX9_stateOf_30 : decode cX9_stateOf 30 = .ok (.iload_n 3, 1) := by decide +kernel
theorem dX9_stateOf_31 : decode cX9_stateOf 31 = .ok (.ireturn, 1) := by decide +kernel
theorem dX9_goOne_0 : decode cX9_goOne 0 = .ok (.aload_n 0, 1) := by decide +kernel
theorem dX9_goOne_1 : decode cX9_goOne 1 = .ok (.aload_n 0, 1) := by decide +kernel
theorem dX9_goOne_2 : decode cX9_goOne 2 = .ok (.getfield 49, 3) := by decide +kernel
theorem dX9_goOne_5 : decode cX9_goOne 5 = .ok (.invokevirtual 143, 3) := by decide +kernel
theorem dX9_goOne_8 : decode cX9_goOne 8 = .ok (.aload_n 0, 1) := by decide +kernel
theorem dX9_goOne_9 : decode cX9_goOne 9 = .ok (.aload_n 0, 1) := by decide +kernel
theorem dX9_goOne_10 : decode cX9_goOne 10 = .ok (.getfield 49, 3) := by decide +kernel
theorem dX9_goOne_13 : decode cX9_goOne 13 = .ok (.invokevirtual 73, 3) := by decide +kernel
theorem dX9_goOne_16 : decode cX9_goOne 16 = .ok (.istore_n 2, 1) := by decide +kernel
theorem dX9_goOne_17 : decode cX9_goOne 17 = .ok (.iconst 0, 1) := by decide +kernel
theorem dX9_goOne_18 : decode cX9_goOne 18 = .ok (.istore_n 3, 1) := by decide +kernel
theorem dX9_goOne_19 : decode cX9_goOne 19 = .ok (.iload_n 3, 1) := by decide +kernel
theorem dX9_goOne_20 : decode cX9_goOne 20 = .ok (.aload_n 0, 1) := by decide +kernel
theorem dX9_goOne_21 : decode cX9_goOne 21 = .ok (.getfield 55, 3) := by decide +kernel
theorem dX9_goOne_24 : decode cX9_goOne 24 = .ok (.if_icmp .ge 144, 3) := by decide +kernel
theorem dX9_goOne_27 : decode cX9_goOne 27 = .ok (.iload_n 1, 1) := by decide +kernel
theorem dX9_goOne_28 : decode cX9_goOne 28 = .ok (.iload_n 3, 1) := by decide +kernel
theorem dX9_goOne_29 : decode cX9_goOne 29 = .ok (.iadd, 1) := by decide +kernel
theorem dX9_goOne_30 : decode cX9_goOne 30 = .ok (.aload_n 0, 1) := by decide +kernel
theorem dX9_goOne_31 : decode cX9_goOne 31 = .ok (.getfield 55, 3) := by decide +kernel
theorem dX9_goOne_34 : decode cX9_goOne 34 = .ok (.irem, 1) := by decide +kernel
theorem dX9_goOne_35 : decode cX9_goOne 35 = .ok (.istore 4, 2) := by decide +kernel
theorem dX9_goOne_37 : decode cX9_goOne 37 = .ok (.aload_n 0, 1) := by decide +kernel
theorem dX9_goOne_38 : decode cX9_goOne 38 = .ok (.aload_n 0, 1) := by decide +kernel
theorem dX9_goOne_39 : decode cX9_goOne 39 = .ok (.getfield 49, 3) := by decide +kernel
theorem dX9_goOne_42 : decode cX9_goOne 42 = .ok (.iload 4, 2) := by decide +kernel
theorem dX9_goOne_44 : decode cX9_goOne 44 = .ok (.invokevirtual 132, 3) := by decide +kernel
theorem dX9_goOne_47 : decode cX9_goOne 47 = .ok (.istore 5, 2) := by decide +kernel
theorem dX9_goOne_49 : decode cX9_goOne 49 = .ok (.iload 5, 2) := by decide +kernel
theorem dX9_goOne_51 : decode cX9_goOne 51 = .ok (.ifCond .le 8, 3) := by decide +kernel
theorem dX9_goOne_54 : decode cX9_goOne 54 = .ok (.bipush 7, 2) := by decide +kernel
theorem dX9_goOne_56 : decode cX9_goOne 56 = .ok (.goto 5, 3) := by decide +kernel
theorem dX9_goOne_59 : decode cX9_goOne 59 = .ok (.bipush (-6), 2) := by decide +kernel
theorem dX9_goOne_61 : decode cX9_goOne 61 = .ok (.istore 6, 2) := by decide +kernel
theorem dX9_goOne_63 : decode cX9_goOne 63 = .ok (.iconst 0, 1) := by decide +kernel
theorem dX9_goOne_64 : decode cX9_goOne 64 = .ok (.istore 7, 2) := by decide +kernel
theorem dX9_goOne_66 : decode cX9_goOne 66 = .ok (.iload 7, 2) := by decide +kernel
theorem dX9_goOne_68 : decode cX9_goOne 68 = .ok (.iload_n 2, 1) := by decide +kernel
theorem dX9_goOne_69 : decode cX9_goOne 69 = .ok (.if_icmp .ge 66, 3) := by decide +kernel
theorem dX9_goOne_72 : decode cX9_goOne 72 = .ok (.iload 7, 2) := by decide +kernel
theorem dX9_goOne_74 : decode cX9_goOne 74 = .ok (.aload_n 0, 1) := by decide +kernel
theorem dX9_goOne_75 : decode cX9_goOne 75 = .ok (.getfield 49, 3) := by decide +kernel
theorem dX9_goOne_78 : decode cX9_goOne 78 = .ok (.iload 4, 2) := by decide +kernel
theorem dX9_goOne_80 : decode cX9_goOne 80 = .ok (.iaload, 1) := by decide +kernel
theorem dX9_goOne_81 : decode cX9_goOne 81 = .ok (.if_icmp .ne 7, 3) := by decide +kernel
theorem dX9_goOne_84 : decode cX9_goOne 84 = .ok (.iconst 0, 1) := by decide +kernel
theorem dX9_goOne_85 : decode cX9_goOne 85 = .ok (.goto 15, 3) := by decide +kernel
theorem dX9_goOne_88 : decode cX9_goOne 88 = .ok (.aload_n 0, 1) := by decide +kernel
theorem dX9_goOne_89 : decode cX9_goOne 89 = .ok (.aload_n 0, 1) := by decide +kernel
theorem dX9_goOne_90 : decode cX9_goOne 90 = .ok (.getfield 49, 3) := by decide +kernel
theorem dX9_goOne_93 : decode cX9_goOne 93 = .ok (.iload 4, 2) := by decide +kernel
theorem dX9_goOne_95 : decode cX9_goOne 95 = .ok (.iload 7, 2) := by decide +kernel
theorem dX9_goOne_97 : decode cX9_goOne 97 = .ok (.invokevirtual 135, 3) := by decide +kernel
theorem dX9_goOne_100 : decode cX9_goOne 100 = .ok (.istore 8, 2) := by decide +kernel
theorem dX9_goOne_102 : decode cX9_goOne 102 = .ok (.iload 8, 2) := by decide +kernel
theorem dX9_goOne_104 : decode cX9_goOne 104 = .ok (.ifCond .le 25, 3) := by decide +kernel
theorem dX9_goOne_107 : decode cX9_goOne 107 = .ok (.iload 6, 2) := by decide +kernel
theorem dX9_goOne_109 : decode cX9_goOne 109 = .ok (.bipush (-6), 2) := by decide +kernel
theorem dX9_goOne_111 : decode cX9_goOne 111 = .ok (.if_icmp .eq 10, 3) := by decide +kernel
theorem dX9_goOne_114 : decode cX9_goOne 114 = .ok (.iload 8, 2) := by decide +kernel
theorem dX9_goOne_116 : decode cX9_goOne 116 = .ok (.iload 5, 2) := by decide +kernel
theorem dX9_goOne_118 : decode cX9_goOne 118 = .ok (.if_icmp .le 11, 3) := by decide +kernel
theorem dX9_goOne_121 : decode cX9_goOne 121 = .ok (.iload 8, 2) := by decide +kernel
theorem dX9_goOne_123 : decode cX9_goOne 123 = .ok (.istore 5, 2) := by decide +kernel
theorem dX9_goOne_125 : decode cX9_goOne 125 = .ok (.iload 7, 2) := by decide +kernel
theorem dX9_goOne_127 : decode cX9_goOne 127 = .ok (.istore 6, 2) := by decide +kernel
theorem dX9_goOne_129 : decode cX9_goOne 129 = .ok (.iinc 7 1, 3) := by decide +kernel
theorem dX9_goOne_132 : decode cX9_goOne 132 = .ok (.goto (-66), 3) := by decide +kernel
theorem dX9_goOne_135 : decode cX9_goOne 135 = .ok (.iload 6, 2) := by decide +kernel
theorem dX9_goOne_137 : decode cX9_goOne 137 = .ok (.bipush (-6), 2) := by decide +kernel
theorem dX9_goOne_139 : decode cX9_goOne 139 = .ok (.if_icmp .eq 23, 3) := by decide +kernel
theorem dX9_goOne_142 : decode cX9_goOne 142 = .ok (.aload_n 0, 1) := by decide +kernel
theorem dX9_goOne_143 : decode cX9_goOne 143 = .ok (.getfield 49, 3) := by decide +kernel
theorem dX9_goOne_146 : decode cX9_goOne 146 = .ok (.iload 4, 2) := by decide +kernel
theorem dX9_goOne_148 : decode cX9_goOne 148 = .ok (.iload 6, 2) := by decide +kernel
theorem dX9_goOne_150 : decode cX9_goOne 150 = .ok (.iastore, 1) := by decide +kernel
theorem dX9_goOne_151 : decode cX9_goOne 151 = .ok (.aload_n 0, 1) := by decide +kernel
theorem dX9_goOne_152 : decode cX9_goOne 152 = .ok (.aload_n 0, 1) := by decide +kernel
theorem dX9_goOne_153 : decode cX9_goOne 153 = .ok (.getfield 49, 3) := by decide +kernel
theorem dX9_goOne_156 : decode cX9_goOne 156 = .ok (.invokevirtual 104, 3) := by decide +kernel
theorem dX9_goOne_159 : decode cX9_goOne 159 = .ok (.iload 4, 2) := by decide +kernel
theorem dX9_goOne_161 : decode cX9_goOne 161 = .ok (.ireturn, 1) := by decide +kernel
theorem dX9_goOne_162 : decode cX9_goOne 162 = .ok (.iinc 3 1, 3) := by decide +kernel
theorem dX9_goOne_165 : decode cX9_goOne 165 = .ok (.goto (-146), 3) := by decide +kernel
theorem dX9_goOne_168 : decode cX9_goOne 168 = .ok (.bipush (-6), 2) := by decide +kernel
theorem dX9_goOne_170 : decode cX9_goOne 170 = .ok (.ireturn, 1) := by decide +kernel
theorem dX9_goAll_0 : decode cX9_goAll 0 = .ok (.aload_n 0, 1) := by decide +kernel
theorem dX9_goAll_1 : decode cX9_goAll 1 = .ok (.aload_n 0, 1) := by decide +kernel
theorem dX9_goAll_2 : decode cX9_goAll 2 = .ok (.getfield 13, 3) := by decide +kernel
theorem dX9_goAll_5 : decode cX9_goAll 5 = .ok (.aload_n 0, 1) := by decide +kernel
theorem dX9_goAll_6 : decode cX9_goAll 6 = .ok (.getfield 49, 3) := by decide +kernel
theorem dX9_goAll_9 : decode cX9_goAll 9 = .ok (.invokevirtual 128, 3) := by decide +kernel
theorem dX9_goAll_12 : decode cX9_goAll 12 = .ok (.aload_n 0, 1) := by decide +kernel
theorem dX9_goAll_13 : decode cX9_goAll 13 = .ok (.iconst 0, 1) := by decide +kernel
theorem dX9_goAll_14 : decode cX9_goAll 14 = .ok (.putfield 158, 3) := by decide +kernel
theorem dX9_goAll_17 : decode cX9_goAll 17 = .ok (.aload_n 0, 1) := by decide +kernel
theorem dX9_goAll_18 : decode cX9_goAll 18 = .ok (.iconst (-1), 1) := by decide +kernel
theorem dX9_goAll_19 : decode cX9_goAll 19 = .ok (.putfield 161, 3) := by decide +kernel
theorem dX9_goAll_22 : decode cX9_goAll 22 = .ok (.iload_n 1, 1) := by decide +kernel
theorem dX9_goAll_23 : decode cX9_goAll 23 = .ok (.istore_n 2, 1) := by decide +kernel
theorem dX9_goAll_24 : decode cX9_goAll 24 = .ok (.aload_n 0, 1) := by decide +kernel
theorem dX9_goAll_25 : decode cX9_goAll 25 = .ok (.getfield 52, 3) := by decide +kernel
theorem dX9_goAll_28 : decode cX9_goAll 28 = .ok (.iconst 0, 1) := by decide +kernel
theorem dX9_goAll_29 : decode cX9_goAll 29 = .ok (.aload_n 0, 1) := by decide +kernel
theorem dX9_goAll_30 : decode cX9_goAll 30 = .ok (.aload_n 0, 1) := by decide +kernel
theorem dX9_goAll_31 : decode cX9_goAll 31 = .ok (.getfield 49, 3) := by decide +kernel
theorem dX9_goAll_34 : decode cX9_goAll 34 = .ok (.iload_n 2, 1) := by decide +kernel
theorem dX9_goAll_35 : decode cX9_goAll 35 = .ok (.invokevirtual 164, 3) := by decide +kernel
theorem dX9_goAll_38 : decode cX9_goAll 38 = .ok (.iastore, 1) := by decide +kernel
theorem dX9_goAll_39 : decode cX9_goAll 39 = .ok (.aload_n 0, 1) := by decide +kernel
theorem dX9_goAll_40 : decode cX9_goAll 40 = .ok (.getfield 161, 3) := by decide +kernel
theorem dX9_goAll_43 : decode cX9_goAll 43 = .ok (.ifCond .ge 134, 3) := by decide +kernel
theorem dX9_goAll_46 : decode cX9_goAll 46 = .ok (.aload_n 0, 1) := by decide +kernel
theorem dX9_goAll_47 : decode cX9_goAll 47 = .ok (.getfield 158, 3) := by decide +kernel
theorem dX9_goAll_50 : decode cX9_goAll 50 = .ok (.sipush 500, 3) := by decide +kernel
theorem dX9_goAll_53 : decode cX9_goAll 53 = .ok (.if_icmp .ge 124, 3) := by decide +kernel
theorem dX9_goAll_56 : decode cX9_goAll 56 = .ok (.aload_n 0, 1) := by decide +kernel
theorem dX9_goAll_57 : decode cX9_goAll 57 = .ok (.iload_n 2, 1) := by decide +kernel
theorem dX9_goAll_58 : decode cX9_goAll 58 = .ok (.invokevirtual 167, 3) := by decide +kernel
theorem dX9_goAll_61 : decode cX9_goAll 61 = .ok (.istore_n 3, 1) := by decide +kernel
theorem dX9_goAll_62 : decode cX9_goAll 62 = .ok (.iload_n 3, 1) := by decide +kernel
theorem dX9_goAll_63 : decode cX9_goAll 63 = .ok (.ifCond .ge 11, 3) := by decide +kernel
theorem dX9_goAll_66 : decode cX9_goAll 66 = .ok (.aload_n 0, 1) := by decide +kernel
theorem dX9_goAll_67 : decode cX9_goAll 67 = .ok (.iconst 0, 1) := by decide +kernel
theorem dX9_goAll_68 : decode cX9_goAll 68 = .ok (.putfield 161, 3) := by decide +kernel
theorem dX9_goAll_71 : decode cX9_goAll 71 = .ok (.goto 103, 3) := by decide +kernel
theorem dX9_goAll_74 : decode cX9_goAll 74 = .ok (.iload_n 3, 1) := by decide +kernel
theorem dX9_goAll_75 : decode cX9_goAll 75 = .ok (.iconst 1, 1) := by decide +kernel
theorem dX9_goAll_76 : decode cX9_goAll 76 = .ok (.iadd, 1) := by decide +kernel
theorem dX9_goAll_77 : decode cX9_goAll 77 = .ok (.aload_n 0, 1) := by decide +kernel
theorem dX9_goAll_78 : decode cX9_goAll 78 = .ok (.getfield 55, 3) := by decide +kernel
theorem dX9_goAll_81 : decode cX9_goAll 81 = .ok (.irem, 1) := by decide +kernel
theorem dX9_goAll_82 : decode cX9_goAll 82 = .ok (.istore_n 2, 1) := by decide +kernel
theorem dX9_goAll_83 : decode cX9_goAll 83 = .ok (.aload_n 0, 1) := by decide +kernel
theorem dX9_goAll_84 : decode cX9_goAll 84 = .ok (.dup, 1) := by decide +kernel
theorem dX9_goAll_85 : decode cX9_goAll 85 = .ok (.getfield 158, 3) := by decide +kernel
theorem dX9_goAll_88 : decode cX9_goAll 88 = .ok (.iconst 1, 1) := by decide +kernel
theorem dX9_goAll_89 : decode cX9_goAll 89 = .ok (.iadd, 1) := by decide +kernel
theorem dX9_goAll_90 : decode cX9_goAll 90 = .ok (.putfield 158, 3) := by decide +kernel
theorem dX9_goAll_93 : decode cX9_goAll 93 = .ok (.aload_n 0, 1) := by decide +kernel
theorem dX9_goAll_94 : decode cX9_goAll 94 = .ok (.getfield 52, 3) := by decide +kernel
theorem dX9_goAll_97 : decode cX9_goAll 97 = .ok (.aload_n 0, 1) := by decide +kernel
theorem dX9_goAll_98 : decode cX9_goAll 98 = .ok (.getfield 158, 3) := by decide +kernel
theorem dX9_goAll_101 : decode cX9_goAll 101 = .ok (.aload_n 0, 1) := by decide +kernel
theorem dX9_goAll_102 : decode cX9_goAll 102 = .ok (.aload_n 0, 1) := by decide +kernel
theorem dX9_goAll_103 : decode cX9_goAll 103 = .ok (.getfield 49, 3) := by decide +kernel
theorem dX9_goAll_106 : decode cX9_goAll 106 = .ok (.iload_n 2, 1) := by decide +kernel
theorem dX9_goAll_107 : decode cX9_goAll 107 = .ok (.invokevirtual 164, 3) := by decide +kernel
theorem dX9_goAll_110 : decode cX9_goAll 110 = .ok (.iastore, 1) := by decide +kernel
theorem dX9_goAll_111 : decode cX9_goAll 111 = .ok (.aload_n 0, 1) := by decide +kernel
theorem dX9_goAll_112 : decode cX9_goAll 112 = .ok (.getfield 158, 3) := by decide +kernel
theorem dX9_goAll_115 : decode cX9_goAll 115 = .ok (.iconst 1, 1) := by decide +kernel
theorem dX9_goAll_116 : decode cX9_goAll 116 = .ok (.isub, 1) := by decide +kernel
theorem dX9_goAll_117 : decode cX9_goAll 117 = .ok (.istore 4, 2) := by decide +kernel
theorem dX9_goAll_119 : decode cX9_goAll 119 = .ok (.iload 4, 2) := by decide +kernel
theorem dX9_goAll_121 : decode cX9_goAll 121 = .ok (.ifCond .lt 53, 3) := by decide +kernel
theorem dX9_goAll_124 : decode cX9_goAll 124 = .ok (.aload_n 0, 1) := by decide +kernel
theorem dX9_goAll_125 : decode cX9_goAll 125 = .ok (.getfield 161, 3) := by decide +kernel
theorem dX9_goAll_128 : decode cX9_goAll 128 = .ok (.ifCond .ge 46, 3) := by decide +kernel
theorem dX9_goAll_131 : decode cX9_goAll 131 = .ok (.aload_n 0, 1) := by decide +kernel
theorem dX9_goAll_132 : decode cX9_goAll 132 = .ok (.aload_n 0, 1) := by decide +kernel
theorem dX9_goAll_133 : decode cX9_goAll 133 = .ok (.getfield 52, 3) := by decide +kernel
theorem dX9_goAll_136 : decode cX9_goAll 136 = .ok (.iload 4, 2) := by decide +kernel
theorem dX9_goAll_138 : decode cX9_goAll 138 = .ok (.iaload, 1) := by decide +kernel
theorem dX9_goAll_139 : decode cX9_goAll 139 = .ok (.aload_n 0, 1) := by decide +kernel
theorem dX9_goAll_140 : decode cX9_goAll 140 = .ok (.getfield 52, 3) := by decide +kernel
theorem dX9_goAll_143 : decode cX9_goAll 143 = .ok (.aload_n 0, 1) := by decide +kernel
theorem dX9_goAll_144 : decode cX9_goAll 144 = .ok (.getfield 158, 3) := by decide +kernel
theorem dX9_goAll_147 : decode cX9_goAll 147 = .ok (.iaload, 1) := by decide +kernel
theorem dX9_goAll_148 : decode cX9_goAll 148 = .ok (.if_icmp .ne 13, 3) := by decide +kernel
theorem dX9_goAll_151 : decode cX9_goAll 151 = .ok (.aload_n 0, 1) := by decide +kernel
theorem dX9_goAll_152 : decode cX9_goAll 152 = .ok (.getfield 158, 3) := by decide +kernel
theorem dX9_goAll_155 : decode cX9_goAll 155 = .ok (.iload 4, 2) := by decide +kernel
theorem dX9_goAll_157 : decode cX9_goAll 157 = .ok (.isub, 1) := by decide +kernel
theorem dX9_goAll_158 : decode cX9_goAll 158 = .ok (.goto 7, 3) := by decide +kernel
theorem dX9_goAll_161 : decode cX9_goAll 161 = .ok (.aload_n 0, 1) := by decide +kernel
theorem dX9_goAll_162 : decode cX9_goAll 162 = .ok (.getfield 161, 3) := by decide +kernel
theorem dX9_goAll_165 : decode cX9_goAll 165 = .ok (.putfield 161, 3) := by decide +kernel
theorem dX9_goAll_168 : decode cX9_goAll 168 = .ok (.iinc 4 (-1), 3) := by decide +kernel
theorem dX9_goAll_171 : decode cX9_goAll 171 = .ok (.goto (-52), 3) := by decide +kernel
theorem dX9_goAll_174 : decode cX9_goAll 174 = .ok (.goto (-135), 3) := by decide +kernel
theorem dX9_goAll_177 : decode cX9_goAll 177 = .ok (.return_, 1) := by decide +kernel
theorem dX9_go_0 : decode cX9_go 0 = .ok (.aload_n 0, 1) := by decide +kernel
theorem dX9_go_1 : decode cX9_go 1 = .ok (.iload_n 1, 1) := by decide +kernel
theorem dX9_go_2 : decode cX9_go 2 = .ok (.invokevirtual 77, 3) := by decide +kernel
theorem dX9_go_5 : decode cX9_go 5 = .ok (.ifCond .ne 5, 3) := by decide +kernel
theorem dX9_go_8 : decode cX9_go 8 = .ok (.iconst (-1), 1) := by decide +kernel
theorem dX9_go_9 : decode cX9_go 9 = .ok (.ireturn, 1) := by decide +kernel
theorem dX9_go_10 : decode cX9_go 10 = .ok (.iload_n 2, 1) := by decide +kernel
theorem dX9_go_11 : decode cX9_go 11 = .ok (.i2l, 1) := by decide +kernel
theorem dX9_go_12 : decode cX9_go 12 = .ok (.lconst 0, 1) := by decide +kernel
theorem dX9_go_13 : decode cX9_go 13 = .ok (.lconst 1, 1) := by decide +kernel
theorem dX9_go_14 : decode cX9_go 14 = .ok (.invokestatic 59, 3) := by decide +kernel
theorem dX9_go_17 : decode cX9_go 17 = .ok (.ifCond .ne 20, 3) := by decide +kernel
theorem dX9_go_20 : decode cX9_go 20 = .ok (.iload_n 2, 1) := by decide +kernel
theorem dX9_go_21 : decode cX9_go 21 = .ok (.i2l, 1) := by decide +kernel
theorem dX9_go_22 : decode cX9_go 22 = .ok (.ldc2_w 171, 3) := by decide +kernel
theorem dX9_go_25 : decode cX9_go 25 = .ok (.ldc2_w 173, 3) := by decide +kernel
theorem dX9_go_28 : decode cX9_go 28 = .ok (.invokestatic 59, 3) := by decide +kernel
theorem dX9_go_31 : decode cX9_go 31 = .ok (.ifCond .ne 6, 3) := by decide +kernel
theorem dX9_go_34 : decode cX9_go 34 = .ok (.bipush (-2), 2) := by decide +kernel
theorem dX9_go_36 : decode cX9_go 36 = .ok (.ireturn, 1) := by decide +kernel
theorem dX9_go_37 : decode cX9_go 37 = .ok (.aload_n 0, 1) := by decide +kernel
theorem dX9_go_38 : decode cX9_go 38 = .ok (.iload_n 1, 1) := by decide +kernel
theorem dX9_go_39 : decode cX9_go 39 = .ok (.invokevirtual 175, 3) := by decide +kernel
theorem dX9_go_42 : decode cX9_go 42 = .ok (.iload_n 2, 1) := by decide +kernel
theorem dX9_go_43 : decode cX9_go 43 = .ok (.bipush 9, 2) := by decide +kernel
theorem dX9_go_45 : decode cX9_go 45 = .ok (.if_icmp .le 29, 3) := by decide +kernel
theorem dX9_go_48 : decode cX9_go 48 = .ok (.aload_n 0, 1) := by decide +kernel
theorem dX9_go_49 : decode cX9_go 49 = .ok (.iload_n 2, 1) := by decide +kernel
theorem dX9_go_50 : decode cX9_go 50 = .ok (.bipush 10, 2) := by decide +kernel
theorem dX9_go_52 : decode cX9_go 52 = .ok (.isub, 1) := by decide +kernel
theorem dX9_go_53 : decode cX9_go 53 = .ok (.invokevirtual 77, 3) := by decide +kernel
theorem dX9_go_56 : decode cX9_go 56 = .ok (.ifCond .eq 15, 3) := by decide +kernel
theorem dX9_go_59 : decode cX9_go 59 = .ok (.aload_n 0, 1) := by decide +kernel
theorem dX9_go_60 : decode cX9_go 60 = .ok (.getfield 49, 3) := by decide +kernel
theorem dX9_go_63 : decode cX9_go 63 = .ok (.iload_n 2, 1) := by decide +kernel
theorem dX9_go_64 : decode cX9_go 64 = .ok (.bipush 10, 2) := by decide +kernel
theorem dX9_go_66 : decode cX9_go 66 = .ok (.isub, 1) := by decide +kernel
theorem dX9_go_67 : decode cX9_go 67 = .ok (.iaload, 1) := by decide +kernel
theorem dX9_go_68 : decode cX9_go 68 = .ok (.goto 5, 3) := by decide +kernel
theorem dX9_go_71 : decode cX9_go 71 = .ok (.bipush (-6), 2) := by decide +kernel
theorem dX9_go_73 : decode cX9_go 73 = .ok (.ireturn, 1) := by decide +kernel
theorem dX9_go_74 : decode cX9_go 74 = .ok (.iload_n 2, 1) := by decide +kernel
theorem dX9_go_75 : decode cX9_go 75 = .ok (.ifCond .ne 10, 3) := by decide +kernel
theorem dX9_go_78 : decode cX9_go 78 = .ok (.aload_n 0, 1) := by decide +kernel
theorem dX9_go_79 : decode cX9_go 79 = .ok (.getfield 158, 3) := by decide +kernel
theorem dX9_go_82 : decode cX9_go 82 = .ok (.goto 7, 3) := by decide +kernel
theorem dX9_go_85 : decode cX9_go 85 = .ok (.aload_n 0, 1) := by decide +kernel
theorem dX9_go_86 : decode cX9_go 86 = .ok (.getfield 161, 3) := by decide +kernel
theorem dX9_go_89 : decode cX9_go 89 = .ok (.ireturn, 1) := by decide +kernel
theorem dX9_whole_0 : decode cX9_whole 0 = .ok (.iload_n 1, 1) := by decide +kernel
theorem dX9_whole_1 : decode cX9_whole 1 = .ok (.i2l, 1) := by decide +kernel
theorem dX9_whole_2 : decode cX9_whole 2 = .ok (.lconst 0, 1) := by decide +kernel
theorem dX9_whole_3 : decode cX9_whole 3 = .ok (.ldc2_w 83, 3) := by decide +kernel
theorem dX9_whole_6 : decode cX9_whole 6 = .ok (.invokestatic 59, 3) := by decide +kernel
theorem dX9_whole_9 : decode cX9_whole 9 = .ok (.ifCond .ne 6, 3) := by decide +kernel
theorem dX9_whole_12 : decode cX9_whole 12 = .ok (.bipush (-2), 2) := by decide +kernel
theorem dX9_whole_14 : decode cX9_whole 14 = .ok (.ireturn, 1) := by decide +kernel
theorem dX9_whole_15 : decode cX9_whole 15 = .ok (.iconst 0, 1) := by decide +kernel
theorem dX9_whole_16 : decode cX9_whole 16 = .ok (.istore_n 2, 1) := by decide +kernel
theorem dX9_whole_17 : decode cX9_whole 17 = .ok (.iload_n 2, 1) := by decide +kernel
theorem dX9_whole_18 : decode cX9_whole 18 = .ok (.bipush 6, 2) := by decide +kernel
theorem dX9_whole_20 : decode cX9_whole 20 = .ok (.if_icmp .ge 16, 3) := by decide +kernel
theorem dX9_whole_23 : decode cX9_whole 23 = .ok (.aload_n 0, 1) := by decide +kernel
theorem dX9_whole_24 : decode cX9_whole 24 = .ok (.getfield 16, 3) := by decide +kernel
theorem dX9_whole_27 : decode cX9_whole 27 = .ok (.iload_n 2, 1) := by decide +kernel
theorem dX9_whole_28 : decode cX9_whole 28 = .ok (.iload_n 2, 1) := by decide +kernel
theorem dX9_whole_29 : decode cX9_whole 29 = .ok (.iastore, 1) := by decide +kernel
theorem dX9_whole_30 : decode cX9_whole 30 = .ok (.iinc 2 1, 3) := by decide +kernel
theorem dX9_whole_33 : decode cX9_whole 33 = .ok (.goto (-16), 3) := by decide +kernel
theorem dX9_whole_36 : decode cX9_whole 36 = .ok (.aload_n 0, 1) := by decide +kernel
theorem dX9_whole_37 : decode cX9_whole 37 = .ok (.aload_n 0, 1) := by decide +kernel
theorem dX9_whole_38 : decode cX9_whole 38 = .ok (.getfield 16, 3) := by decide +kernel
theorem dX9_whole_41 : decode cX9_whole 41 = .ok (.invokevirtual 143, 3) := by decide +kernel
theorem dX9_whole_44 : decode cX9_whole 44 = .ok (.iconst 0, 1) := by decide +kernel
theorem dX9_whole_45 : decode cX9_whole 45 = .ok (.istore_n 2, 1) := by decide +kernel
theorem dX9_whole_46 : decode cX9_whole 46 = .ok (.iload_n 2, 1) := by decide +kernel
theorem dX9_whole_47 : decode cX9_whole 47 = .ok (.bipush 6, 2) := by decide +kernel
theorem dX9_whole_49 : decode cX9_whole 49 = .ok (.if_icmp .ge 16, 3) := by decide +kernel
theorem dX9_whole_52 : decode cX9_whole 52 = .ok (.aload_n 0, 1) := by decide +kernel
theorem dX9_whole_53 : decode cX9_whole 53 = .ok (.getfield 16, 3) := by decide +kernel
theorem dX9_whole_56 : decode cX9_whole 56 = .ok (.iload_n 2, 1) := by decide +kernel
theorem dX9_whole_57 : decode cX9_whole 57 = .ok (.iconst 0, 1) := by decide +kernel
theorem dX9_whole_58 : decode cX9_whole 58 = .ok (.iastore, 1) := by decide +kernel
theorem dX9_whole_59 : decode cX9_whole 59 = .ok (.iinc 2 1, 3) := by decide +kernel
theorem dX9_whole_62 : decode cX9_whole 62 = .ok (.goto (-16), 3) := by decide +kernel
theorem dX9_whole_65 : decode cX9_whole 65 = .ok (.aload_n 0, 1) := by decide +kernel
theorem dX9_whole_66 : decode cX9_whole 66 = .ok (.aload_n 0, 1) := by decide +kernel
theorem dX9_whole_67 : decode cX9_whole 67 = .ok (.getfield 16, 3) := by decide +kernel
theorem dX9_whole_70 : decode cX9_whole 70 = .ok (.invokevirtual 115, 3) := by decide +kernel
theorem dX9_whole_73 : decode cX9_whole 73 = .ok (.iconst 0, 1) := by decide +kernel
theorem dX9_whole_74 : decode cX9_whole 74 = .ok (.istore_n 2, 1) := by decide +kernel
theorem dX9_whole_75 : decode cX9_whole 75 = .ok (.iconst 0, 1) := by decide +kernel
theorem dX9_whole_76 : decode cX9_whole 76 = .ok (.istore_n 3, 1) := by decide +kernel
theorem dX9_whole_77 : decode cX9_whole 77 = .ok (.iconst 0, 1) := by decide +kernel
theorem dX9_whole_78 : decode cX9_whole 78 = .ok (.istore 4, 2) := by decide +kernel
theorem dX9_whole_80 : decode cX9_whole 80 = .ok (.iload 4, 2) := by decide +kernel
theorem dX9_whole_82 : decode cX9_whole 82 = .ok (.aload_n 0, 1) := by decide +kernel
theorem dX9_whole_83 : decode cX9_whole 83 = .ok (.getfield 55, 3) := by decide +kernel
theorem dX9_whole_86 : decode cX9_whole 86 = .ok (.if_icmp .ge 55, 3) := by decide +kernel
theorem dX9_whole_89 : decode cX9_whole 89 = .ok (.aload_n 0, 1) := by decide +kernel
theorem dX9_whole_90 : decode cX9_whole 90 = .ok (.getfield 25, 3) := by decide +kernel
theorem dX9_whole_93 : decode cX9_whole 93 = .ok (.iload 4, 2) := by decide +kernel
theorem dX9_whole_95 : decode cX9_whole 95 = .ok (.iaload, 1) := by decide +kernel
theorem dX9_whole_96 : decode cX9_whole 96 = .ok (.aload_n 0, 1) := by decide +kernel
theorem dX9_whole_97 : decode cX9_whole 97 = .ok (.getfield 46, 3) := by decide +kernel
theorem dX9_whole_100 : decode cX9_whole 100 = .ok (.iload 4, 2) := by decide +kernel
theorem dX9_whole_102 : decode cX9_whole 102 = .ok (.iaload, 1) := by decide +kernel
theorem dX9_whole_103 : decode cX9_whole 103 = .ok (.isub, 1) := by decide +kernel
theorem dX9_whole_104 : decode cX9_whole 104 = .ok (.istore 5, 2) := by decide +kernel
theorem dX9_whole_106 : decode cX9_whole 106 = .ok (.iload_n 2, 1) := by decide +kernel
theorem dX9_whole_107 : decode cX9_whole 107 = .ok (.iload 5, 2) := by decide +kernel
theorem dX9_whole_109 : decode cX9_whole 109 = .ok (.ifCond .ge 9, 3) := by decide +kernel
theorem dX9_whole_112 : decode cX9_whole 112 = .ok (.iload 5, 2) := by decide +kernel
theorem dX9_whole_114 : decode cX9_whole 114 = .ok (.ineg, 1) := by decide +kernel
theorem dX9_whole_115 : decode cX9_whole 115 = .ok (.goto 4, 3) := by decide +kernel
theorem dX9_whole_118 : decode cX9_whole 118 = .ok (.iconst 0, 1) := by decide +kernel
theorem dX9_whole_119 : decode cX9_whole 119 = .ok (.iadd, 1) := by decide +kernel
theorem dX9_whole_120 : decode cX9_whole 120 = .ok (.istore_n 2, 1) := by decide +kernel
theorem dX9_whole_121 : decode cX9_whole 121 = .ok (.iload_n 3, 1) := by decide +kernel
theorem dX9_whole_122 : decode cX9_whole 122 = .ok (.iload 5, 2) := by decide +kernel
theorem dX9_whole_124 : decode cX9_whole 124 = .ok (.ifCond .le 8, 3) := by decide +kernel
theorem dX9_whole_127 : decode cX9_whole 127 = .ok (.iload 5, 2) := by decide +kernel
theorem dX9_whole_129 : decode cX9_whole 129 = .ok (.goto 4, 3) := by decide +kernel
theorem dX9_whole_132 : decode cX9_whole 132 = .ok (.iconst 0, 1) := by decide +kernel
theorem dX9_whole_133 : decode cX9_whole 133 = .ok (.iadd, 1) := by decide +kernel
theorem dX9_whole_134 : decode cX9_whole 134 = .ok (.istore_n 3, 1) := by decide +kernel
theorem dX9_whole_135 : decode cX9_whole 135 = .ok (.iinc 4 1, 3) := by decide +kernel
theorem dX9_whole_138 : decode cX9_whole 138 = .ok (.goto (-58), 3) := by decide +kernel
theorem dX9_whole_141 : decode cX9_whole 141 = .ok (.iload_n 1, 1) := by decide +kernel
theorem dX9_whole_142 : decode cX9_whole 142 = .ok (.ifCond .ne 7, 3) := by decide +kernel
theorem dX9_whole_145 : decode cX9_whole 145 = .ok (.iload_n 2, 1) := by decide +kernel
theorem dX9_whole_146 : decode cX9_whole 146 = .ok (.goto 22, 3) := by decide +kernel
theorem dX9_whole_149 : decode cX9_whole 149 = .ok (.iload_n 1, 1) := by decide +kernel
theorem dX9_whole_150 : decode cX9_whole 150 = .ok (.iconst 1, 1) := by decide +kernel
theorem dX9_whole_151 : decode cX9_whole 151 = .ok (.if_icmp .ne 7, 3) := by decide +kernel
theorem dX9_whole_154 : decode cX9_whole 154 = .ok (.iload_n 3, 1) := by decide +kernel
theorem dX9_whole_155 : decode cX9_whole 155 = .ok (.goto 13, 3) := by decide +kernel
theorem dX9_whole_158 : decode cX9_whole 158 = .ok (.iload_n 2, 1) := by decide +kernel
theorem dX9_whole_159 : decode cX9_whole 159 = .ok (.iload_n 3, 1) := by decide +kernel
theorem dX9_whole_160 : decode cX9_whole 160 = .ok (.if_icmp .gt 7, 3) := by decide +kernel
theorem dX9_whole_163 : decode cX9_whole 163 = .ok (.iconst 1, 1) := by decide +kernel
theorem dX9_whole_164 : decode cX9_whole 164 = .ok (.goto 4, 3) := by decide +kernel
theorem dX9_whole_167 : decode cX9_whole 167 = .ok (.iconst 0, 1) := by decide +kernel
theorem dX9_whole_168 : decode cX9_whole 168 = .ok (.ireturn, 1) := by decide +kernel
theorem dX9_rules_0 : decode cX9_rules 0 = .ok (.aload_n 0, 1) := by decide +kernel
theorem dX9_rules_1 : decode cX9_rules 1 = .ok (.getfield 88, 3) := by decide +kernel
theorem dX9_rules_4 : decode cX9_rules 4 = .ok (.istore_n 1, 1) := by decide +kernel
theorem dX9_rules_5 : decode cX9_rules 5 = .ok (.iconst 0, 1) := by decide +kernel
theorem dX9_rules_6 : decode cX9_rules 6 = .ok (.istore_n 2, 1) := by decide +kernel
theorem dX9_rules_7 : decode cX9_rules 7 = .ok (.iconst 0, 1) := by decide +kernel
theorem dX9_rules_8 : decode cX9_rules 8 = .ok (.istore_n 3, 1) := by decide +kernel
theorem dX9_rules_9 : decode cX9_rules 9 = .ok (.iload_n 3, 1) := by decide +kernel
theorem dX9_rules_10 : decode cX9_rules 10 = .ok (.iconst 3, 1) := by decide +kernel
theorem dX9_rules_11 : decode cX9_rules 11 = .ok (.if_icmp .ge 36, 3) := by decide +kernel
theorem dX9_rules_14 : decode cX9_rules 14 = .ok (.aload_n 0, 1) := by decide +kernel
theorem dX9_rules_15 : decode cX9_rules 15 = .ok (.iload_n 3, 1) := by decide +kernel
theorem dX9_rules_16 : decode cX9_rules 16 = .ok (.putfield 88, 3) := by decide +kernel
theorem dX9_rules_19 : decode cX9_rules 19 = .ok (.iload_n 2, 1) := by decide +kernel
theorem dX9_rules_20 : decode cX9_rules 20 = .ok (.aload_n 0, 1) := by decide +kernel
theorem dX9_rules_21 : decode cX9_rules 21 = .ok (.aload_n 0, 1) := by decide +kernel
theorem dX9_rules_22 : decode cX9_rules 22 = .ok (.getfield 13, 3) := by decide +kernel
theorem dX9_rules_25 : decode cX9_rules 25 = .ok (.iconst 0, 1) := by decide +kernel
theorem dX9_rules_26 : decode cX9_rules 26 = .ok (.invokevirtual 155, 3) := by decide +kernel
theorem dX9_rules_29 : decode cX9_rules 29 = .ok (.ifCond .ge 9, 3) := by decide +kernel
theorem dX9_rules_32 : decode cX9_rules 32 = .ok (.iconst 1, 1) := by decide +kernel
theorem dX9_rules_33 : decode cX9_rules 33 = .ok (.iload_n 3, 1) := by decide +kernel
theorem dX9_rules_34 : decode cX9_rules 34 = .ok (.ishl, 1) := by decide +kernel
theorem dX9_rules_35 : decode cX9_rules 35 = .ok (.goto 4, 3) := by decide +kernel
theorem dX9_rules_38 : decode cX9_rules 38 = .ok (.iconst 0, 1) := by decide +kernel
theorem dX9_rules_39 : decode cX9_rules 39 = .ok (.ior, 1) := by decide +kernel
theorem dX9_rules_40 : decode cX9_rules 40 = .ok (.istore_n 2, 1) := by decide +kernel
theorem dX9_rules_41 : decode cX9_rules 41 = .ok (.iinc 3 1, 3) := by decide +kernel
theorem dX9_rules_44 : decode cX9_rules 44 = .ok (.goto (-35), 3) := by decide +kernel
theorem dX9_rules_47 : decode cX9_rules 47 = .ok (.aload_n 0, 1) := by decide +kernel
theorem dX9_rules_48 : decode cX9_rules 48 = .ok (.iload_n 1, 1) := by decide +kernel
theorem dX9_rules_49 : decode cX9_rules 49 = .ok (.putfield 88, 3) := by decide +kernel
theorem dX9_rules_52 : decode cX9_rules 52 = .ok (.iload_n 2, 1) := by decide +kernel
theorem dX9_rules_53 : decode cX9_rules 53 = .ok (.ireturn, 1) := by decide +kernel
theorem dX9_propose_0 : decode cX9_propose 0 = .ok (.aload_n 0, 1) := by decide +kernel
theorem dX9_propose_1 : decode cX9_propose 1 = .ok (.iload_n 1, 1) := by decide +kernel
theorem dX9_propose_2 : decode cX9_propose 2 = .ok (.invokevirtual 77, 3) := by decide +kernel
theorem dX9_propose_5 : decode cX9_propose 5 = .ok (.ifCond .ne 5, 3) := by decide +kernel
theorem dX9_propose_8 : decode cX9_propose 8 = .ok (.iconst (-1), 1) := by decide +kernel
theorem dX9_propose_9 : decode cX9_propose 9 = .ok (.ireturn, 1) := by decide +kernel
theorem dX9_propose_10 : decode cX9_propose 10 = .ok (.iload_n 2, 1) := by decide +kernel
theorem dX9_propose_11 : decode cX9_propose 11 = .ok (.i2l, 1) := by decide +kernel
theorem dX9_propose_12 : decode cX9_propose 12 = .ok (.lconst 0, 1) := by decide +kernel
theorem dX9_propose_13 : decode cX9_propose 13 = .ok (.lconst 1, 1) := by decide +kernel
theorem dX9_propose_14 : decode cX9_propose 14 = .ok (.invokestatic 59, 3) := by decide +kernel
theorem dX9_propose_17 : decode cX9_propose 17 = .ok (.ifCond .ne 6, 3) := by decide +kernel
theorem dX9_propose_20 : decode cX9_propose 20 = .ok (.bipush (-2), 2) := by decide +kernel
theorem dX9_propose_22 : decode cX9_propose 22 = .ok (.ireturn, 1) := by decide +kernel
theorem dX9_propose_23 : decode cX9_propose 23 = .ok (.aload_n 0, 1) := by decide +kernel
theorem dX9_propose_24 : decode cX9_propose 24 = .ok (.aload_n 0, 1) := by decide +kernel
theorem dX9_propose_25 : decode cX9_propose 25 = .ok (.getfield 13, 3) := by decide +kernel
theorem dX9_propose_28 : decode cX9_propose 28 = .ok (.invokevirtual 143, 3) := by decide +kernel
theorem dX9_propose_31 : decode cX9_propose 31 = .ok (.bipush (-6), 2) := by decide +kernel
theorem dX9_propose_33 : decode cX9_propose 33 = .ok (.istore_n 3, 1) := by decide +kernel
theorem dX9_propose_34 : decode cX9_propose 34 = .ok (.bipush (-6), 2) := by decide +kernel
theorem dX9_propose_36 : decode cX9_propose 36 = .ok (.istore 4, 2) := by decide +kernel
theorem dX9_propose_38 : decode cX9_propose 38 = .ok (.iconst 1, 1) := by decide +kernel
theorem dX9_propose_39 : decode cX9_propose 39 = .ok (.istore 5, 2) := by decide +kernel
theorem dX9_propose_41 : decode cX9_propose 41 = .ok (.iload 5, 2) := by decide +kernel
theorem dX9_propose_43 : decode cX9_propose 43 = .ok (.iconst 1, 1) := by decide +kernel
theorem dX9_propose_44 : decode cX9_propose 44 = .ok (.aload_n 0, 1) := by decide +kernel
theorem dX9_propose_45 : decode cX9_propose 45 = .ok (.getfield 55, 3) := by decide +kernel
theorem dX9_propose_48 : decode cX9_propose 48 = .ok (.ishl, 1) := by decide +kernel
theorem dX9_propose_49 : decode cX9_propose 49 = .ok (.if_icmp .ge 58, 3) := by decide +kernel
theorem dX9_propose_52 : decode cX9_propose 52 = .ok (.iload 5, 2) := by decide +kernel
theorem dX9_propose_54 : decode cX9_propose 54 = .ok (.iload_n 1, 1) := by decide +kernel
theorem dX9_propose_55 : decode cX9_propose 55 = .ok (.ishr, 1) := by decide +kernel
theorem dX9_propose_56 : decode cX9_propose 56 = .ok (.iconst 1, 1) := by decide +kernel
theorem dX9_propose_57 : decode cX9_propose 57 = .ok (.iand, 1) := by decide +kernel
theorem dX9_propose_58 : decode cX9_propose 58 = .ok (.iconst 1, 1) := by decide +kernel
theorem dX9_propose_59 : decode cX9_propose 59 = .ok (.if_icmp .ne 42, 3) := by decide +kernel
theorem dX9_propose_62 : decode cX9_propose 62 = .ok (.aload_n 0, 1) := by decide +kernel
theorem dX9_propose_63 : decode cX9_propose 63 = .ok (.aload_n 0, 1) := by decide +kernel
theorem dX9_propose_64 : decode cX9_propose 64 = .ok (.getfield 13, 3) := by decide +kernel
theorem dX9_propose_67 : decode cX9_propose 67 = .ok (.iload 5, 2) := by decide +kernel
theorem dX9_propose_69 : decode cX9_propose 69 = .ok (.invokevirtual 146, 3) := by decide +kernel
theorem dX9_propose_72 : decode cX9_propose 72 = .ok (.ifCond .eq 29, 3) := by decide +kernel
theorem dX9_propose_75 : decode cX9_propose 75 = .ok (.iload_n 3, 1) := by decide +kernel
theorem dX9_propose_76 : decode cX9_propose 76 = .ok (.ifCond .lt 14, 3) := by decide +kernel
theorem dX9_propose_79 : decode cX9_propose 79 = .ok (.aload_n 0, 1) := by decide +kernel
theorem dX9_propose_80 : decode cX9_propose 80 = .ok (.getfield 25, 3) := by decide +kernel
theorem dX9_propose_83 : decode cX9_propose 83 = .ok (.iload_n 1, 1) := by decide +kernel
theorem dX9_propose_84 : decode cX9_propose 84 = .ok (.iaload, 1) := by decide +kernel
theorem dX9_propose_85 : decode cX9_propose 85 = .ok (.iload 4, 2) := by decide +kernel
theorem dX9_propose_87 : decode cX9_propose 87 = .ok (.if_icmp .le 14, 3) := by decide +kernel
theorem dX9_propose_90 : decode cX9_propose 90 = .ok (.iload 5, 2) := by decide +kernel
theorem dX9_propose_92 : decode cX9_propose 92 = .ok (.istore_n 3, 1) := by decide +kernel
theorem dX9_propose_93 : decode cX9_propose 93 = .ok (.aload_n 0, 1) := by decide +kernel
theorem dX9_propose_94 : decode cX9_propose 94 = .ok (.getfield 25, 3) := by decide +kernel
theorem dX9_propose_97 : decode cX9_propose 97 = .ok (.iload_n 1, 1) := by decide +kernel
theorem dX9_propose_98 : decode cX9_propose 98 = .ok (.iaload, 1) := by decide +kernel
theorem dX9_propose_99 : decode cX9_propose 99 = .ok (.istore 4, 2) := by decide +kernel
theorem dX9_propose_101 : decode cX9_propose 101 = .ok (.iinc 5 1, 3) := by decide +kernel
theorem dX9_propose_104 : decode cX9_propose 104 = .ok (.goto (-63), 3) := by decide +kernel
theorem dX9_propose_107 : decode cX9_propose 107 = .ok (.iload_n 2, 1) := by decide +kernel
theorem dX9_propose_108 : decode cX9_propose 108 = .ok (.ifCond .ne 7, 3) := by decide +kernel
theorem dX9_propose_111 : decode cX9_propose 111 = .ok (.iload_n 3, 1) := by decide +kernel
theorem dX9_propose_112 : decode cX9_propose 112 = .ok (.goto 5, 3) := by decide +kernel
theorem dX9_propose_115 : decode cX9_propose 115 = .ok (.iload 4, 2) := by decide +kernel
theorem dX9_propose_117 : decode cX9_propose 117 = .ok (.ireturn, 1) := by decide +kernel
theorem dX9_isThere_0 : decode cX9_isThere 0 = .ok (.iload_n 1, 1) := by decide +kernel
theorem dX9_isThere_1 : decode cX9_isThere 1 = .ok (.i2l, 1) := by decide +kernel
theorem dX9_isThere_2 : decode cX9_isThere 2 = .ok (.lconst 0, 1) := by decide +kernel
theorem dX9_isThere_3 : decode cX9_isThere 3 = .ok (.aload_n 0, 1) := by decide +kernel
theorem dX9_isThere_4 : decode cX9_isThere 4 = .ok (.aload_n 0, 1) := by decide +kernel
theorem dX9_isThere_5 : decode cX9_isThere 5 = .ok (.getfield 13, 3) := by decide +kernel
theorem dX9_isThere_8 : decode cX9_isThere 8 = .ok (.invokevirtual 73, 3) := by decide +kernel
theorem dX9_isThere_11 : decode cX9_isThere 11 = .ok (.iconst 1, 1) := by decide +kernel
theorem dX9_isThere_12 : decode cX9_isThere 12 = .ok (.isub, 1) := by decide +kernel
theorem dX9_isThere_13 : decode cX9_isThere 13 = .ok (.i2l, 1) := by decide +kernel
theorem dX9_isThere_14 : decode cX9_isThere 14 = .ok (.invokestatic 59, 3) := by decide +kernel
theorem dX9_isThere_17 : decode cX9_isThere 17 = .ok (.ireturn, 1) := by decide +kernel
theorem dX9_enter_0 : decode cX9_enter 0 = .ok (.aload_n 0, 1) := by decide +kernel
theorem dX9_enter_1 : decode cX9_enter 1 = .ok (.iload_n 1, 1) := by decide +kernel
theorem dX9_enter_2 : decode cX9_enter 2 = .ok (.invokevirtual 77, 3) := by decide +kernel
theorem dX9_enter_5 : decode cX9_enter 5 = .ok (.ifCond .ne 6, 3) := by decide +kernel
theorem dX9_enter_8 : decode cX9_enter 8 = .ok (.ldc 179, 2) := by decide +kernel
theorem dX9_enter_10 : decode cX9_enter 10 = .ok (.ireturn, 1) := by decide +kernel
theorem dX9_enter_11 : decode cX9_enter 11 = .ok (.aload_n 0, 1) := by decide +kernel
theorem dX9_enter_12 : decode cX9_enter 12 = .ok (.iload_n 2, 1) := by decide +kernel
theorem dX9_enter_13 : decode cX9_enter 13 = .ok (.invokevirtual 180, 3) := by decide +kernel
theorem dX9_enter_16 : decode cX9_enter 16 = .ok (.ifCond .eq 23, 3) := by decide +kernel
theorem dX9_enter_19 : decode cX9_enter 19 = .ok (.iload_n 2, 1) := by decide +kernel
theorem dX9_enter_20 : decode cX9_enter 20 = .ok (.aload_n 0, 1) := by decide +kernel
theorem dX9_enter_21 : decode cX9_enter 21 = .ok (.getfield 13, 3) := by decide +kernel
theorem dX9_enter_24 : decode cX9_enter 24 = .ok (.iload_n 1, 1) := by decide +kernel
theorem dX9_enter_25 : decode cX9_enter 25 = .ok (.iaload, 1) := by decide +kernel
theorem dX9_enter_26 : decode cX9_enter 26 = .ok (.if_icmp .eq 13, 3) := by decide +kernel
theorem dX9_enter_29 : decode cX9_enter 29 = .ok (.iload_n 3, 1) := by decide +kernel
theorem dX9_enter_30 : decode cX9_enter 30 = .ok (.i2l, 1) := by decide +kernel
theorem dX9_enter_31 : decode cX9_enter 31 = .ok (.lconst 0, 1) := by decide +kernel
theorem dX9_enter_32 : decode cX9_enter 32 = .ok (.lconst 1, 1) := by decide +kernel
theorem dX9_enter_33 : decode cX9_enter 33 = .ok (.invokestatic 59, 3) := by decide +kernel
theorem dX9_enter_36 : decode cX9_enter 36 = .ok (.ifCond .ne 6, 3) := by decide +kernel
theorem dX9_enter_39 : decode cX9_enter 39 = .ok (.ldc 183, 2) := by decide +kernel
theorem dX9_enter_41 : decode cX9_enter 41 = .ok (.ireturn, 1) := by decide +kernel
theorem dX9_enter_42 : decode cX9_enter 42 = .ok (.aload_n 0, 1) := by decide +kernel
theorem dX9_enter_43 : decode cX9_enter 43 = .ok (.aload_n 0, 1) := by decide +kernel
theorem dX9_enter_44 : decode cX9_enter 44 = .ok (.getfield 13, 3) := by decide +kernel
theorem dX9_enter_47 : decode cX9_enter 47 = .ok (.invokevirtual 143, 3) := by decide +kernel
theorem dX9_enter_50 : decode cX9_enter 50 = .ok (.aload_n 0, 1) := by decide +kernel
theorem dX9_enter_51 : decode cX9_enter 51 = .ok (.aload_n 0, 1) := by decide +kernel
theorem dX9_enter_52 : decode cX9_enter 52 = .ok (.getfield 13, 3) := by decide +kernel
theorem dX9_enter_55 : decode cX9_enter 55 = .ok (.aload_n 0, 1) := by decide +kernel
theorem dX9_enter_56 : decode cX9_enter 56 = .ok (.getfield 16, 3) := by decide +kernel
theorem dX9_enter_59 : decode cX9_enter 59 = .ok (.invokevirtual 128, 3) := by decide +kernel
theorem dX9_enter_62 : decode cX9_enter 62 = .ok (.aload_n 0, 1) := by decide +kernel
theorem dX9_enter_63 : decode cX9_enter 63 = .ok (.getfield 16, 3) := by decide +kernel
theorem dX9_enter_66 : decode cX9_enter 66 = .ok (.iload_n 1, 1) := by decide +kernel
theorem dX9_enter_67 : decode cX9_enter 67 = .ok (.iload_n 2, 1) := by decide +kernel
theorem dX9_enter_68 : decode cX9_enter 68 = .ok (.iastore, 1) := by decide +kernel
theorem dX9_enter_69 : decode cX9_enter 69 = .ok (.aload_n 0, 1) := by decide +kernel
theorem dX9_enter_70 : decode cX9_enter 70 = .ok (.aload_n 0, 1) := by decide +kernel
theorem dX9_enter_71 : decode cX9_enter 71 = .ok (.getfield 16, 3) := by decide +kernel
theorem dX9_enter_74 : decode cX9_enter 74 = .ok (.invokevirtual 115, 3) := by decide +kernel
theorem dX9_enter_77 : decode cX9_enter 77 = .ok (.iconst 0, 1) := by decide +kernel
theorem dX9_enter_78 : decode cX9_enter 78 = .ok (.istore 4, 2) := by decide +kernel
theorem dX9_enter_80 : decode cX9_enter 80 = .ok (.iconst 0, 1) := by decide +kernel
theorem dX9_enter_81 : decode cX9_enter 81 = .ok (.istore 5, 2) := by decide +kernel
theorem dX9_enter_83 : decode cX9_enter 83 = .ok (.iload 5, 2) := by decide +kernel
theorem dX9_enter_85 : decode cX9_enter 85 = .ok (.aload_n 0, 1) := by decide +kernel
theorem dX9_enter_86 : decode cX9_enter 86 = .ok (.getfield 55, 3) := by decide +kernel
theorem dX9_enter_89 : decode cX9_enter 89 = .ok (.if_icmp .ge 44, 3) := by decide +kernel
theorem dX9_enter_92 : decode cX9_enter 92 = .ok (.iload 4, 2) := by decide +kernel
theorem dX9_enter_94 : decode cX9_enter 94 = .ok (.aload_n 0, 1) := by decide +kernel
theorem dX9_enter_95 : decode cX9_enter 95 = .ok (.getfield 13, 3) := by decide +kernel
theorem dX9_enter_98 : decode cX9_enter 98 = .ok (.iload 5, 2) := by decide +kernel
theorem dX9_enter_100 : decode cX9_enter 100 = .ok (.iaload, 1) := by decide +kernel
theorem dX9_enter_101 : decode cX9_enter 101 = .ok (.iload_n 2, 1) := by decide +kernel
theorem dX9_enter_102 : decode cX9_enter 102 = .ok (.if_icmp .ne 21, 3) := by decide +kernel
theorem dX9_enter_105 : decode cX9_enter 105 = .ok (.aload_n 0, 1) := by decide +kernel
theorem dX9_enter_106 : decode cX9_enter 106 = .ok (.getfield 25, 3) := by decide +kernel
theorem dX9_enter_109 : decode cX9_enter 109 = .ok (.iload 5, 2) := by decide +kernel
theorem dX9_enter_111 : decode cX9_enter 111 = .ok (.iaload, 1) := by decide +kernel
theorem dX9_enter_112 : decode cX9_enter 112 = .ok (.aload_n 0, 1) := by decide +kernel
theorem dX9_enter_113 : decode cX9_enter 113 = .ok (.getfield 46, 3) := by decide +kernel
theorem dX9_enter_116 : decode cX9_enter 116 = .ok (.iload 5, 2) := by decide +kernel
theorem dX9_enter_118 : decode cX9_enter 118 = .ok (.iaload, 1) := by decide +kernel
theorem dX9_enter_119 : decode cX9_enter 119 = .ok (.isub, 1) := by decide +kernel
theorem dX9_enter_120 : decode cX9_enter 120 = .ok (.goto 4, 3) := by decide +kernel
theorem dX9_enter_123 : decode cX9_enter 123 = .ok (.iconst 0, 1) := by decide +kernel
theorem dX9_enter_124 : decode cX9_enter 124 = .ok (.iadd, 1) := by decide +kernel
theorem dX9_enter_125 : decode cX9_enter 125 = .ok (.istore 4, 2) := by decide +kernel
theorem dX9_enter_127 : decode cX9_enter 127 = .ok (.iinc 5 1, 3) := by decide +kernel
theorem dX9_enter_130 : decode cX9_enter 130 = .ok (.goto (-47), 3) := by decide +kernel
theorem dX9_enter_133 : decode cX9_enter 133 = .ok (.iload_n 3, 1) := by decide +kernel
theorem dX9_enter_134 : decode cX9_enter 134 = .ok (.ifCond .ne 19, 3) := by decide +kernel
theorem dX9_enter_137 : decode cX9_enter 137 = .ok (.aload_n 0, 1) := by decide +kernel
theorem dX9_enter_138 : decode cX9_enter 138 = .ok (.getfield 25, 3) := by decide +kernel
theorem dX9_enter_141 : decode cX9_enter 141 = .ok (.iload_n 1, 1) := by decide +kernel
theorem dX9_enter_142 : decode cX9_enter 142 = .ok (.iaload, 1) := by decide +kernel
theorem dX9_enter_143 : decode cX9_enter 143 = .ok (.aload_n 0, 1) := by decide +kernel
theorem dX9_enter_144 : decode cX9_enter 144 = .ok (.getfield 46, 3) := by decide +kernel
theorem dX9_enter_147 : decode cX9_enter 147 = .ok (.iload_n 1, 1) := by decide +kernel
theorem dX9_enter_148 : decode cX9_enter 148 = .ok (.iaload, 1) := by decide +kernel
theorem dX9_enter_149 : decode cX9_enter 149 = .ok (.isub, 1) := by decide +kernel
theorem dX9_enter_150 : decode cX9_enter 150 = .ok (.goto 5, 3) := by decide +kernel
theorem dX9_enter_153 : decode cX9_enter 153 = .ok (.iload 4, 2) := by decide +kernel
theorem dX9_enter_155 : decode cX9_enter 155 = .ok (.ireturn, 1) := by decide +kernel
theorem dX9_holds_0 : decode cX9_holds 0 = .ok (.aload_n 0, 1) := by decide +kernel
theorem dX9_holds_1 : decode cX9_holds 1 = .ok (.aload_n 0, 1) := by decide +kernel
theorem dX9_holds_2 : decode cX9_holds 2 = .ok (.getfield 13, 3) := by decide +kernel
theorem dX9_holds_5 : decode cX9_holds 5 = .ok (.invokevirtual 143, 3) := by decide +kernel
theorem dX9_holds_8 : decode cX9_holds 8 = .ok (.iconst 0, 1) := by decide +kernel
theorem dX9_holds_9 : decode cX9_holds 9 = .ok (.istore_n 1, 1) := by decide +kernel
theorem dX9_holds_10 : decode cX9_holds 10 = .ok (.iconst 0, 1) := by decide +kernel
theorem dX9_holds_11 : decode cX9_holds 11 = .ok (.istore_n 2, 1) := by decide +kernel
theorem dX9_holds_12 : decode cX9_holds 12 = .ok (.iload_n 2, 1) := by decide +kernel
theorem dX9_holds_13 : decode cX9_holds 13 = .ok (.aload_n 0, 1) := by decide +kernel
theorem dX9_holds_14 : decode cX9_holds 14 = .ok (.getfield 55, 3) := by decide +kernel
theorem dX9_holds_17 : decode cX9_holds 17 = .ok (.if_icmp .ge 30, 3) := by decide +kernel
theorem dX9_holds_20 : decode cX9_holds 20 = .ok (.aload_n 0, 1) := by decide +kernel
theorem dX9_holds_21 : decode cX9_holds 21 = .ok (.aload_n 0, 1) := by decide +kernel
theorem dX9_holds_22 : decode cX9_holds 22 = .ok (.getfield 13, 3) := by decide +kernel
theorem dX9_holds_25 : decode cX9_holds 25 = .ok (.iload_n 2, 1) := by decide +kernel
theorem dX9_holds_26 : decode cX9_holds 26 = .ok (.invokevirtual 132, 3) := by decide +kernel
theorem dX9_holds_29 : decode cX9_holds 29 = .ok (.istore_n 3, 1) := by decide +kernel
theorem dX9_holds_30 : decode cX9_holds 30 = .ok (.iload_n 3, 1) := by decide +kernel
theorem dX9_holds_31 : decode cX9_holds 31 = .ok (.iload_n 1, 1) := by decide +kernel
theorem dX9_holds_32 : decode cX9_holds 32 = .ok (.if_icmp .le 7, 3) := by decide +kernel
theorem dX9_holds_35 : decode cX9_holds 35 = .ok (.iload_n 3, 1) := by decide +kernel
theorem dX9_holds_36 : decode cX9_holds 36 = .ok (.goto 4, 3) := by decide +kernel
theorem dX9_holds_39 : decode cX9_holds 39 = .ok (.iload_n 1, 1) := by decide +kernel
theorem dX9_holds_40 : decode cX9_holds 40 = .ok (.istore_n 1, 1) := by decide +kernel
theorem dX9_holds_41 : decode cX9_holds 41 = .ok (.iinc 2 1, 3) := by decide +kernel
theorem dX9_holds_44 : decode cX9_holds 44 = .ok (.goto (-32), 3) := by decide +kernel
theorem dX9_holds_47 : decode cX9_holds 47 = .ok (.iload_n 1, 1) := by decide +kernel
theorem dX9_holds_48 : decode cX9_holds 48 = .ok (.ireturn, 1) := by decide +kernel
theorem dX9_hurt_0 : decode cX9_hurt 0 = .ok (.aload_n 0, 1) := by decide +kernel
theorem dX9_hurt_1 : decode cX9_hurt 1 = .ok (.iload_n 1, 1) := by decide +kernel
theorem dX9_hurt_2 : decode cX9_hurt 2 = .ok (.invokevirtual 180, 3) := by decide +kernel
theorem dX9_hurt_5 : decode cX9_hurt 5 = .ok (.ifCond .ne 6, 3) := by decide +kernel
theorem dX9_hurt_8 : decode cX9_hurt 8 = .ok (.bipush (-2), 2) := by decide +kernel
theorem dX9_hurt_10 : decode cX9_hurt 10 = .ok (.ireturn, 1) := by decide +kernel
theorem dX9_hurt_11 : decode cX9_hurt 11 = .ok (.aload_n 0, 1) := by decide +kernel
theorem dX9_hurt_12 : decode cX9_hurt 12 = .ok (.aload_n 0, 1) := by decide +kernel
theorem dX9_hurt_13 : decode cX9_hurt 13 = .ok (.getfield 13, 3) := by decide +kernel
theorem dX9_hurt_16 : decode cX9_hurt 16 = .ok (.invokevirtual 143, 3) := by decide +kernel
theorem dX9_hurt_19 : decode cX9_hurt 19 = .ok (.iconst 0, 1) := by decide +kernel
theorem dX9_hurt_20 : decode cX9_hurt 20 = .ok (.istore_n 2, 1) := by decide +kernel
theorem dX9_hurt_21 : decode cX9_hurt 21 = .ok (.iload_n 2, 1) := by decide +kernel
theorem dX9_hurt_22 : decode cX9_hurt 22 = .ok (.bipush 6, 2) := by decide +kernel
theorem dX9_hurt_24 : decode cX9_hurt 24 = .ok (.if_icmp .ge 38, 3) := by decide +kernel
theorem dX9_hurt_27 : decode cX9_hurt 27 = .ok (.aload_n 0, 1) := by decide +kernel
theorem dX9_hurt_28 : decode cX9_hurt 28 = .ok (.getfield 16, 3) := by decide +kernel
theorem dX9_hurt_31 : decode cX9_hurt 31 = .ok (.iload_n 2, 1) := by decide +kernel
theorem dX9_hurt_32 : decode cX9_hurt 32 = .ok (.aload_n 0, 1) := by decide +kernel
theorem dX9_hurt_33 : decode cX9_hurt 33 = .ok (.getfield 13, 3) := by decide +kernel
theorem dX9_hurt_36 : decode cX9_hurt 36 = .ok (.iload_n 2, 1) := by decide +kernel
theorem dX9_hurt_37 : decode cX9_hurt 37 = .ok (.iaload, 1) := by decide +kernel
theorem dX9_hurt_38 : decode cX9_hurt 38 = .ok (.iload_n 1, 1) := by decide +kernel
theorem dX9_hurt_39 : decode cX9_hurt 39 = .ok (.if_icmp .ne 10, 3) := by decide +kernel
theorem dX9_hurt_42 : decode cX9_hurt 42 = .ok (.bipush 7, 2) := by decide +kernel
theorem dX9_hurt_44 : decode cX9_hurt 44 = .ok (.iload_n 2, 1) := by decide +kernel
theorem dX9_hurt_45 : decode cX9_hurt 45 = .ok (.iadd, 1) := by decide +kernel
theorem dX9_hurt_46 : decode cX9_hurt 46 = .ok (.goto 9, 3) := by decide +kernel
theorem dX9_hurt_49 : decode cX9_hurt 49 = .ok (.aload_n 0, 1) := by decide +kernel
theorem dX9_hurt_50 : decode cX9_hurt 50 = .ok (.getfield 13, 3) := by decide +kernel
theorem dX9_hurt_53 : decode cX9_hurt 53 = .ok (.iload_n 2, 1) := by decide +kernel
theorem dX9_hurt_54 : decode cX9_hurt 54 = .ok (.iaload, 1) := by decide +kernel
theorem dX9_hurt_55 : decode cX9_hurt 55 = .ok (.iastore, 1) := by decide +kernel
theorem dX9_hurt_56 : decode cX9_hurt 56 = .ok (.iinc 2 1, 3) := by decide +kernel
theorem dX9_hurt_59 : decode cX9_hurt 59 = .ok (.goto (-38), 3) := by decide +kernel
theorem dX9_hurt_62 : decode cX9_hurt 62 = .ok (.aload_n 0, 1) := by decide +kernel
theorem dX9_hurt_63 : decode cX9_hurt 63 = .ok (.aload_n 0, 1) := by decide +kernel
theorem dX9_hurt_64 : decode cX9_hurt 64 = .ok (.getfield 16, 3) := by decide +kernel
theorem dX9_hurt_67 : decode cX9_hurt 67 = .ok (.invokevirtual 115, 3) := by decide +kernel
theorem dX9_hurt_70 : decode cX9_hurt 70 = .ok (.iconst 0, 1) := by decide +kernel
theorem dX9_hurt_71 : decode cX9_hurt 71 = .ok (.istore_n 2, 1) := by decide +kernel
theorem dX9_hurt_72 : decode cX9_hurt 72 = .ok (.iconst 0, 1) := by decide +kernel
theorem dX9_hurt_73 : decode cX9_hurt 73 = .ok (.istore_n 3, 1) := by decide +kernel
theorem dX9_hurt_74 : decode cX9_hurt 74 = .ok (.iload_n 3, 1) := by decide +kernel
theorem dX9_hurt_75 : decode cX9_hurt 75 = .ok (.aload_n 0, 1) := by decide +kernel
theorem dX9_hurt_76 : decode cX9_hurt 76 = .ok (.getfield 55, 3) := by decide +kernel
theorem dX9_hurt_79 : decode cX9_hurt 79 = .ok (.if_icmp .ge 44, 3) := by decide +kernel
theorem dX9_hurt_82 : decode cX9_hurt 82 = .ok (.iload_n 2, 1) := by decide +kernel
theorem dX9_hurt_83 : decode cX9_hurt 83 = .ok (.aload_n 0, 1) := by decide +kernel
theorem dX9_hurt_84 : decode cX9_hurt 84 = .ok (.getfield 13, 3) := by decide +kernel
theorem dX9_hurt_87 : decode cX9_hurt 87 = .ok (.iload_n 3, 1) := by decide +kernel
theorem dX9_hurt_88 : decode cX9_hurt 88 = .ok (.iaload, 1) := by decide +kernel
theorem dX9_hurt_89 : decode cX9_hurt 89 = .ok (.iload_n 1, 1) := by decide +kernel
theorem dX9_hurt_90 : decode cX9_hurt 90 = .ok (.if_icmp .eq 24, 3) := by decide +kernel
theorem dX9_hurt_93 : decode cX9_hurt 93 = .ok (.aload_n 0, 1) := by decide +kernel
theorem dX9_hurt_94 : decode cX9_hurt 94 = .ok (.getfield 46, 3) := by decide +kernel
theorem dX9_hurt_97 : decode cX9_hurt 97 = .ok (.iload_n 3, 1) := by decide +kernel
theorem dX9_hurt_98 : decode cX9_hurt 98 = .ok (.iaload, 1) := by decide +kernel
theorem dX9_hurt_99 : decode cX9_hurt 99 = .ok (.aload_n 0, 1) := by decide +kernel
theorem dX9_hurt_100 : decode cX9_hurt 100 = .ok (.getfield 25, 3) := by decide +kernel
theorem dX9_hurt_103 : decode cX9_hurt 103 = .ok (.iload_n 3, 1) := by decide +kernel
theorem dX9_hurt_104 : decode cX9_hurt 104 = .ok (.iaload, 1) := by decide +kernel
theorem dX9_hurt_105 : decode cX9_hurt 105 = .ok (.if_icmp .ge 9, 3) := by decide +kernel
theorem dX9_hurt_108 : decode cX9_hurt 108 = .ok (.iconst 1, 1) := by decide +kernel
theorem dX9_hurt_109 : decode cX9_hurt 109 = .ok (.iload_n 3, 1) := by decide +kernel
theorem dX9_hurt_110 : decode cX9_hurt 110 = .ok (.ishl, 1) := by decide +kernel
theorem dX9_hurt_111 : decode cX9_hurt 111 = .ok (.goto 4, 3) := by decide +kernel
theorem dX9_hurt_114 : decode cX9_hurt 114 = .ok (.iconst 0, 1) := by decide +kernel
theorem dX9_hurt_115 : decode cX9_hurt 115 = .ok (.ior, 1) := by decide +kernel
theorem dX9_hurt_116 : decode cX9_hurt 116 = .ok (.istore_n 2, 1) := by decide +kernel
theorem dX9_hurt_117 : decode cX9_hurt 117 = .ok (.iinc 3 1, 3) := by decide +kernel
theorem dX9_hurt_120 : decode cX9_hurt 120 = .ok (.goto (-46), 3) := by decide +kernel
theorem dX9_hurt_123 : decode cX9_hurt 123 = .ok (.iload_n 2, 1) := by decide +kernel
theorem dX9_hurt_124 : decode cX9_hurt 124 = .ok (.ireturn, 1) := by decide +kernel
theorem dX9_edge_0 : decode cX9_edge 0 = .ok (.aload_n 0, 1) := by decide +kernel
theorem dX9_edge_1 : decode cX9_edge 1 = .ok (.iload_n 1, 1) := by decide +kernel
theorem dX9_edge_2 : decode cX9_edge 2 = .ok (.invokevirtual 77, 3) := by decide +kernel
theorem dX9_edge_5 : decode cX9_edge 5 = .ok (.ifCond .ne 5, 3) := by decide +kernel
theorem dX9_edge_8 : decode cX9_edge 8 = .ok (.iconst (-1), 1) := by decide +kernel
theorem dX9_edge_9 : decode cX9_edge 9 = .ok (.ireturn, 1) := by decide +kernel
theorem dX9_edge_10 : decode cX9_edge 10 = .ok (.aload_n 0, 1) := by decide +kernel
theorem dX9_edge_11 : decode cX9_edge 11 = .ok (.getfield 7, 3) := by decide +kernel
theorem dX9_edge_14 : decode cX9_edge 14 = .ok (.iconst 4, 1) := by decide +kernel
theorem dX9_edge_15 : decode cX9_edge 15 = .ok (.iload_n 1, 1) := by decide +kernel
theorem dX9_edge_16 : decode cX9_edge 16 = .ok (.imul, 1) := by decide +kernel
theorem dX9_edge_17 : decode cX9_edge 17 = .ok (.iconst 1, 1) := by decide +kernel
theorem dX9_edge_18 : decode cX9_edge 18 = .ok (.iadd, 1) := by decide +kernel
theorem dX9_edge_19 : decode cX9_edge 19 = .ok (.iaload, 1) := by decide +kernel
theorem dX9_edge_20 : decode cX9_edge 20 = .ok (.istore_n 2, 1) := by decide +kernel
theorem dX9_edge_21 : decode cX9_edge 21 = .ok (.aload_n 0, 1) := by decide +kernel
theorem dX9_edge_22 : decode cX9_edge 22 = .ok (.aload_n 0, 1) := by decide +kernel
theorem dX9_edge_23 : decode cX9_edge 23 = .ok (.getfield 13, 3) := by decide +kernel
theorem dX9_edge_26 : decode cX9_edge 26 = .ok (.iconst 0, 1) := by decide +kernel
theorem dX9_edge_27 : decode cX9_edge 27 = .ok (.invokevirtual 155, 3) := by decide +kernel
theorem dX9_edge_30 : decode cX9_edge 30 = .ok (.ifCond .ge 7, 3) := by decide +kernel
theorem dX9_edge_33 : decode cX9_edge 33 = .ok (.iconst 1, 1) := by decide +kernel
theorem dX9_edge_34 : decode cX9_edge 34 = .ok (.goto 4, 3) := by decide +kernel
theorem dX9_edge_37 : decode cX9_edge 37 = .ok (.iconst 0, 1) := by decide +kernel
theorem dX9_edge_38 : decode cX9_edge 38 = .ok (.istore_n 3, 1) := by decide +kernel
theorem dX9_edge_39 : decode cX9_edge 39 = .ok (.bipush (-6), 2) := by decide +kernel
theorem dX9_edge_41 : decode cX9_edge 41 = .ok (.istore 4, 2) := by decide +kernel
theorem dX9_edge_43 : decode cX9_edge 43 = .ok (.iconst 1, 1) := by decide +kernel
theorem dX9_edge_44 : decode cX9_edge 44 = .ok (.istore 5, 2) := by decide +kernel
theorem dX9_edge_46 : decode cX9_edge 46 = .ok (.iload 5, 2) := by decide +kernel
theorem dX9_edge_48 : decode cX9_edge 48 = .ok (.bipush 99, 2) := by decide +kernel
theorem dX9_edge_50 : decode cX9_edge 50 = .ok (.if_icmp .ge 107, 3) := by decide +kernel
theorem dX9_edge_53 : decode cX9_edge 53 = .ok (.iload 4, 2) := by decide +kernel
theorem dX9_edge_55 : decode cX9_edge 55 = .ok (.ifCond .ge 102, 3) := by decide +kernel
theorem dX9_edge_58 : decode cX9_edge 58 = .ok (.iconst 0, 1) := by decide +kernel
theorem dX9_edge_59 : decode cX9_edge 59 = .ok (.istore 6, 2) := by decide +kernel
theorem dX9_edge_61 : decode cX9_edge 61 = .ok (.iload 6, 2) := by decide +kernel
theorem dX9_edge_63 : decode cX9_edge 63 = .ok (.iconst 2, 1) := by decide +kernel
theorem dX9_edge_64 : decode cX9_edge 64 = .ok (.if_icmp .ge 87, 3) := by decide +kernel
theorem dX9_edge_67 : decode cX9_edge 67 = .ok (.iload 4, 2) := by decide +kernel
theorem dX9_edge_69 : decode cX9_edge 69 = .ok (.ifCond .ge 82, 3) := by decide +kernel
theorem dX9_edge_72 : decode cX9_edge 72 = .ok (.iload 6, 2) := by decide +kernel
theorem dX9_edge_74 : decode cX9_edge 74 = .ok (.ifCond .ne 10, 3) := by decide +kernel
theorem dX9_edge_77 : decode cX9_edge 77 = .ok (.iload_n 2, 1) := by decide +kernel
theorem dX9_edge_78 : decode cX9_edge 78 = .ok (.iload 5, 2) := by decide +kernel
theorem dX9_edge_80 : decode cX9_edge 80 = .ok (.isub, 1) := by decide +kernel
theorem dX9_edge_81 : decode cX9_edge 81 = .ok (.goto 7, 3) := by decide +kernel
theorem dX9_edge_84 : decode cX9_edge 84 = .ok (.iload_n 2, 1) := by decide +kernel
theorem dX9_edge_85 : decode cX9_edge 85 = .ok (.iload 5, 2) := by decide +kernel
theorem dX9_edge_87 : decode cX9_edge 87 = .ok (.iadd, 1) := by decide +kernel
theorem dX9_edge_88 : decode cX9_edge 88 = .ok (.istore 7, 2) := by decide +kernel
theorem dX9_edge_90 : decode cX9_edge 90 = .ok (.iload 7, 2) := by decide +kernel
theorem dX9_edge_92 : decode cX9_edge 92 = .ok (.i2l, 1) := by decide +kernel
theorem dX9_edge_93 : decode cX9_edge 93 = .ok (.lconst 1, 1) := by decide +kernel
theorem dX9_edge_94 : decode cX9_edge 94 = .ok (.ldc2_w 63, 3) := by decide +kernel
theorem dX9_edge_97 : decode cX9_edge 97 = .ok (.invokestatic 59, 3) := by decide +kernel
theorem dX9_edge_100 : decode cX9_edge 100 = .ok (.ifCond .eq 45, 3) := by decide +kernel
theorem dX9_edge_103 : decode cX9_edge 103 = .ok (.aload_n 0, 1) := by decide +kernel
theorem dX9_edge_104 : decode cX9_edge 104 = .ok (.getfield 7, 3) := by decide +kernel
theorem dX9_edge_107 : decode cX9_edge 107 = .ok (.iconst 4, 1) := by decide +kernel
theorem dX9_edge_108 : decode cX9_edge 108 = .ok (.iload_n 1, 1) := by decide +kernel
theorem dX9_edge_109 : decode cX9_edge 109 = .ok (.imul, 1) := by decide +kernel
theorem dX9_edge_110 : decode cX9_edge 110 = .ok (.iconst 1, 1) := by decide +kernel
theorem dX9_edge_111 : decode cX9_edge 111 = .ok (.iadd, 1) := by decide +kernel
theorem dX9_edge_112 : decode cX9_edge 112 = .ok (.iload 7, 2) := by decide +kernel
theorem dX9_edge_114 : decode cX9_edge 114 = .ok (.iastore, 1) := by decide +kernel
theorem dX9_edge_115 : decode cX9_edge 115 = .ok (.aload_n 0, 1) := by decide +kernel
theorem dX9_edge_116 : decode cX9_edge 116 = .ok (.aload_n 0, 1) := by decide +kernel
theorem dX9_edge_117 : decode cX9_edge 117 = .ok (.getfield 13, 3) := by decide +kernel
theorem dX9_edge_120 : decode cX9_edge 120 = .ok (.iconst 0, 1) := by decide +kernel
theorem dX9_edge_121 : decode cX9_edge 121 = .ok (.invokevirtual 155, 3) := by decide +kernel
theorem dX9_edge_124 : decode cX9_edge 124 = .ok (.ifCond .ge 7, 3) := by decide +kernel
theorem dX9_edge_127 : decode cX9_edge 127 = .ok (.iconst 1, 1) := by decide +kernel
theorem dX9_edge_128 : decode cX9_edge 128 = .ok (.goto 4, 3) := by decide +kernel
theorem dX9_edge_131 : decode cX9_edge 131 = .ok (.iconst 0, 1) := by decide +kernel
theorem dX9_edge_132 : decode cX9_edge 132 = .ok (.iload_n 3, 1) := by decide +kernel
theorem dX9_edge_133 : decode cX9_edge 133 = .ok (.if_icmp .eq 8, 3) := by decide +kernel
theorem dX9_edge_136 : decode cX9_edge 136 = .ok (.iload 7, 2) := by decide +kernel
theorem dX9_edge_138 : decode cX9_edge 138 = .ok (.goto 5, 3) := by decide +kernel
theorem dX9_edge_141 : decode cX9_edge 141 = .ok (.bipush (-6), 2) := by decide +kernel
theorem dX9_edge_143 : decode cX9_edge 143 = .ok (.istore 4, 2) := by decide +kernel
theorem dX9_edge_145 : decode cX9_edge 145 = .ok (.iinc 6 1, 3) := by decide +kernel
theorem dX9_edge_148 : decode cX9_edge 148 = .ok (.goto (-87), 3) := by decide +kernel
theorem dX9_edge_151 : decode cX9_edge 151 = .ok (.iinc 5 1, 3) := by decide +kernel
theorem dX9_edge_154 : decode cX9_edge 154 = .ok (.goto (-108), 3) := by decide +kernel
theorem dX9_edge_157 : decode cX9_edge 157 = .ok (.aload_n 0, 1) := by decide +kernel
theorem dX9_edge_158 : decode cX9_edge 158 = .ok (.getfield 7, 3) := by decide +kernel
theorem dX9_edge_161 : decode cX9_edge 161 = .ok (.iconst 4, 1) := by decide +kernel
theorem dX9_edge_162 : decode cX9_edge 162 = .ok (.iload_n 1, 1) := by decide +kernel
theorem dX9_edge_163 : decode cX9_edge 163 = .ok (.imul, 1) := by decide +kernel
theorem dX9_edge_164 : decode cX9_edge 164 = .ok (.iconst 1, 1) := by decide +kernel
theorem dX9_edge_165 : decode cX9_edge 165 = .ok (.iadd, 1) := by decide +kernel
theorem dX9_edge_166 : decode cX9_edge 166 = .ok (.iload_n 2, 1) := by decide +kernel
theorem dX9_edge_167 : decode cX9_edge 167 = .ok (.iastore, 1) := by decide +kernel
theorem dX9_edge_168 : decode cX9_edge 168 = .ok (.iload 4, 2) := by decide +kernel
theorem dX9_edge_170 : decode cX9_edge 170 = .ok (.ireturn, 1) := by decide +kernel
theorem dX9_told_0 : decode cX9_told 0 = .ok (.iload_n 1, 1) := by decide +kernel
theorem dX9_told_1 : decode cX9_told 1 = .ok (.i2l, 1) := by decide +kernel
theorem dX9_told_2 : decode cX9_told 2 = .ok (.ldc2_w 171, 3) := by decide +kernel
theorem dX9_told_5 : decode cX9_told 5 = .ok (.ldc2_w 173, 3) := by decide +kernel
theorem dX9_told_8 : decode cX9_told 8 = .ok (.invokestatic 59, 3) := by decide +kernel
theorem dX9_told_11 : decode cX9_told 11 = .ok (.ifCond .eq 33, 3) := by decide +kernel
theorem dX9_told_14 : decode cX9_told 14 = .ok (.aload_n 0, 1) := by decide +kernel
theorem dX9_told_15 : decode cX9_told 15 = .ok (.iload_n 1, 1) := by decide +kernel
theorem dX9_told_16 : decode cX9_told 16 = .ok (.bipush 10, 2) := by decide +kernel
theorem dX9_told_18 : decode cX9_told 18 = .ok (.isub, 1) := by decide +kernel
theorem dX9_told_19 : decode cX9_told 19 = .ok (.invokevirtual 77, 3) := by decide +kernel
theorem dX9_told_22 : decode cX9_told 22 = .ok (.ifCond .eq 19, 3) := by decide +kernel
theorem dX9_told_25 : decode cX9_told 25 = .ok (.aload_n 0, 1) := by decide +kernel
theorem dX9_told_26 : decode cX9_told 26 = .ok (.getfield 7, 3) := by decide +kernel
theorem dX9_told_29 : decode cX9_told 29 = .ok (.iconst 4, 1) := by decide +kernel
theorem dX9_told_30 : decode cX9_told 30 = .ok (.iload_n 1, 1) := by decide +kernel
theorem dX9_told_31 : decode cX9_told 31 = .ok (.bipush 10, 2) := by decide +kernel
theorem dX9_told_33 : decode cX9_told 33 = .ok (.isub, 1) := by decide +kernel
theorem dX9_told_34 : decode cX9_told 34 = .ok (.imul, 1) := by decide +kernel
theorem dX9_told_35 : decode cX9_told 35 = .ok (.iconst 1, 1) := by decide +kernel
theorem dX9_told_36 : decode cX9_told 36 = .ok (.iadd, 1) := by decide +kernel
theorem dX9_told_37 : decode cX9_told 37 = .ok (.iaload, 1) := by decide +kernel
theorem dX9_told_38 : decode cX9_told 38 = .ok (.goto 5, 3) := by decide +kernel
theorem dX9_told_41 : decode cX9_told 41 = .ok (.bipush (-6), 2) := by decide +kernel
theorem dX9_told_43 : decode cX9_told 43 = .ok (.ireturn, 1) := by decide +kernel
theorem dX9_told_44 : decode cX9_told 44 = .ok (.iload_n 1, 1) := by decide +kernel
theorem dX9_told_45 : decode cX9_told 45 = .ok (.tableswitch 64 0 4 #[35, 40, 45, 50, 55], 35) := by decide +kernel
theorem dX9_told_80 : decode cX9_told 80 = .ok (.aload_n 0, 1) := by decide +kernel
theorem dX9_told_81 : decode cX9_told 81 = .ok (.getfield 55, 3) := by decide +kernel
theorem dX9_told_84 : decode cX9_told 84 = .ok (.ireturn, 1) := by decide +kernel
theorem dX9_told_85 : decode cX9_told 85 = .ok (.aload_n 0, 1) := by decide +kernel
theorem dX9_told_86 : decode cX9_told 86 = .ok (.getfield 95, 3) := by decide +kernel
theorem dX9_told_89 : decode cX9_told 89 = .ok (.ireturn, 1) := by decide +kernel
theorem dX9_told_90 : decode cX9_told 90 = .ok (.aload_n 0, 1) := by decide +kernel
theorem dX9_told_91 : decode cX9_told 91 = .ok (.getfield 85, 3) := by decide +kernel
theorem dX9_told_94 : decode cX9_told 94 = .ok (.ireturn, 1) := by decide +kernel
theorem dX9_told_95 : decode cX9_told 95 = .ok (.aload_n 0, 1) := by decide +kernel
theorem dX9_told_96 : decode cX9_told 96 = .ok (.getfield 88, 3) := by decide +kernel
theorem dX9_told_99 : decode cX9_told 99 = .ok (.ireturn, 1) := by decide +kernel
theorem dX9_told_100 : decode cX9_told 100 = .ok (.aload_n 0, 1) := by decide +kernel
theorem dX9_told_101 : decode cX9_told 101 = .ok (.aload_n 0, 1) := by decide +kernel
theorem dX9_told_102 : decode cX9_told 102 = .ok (.getfield 13, 3) := by decide +kernel
theorem dX9_told_105 : decode cX9_told 105 = .ok (.invokevirtual 73, 3) := by decide +kernel
theorem dX9_told_108 : decode cX9_told 108 = .ok (.ireturn, 1) := by decide +kernel
theorem dX9_told_109 : decode cX9_told 109 = .ok (.bipush (-2), 2) := by decide +kernel
theorem dX9_told_111 : decode cX9_told 111 = .ok (.ireturn, 1) := by decide +kernel
end
section
theorem dL_law_0 : decode cL_law 0 = .ok (.new 7, 3) := by decide +kernel
theorem dL_law_3 : decode cL_law 3 = .ok (.dup, 1) := by decide +kernel
theorem dL_law_4 : decode cL_law 4 = .ok (.invokespecial 9, 3) := by decide +kernel
theorem dL_law_7 : decode cL_law 7 = .ok (.astore_n 1, 1) := by decide +kernel
theorem dL_law_8 : decode cL_law 8 = .ok (.new 10, 3) := by decide +kernel
theorem dL_law_11 : decode cL_law 11 = .ok (.dup, 1) := by decide +kernel
theorem dL_law_12 : decode cL_law 12 = .ok (.invokespecial 12, 3) := by decide +kernel
theorem dL_law_15 : decode cL_law 15 = .ok (.astore_n 2, 1) := by decide +kernel
theorem dL_law_16 : decode cL_law 16 = .ok (.iconst 0, 1) := by decide +kernel
theorem dL_law_17 : decode cL_law 17 = .ok (.istore_n 3, 1) := by decide +kernel
theorem dL_law_18 : decode cL_law 18 = .ok (.iload_n 3, 1) := by decide +kernel
theorem dL_law_19 : decode cL_law 19 = .ok (.aload_n 0, 1) := by decide +kernel
theorem dL_law_20 : decode cL_law 20 = .ok (.arraylength, 1) := by decide +kernel
theorem dL_law_21 : decode cL_law 21 = .ok (.iconst 5, 1) := by decide +kernel
theorem dL_law_22 : decode cL_law 22 = .ok (.isub, 1) := by decide +kernel
theorem dL_law_23 : decode cL_law 23 = .ok (.if_icmp .gt 678, 3) := by decide +kernel
theorem dL_law_26 : decode cL_law 26 = .ok (.aload_n 0, 1) := by decide +kernel
theorem dL_law_27 : decode cL_law 27 = .ok (.iload_n 3, 1) := by decide +kernel
theorem dL_law_28 : decode cL_law 28 = .ok (.iaload, 1) := by decide +kernel
theorem dL_law_29 : decode cL_law 29 = .ok (.bipush 31, 2) := by decide +kernel
theorem dL_law_31 : decode cL_law 31 = .ok (.iand, 1) := by decide +kernel
theorem dL_law_32 : decode cL_law 32 = .ok (.tableswitch 663 0 20 #[100, 153, 196, 229, 252, 265, 278, 291, 314, 347, 370, 393, 436, 469, 492, 505, 538, 581, 594, 617, 640], 100) := by decide +kernel
theorem dL_law_132 : decode cL_law 132 = .ok (.aload_n 1, 1) := by decide +kernel
theorem dL_law_133 : decode cL_law 133 = .ok (.aload_n 0, 1) := by decide +kernel
theorem dL_law_134 : decode cL_law 134 = .ok (.iload_n 3, 1) := by decide +kernel
theorem dL_law_135 : decode cL_law 135 = .ok (.iconst 1, 1) := by decide +kernel
theorem dL_law_136 : decode cL_law 136 = .ok (.iadd, 1) := by decide +kernel
theorem dL_law_137 : decode cL_law 137 = .ok (.iaload, 1) := by decide +kernel
theorem dL_law_138 : decode cL_law 138 = .ok (.aload_n 0, 1) := by decide +kernel
theorem dL_law_139 : decode cL_law 139 = .ok (.iload_n 3, 1) := by decide +kernel
theorem dL_law_140 : decode cL_law 140 = .ok (.iconst 2, 1) := by decide +kernel
theorem dL_law_141 : decode cL_law 141 = .ok (.iadd, 1) := by decide +kernel
theorem dL_law_142 : decode cL_law 142 = .ok (.iaload, 1) := by decide +kernel
theorem dL_law_143 : decode cL_law 143 = .ok (.aload_n 0, 1) := by decide +kernel
theorem dL_law_144 : decode cL_law 144 = .ok (.iload_n 3, 1) := by decide +kernel
theorem dL_law_145 : decode cL_law 145 = .ok (.iconst 3, 1) := by decide +kernel
theorem dL_law_146 : decode cL_law 146 = .ok (.iadd, 1) := by decide +kernel
theorem dL_law_147 : decode cL_law 147 = .ok (.iaload, 1) := by decide +kernel
theorem dL_law_148 : decode cL_law 148 = .ok (.aload_n 0, 1) := by decide +kernel
theorem dL_law_149 : decode cL_law 149 = .ok (.iload_n 3, 1) := by decide +kernel
theorem dL_law_150 : decode cL_law 150 = .ok (.iconst 4, 1) := by decide +kernel
theorem dL_law_151 : decode cL_law 151 = .ok (.iadd, 1) := by decide +kernel
theorem dL_law_152 : decode cL_law 152 = .ok (.iaload, 1) := by decide +kernel
theorem dL_law_153 : decode cL_law 153 = .ok (.invokevirtual 13, 3) := by decide +kernel
theorem dL_law_156 : decode cL_law 156 = .ok (.aload_n 2, 1) := by decide +kernel
theorem dL_law_157 : decode cL_law 157 = .ok (.aload_n 0, 1) := by decide +kernel
theorem dL_law_158 : decode cL_law 158 = .ok (.iload_n 3, 1) := by decide +kernel
theorem dL_law_159 : decode cL_law 159 = .ok (.iconst 1, 1) := by decide +kernel
theorem dL_law_160 : decode cL_law 160 = .ok (.iadd, 1) := by decide +kernel
theorem dL_law_161 : decode cL_law 161 = .ok (.iaload, 1) := by decide +kernel
theorem dL_law_162 : decode cL_law 162 = .ok (.aload_n 0, 1) := by decide +kernel
theorem dL_law_163 : decode cL_law 163 = .ok (.iload_n 3, 1) := by decide +kernel
theorem dL_law_164 : decode cL_law 164 = .ok (.iconst 2, 1) := by decide +kernel
theorem dL_law_165 : decode cL_law 165 = .ok (.iadd, 1) := by decide +kernel
theorem dL_law_166 : decode cL_law 166 = .ok (.iaload, 1) := by decide +kernel
theorem dL_law_167 : decode cL_law 167 = .ok (.aload_n 0, 1) := by decide +kernel
theorem dL_law_168 : decode cL_law 168 = .ok (.iload_n 3, 1) := by decide +kernel
theorem dL_law_169 : decode cL_law 169 = .ok (.iconst 3, 1) := by decide +kernel
theorem dL_law_170 : decode cL_law 170 = .ok (.iadd, 1) := by decide +kernel
theorem dL_law_171 : decode cL_law 171 = .ok (.iaload, 1) := by decide +kernel
theorem dL_law_172 : decode cL_law 172 = .ok (.aload_n 0, 1) := by decide +kernel
theorem dL_law_173 : decode cL_law 173 = .ok (.iload_n 3, 1) := by decide +kernel
theorem dL_law_174 : decode cL_law 174 = .ok (.iconst 4, 1) := by decide +kernel
theorem dL_law_175 : decode cL_law 175 = .ok (.iadd, 1) := by decide +kernel
theorem dL_law_176 : decode cL_law 176 = .ok (.iaload, 1) := by decide +kernel
theorem dL_law_177 : decode cL_law 177 = .ok (.invokevirtual 17, 3) := by decide +kernel
theorem dL_law_180 : decode cL_law 180 = .ok (.if_icmp .eq 515, 3) := by decide +kernel
theorem dL_law_183 : decode cL_law 183 = .ok (.iconst 0, 1) := by decide +kernel
theorem dL_law_184 : decode cL_law 184 = .ok (.ireturn, 1) := by decide +kernel
theorem dL_law_185 : decode cL_law 185 = .ok (.aload_n 1, 1) := by decide +kernel
theorem dL_law_186 : decode cL_law 186 = .ok (.aload_n 0, 1) := by decide +kernel
theorem dL_law_187 : decode cL_law 187 = .ok (.iload_n 3, 1) := by decide +kernel
theorem dL_law_188 : decode cL_law 188 = .ok (.iconst 1, 1) := by decide +kernel
theorem dL_law_189 : decode cL_law 189 = .ok (.iadd, 1) := by decide +kernel
theorem dL_law_190 : decode cL_law 190 = .ok (.iaload, 1) := by decide +kernel
theorem dL_law_191 : decode cL_law 191 = .ok (.aload_n 0, 1) := by decide +kernel
theorem dL_law_192 : decode cL_law 192 = .ok (.iload_n 3, 1) := by decide +kernel
theorem dL_law_193 : decode cL_law 193 = .ok (.iconst 2, 1) := by decide +kernel
theorem dL_law_194 : decode cL_law 194 = .ok (.iadd, 1) := by decide +kernel
theorem dL_law_195 : decode cL_law 195 = .ok (.iaload, 1) := by decide +kernel
theorem dL_law_196 : decode cL_law 196 = .ok (.aload_n 0, 1) := by decide +kernel
theorem dL_law_197 : decode cL_law 197 = .ok (.iload_n 3, 1) := by decide +kernel
theorem dL_law_198 : decode cL_law 198 = .ok (.iconst 3, 1) := by decide +kernel
theorem dL_law_199 : decode cL_law 199 = .ok (.iadd, 1) := by decide +kernel
theorem dL_law_200 : decode cL_law 200 = .ok (.iaload, 1) := by decide +kernel
theorem dL_law_201 : decode cL_law 201 = .ok (.invokevirtual 18, 3) := by decide +kernel
theorem dL_law_204 : decode cL_law 204 = .ok (.aload_n 2, 1) := by decide +kernel
theorem dL_law_205 : decode cL_law 205 = .ok (.aload_n 0, 1) := by decide +kernel
theorem dL_law_206 : decode cL_law 206 = .ok (.iload_n 3, 1) := by decide +kernel
theorem dL_law_207 : decode cL_law 207 = .ok (.iconst 1, 1) := by decide +kernel
theorem dL_law_208 : decode cL_law 208 = .ok (.iadd, 1) := by decide +kernel
theorem dL_law_209 : decode cL_law 209 = .ok (.iaload, 1) := by decide +kernel
theorem dL_law_210 : decode cL_law 210 = .ok (.aload_n 0, 1) := by decide +kernel
theorem dL_law_211 : decode cL_law 211 = .ok (.iload_n 3, 1) := by decide +kernel
theorem dL_law_212 : decode cL_law 212 = .ok (.iconst 2, 1) := by decide +kernel
theorem dL_law_213 : decode cL_law 213 = .ok (.iadd, 1) := by decide +kernel
theorem dL_law_214 : decode cL_law 214 = .ok (.iaload, 1) := by decide +kernel
theorem dL_law_215 : decode cL_law 215 = .ok (.aload_n 0, 1) := by decide +kernel
theorem dL_law_216 : decode cL_law 216 = .ok (.iload_n 3, 1) := by decide +kernel
theorem dL_law_217 : decode cL_law 217 = .ok (.iconst 3, 1) := by decide +kernel
theorem dL_law_218 : decode cL_law 218 = .ok (.iadd, 1) := by decide +kernel
theorem dL_law_219 : decode cL_law 219 = .ok (.iaload, 1) := by decide +kernel
theorem dL_law_220 : decode cL_law 220 = .ok (.invokevirtual 22, 3) := by decide +kernel
theorem dL_law_223 : decode cL_law 223 = .ok (.if_icmp .eq 472, 3) := by decide +kernel
theorem dL_law_226 : decode cL_law 226 = .ok (.iconst 0, 1) := by decide +kernel
theorem dL_law_227 : decode cL_law 227 = .ok (.ireturn, 1) := by decide +kernel
theorem dL_law_228 : decode cL_law 228 = .ok (.aload_n 1, 1) := by decide +kernel
theorem dL_law_229 : decode cL_law 229 = .ok (.aload_n 0, 1) := by decide +kernel
theorem dL_law_230 : decode cL_law 230 = .ok (.iload_n 3, 1) := by decide +kernel
theorem dL_law_231 : decode cL_law 231 = .ok (.iconst 1, 1) := by decide +kernel
theorem dL_law_232 : decode cL_law 232 = .ok (.iadd, 1) := by decide +kernel
theorem dL_law_233 : decode cL_law 233 = .ok (.iaload, 1) := by decide +kernel
theorem dL_law_234 : decode cL_law 234 = .ok (.aload_n 0, 1) := by decide +kernel
theorem dL_law_235 : decode cL_law 235 = .ok (.iload_n 3, 1) := by decide +kernel
theorem dL_law_236 : decode cL_law 236 = .ok (.iconst 2, 1) := by decide +kernel
theorem dL_law_237 : decode cL_law 237 = .ok (.iadd, 1) := by decide +kernel
theorem dL_law_238 : decode cL_law 238 = .ok (.iaload, 1) := by decide +kernel
theorem dL_law_239 : decode cL_law 239 = .ok (.invokevirtual 23, 3) := by decide +kernel
theorem dL_law_242 : decode cL_law 242 = .ok (.aload_n 2, 1) := by decide +kernel
theorem dL_law_243 : decode cL_law 243 = .ok (.aload_n 0, 1) := by decide +kernel
theorem dL_law_244 : decode cL_law 244 = .ok (.iload_n 3, 1) := by decide +kernel
theorem dL_law_245 : decode cL_law 245 = .ok (.iconst 1, 1) := by decide +kernel
theorem dL_law_246 : decode cL_law 246 = .ok (.iadd, 1) := by decide +kernel
theorem dL_law_247 : decode cL_law 247 = .ok (.iaload, 1) := by decide +kernel
theorem dL_law_248 : decode cL_law 248 = .ok (.aload_n 0, 1) := by decide +kernel
theorem dL_law_249 : decode cL_law 249 = .ok (.iload_n 3, 1) := by decide +kernel
theorem dL_law_250 : decode cL_law 250 = .ok (.iconst 2, 1) := by decide +kernel
theorem dL_law_251 : decode cL_law 251 = .ok (.iadd, 1) := by decide +kernel
theorem dL_law_252 : decode cL_law 252 = .ok (.iaload, 1) := by decide +kernel
theorem dL_law_253 : decode cL_law 253 = .ok (.invokevirtual 27, 3) := by decide +kernel
theorem dL_law_256 : decode cL_law 256 = .ok (.if_icmp .eq 439, 3) := by decide +kernel
theorem dL_law_259 : decode cL_law 259 = .ok (.iconst 0, 1) := by decide +kernel
theorem dL_law_260 : decode cL_law 260 = .ok (.ireturn, 1) := by decide +kernel
theorem dL_law_261 : decode cL_law 261 = .ok (.aload_n 1, 1) := by decide +kernel
theorem dL_law_262 : decode cL_law 262 = .ok (.aload_n 0, 1) := by decide +kernel
theorem dL_law_263 : decode cL_law 263 = .ok (.iload_n 3, 1) := by decide +kernel
theorem dL_law_264 : decode cL_law 264 = .ok (.iconst 1, 1) := by decide +kernel
theorem dL_law_265 : decode cL_law 265 = .ok (.iadd, 1) := by decide +kernel
theorem dL_law_266 : decode cL_law 266 = .ok (.iaload, 1) := by decide +kernel
theorem dL_law_267 : decode cL_law 267 = .ok (.invokevirtual 28, 3) := by decide +kernel
theorem dL_law_270 : decode cL_law 270 = .ok (.aload_n 2, 1) := by decide +kernel
theorem dL_law_271 : decode cL_law 271 = .ok (.aload_n 0, 1) := by decide +kernel
theorem dL_law_272 : decode cL_law 272 = .ok (.iload_n 3, 1) := by decide +kernel
theorem dL_law_273 : decode cL_law 273 = .ok (.iconst 1, 1) := by decide +kernel
theorem dL_law_274 : decode cL_law 274 = .ok (.iadd, 1) := by decide +kernel
theorem dL_law_275 : decode cL_law 275 = .ok (.iaload, 1) := by decide +kernel
theorem dL_law_276 : decode cL_law 276 = .ok (.invokevirtual 32, 3) := by decide +kernel
theorem dL_law_279 : decode cL_law 279 = .ok (.if_icmp .eq 416, 3) := by decide +kernel
theorem dL_law_282 : decode cL_law 282 = .ok (.iconst 0, 1) := by decide +kernel
theorem dL_law_283 : decode cL_law 283 = .ok (.ireturn, 1) := by decide +kernel
theorem dL_law_284 : decode cL_law 284 = .ok (.aload_n 1, 1) := by decide +kernel
theorem dL_law_285 : decode cL_law 285 = .ok (.invokevirtual 33, 3) := by decide +kernel
theorem dL_law_288 : decode cL_law 288 = .ok (.aload_n 2, 1) := by decide +kernel
theorem dL_law_289 : decode cL_law 289 = .ok (.invokevirtual 37, 3) := by decide +kernel
theorem dL_law_292 : decode cL_law 292 = .ok (.if_icmp .eq 403, 3) := by decide +kernel
theorem dL_law_295 : decode cL_law 295 = .ok (.iconst 0, 1) := by decide +kernel
theorem dL_law_296 : decode cL_law 296 = .ok (.ireturn, 1) := by decide +kernel
theorem dL_law_297 : decode cL_law 297 = .ok (.aload_n 1, 1) := by decide +kernel
theorem dL_law_298 : decode cL_law 298 = .ok (.invokevirtual 38, 3) := by decide +kernel
theorem dL_law_301 : decode cL_law 301 = .ok (.aload_n 2, 1) := by decide +kernel
theorem dL_law_302 : decode cL_law 302 = .ok (.invokevirtual 41, 3) := by decide +kernel
theorem dL_law_305 : decode cL_law 305 = .ok (.if_icmp .eq 390, 3) := by decide +kernel
theorem dL_law_308 : decode cL_law 308 = .ok (.iconst 0, 1) := by decide +kernel
theorem dL_law_309 : decode cL_law 309 = .ok (.ireturn, 1) := by decide +kernel
theorem dL_law_310 : decode cL_law 310 = .ok (.aload_n 1, 1) := by decide +kernel
theorem dL_law_311 : decode cL_law 311 = .ok (.invokevirtual 42, 3) := by decide +kernel
theorem dL_law_314 : decode cL_law 314 = .ok (.aload_n 2, 1) := by decide +kernel
theorem dL_law_315 : decode cL_law 315 = .ok (.invokevirtual 45, 3) := by decide +kernel
theorem dL_law_318 : decode cL_law 318 = .ok (.if_icmp .eq 377, 3) := by decide +kernel
theorem dL_law_321 : decode cL_law 321 = .ok (.iconst 0, 1) := by decide +kernel
theorem dL_law_322 : decode cL_law 322 = .ok (.ireturn, 1) := by decide +kernel
theorem dL_law_323 : decode cL_law 323 = .ok (.aload_n 1, 1) := by decide +kernel
theorem dL_law_324 : decode cL_law 324 = .ok (.aload_n 0, 1) := by decide +kernel
theorem dL_law_325 : decode cL_law 325 = .ok (.iload_n 3, 1) := by decide +kernel
theorem dL_law_326 : decode cL_law 326 = .ok (.iconst 1, 1) := by decide +kernel
theorem dL_law_327 : decode cL_law 327 = .ok (.iadd, 1) := by decide +kernel
theorem dL_law_328 : decode cL_law 328 = .ok (.iaload, 1) := by decide +kernel
theorem dL_law_329 : decode cL_law 329 = .ok (.invokevirtual 46, 3) := by decide +kernel
theorem dL_law_332 : decode cL_law 332 = .ok (.aload_n 2, 1) := by decide +kernel
theorem dL_law_333 : decode cL_law 333 = .ok (.aload_n 0, 1) := by decide +kernel
theorem dL_law_334 : decode cL_law 334 = .ok (.iload_n 3, 1) := by decide +kernel
theorem dL_law_335 : decode cL_law 335 = .ok (.iconst 1, 1) := by decide +kernel
theorem dL_law_336 : decode cL_law 336 = .ok (.iadd, 1) := by decide +kernel
theorem dL_law_337 : decode cL_law 337 = .ok (.iaload, 1) := by decide +kernel
theorem dL_law_338 : decode cL_law 338 = .ok (.invokevirtual 49, 3) := by decide +kernel
theorem dL_law_341 : decode cL_law 341 = .ok (.if_icmp .eq 354, 3) := by decide +kernel
theorem dL_law_344 : decode cL_law 344 = .ok (.iconst 0, 1) := by decide +kernel
theorem dL_law_345 : decode cL_law 345 = .ok (.ireturn, 1) := by decide +kernel
theorem dL_law_346 : decode cL_law 346 = .ok (.aload_n 1, 1) := by decide +kernel
theorem dL_law_347 : decode cL_law 347 = .ok (.aload_n 0, 1) := by decide +kernel
theorem dL_law_348 : decode cL_law 348 = .ok (.iload_n 3, 1) := by decide +kernel
theorem dL_law_349 : decode cL_law 349 = .ok (.iconst 1, 1) := by decide +kernel
theorem dL_law_350 : decode cL_law 350 = .ok (.iadd, 1) := by decide +kernel
theorem dL_law_351 : decode cL_law 351 = .ok (.iaload, 1) := by decide +kernel
theorem dL_law_352 : decode cL_law 352 = .ok (.aload_n 0, 1) := by decide +kernel
theorem dL_law_353 : decode cL_law 353 = .ok (.iload_n 3, 1) := by decide +kernel
theorem dL_law_354 : decode cL_law 354 = .ok (.iconst 2, 1) := by decide +kernel
theorem dL_law_355 : decode cL_law 355 = .ok (.iadd, 1) := by decide +kernel
theorem dL_law_356 : decode cL_law 356 = .ok (.iaload, 1) := by decide +kernel
theorem dL_law_357 : decode cL_law 357 = .ok (.invokevirtual 50, 3) := by decide +kernel
theorem dL_law_360 : decode cL_law 360 = .ok (.aload_n 2, 1) := by decide +kernel
theorem dL_law_361 : decode cL_law 361 = .ok (.aload_n 0, 1) := by decide +kernel
theorem dL_law_362 : decode cL_law 362 = .ok (.iload_n 3, 1) := by decide +kernel
theorem dL_law_363 : decode cL_law 363 = .ok (.iconst 1, 1) := by decide +kernel
theorem dL_law_364 : decode cL_law 364 = .ok (.iadd, 1) := by decide +kernel
theorem dL_law_365 : decode cL_law 365 = .ok (.iaload, 1) := by decide +kernel
theorem dL_law_366 : decode cL_law 366 = .ok (.aload_n 0, 1) := by decide +kernel
theorem dL_law_367 : decode cL_law 367 = .ok (.iload_n 3, 1) := by decide +kernel
theorem dL_law_368 : decode cL_law 368 = .ok (.iconst 2, 1) := by decide +kernel
theorem dL_law_369 : decode cL_law 369 = .ok (.iadd, 1) := by decide +kernel
theorem dL_law_370 : decode cL_law 370 = .ok (.iaload, 1) := by decide +kernel
theorem dL_law_371 : decode cL_law 371 = .ok (.invokevirtual 53, 3) := by decide +kernel
theorem dL_law_374 : decode cL_law 374 = .ok (.if_icmp .eq 321, 3) := by decide +kernel
theorem dL_law_377 : decode cL_law 377 = .ok (.iconst 0, 1) := by decide +kernel
theorem dL_law_378 : decode cL_law 378 = .ok (.ireturn, 1) := by decide +kernel
theorem dL_law_379 : decode cL_law 379 = .ok (.aload_n 1, 1) := by decide +kernel
theorem dL_law_380 : decode cL_law 380 = .ok (.aload_n 0, 1) := by decide +kernel
theorem dL_law_381 : decode cL_law 381 = .ok (.iload_n 3, 1) := by decide +kernel
theorem dL_law_382 : decode cL_law 382 = .ok (.iconst 1, 1) := by decide +kernel
theorem dL_law_383 : decode cL_law 383 = .ok (.iadd, 1) := by decide +kernel
theorem dL_law_384 : decode cL_law 384 = .ok (.iaload, 1) := by decide +kernel
theorem dL_law_385 : decode cL_law 385 = .ok (.invokevirtual 54, 3) := by decide +kernel
theorem dL_law_388 : decode cL_law 388 = .ok (.aload_n 2, 1) := by decide +kernel
theorem dL_law_389 : decode cL_law 389 = .ok (.aload_n 0, 1) := by decide +kernel
theorem dL_law_390 : decode cL_law 390 = .ok (.iload_n 3, 1) := by decide +kernel
theorem dL_law_391 : decode cL_law 391 = .ok (.iconst 1, 1) := by decide +kernel
theorem dL_law_392 : decode cL_law 392 = .ok (.iadd, 1) := by decide +kernel
theorem dL_law_393 : decode cL_law 393 = .ok (.iaload, 1) := by decide +kernel
theorem dL_law_394 : decode cL_law 394 = .ok (.invokevirtual 57, 3) := by decide +kernel
theorem dL_law_397 : decode cL_law 397 = .ok (.if_icmp .eq 298, 3) := by decide +kernel
theorem dL_law_400 : decode cL_law 400 = .ok (.iconst 0, 1) := by decide +kernel
theorem dL_law_401 : decode cL_law 401 = .ok (.ireturn, 1) := by decide +kernel
theorem dL_law_402 : decode cL_law 402 = .ok (.aload_n 1, 1) := by decide +kernel
theorem dL_law_403 : decode cL_law 403 = .ok (.aload_n 0, 1) := by decide +kernel
theorem dL_law_404 : decode cL_law 404 = .ok (.iload_n 3, 1) := by decide +kernel
theorem dL_law_405 : decode cL_law 405 = .ok (.iconst 1, 1) := by decide +kernel
theorem dL_law_406 : decode cL_law 406 = .ok (.iadd, 1) := by decide +kernel
theorem dL_law_407 : decode cL_law 407 = .ok (.iaload, 1) := by decide +kernel
theorem dL_law_408 : decode cL_law 408 = .ok (.invokevirtual 58, 3) := by decide +kernel
theorem dL_law_411 : decode cL_law 411 = .ok (.aload_n 2, 1) := by decide +kernel
theorem dL_law_412 : decode cL_law 412 = .ok (.aload_n 0, 1) := by decide +kernel
theorem dL_law_413 : decode cL_law 413 = .ok (.iload_n 3, 1) := by decide +kernel
theorem dL_law_414 : decode cL_law 414 = .ok (.iconst 1, 1) := by decide +kernel
theorem dL_law_415 : decode cL_law 415 = .ok (.iadd, 1) := by decide +kernel
theorem dL_law_416 : decode cL_law 416 = .ok (.iaload, 1) := by decide +kernel
theorem dL_law_417 : decode cL_law 417 = .ok (.invokevirtual 61, 3) := by decide +kernel
theorem dL_law_420 : decode cL_law 420 = .ok (.if_icmp .eq 275, 3) := by decide +kernel
theorem dL_law_423 : decode cL_law 423 = .ok (.iconst 0, 1) := by decide +kernel
theorem dL_law_424 : decode cL_law 424 = .ok (.ireturn, 1) := by decide +kernel
theorem dL_law_425 : decode cL_law 425 = .ok (.aload_n 1, 1) := by decide +kernel
theorem dL_law_426 : decode cL_law 426 = .ok (.aload_n 0, 1) := by decide +kernel
theorem dL_law_427 : decode cL_law 427 = .ok (.iload_n 3, 1) := by decide +kernel
theorem dL_law_428 : decode cL_law 428 = .ok (.iconst 1, 1) := by decide +kernel
theorem dL_law_429 : decode cL_law 429 = .ok (.iadd, 1) := by decide +kernel
theorem dL_law_430 : decode cL_law 430 = .ok (.iaload, 1) := by decide +kernel
theorem dL_law_431 : decode cL_law 431 = .ok (.aload_n 0, 1) := by decide +kernel
theorem dL_law_432 : decode cL_law 432 = .ok (.iload_n 3, 1) := by decide +kernel
theorem dL_law_433 : decode cL_law 433 = .ok (.iconst 2, 1) := by decide +kernel
theorem dL_law_434 : decode cL_law 434 = .ok (.iadd, 1) := by decide +kernel
theorem dL_law_435 : decode cL_law 435 = .ok (.iaload, 1) := by decide +kernel
theorem dL_law_436 : decode cL_law 436 = .ok (.aload_n 0, 1) := by decide +kernel
theorem dL_law_437 : decode cL_law 437 = .ok (.iload_n 3, 1) := by decide +kernel
theorem dL_law_438 : decode cL_law 438 = .ok (.iconst 3, 1) := by decide +kernel
theorem dL_law_439 : decode cL_law 439 = .ok (.iadd, 1) := by decide +kernel
theorem dL_law_440 : decode cL_law 440 = .ok (.iaload, 1) := by decide +kernel
theorem dL_law_441 : decode cL_law 441 = .ok (.invokevirtual 62, 3) := by decide +kernel
theorem dL_law_444 : decode cL_law 444 = .ok (.aload_n 2, 1) := by decide +kernel
theorem dL_law_445 : decode cL_law 445 = .ok (.aload_n 0, 1) := by decide +kernel
theorem dL_law_446 : decode cL_law 446 = .ok (.iload_n 3, 1) := by decide +kernel
theorem dL_law_447 : decode cL_law 447 = .ok (.iconst 1, 1) := by decide +kernel
theorem dL_law_448 : decode cL_law 448 = .ok (.iadd, 1) := by decide +kernel
theorem dL_law_449 : decode cL_law 449 = .ok (.iaload, 1) := by decide +kernel
theorem dL_law_450 : decode cL_law 450 = .ok (.aload_n 0, 1) := by decide +kernel
theorem dL_law_451 : decode cL_law 451 = .ok (.iload_n 3, 1) := by decide +kernel
theorem dL_law_452 : decode cL_law 452 = .ok (.iconst 2, 1) := by decide +kernel
theorem dL_law_453 : decode cL_law 453 = .ok (.iadd, 1) := by decide +kernel
theorem dL_law_454 : decode cL_law 454 = .ok (.iaload, 1) := by decide +kernel
theorem dL_law_455 : decode cL_law 455 = .ok (.aload_n 0, 1) := by decide +kernel
theorem dL_law_456 : decode cL_law 456 = .ok (.iload_n 3, 1) := by decide +kernel
theorem dL_law_457 : decode cL_law 457 = .ok (.iconst 3, 1) := by decide +kernel
theorem dL_law_458 : decode cL_law 458 = .ok (.iadd, 1) := by decide +kernel
theorem dL_law_459 : decode cL_law 459 = .ok (.iaload, 1) := by decide +kernel
theorem dL_law_460 : decode cL_law 460 = .ok (.invokevirtual 65, 3) := by decide +kernel
theorem dL_law_463 : decode cL_law 463 = .ok (.if_icmp .eq 232, 3) := by decide +kernel
theorem dL_law_466 : decode cL_law 466 = .ok (.iconst 0, 1) := by decide +kernel
theorem dL_law_467 : decode cL_law 467 = .ok (.ireturn, 1) := by decide +kernel
theorem dL_law_468 : decode cL_law 468 = .ok (.aload_n 1, 1) := by decide +kernel
theorem dL_law_469 : decode cL_law 469 = .ok (.aload_n 0, 1) := by decide +kernel
theorem dL_law_470 : decode cL_law 470 = .ok (.iload_n 3, 1) := by decide +kernel
theorem dL_law_471 : decode cL_law 471 = .ok (.iconst 1, 1) := by decide +kernel
theorem dL_law_472 : decode cL_law 472 = .ok (.iadd, 1) := by decide +kernel
theorem dL_law_473 : decode cL_law 473 = .ok (.iaload, 1) := by decide +kernel
theorem dL_law_474 : decode cL_law 474 = .ok (.aload_n 0, 1) := by decide +kernel
theorem dL_law_475 : decode cL_law 475 = .ok (.iload_n 3, 1) := by decide +kernel
theorem dL_law_476 : decode cL_law 476 = .ok (.iconst 2, 1) := by decide +kernel
theorem dL_law_477 : decode cL_law 477 = .ok (.iadd, 1) := by decide +kernel
theorem dL_law_478 : decode cL_law 478 = .ok (.iaload, 1) := by decide +kernel
theorem dL_law_479 : decode cL_law 479 = .ok (.invokevirtual 66, 3) := by decide +kernel
theorem dL_law_482 : decode cL_law 482 = .ok (.aload_n 2, 1) := by decide +kernel
theorem dL_law_483 : decode cL_law 483 = .ok (.aload_n 0, 1) := by decide +kernel
theorem dL_law_484 : decode cL_law 484 = .ok (.iload_n 3, 1) := by decide +kernel
theorem dL_law_485 : decode cL_law 485 = .ok (.iconst 1, 1) := by decide +kernel
theorem dL_law_486 : decode cL_law 486 = .ok (.iadd, 1) := by decide +kernel
theorem dL_law_487 : decode cL_law 487 = .ok (.iaload, 1) := by decide +kernel
theorem dL_law_488 : decode cL_law 488 = .ok (.aload_n 0, 1) := by decide +kernel
theorem dL_law_489 : decode cL_law 489 = .ok (.iload_n 3, 1) := by decide +kernel
theorem dL_law_490 : decode cL_law 490 = .ok (.iconst 2, 1) := by decide +kernel
theorem dL_law_491 : decode cL_law 491 = .ok (.iadd, 1) := by decide +kernel
theorem dL_law_492 : decode cL_law 492 = .ok (.iaload, 1) := by decide +kernel
theorem dL_law_493 : decode cL_law 493 = .ok (.invokevirtual 69, 3) := by decide +kernel
theorem dL_law_496 : decode cL_law 496 = .ok (.if_icmp .eq 199, 3) := by decide +kernel
theorem dL_law_499 : decode cL_law 499 = .ok (.iconst 0, 1) := by decide +kernel
theorem dL_law_500 : decode cL_law 500 = .ok (.ireturn, 1) := by decide +kernel
theorem dL_law_501 : decode cL_law 501 = .ok (.aload_n 1, 1) := by decide +kernel
theorem dL_law_502 : decode cL_law 502 = .ok (.aload_n 0, 1) := by decide +kernel
theorem dL_law_503 : decode cL_law 503 = .ok (.iload_n 3, 1) := by decide +kernel
theorem dL_law_504 : decode cL_law 504 = .ok (.iconst 1, 1) := by decide +kernel
theorem dL_law_505 : decode cL_law 505 = .ok (.iadd, 1) := by decide +kernel
theorem dL_law_506 : decode cL_law 506 = .ok (.iaload, 1) := by decide +kernel
theorem dL_law_507 : decode cL_law 507 = .ok (.invokevirtual 70, 3) := by decide +kernel
theorem dL_law_510 : decode cL_law 510 = .ok (.aload_n 2, 1) := by decide +kernel
theorem dL_law_511 : decode cL_law 511 = .ok (.aload_n 0, 1) := by decide +kernel
theorem dL_law_512 : decode cL_law 512 = .ok (.iload_n 3, 1) := by decide +kernel
theorem dL_law_513 : decode cL_law 513 = .ok (.iconst 1, 1) := by decide +kernel
theorem dL_law_514 : decode cL_law 514 = .ok (.iadd, 1) := by decide +kernel
theorem dL_law_515 : decode cL_law 515 = .ok (.iaload, 1) := by decide +kernel
theorem dL_law_516 : decode cL_law 516 = .ok (.invokevirtual 73, 3) := by decide +kernel
theorem dL_law_519 : decode cL_law 519 = .ok (.if_icmp .eq 176, 3) := by decide +kernel
theorem dL_law_522 : decode cL_law 522 = .ok (.iconst 0, 1) := by decide +kernel
theorem dL_law_523 : decode cL_law 523 = .ok (.ireturn, 1) := by decide +kernel
theorem dL_law_524 : decode cL_law 524 = .ok (.aload_n 1, 1) := by decide +kernel
theorem dL_law_525 : decode cL_law 525 = .ok (.invokevirtual 74, 3) := by decide +kernel
theorem dL_law_528 : decode cL_law 528 = .ok (.aload_n 2, 1) := by decide +kernel
theorem dL_law_529 : decode cL_law 529 = .ok (.invokevirtual 77, 3) := by decide +kernel
theorem dL_law_532 : decode cL_law 532 = .ok (.if_icmp .eq 163, 3) := by decide +kernel
theorem dL_law_535 : decode cL_law 535 = .ok (.iconst 0, 1) := by decide +kernel
theorem dL_law_536 : decode cL_law 536 = .ok (.ireturn, 1) := by decide +kernel
theorem dL_law_537 : decode cL_law 537 = .ok (.aload_n 1, 1) := by decide +kernel
theorem dL_law_538 : decode cL_law 538 = .ok (.aload_n 0, 1) := by decide +kernel
theorem dL_law_539 : decode cL_law 539 = .ok (.iload_n 3, 1) := by decide +kernel
theorem dL_law_540 : decode cL_law 540 = .ok (.iconst 1, 1) := by decide +kernel
theorem dL_law_541 : decode cL_law 541 = .ok (.iadd, 1) := by decide +kernel
theorem dL_law_542 : decode cL_law 542 = .ok (.iaload, 1) := by decide +kernel
theorem dL_law_543 : decode cL_law 543 = .ok (.aload_n 0, 1) := by decide +kernel
theorem dL_law_544 : decode cL_law 544 = .ok (.iload_n 3, 1) := by decide +kernel
theorem dL_law_545 : decode cL_law 545 = .ok (.iconst 2, 1) := by decide +kernel
theorem dL_law_546 : decode cL_law 546 = .ok (.iadd, 1) := by decide +kernel
theorem dL_law_547 : decode cL_law 547 = .ok (.iaload, 1) := by decide +kernel
theorem dL_law_548 : decode cL_law 548 = .ok (.invokevirtual 78, 3) := by decide +kernel
theorem dL_law_551 : decode cL_law 551 = .ok (.aload_n 2, 1) := by decide +kernel
theorem dL_law_552 : decode cL_law 552 = .ok (.aload_n 0, 1) := by decide +kernel
theorem dL_law_553 : decode cL_law 553 = .ok (.iload_n 3, 1) := by decide +kernel
theorem dL_law_554 : decode cL_law 554 = .ok (.iconst 1, 1) := by decide +kernel
theorem dL_law_555 : decode cL_law 555 = .ok (.iadd, 1) := by decide +kernel
theorem dL_law_556 : decode cL_law 556 = .ok (.iaload, 1) := by decide +kernel
theorem dL_law_557 : decode cL_law 557 = .ok (.aload_n 0, 1) := by decide +kernel
theorem dL_law_558 : decode cL_law 558 = .ok (.iload_n 3, 1) := by decide +kernel
theorem dL_law_559 : decode cL_law 559 = .ok (.iconst 2, 1) := by decide +kernel
theorem dL_law_560 : decode cL_law 560 = .ok (.iadd, 1) := by decide +kernel
theorem dL_law_561 : decode cL_law 561 = .ok (.iaload, 1) := by decide +kernel
theorem dL_law_562 : decode cL_law 562 = .ok (.invokevirtual 81, 3) := by decide +kernel
theorem dL_law_565 : decode cL_law 565 = .ok (.if_icmp .eq 130, 3) := by decide +kernel
theorem dL_law_568 : decode cL_law 568 = .ok (.iconst 0, 1) := by decide +kernel
theorem dL_law_569 : decode cL_law 569 = .ok (.ireturn, 1) := by decide +kernel
theorem dL_law_570 : decode cL_law 570 = .ok (.aload_n 1, 1) := by decide +kernel
theorem dL_law_571 : decode cL_law 571 = .ok (.aload_n 0, 1) := by decide +kernel
theorem dL_law_572 : decode cL_law 572 = .ok (.iload_n 3, 1) := by decide +kernel
theorem dL_law_573 : decode cL_law 573 = .ok (.iconst 1, 1) := by decide +kernel
theorem dL_law_574 : decode cL_law 574 = .ok (.iadd, 1) := by decide +kernel
theorem dL_law_575 : decode cL_law 575 = .ok (.iaload, 1) := by decide +kernel
theorem dL_law_576 : decode cL_law 576 = .ok (.aload_n 0, 1) := by decide +kernel
theorem dL_law_577 : decode cL_law 577 = .ok (.iload_n 3, 1) := by decide +kernel
theorem dL_law_578 : decode cL_law 578 = .ok (.iconst 2, 1) := by decide +kernel
theorem dL_law_579 : decode cL_law 579 = .ok (.iadd, 1) := by decide +kernel
theorem dL_law_580 : decode cL_law 580 = .ok (.iaload, 1) := by decide +kernel
theorem dL_law_581 : decode cL_law 581 = .ok (.aload_n 0, 1) := by decide +kernel
theorem dL_law_582 : decode cL_law 582 = .ok (.iload_n 3, 1) := by decide +kernel
theorem dL_law_583 : decode cL_law 583 = .ok (.iconst 3, 1) := by decide +kernel
theorem dL_law_584 : decode cL_law 584 = .ok (.iadd, 1) := by decide +kernel
theorem dL_law_585 : decode cL_law 585 = .ok (.iaload, 1) := by decide +kernel
theorem dL_law_586 : decode cL_law 586 = .ok (.invokevirtual 82, 3) := by decide +kernel
theorem dL_law_589 : decode cL_law 589 = .ok (.aload_n 2, 1) := by decide +kernel
theorem dL_law_590 : decode cL_law 590 = .ok (.aload_n 0, 1) := by decide +kernel
theorem dL_law_591 : decode cL_law 591 = .ok (.iload_n 3, 1) := by decide +kernel
theorem dL_law_592 : decode cL_law 592 = .ok (.iconst 1, 1) := by decide +kernel
theorem dL_law_593 : decode cL_law 593 = .ok (.iadd, 1) := by decide +kernel
theorem dL_law_594 : decode cL_law 594 = .ok (.iaload, 1) := by decide +kernel
theorem dL_law_595 : decode cL_law 595 = .ok (.aload_n 0, 1) := by decide +kernel
theorem dL_law_596 : decode cL_law 596 = .ok (.iload_n 3, 1) := by decide +kernel
theorem dL_law_597 : decode cL_law 597 = .ok (.iconst 2, 1) := by decide +kernel
theorem dL_law_598 : decode cL_law 598 = .ok (.iadd, 1) := by decide +kernel
theorem dL_law_599 : decode cL_law 599 = .ok (.iaload, 1) := by decide +kernel
theorem dL_law_600 : decode cL_law 600 = .ok (.aload_n 0, 1) := by decide +kernel
theorem dL_law_601 : decode cL_law 601 = .ok (.iload_n 3, 1) := by decide +kernel
theorem dL_law_602 : decode cL_law 602 = .ok (.iconst 3, 1) := by decide +kernel
theorem dL_law_603 : decode cL_law 603 = .ok (.iadd, 1) := by decide +kernel
theorem dL_law_604 : decode cL_law 604 = .ok (.iaload, 1) := by decide +kernel
theorem dL_law_605 : decode cL_law 605 = .ok (.invokevirtual 85, 3) := by decide +kernel
theorem dL_law_608 : decode cL_law 608 = .ok (.if_icmp .eq 87, 3) := by decide +kernel
theorem dL_law_611 : decode cL_law 611 = .ok (.iconst 0, 1) := by decide +kernel
theorem dL_law_612 : decode cL_law 612 = .ok (.ireturn, 1) := by decide +kernel
theorem dL_law_613 : decode cL_law 613 = .ok (.aload_n 1, 1) := by decide +kernel
theorem dL_law_614 : decode cL_law 614 = .ok (.invokevirtual 86, 3) := by decide +kernel
theorem dL_law_617 : decode cL_law 617 = .ok (.aload_n 2, 1) := by decide +kernel
theorem dL_law_618 : decode cL_law 618 = .ok (.invokevirtual 89, 3) := by decide +kernel
theorem dL_law_621 : decode cL_law 621 = .ok (.if_icmp .eq 74, 3) := by decide +kernel
theorem dL_law_624 : decode cL_law 624 = .ok (.iconst 0, 1) := by decide +kernel
theorem dL_law_625 : decode cL_law 625 = .ok (.ireturn, 1) := by decide +kernel
theorem dL_law_626 : decode cL_law 626 = .ok (.aload_n 1, 1) := by decide +kernel
theorem dL_law_627 : decode cL_law 627 = .ok (.aload_n 0, 1) := by decide +kernel
theorem dL_law_628 : decode cL_law 628 = .ok (.iload_n 3, 1) := by decide +kernel
theorem dL_law_629 : decode cL_law 629 = .ok (.iconst 1, 1) := by decide +kernel
theorem dL_law_630 : decode cL_law 630 = .ok (.iadd, 1) := by decide +kernel
theorem dL_law_631 : decode cL_law 631 = .ok (.iaload, 1) := by decide +kernel
theorem dL_law_632 : decode cL_law 632 = .ok (.invokevirtual 90, 3) := by decide +kernel
theorem dL_law_635 : decode cL_law 635 = .ok (.aload_n 2, 1) := by decide +kernel
theorem dL_law_636 : decode cL_law 636 = .ok (.aload_n 0, 1) := by decide +kernel
theorem dL_law_637 : decode cL_law 637 = .ok (.iload_n 3, 1) := by decide +kernel
theorem dL_law_638 : decode cL_law 638 = .ok (.iconst 1, 1) := by decide +kernel
theorem dL_law_639 : decode cL_law 639 = .ok (.iadd, 1) := by decide +kernel
theorem dL_law_640 : decode cL_law 640 = .ok (.iaload, 1) := by decide +kernel
theorem dL_law_641 : decode cL_law 641 = .ok (.invokevirtual 93, 3) := by decide +kernel
theorem dL_law_644 : decode cL_law 644 = .ok (.if_icmp .eq 51, 3) := by decide +kernel
theorem dL_law_647 : decode cL_law 647 = .ok (.iconst 0, 1) := by decide +kernel
theorem dL_law_648 : decode cL_law 648 = .ok (.ireturn, 1) := by decide +kernel
theorem dL_law_649 : decode cL_law 649 = .ok (.aload_n 1, 1) := by decide +kernel
theorem dL_law_650 : decode cL_law 650 = .ok (.aload_n 0, 1) := by decide +kernel
theorem dL_law_651 : decode cL_law 651 = .ok (.iload_n 3, 1) := by decide +kernel
theorem dL_law_652 : decode cL_law 652 = .ok (.iconst 1, 1) := by decide +kernel
theorem dL_law_653 : decode cL_law 653 = .ok (.iadd, 1) := by decide +kernel
theorem dL_law_654 : decode cL_law 654 = .ok (.iaload, 1) := by decide +kernel
theorem dL_law_655 : decode cL_law 655 = .ok (.invokevirtual 94, 3) := by decide +kernel
theorem dL_law_658 : decode cL_law 658 = .ok (.aload_n 2, 1) := by decide +kernel
theorem dL_law_659 : decode cL_law 659 = .ok (.aload_n 0, 1) := by decide +kernel
theorem dL_law_660 : decode cL_law 660 = .ok (.iload_n 3, 1) := by decide +kernel
theorem dL_law_661 : decode cL_law 661 = .ok (.iconst 1, 1) := by decide +kernel
theorem dL_law_662 : decode cL_law 662 = .ok (.iadd, 1) := by decide +kernel
theorem dL_law_663 : decode cL_law 663 = .ok (.iaload, 1) := by decide +kernel
theorem dL_law_664 : decode cL_law 664 = .ok (.invokevirtual 97, 3) := by decide +kernel
theorem dL_law_667 : decode cL_law 667 = .ok (.if_icmp .eq 28, 3) := by decide +kernel
theorem dL_law_670 : decode cL_law 670 = .ok (.iconst 0, 1) := by decide +kernel
theorem dL_law_671 : decode cL_law 671 = .ok (.ireturn, 1) := by decide +kernel
theorem dL_law_672 : decode cL_law 672 = .ok (.aload_n 1, 1) := by decide +kernel
theorem dL_law_673 : decode cL_law 673 = .ok (.aload_n 0, 1) := by decide +kernel
theorem dL_law_674 : decode cL_law 674 = .ok (.iload_n 3, 1) := by decide +kernel
theorem dL_law_675 : decode cL_law 675 = .ok (.iconst 1, 1) := by decide +kernel
theorem dL_law_676 : decode cL_law 676 = .ok (.iadd, 1) := by decide +kernel
theorem dL_law_677 : decode cL_law 677 = .ok (.iaload, 1) := by decide +kernel
theorem dL_law_678 : decode cL_law 678 = .ok (.invokevirtual 98, 3) := by decide +kernel
theorem dL_law_681 : decode cL_law 681 = .ok (.aload_n 2, 1) := by decide +kernel
theorem dL_law_682 : decode cL_law 682 = .ok (.aload_n 0, 1) := by decide +kernel
theorem dL_law_683 : decode cL_law 683 = .ok (.iload_n 3, 1) := by decide +kernel
theorem dL_law_684 : decode cL_law 684 = .ok (.iconst 1, 1) := by decide +kernel
theorem dL_law_685 : decode cL_law 685 = .ok (.iadd, 1) := by decide +kernel
theorem dL_law_686 : decode cL_law 686 = .ok (.iaload, 1) := by decide +kernel
theorem dL_law_687 : decode cL_law 687 = .ok (.invokevirtual 101, 3) := by decide +kernel
theorem dL_law_690 : decode cL_law 690 = .ok (.if_icmp .eq 5, 3) := by decide +kernel
theorem dL_law_693 : decode cL_law 693 = .ok (.iconst 0, 1) := by decide +kernel
theorem dL_law_694 : decode cL_law 694 = .ok (.ireturn, 1) := by decide +kernel
theorem dL_law_695 : decode cL_law 695 = .ok (.iinc 3 5, 3) := by decide +kernel
theorem dL_law_698 : decode cL_law 698 = .ok (.goto (-680), 3) := by decide +kernel
theorem dL_law_701 : decode cL_law 701 = .ok (.iconst 1, 1) := by decide +kernel
theorem dL_law_702 : decode cL_law 702 = .ok (.ireturn, 1) := by decide +kernel
end
section
/-! THE SMALL MACHINE: what a method does to the 78 cells, told as a function of their ints; one row an instruction. -/
abbrev Hp : Type := Nat → Nat → Int32
/-- what one run of the law fixes: the launch, class numbers and slots, the cells' addresses, the class of int rows, the rows that nobody writes -/
abbrev GG : Type := Launch × va_G × (Nat → Nat) × ClassId × (Nat → Nat) × (Nat → Nat → Int32)
def ad (g : GG) (k : Nat) : Nat := g.2.2.1 k
abbrev gL (g : GG) : Launch := g.1
abbrev gD (g : GG) : va_G := g.2.1
abbrev gA (g : GG) : ClassId := g.2.2.2.1
def roN (g : GG) : Nat → Nat := g.2.2.2.2.1
def ro (g : GG) : Nat → Nat → Int32 := g.2.2.2.2.2
abbrev ShE : Type := Nat ⊕ (Nat × List (Option Nat))
/-- the 78 cells: a row of ints and its length, or an object: its class, its fields (an int, or the cell that it names) -/
def shl : List ShE := [
  .inr (8, [some 1, some 20, some 3, some 2, some 39, some 42, some 47, some 54, some 56, some 59]),
  .inr (2, [some 2, some 3, some 17]),
  .inr (0, [some 3, some 8, some 15, some 16]),
  .inr (3, [none, none, none, none, some 4, some 5, some 6, some 7]), .inl 6, .inl 6, .inl 6, .inl 6,
  .inr (4, [some 9, some 10, some 11, some 12, some 13, some 14]), .inl 6, .inl 6, .inl 6, .inl 6, .inl 6, .inl 6,
  .inl 203, .inl 1218,
  .inr (6, [none, none, some 18, some 19]), .inl 6, .inl 6,
  .inr (2, [some 21, some 22, some 36]),
  .inr (0, [some 22, some 27, some 34, some 35]),
  .inr (3, [none, none, none, none, some 23, some 24, some 25, some 26]), .inl 6, .inl 6, .inl 6, .inl 6,
  .inr (4, [some 28, some 29, some 30, some 31, some 32, some 33]), .inl 6, .inl 6, .inl 6, .inl 6, .inl 6, .inl 6,
  .inl 203, .inl 1218,
  .inr (6, [none, none, some 37, some 38]), .inl 6, .inl 6,
  .inr (7, [some 40, some 41]), .inl 609, .inl 609,
  .inr (1, [some 43, none, none, none, none, none, some 46]),
  .inr (6, [none, none, some 44, some 45]), .inl 6, .inl 6, .inl 501,
  .inr (4, [some 48, some 49, some 50, some 51, some 52, some 53]), .inl 6, .inl 6, .inl 6, .inl 6, .inl 6, .inl 6,
  .inr (5, [none, some 55]), .inl 20,
  .inr (6, [none, none, some 57, some 58]), .inl 6, .inl 6,
  .inr (6, [none, none, some 60, some 61]), .inl 6, .inl 6,
  .inr (9, [some 63, none, none, none, some 64, some 65, some 66, none, some 67, some 68, some 69, some 70, some 71, some 72, some 73, some 74, some 75, some 76, some 77, none, none]),
  .inl 24, .inl 6, .inl 6, .inl 20, .inl 8, .inl 6, .inl 6, .inl 6, .inl 6, .inl 6, .inl 6, .inl 6, .inl 6, .inl 6, .inl 501]
def fv (g : GG) (h : Hp) (k i : Nat) (f : Option Nat) : Value := match f with
  | none => .int (h k i)
  | some j => .ref (ad g j)
def cel (g : GG) (h : Hp) (k : Nat) (e : ShE) : va_E := match e with
  | .inl n => .inl (gA g, n, .inl (h k))
  | .inr o => .inr (o.1, o.2.mapIdx (fun i f => fv g h k i f))
def wl (g : GG) (h : Hp) : va_W := shl.mapIdx (fun k e => (ad g k, cel g h k e))
def hset (h : Hp) (o i : Nat) (x : Int32) : Hp := fun q => if q = o then upd (h o) i x else h q
theorem hset_same (h : Hp) (o i : Nat) (x : Int32) : hset h o i x o = upd (h o) i x := by simp [hset]
theorem hset_ne {h : Hp} {o i q : Nat} {x : Int32} (hq : ¬ q = o) : hset h o i x q = h q := by simp [hset, hq]
theorem wl_at {g : GG} {h : Hp} {k : Nat} {e : ShE} (hk : shl[k]? = some e) : (wl g h)[k]? = some (ad g k, cel g h k e) := by
  unfold wl
  rw [List.getElem?_mapIdx, hk]
  rfl
theorem wl_inv {g : GG} {h : Hp} {k : Nat} {q : Nat × va_E} (hk : (wl g h)[k]? = some q) : ∃ e, shl[k]? = some e ∧ q = (ad g k, cel g h k e) := by
  unfold wl at hk
  rw [List.getElem?_mapIdx] at hk
  cases he : shl[k]? with
  | none => rw [he] at hk; cases hk
  | some e =>
    rw [he] at hk
    exact ⟨e, rfl, (Option.some.inj hk).symm⟩
theorem cel_congr {g : GG} {h h' : Hp} {k : Nat} (hk : h k = h' k) (e : ShE) : cel g h k e = cel g h' k e := by
  cases e with
  | inl n => simp only [cel, hk]
  | inr o => simp only [cel, fv, hk]
theorem wl_len (g : GG) (h : Hp) : (wl g h).length = shl.length := by simp [wl]
theorem wl_ext {g : GG} {h' : Hp} {ws : va_W} (hl : ws.length = shl.length) (hw : ∀ k e, shl[k]? = some e → ws[k]? = some (ad g k, cel g h' k e)) : ws = wl g h' := by
  apply List.ext_getElem?
  intro k
  cases he : shl[k]? with
  | none =>
    have h1 : shl.length ≤ k := List.getElem?_eq_none_iff.mp he
    rw [List.getElem?_eq_none_iff.mpr (by omega), List.getElem?_eq_none_iff.mpr (by rw [wl_len]; omega)]
  | some e => rw [hw k e he, wl_at he]
theorem wl_set_arr {g : GG} {h : Hp} {o n i : Nat} {x : Int32} (ho : shl[o]? = some (.inl n)) : (wl g h).set o (ad g o, .inl (gA g, n, .inl (upd (h o) i x))) = wl g (hset h o i x) := by
  apply wl_ext (by rw [List.length_set, wl_len])
  intro k e he
  by_cases hk : k = o
  · subst hk
    rw [ho] at he
    cases he
    rw [List.getElem?_set_self (by rw [wl_len]; exact (List.getElem?_eq_some_iff.mp ho).1)]
    simp only [cel, hset_same]
  · rw [List.getElem?_set_ne (fun q => hk q.symm), wl_at he, cel_congr (hset_ne hk).symm]
theorem wl_set_fld {g : GG} {h : Hp} {o ci i : Nat} {fs : List (Option Nat)} {x : Int32} (ho : shl[o]? = some (.inr (ci, fs))) (hf : fs[i]? = some none) : (wl g h).set o (ad g o, .inr (ci, (fs.mapIdx (fun i f => fv g h o i f)).set i (.int x))) = wl g (hset h o i x) := by
  apply wl_ext (by rw [List.length_set, wl_len])
  intro k e he
  by_cases hk : k = o
  · subst hk
    rw [ho] at he
    cases he
    rw [List.getElem?_set_self (by rw [wl_len]; exact (List.getElem?_eq_some_iff.mp ho).1)]
    simp only [cel]
    refine congrArg (fun z => some (ad g k, Sum.inr (ci, z))) ?_
    apply List.ext_getElem?
    intro j
    by_cases hj : j = i
    · subst hj
      rw [List.getElem?_set_self (by rw [List.length_mapIdx]; exact (List.getElem?_eq_some_iff.mp hf).1), List.getElem?_mapIdx, hf]
      simp [fv, hset_same, upd]
    · rw [List.getElem?_set_ne (fun q => hj q.symm), List.getElem?_mapIdx, List.getElem?_mapIdx]
      cases fs[j]? with
      | none => rfl
      | some f =>
        cases f with
        | none => simp [fv, hset_same, upd, hj]
        | some q => rfl
  · rw [List.getElem?_set_ne (fun q => hk q.symm), wl_at he, cel_congr (hset_ne hk).symm]
theorem wl_D {g : GG} {h h' : Hp} {A : Nat → Prop} (hD : va_D A (wl g h)) : va_D A (wl g h') := by
  have key : ∀ (k : Nat) (q : Nat × va_E), (wl g h')[k]? = some q → ∃ q', (wl g h)[k]? = some q' ∧ q'.1 = q.1 := by
    intro k q hq
    obtain ⟨e, he, rfl⟩ := wl_inv hq
    exact ⟨_, wl_at he, rfl⟩
  refine ⟨fun i j a b ha hb hab => ?_, fun k q hk => ?_⟩
  · obtain ⟨a', ha', ea⟩ := key i a ha
    obtain ⟨b', hb', eb⟩ := key j b hb
    exact hD.1 i j a' b' ha' hb' (by rw [ea, eb, hab])
  · obtain ⟨q', hq', eq'⟩ := key k q hk
    rw [← eq']
    exact hD.2 k q' hq'
/-! a method: its name, code, locals, answer, class, the frames and words that it needs below -/
abbrev MI : Type := MethodName × ByteArray × Nat × Option FieldType × String × Nat × Nat
def lw_g : List Cond := lw_tbl.filter goodWord
theorem lw_g_good : ∀ w ∈ lw_g, goodWord w = true := fun w h => (List.mem_filter.mp h).2
theorem lw_g_in : ∀ w ∈ lw_g, w ∈ lw_tbl := fun w h => (List.mem_filter.mp h).1
def wNest : Cond := .fieldLinkNest "LandUnions$Parting" 44 "LandUnions" "WAYS" "[I" "LandUnions"
def ROk (g : GG) (A : Nat → Prop) (U : State) (H : Heap) : Prop :=
  va_Z "LandUnions" "PARTINGS" "[I" (.ref (ad g 1000)) A U H ∧ va_Z "LandUnions" "WAYS" "[I" (.ref (ad g 1001)) A U H ∧ (∀ k, 1000 ≤ k → k < 1003 → va_T .int (ad g k) (roN g k) (fun j => .int (ro g k j)) A U H) ∧ va_Nw wNest U
def Cx (g : GG) (mi : MI) (p : Program) (Rm : Room) (s : State) (m : MethodId) (args : Array Value) (meth : Method) (c : Code) (cells slots : Nat) (A : Nat → Prop) : Prop :=
  p.tables.exec = Jvm.exec ∧ c.code = mi.2.1 ∧ c.maxLocals = mi.2.2.1 ∧ s.vm.findClass mi.2.2.2.2.1 = some m.cls ∧ (∀ w ∈ lw_g, w.before args s = true) ∧ meth.sig.returnType = mi.2.2.2.1 ∧ meth.locks = false ∧ va_K (gD g) vwCl [(gA g, .int)] s ∧ ROk g A s s.heap ∧
  (mi.2.2.2.2.2.1 ≤ Rm.frames ∧ mi.2.2.2.2.2.2 ≤ Rm.locals ∧ cells ≤ Rm.cells ∧ slots ≤ Rm.slots) ∧ (∀ q, s.heap.size ≤ q → A q)
def Wo (g : GG) (A : Nat → Prop) (s : State) (h : Hp) (H : Heap) (locs : List Loc) : Prop := va_P (gD g) vwCl (wl g h) H ∧ va_D A (wl g h) ∧ va_S A s.heap H locs
def lvr (ls : Array Slot) (nL : Nat) (lv : List (Option Value)) : Prop := ls.size = nL ∧ lv_wf ls ∧ ∀ (i : Nat) (v : Value), lv[i]? = some (some v) → ls[i]? = some (.val v)
def RetI (mi : MI) (pc : Nat) (r : Option Value) : Prop :=
  (r = none ∧ decode mi.2.1 pc = .ok (.return_, 1) ∧ mi.2.2.2.1 = none) ∨ (∃ v ty, r = some (.int v) ∧ decode mi.2.1 pc = .ok (.ireturn, 1) ∧ mi.2.2.2.1 = some ty ∧ narrow ty (.int v) = .int v) ∨ ∃ a t, r = some (.ref a) ∧ decode mi.2.1 pc = .ok (.areturn, 1) ∧ mi.2.2.2.1 = some (.array t)
/-- from the instruction pc of the method mi, with these locals, this stack, these ints in the cells, it returns, and Q holds of the answer and the ints -/
def R (g : GG) (mi : MI) (pc : Nat) (lv : List (Option Value)) (st : List Value) (h : Hp) (Q : Option Value → Hp → Prop) : Prop :=
  ∀ (p : Program) (e : Env) (Rm : Room) (s : State) (m : MethodId) (args : Array Value) (below : List Frame) (meth : Method) (c : Code) (H : Heap) (locs : List Loc) (cells slots : Nat) (A : Nat → Prop) (Z : State → Prop) (ls : Array Slot),
    Cx g mi p Rm s m args meth c cells slots A → Wo g A s h H locs → lvr ls mi.2.2.1 lv →
    (∀ (r : Option Value) (h' : Hp) (H' : Heap) (locs' : List Loc) (pc' : Nat) (ls' : Array Slot), Q r h' → Wo g A s h' H' locs' → RetI mi pc' r → W p (gL g) e Rm s m args below meth c H' locs' cells slots Z (F0 m pc' ls' r.toList)) →
    W p (gL g) e Rm s m args below meth c H locs cells slots Z (F0 m pc ls st)
def lvl (lv : List (Option Value)) : List (Nat × Value) := (List.range lv.length).filterMap (fun j => match lv[j]? with
  | some (some v) => some (j, v)
  | _ => none)
theorem lvl_mem {lv : List (Option Value)} {j : Nat} {v : Value} : (j, v) ∈ lvl lv ↔ lv[j]? = some (some v) := by
  unfold lvl
  rw [List.mem_filterMap]
  constructor
  · rintro ⟨k, -, hk⟩
    split at hk
    next w hw => cases hk; exact hw
    next => cases hk
  · intro h
    refine ⟨j, List.mem_range.mpr (List.getElem?_eq_some_iff.mp h).1, ?_⟩
    rw [h]
theorem lvr_has {ls : Array Slot} {nL : Nat} {lv : List (Option Value)} (h : lvr ls nL lv) : lv_has ls nL (lvl lv) := ⟨h.1, h.2.1, fun q hq => h.2.2 q.1 q.2 (lvl_mem.mp hq)⟩
def cat1 (o : Option Value) : Bool := match o with
  | some v => v.category == 1
  | none => true
theorem lvr_back {ls : Array Slot} {nL i : Nat} {lv : List (Option Value)} {v : Value} (hp : ∀ j w, j + 1 = i → lv[j]? = some (some w) → w.category = 1) (h : lv_has ls nL ((i, v) :: (lvl lv).filter (fun q => !(q.1 == i) && !(q.1 + 1 == i && q.2.category == 2)))) : lvr ls nL (lv.set i (some v)) := by
  refine ⟨h.1, h.2.1, fun j w hj => ?_⟩
  by_cases hji : j = i
  · subst hji
    by_cases hlt : j < lv.length
    · rw [List.getElem?_set_self hlt] at hj
      cases hj
      exact h.2.2 (j, v) List.mem_cons_self
    · rw [List.getElem?_eq_none_iff.mpr (by rw [List.length_set]; omega)] at hj
      cases hj
  · rw [List.getElem?_set_ne (fun q => hji q.symm)] at hj
    refine h.2.2 (j, w) (List.mem_cons_of_mem _ (List.mem_filter.mpr ⟨lvl_mem.mpr hj, ?_⟩))
    by_cases hj2 : j + 1 = i
    · have := hp j w hj2 hj
      simp [hji, this]
    · simp [hji, hj2]
end
section
theorem hp_of {lv : List (Option Value)} {n : Nat} {a0 : Option Value} (h : lv[n]? = some a0) (ha : cat1 a0 = true) : ∀ (j : Nat) (w : Value), j + 1 = n + 1 → lv[j]? = some (some w) → w.category = 1 := by
  intro j w hj hw
  have e : j = n := by omega
  rw [e, h] at hw
  cases hw
  simpa [cat1] using ha
section RR
variable {g : GG} {mi : MI} {pc : Nat} {lv : List (Option Value)} {st : List Value} {h : Hp} {Q : Option Value → Hp → Prop}
theorem R.imp {Q' : Option Value → Hp → Prop} (hq : ∀ r h', Q' r h' → Q r h') (k : R g mi pc lv st h Q') : R g mi pc lv st h Q := by
  intro p e Rm s m args below meth c H locs cells slots A Z ls cx wo hl hret
  exact k p e Rm s m args below meth c H locs cells slots A Z ls cx wo hl (fun r h' H' locs' pc' ls' q => hret r h' H' locs' pc' ls' (hq r h' q))
theorem R.cast {pc' : Nat} {lv' : List (Option Value)} {st' : List Value} {h' : Hp} (k : R g mi pc' lv' st' h' Q) (e1 : pc = pc') (e2 : lv = lv') (e3 : st = st') (e4 : h = h') : R g mi pc lv st h Q := by
  subst e1; subst e2; subst e3; subst e4; exact k
theorem R.ret_v (hd : decode mi.2.1 pc = .ok (.return_, 1)) (ht : mi.2.2.2.1 = none) (hq : Q none h) : R g mi pc lv [] h Q := by
  intro p e Rm s m args below meth c H locs cells slots A Z ls cx wo hl hret
  exact hret none h H locs pc ls hq wo (Or.inl ⟨rfl, hd, ht⟩)
theorem R.ret_i {v : Int32} (hd : decode mi.2.1 pc = .ok (.ireturn, 1)) (ht : mi.2.2.2.1 = some .int) (hq : Q (some (.int v)) h) : R g mi pc lv [.int v] h Q := by
  intro p e Rm s m args below meth c H locs cells slots A Z ls cx wo hl hret
  exact hret (some (.int v)) h H locs pc ls hq wo (Or.inr (Or.inl ⟨v, .int, rfl, hd, ht, rfl⟩))
theorem R.ret_z {v : Int32} (hd : decode mi.2.1 pc = .ok (.ireturn, 1)) (ht : mi.2.2.2.1 = some .boolean) (hv : v = 0 ∨ v = 1) (hq : Q (some (.int v)) h) : R g mi pc lv [.int v] h Q := by
  intro p e Rm s m args below meth c H locs cells slots A Z ls cx wo hl hret
  exact hret (some (.int v)) h H locs pc ls hq wo (Or.inr (Or.inl ⟨v, .boolean, rfl, hd, ht, by rcases hv with rfl | rfl <;> rfl⟩))
theorem R.ret_a {a : Nat} {t : FieldType} (hd : decode mi.2.1 pc = .ok (.areturn, 1)) (ht : mi.2.2.2.1 = some (.array t)) (hq : Q (some (.ref a)) h) : R g mi pc lv [.ref a] h Q := by
  intro p e Rm s m args below meth c H locs cells slots A Z ls cx wo hl hret
  exact hret (some (.ref a)) h H locs pc ls hq wo (Or.inr (Or.inr ⟨a, t, rfl, hd, ht⟩))

theorem r_iconst {n : Int} {v : Int32} (hv : Int32.ofInt n = v) (hd : decode mi.2.1 pc = .ok (.iconst n, 1)) (k : R g mi (pc + 1) lv (.int v :: st) h Q) : R g mi pc lv (st) h Q := by
  intro p e Rm s m args below meth c H locs cells slots A Z ls cx wo hl hret
  exact lv_iconst cx.1 cx.2.1 hd hv (k p e Rm s m args below meth c H locs cells slots A Z ls cx wo hl hret)
theorem r_bipush {n : Int} {v : Int32} (hv : (Int8.ofInt n).toInt32 = v) (hd : decode mi.2.1 pc = .ok (.bipush n, 2)) (k : R g mi (pc + 2) lv (.int v :: st) h Q) : R g mi pc lv (st) h Q := by
  intro p e Rm s m args below meth c H locs cells slots A Z ls cx wo hl hret
  exact lv_bipush cx.1 cx.2.1 hd hv (k p e Rm s m args below meth c H locs cells slots A Z ls cx wo hl hret)
theorem r_sipush {n : Int} {v : Int32} (hv : (Int16.ofInt n).toInt32 = v) (hd : decode mi.2.1 pc = .ok (.sipush n, 3)) (k : R g mi (pc + 3) lv (.int v :: st) h Q) : R g mi pc lv (st) h Q := by
  intro p e Rm s m args below meth c H locs cells slots A Z ls cx wo hl hret
  exact lv_sipush cx.1 cx.2.1 hd hv (k p e Rm s m args below meth c H locs cells slots A Z ls cx wo hl hret)
theorem r_lconst {n : Fin 2} {v : Int64} (hv : Int64.ofNat (n : Nat) = v) (hd : decode mi.2.1 pc = .ok (.lconst n, 1)) (k : R g mi (pc + 1) lv (.long v :: st) h Q) : R g mi pc lv (st) h Q := by
  intro p e Rm s m args below meth c H locs cells slots A Z ls cx wo hl hret
  exact lv_lconst cx.1 cx.2.1 hd hv (k p e Rm s m args below meth c H locs cells slots A Z ls cx wo hl hret)
theorem r_ldc {index : Nat} {v : Int32} (hw : Cond.constant mi.2.2.2.2.1 index v ∈ lw_g) (hd : decode mi.2.1 pc = .ok (.ldc index, 2)) (k : R g mi (pc + 2) lv (.int v :: st) h Q) : R g mi pc lv (st) h Q := by
  intro p e Rm s m args below meth c H locs cells slots A Z ls cx wo hl hret
  exact lv_ldc cx.1 cx.2.1 cx.2.2.2.1 (cx.2.2.2.2.1 _ hw) hd (k p e Rm s m args below meth c H locs cells slots A Z ls cx wo hl hret)
theorem r_ldc2 {index : Nat} {v : Int64} (hw : Cond.constantLong mi.2.2.2.2.1 index v ∈ lw_g) (hd : decode mi.2.1 pc = .ok (.ldc2_w index, 3)) (k : R g mi (pc + 3) lv (.long v :: st) h Q) : R g mi pc lv (st) h Q := by
  intro p e Rm s m args below meth c H locs cells slots A Z ls cx wo hl hret
  exact lv_ldc2 cx.1 cx.2.1 cx.2.2.2.1 (cx.2.2.2.2.1 _ hw) hd (k p e Rm s m args below meth c H locs cells slots A Z ls cx wo hl hret)
theorem r_iload_n {n : Fin 4} {x : Int32} (hx : lv[(n : Nat)]? = some (some (.int x))) (hd : decode mi.2.1 pc = .ok (.iload_n n, 1)) (k : R g mi (pc + 1) lv (.int x :: st) h Q) : R g mi pc lv (st) h Q := by
  intro p e Rm s m args below meth c H locs cells slots A Z ls cx wo hl hret
  exact lv_iload_n cx.1 cx.2.1 hd rfl (hl.2.2 _ _ hx) (k p e Rm s m args below meth c H locs cells slots A Z ls cx wo hl hret)
theorem r_iload {n : Nat} {x : Int32} (hx : lv[n]? = some (some (.int x))) (hd : decode mi.2.1 pc = .ok (.iload n, 2)) (k : R g mi (pc + 2) lv (.int x :: st) h Q) : R g mi pc lv (st) h Q := by
  intro p e Rm s m args below meth c H locs cells slots A Z ls cx wo hl hret
  exact lv_iload cx.1 cx.2.1 hd (hl.2.2 _ _ hx) (k p e Rm s m args below meth c H locs cells slots A Z ls cx wo hl hret)
theorem r_lload_n {n : Fin 4} {x : Int64} (hx : lv[(n : Nat)]? = some (some (.long x))) (hd : decode mi.2.1 pc = .ok (.lload_n n, 1)) (k : R g mi (pc + 1) lv (.long x :: st) h Q) : R g mi pc lv (st) h Q := by
  intro p e Rm s m args below meth c H locs cells slots A Z ls cx wo hl hret
  exact lv_lload_n cx.1 cx.2.1 hd rfl (hl.2.2 _ _ hx) (k p e Rm s m args below meth c H locs cells slots A Z ls cx wo hl hret)
theorem r_lload {n : Nat} {x : Int64} (hx : lv[n]? = some (some (.long x))) (hd : decode mi.2.1 pc = .ok (.lload n, 2)) (k : R g mi (pc + 2) lv (.long x :: st) h Q) : R g mi pc lv (st) h Q := by
  intro p e Rm s m args below meth c H locs cells slots A Z ls cx wo hl hret
  exact lv_lload cx.1 cx.2.1 hd (hl.2.2 _ _ hx) (k p e Rm s m args below meth c H locs cells slots A Z ls cx wo hl hret)
theorem r_aload_n {n : Fin 4} {x : Nat} (hx : lv[(n : Nat)]? = some (some (.ref x))) (hd : decode mi.2.1 pc = .ok (.aload_n n, 1)) (k : R g mi (pc + 1) lv (.ref x :: st) h Q) : R g mi pc lv (st) h Q := by
  intro p e Rm s m args below meth c H locs cells slots A Z ls cx wo hl hret
  exact lv_aload_n cx.1 cx.2.1 hd rfl (hl.2.2 _ _ hx) (k p e Rm s m args below meth c H locs cells slots A Z ls cx wo hl hret)
theorem r_aload {n : Nat} {x : Nat} (hx : lv[n]? = some (some (.ref x))) (hd : decode mi.2.1 pc = .ok (.aload n, 2)) (k : R g mi (pc + 2) lv (.ref x :: st) h Q) : R g mi pc lv (st) h Q := by
  intro p e Rm s m args below meth c H locs cells slots A Z ls cx wo hl hret
  exact lv_aload cx.1 cx.2.1 hd (hl.2.2 _ _ hx) (k p e Rm s m args below meth c H locs cells slots A Z ls cx wo hl hret)
theorem r_iadd {x y : Int32} (hd : decode mi.2.1 pc = .ok (.iadd, 1)) (k : R g mi (pc + 1) lv (.int (x + y) :: st) h Q) : R g mi pc lv (.int y :: .int x :: st) h Q := by
  intro p e Rm s m args below meth c H locs cells slots A Z ls cx wo hl hret
  exact lv_iadd cx.1 cx.2.1 hd (k p e Rm s m args below meth c H locs cells slots A Z ls cx wo hl hret)
theorem r_isub {x y : Int32} (hd : decode mi.2.1 pc = .ok (.isub, 1)) (k : R g mi (pc + 1) lv (.int (x - y) :: st) h Q) : R g mi pc lv (.int y :: .int x :: st) h Q := by
  intro p e Rm s m args below meth c H locs cells slots A Z ls cx wo hl hret
  exact lv_isub cx.1 cx.2.1 hd (k p e Rm s m args below meth c H locs cells slots A Z ls cx wo hl hret)
theorem r_imul {x y : Int32} (hd : decode mi.2.1 pc = .ok (.imul, 1)) (k : R g mi (pc + 1) lv (.int (x * y) :: st) h Q) : R g mi pc lv (.int y :: .int x :: st) h Q := by
  intro p e Rm s m args below meth c H locs cells slots A Z ls cx wo hl hret
  exact lv_imul cx.1 cx.2.1 hd (k p e Rm s m args below meth c H locs cells slots A Z ls cx wo hl hret)
theorem r_iand {x y : Int32} (hd : decode mi.2.1 pc = .ok (.iand, 1)) (k : R g mi (pc + 1) lv (.int (x &&& y) :: st) h Q) : R g mi pc lv (.int y :: .int x :: st) h Q := by
  intro p e Rm s m args below meth c H locs cells slots A Z ls cx wo hl hret
  exact lv_iand cx.1 cx.2.1 hd (k p e Rm s m args below meth c H locs cells slots A Z ls cx wo hl hret)
theorem r_ior {x y : Int32} (hd : decode mi.2.1 pc = .ok (.ior, 1)) (k : R g mi (pc + 1) lv (.int (x ||| y) :: st) h Q) : R g mi pc lv (.int y :: .int x :: st) h Q := by
  intro p e Rm s m args below meth c H locs cells slots A Z ls cx wo hl hret
  exact lv_ior cx.1 cx.2.1 hd (k p e Rm s m args below meth c H locs cells slots A Z ls cx wo hl hret)
theorem r_ixor {x y : Int32} (hd : decode mi.2.1 pc = .ok (.ixor, 1)) (k : R g mi (pc + 1) lv (.int (x ^^^ y) :: st) h Q) : R g mi pc lv (.int y :: .int x :: st) h Q := by
  intro p e Rm s m args below meth c H locs cells slots A Z ls cx wo hl hret
  exact lv_ixor cx.1 cx.2.1 hd (k p e Rm s m args below meth c H locs cells slots A Z ls cx wo hl hret)
theorem r_ineg {x : Int32} (hd : decode mi.2.1 pc = .ok (.ineg, 1)) (k : R g mi (pc + 1) lv (.int (-x) :: st) h Q) : R g mi pc lv (.int x :: st) h Q := by
  intro p e Rm s m args below meth c H locs cells slots A Z ls cx wo hl hret
  exact lv_ineg cx.1 cx.2.1 hd (k p e Rm s m args below meth c H locs cells slots A Z ls cx wo hl hret)
theorem r_idiv {x y : Int32} (hne : ¬ y = 0) (hd : decode mi.2.1 pc = .ok (.idiv, 1)) (k : R g mi (pc + 1) lv (.int (x / y) :: st) h Q) : R g mi pc lv (.int y :: .int x :: st) h Q := by
  intro p e Rm s m args below meth c H locs cells slots A Z ls cx wo hl hret
  exact lv_idiv cx.1 cx.2.1 hd hne (k p e Rm s m args below meth c H locs cells slots A Z ls cx wo hl hret)
theorem r_irem {x y : Int32} (hne : ¬ y = 0) (hd : decode mi.2.1 pc = .ok (.irem, 1)) (k : R g mi (pc + 1) lv (.int (x - x / y * y) :: st) h Q) : R g mi pc lv (.int y :: .int x :: st) h Q := by
  intro p e Rm s m args below meth c H locs cells slots A Z ls cx wo hl hret
  exact lv_irem cx.1 cx.2.1 hd hne (k p e Rm s m args below meth c H locs cells slots A Z ls cx wo hl hret)
theorem r_ishl {x y : Int32} (hd : decode mi.2.1 pc = .ok (.ishl, 1)) (k : R g mi (pc + 1) lv (.int (x <<< (y &&& 31)) :: st) h Q) : R g mi pc lv (.int y :: .int x :: st) h Q := by
  intro p e Rm s m args below meth c H locs cells slots A Z ls cx wo hl hret
  exact lv_ishl cx.1 cx.2.1 hd (k p e Rm s m args below meth c H locs cells slots A Z ls cx wo hl hret)
theorem r_ishr {x y : Int32} (hd : decode mi.2.1 pc = .ok (.ishr, 1)) (k : R g mi (pc + 1) lv (.int (x >>> (y &&& 31)) :: st) h Q) : R g mi pc lv (.int y :: .int x :: st) h Q := by
  intro p e Rm s m args below meth c H locs cells slots A Z ls cx wo hl hret
  exact lv_ishr cx.1 cx.2.1 hd (k p e Rm s m args below meth c H locs cells slots A Z ls cx wo hl hret)
theorem r_i2l {x : Int32} (hd : decode mi.2.1 pc = .ok (.i2l, 1)) (k : R g mi (pc + 1) lv (.long x.toInt64 :: st) h Q) : R g mi pc lv (.int x :: st) h Q := by
  intro p e Rm s m args below meth c H locs cells slots A Z ls cx wo hl hret
  exact lv_i2l cx.1 cx.2.1 hd rfl (k p e Rm s m args below meth c H locs cells slots A Z ls cx wo hl hret)
theorem r_lcmp {x y : Int64} (hd : decode mi.2.1 pc = .ok (.lcmp, 1)) (k : R g mi (pc + 1) lv (.int (lg_cmp x y) :: st) h Q) : R g mi pc lv (.long y :: .long x :: st) h Q := by
  intro p e Rm s m args below meth c H locs cells slots A Z ls cx wo hl hret
  exact W.lcmp cx.1 cx.2.1 hd (k p e Rm s m args below meth c H locs cells slots A Z ls cx wo hl hret)
theorem r_dup {v : Value} (hv : v.category = 1) (hd : decode mi.2.1 pc = .ok (.dup, 1)) (k : R g mi (pc + 1) lv (v :: v :: st) h Q) : R g mi pc lv (v :: st) h Q := by
  intro p e Rm s m args below meth c H locs cells slots A Z ls cx wo hl hret
  exact lv_dup cx.1 cx.2.1 hd hv (k p e Rm s m args below meth c H locs cells slots A Z ls cx wo hl hret)
theorem r_dup2 {v u : Value} (hv : v.category = 1) (hu : u.category = 1) (hd : decode mi.2.1 pc = .ok (.dup2, 1)) (k : R g mi (pc + 1) lv (v :: u :: v :: u :: st) h Q) : R g mi pc lv (v :: u :: st) h Q := by
  intro p e Rm s m args below meth c H locs cells slots A Z ls cx wo hl hret
  exact lv_dup2_11 cx.1 cx.2.1 hd hv hu (k p e Rm s m args below meth c H locs cells slots A Z ls cx wo hl hret)
theorem r_goto {off : Int} (tgt : Nat) (hd : decode mi.2.1 pc = .ok (.goto off, 3)) (ht : (pc : Int) + off = (tgt : Int)) (k : R g mi tgt lv st h Q) : R g mi pc lv st h Q := by
  intro p e Rm s m args below meth c H locs cells slots A Z ls cx wo hl hret
  exact lv_goto cx.1 cx.2.1 hd ht (k p e Rm s m args below meth c H locs cells slots A Z ls cx wo hl hret)
theorem r_if_eq {x : Int32} {off : Int} (tgt : Nat) (hd : decode mi.2.1 pc = .ok (.ifCond .eq off, 3)) (ht : (pc : Int) + off = (tgt : Int)) (kt : x = 0 → R g mi tgt lv st h Q) (kf : ¬ x = 0 → R g mi (pc + 3) lv st h Q) : R g mi pc lv (.int x :: st) h Q := by
  intro p e Rm s m args below meth c H locs cells slots A Z ls cx wo hl hret
  exact lv_if_eq cx.1 cx.2.1 hd ht (fun q => kt q p e Rm s m args below meth c H locs cells slots A Z ls cx wo hl hret) (fun q => kf q p e Rm s m args below meth c H locs cells slots A Z ls cx wo hl hret)
theorem r_icmp_eq {x y : Int32} {off : Int} (tgt : Nat) (hd : decode mi.2.1 pc = .ok (.if_icmp .eq off, 3)) (ht : (pc : Int) + off = (tgt : Int)) (kt : x = y → R g mi tgt lv st h Q) (kf : ¬ x = y → R g mi (pc + 3) lv st h Q) : R g mi pc lv (.int y :: .int x :: st) h Q := by
  intro p e Rm s m args below meth c H locs cells slots A Z ls cx wo hl hret
  exact lv_icmp_eq cx.1 cx.2.1 hd ht (fun q => kt q p e Rm s m args below meth c H locs cells slots A Z ls cx wo hl hret) (fun q => kf q p e Rm s m args below meth c H locs cells slots A Z ls cx wo hl hret)
theorem r_if_ne {x : Int32} {off : Int} (tgt : Nat) (hd : decode mi.2.1 pc = .ok (.ifCond .ne off, 3)) (ht : (pc : Int) + off = (tgt : Int)) (kt : ¬ x = 0 → R g mi tgt lv st h Q) (kf : x = 0 → R g mi (pc + 3) lv st h Q) : R g mi pc lv (.int x :: st) h Q := by
  intro p e Rm s m args below meth c H locs cells slots A Z ls cx wo hl hret
  exact lv_if_ne cx.1 cx.2.1 hd ht (fun q => kt q p e Rm s m args below meth c H locs cells slots A Z ls cx wo hl hret) (fun q => kf q p e Rm s m args below meth c H locs cells slots A Z ls cx wo hl hret)
theorem r_icmp_ne {x y : Int32} {off : Int} (tgt : Nat) (hd : decode mi.2.1 pc = .ok (.if_icmp .ne off, 3)) (ht : (pc : Int) + off = (tgt : Int)) (kt : ¬ x = y → R g mi tgt lv st h Q) (kf : x = y → R g mi (pc + 3) lv st h Q) : R g mi pc lv (.int y :: .int x :: st) h Q := by
  intro p e Rm s m args below meth c H locs cells slots A Z ls cx wo hl hret
  exact lv_icmp_ne cx.1 cx.2.1 hd ht (fun q => kt q p e Rm s m args below meth c H locs cells slots A Z ls cx wo hl hret) (fun q => kf q p e Rm s m args below meth c H locs cells slots A Z ls cx wo hl hret)
theorem r_if_lt {x : Int32} {off : Int} (tgt : Nat) (hd : decode mi.2.1 pc = .ok (.ifCond .lt off, 3)) (ht : (pc : Int) + off = (tgt : Int)) (kt : x < 0 → R g mi tgt lv st h Q) (kf : ¬ x < 0 → R g mi (pc + 3) lv st h Q) : R g mi pc lv (.int x :: st) h Q := by
  intro p e Rm s m args below meth c H locs cells slots A Z ls cx wo hl hret
  exact lv_if_lt cx.1 cx.2.1 hd ht (fun q => kt q p e Rm s m args below meth c H locs cells slots A Z ls cx wo hl hret) (fun q => kf q p e Rm s m args below meth c H locs cells slots A Z ls cx wo hl hret)
theorem r_icmp_lt {x y : Int32} {off : Int} (tgt : Nat) (hd : decode mi.2.1 pc = .ok (.if_icmp .lt off, 3)) (ht : (pc : Int) + off = (tgt : Int)) (kt : x < y → R g mi tgt lv st h Q) (kf : ¬ x < y → R g mi (pc + 3) lv st h Q) : R g mi pc lv (.int y :: .int x :: st) h Q := by
  intro p e Rm s m args below meth c H locs cells slots A Z ls cx wo hl hret
  exact lv_icmp_lt cx.1 cx.2.1 hd ht (fun q => kt q p e Rm s m args below meth c H locs cells slots A Z ls cx wo hl hret) (fun q => kf q p e Rm s m args below meth c H locs cells slots A Z ls cx wo hl hret)
theorem r_if_ge {x : Int32} {off : Int} (tgt : Nat) (hd : decode mi.2.1 pc = .ok (.ifCond .ge off, 3)) (ht : (pc : Int) + off = (tgt : Int)) (kt : 0 ≤ x → R g mi tgt lv st h Q) (kf : ¬ 0 ≤ x → R g mi (pc + 3) lv st h Q) : R g mi pc lv (.int x :: st) h Q := by
  intro p e Rm s m args below meth c H locs cells slots A Z ls cx wo hl hret
  exact lv_if_ge cx.1 cx.2.1 hd ht (fun q => kt q p e Rm s m args below meth c H locs cells slots A Z ls cx wo hl hret) (fun q => kf q p e Rm s m args below meth c H locs cells slots A Z ls cx wo hl hret)
theorem r_icmp_ge {x y : Int32} {off : Int} (tgt : Nat) (hd : decode mi.2.1 pc = .ok (.if_icmp .ge off, 3)) (ht : (pc : Int) + off = (tgt : Int)) (kt : y ≤ x → R g mi tgt lv st h Q) (kf : ¬ y ≤ x → R g mi (pc + 3) lv st h Q) : R g mi pc lv (.int y :: .int x :: st) h Q := by
  intro p e Rm s m args below meth c H locs cells slots A Z ls cx wo hl hret
  exact lv_icmp_ge cx.1 cx.2.1 hd ht (fun q => kt q p e Rm s m args below meth c H locs cells slots A Z ls cx wo hl hret) (fun q => kf q p e Rm s m args below meth c H locs cells slots A Z ls cx wo hl hret)
theorem r_if_gt {x : Int32} {off : Int} (tgt : Nat) (hd : decode mi.2.1 pc = .ok (.ifCond .gt off, 3)) (ht : (pc : Int) + off = (tgt : Int)) (kt : 0 < x → R g mi tgt lv st h Q) (kf : ¬ 0 < x → R g mi (pc + 3) lv st h Q) : R g mi pc lv (.int x :: st) h Q := by
  intro p e Rm s m args below meth c H locs cells slots A Z ls cx wo hl hret
  exact lv_if_gt cx.1 cx.2.1 hd ht (fun q => kt q p e Rm s m args below meth c H locs cells slots A Z ls cx wo hl hret) (fun q => kf q p e Rm s m args below meth c H locs cells slots A Z ls cx wo hl hret)
theorem r_icmp_gt {x y : Int32} {off : Int} (tgt : Nat) (hd : decode mi.2.1 pc = .ok (.if_icmp .gt off, 3)) (ht : (pc : Int) + off = (tgt : Int)) (kt : y < x → R g mi tgt lv st h Q) (kf : ¬ y < x → R g mi (pc + 3) lv st h Q) : R g mi pc lv (.int y :: .int x :: st) h Q := by
  intro p e Rm s m args below meth c H locs cells slots A Z ls cx wo hl hret
  exact lv_icmp_gt cx.1 cx.2.1 hd ht (fun q => kt q p e Rm s m args below meth c H locs cells slots A Z ls cx wo hl hret) (fun q => kf q p e Rm s m args below meth c H locs cells slots A Z ls cx wo hl hret)
theorem r_if_le {x : Int32} {off : Int} (tgt : Nat) (hd : decode mi.2.1 pc = .ok (.ifCond .le off, 3)) (ht : (pc : Int) + off = (tgt : Int)) (kt : x ≤ 0 → R g mi tgt lv st h Q) (kf : ¬ x ≤ 0 → R g mi (pc + 3) lv st h Q) : R g mi pc lv (.int x :: st) h Q := by
  intro p e Rm s m args below meth c H locs cells slots A Z ls cx wo hl hret
  exact lv_if_le cx.1 cx.2.1 hd ht (fun q => kt q p e Rm s m args below meth c H locs cells slots A Z ls cx wo hl hret) (fun q => kf q p e Rm s m args below meth c H locs cells slots A Z ls cx wo hl hret)
theorem r_icmp_le {x y : Int32} {off : Int} (tgt : Nat) (hd : decode mi.2.1 pc = .ok (.if_icmp .le off, 3)) (ht : (pc : Int) + off = (tgt : Int)) (kt : x ≤ y → R g mi tgt lv st h Q) (kf : ¬ x ≤ y → R g mi (pc + 3) lv st h Q) : R g mi pc lv (.int y :: .int x :: st) h Q := by
  intro p e Rm s m args below meth c H locs cells slots A Z ls cx wo hl hret
  exact lv_icmp_le cx.1 cx.2.1 hd ht (fun q => kt q p e Rm s m args below meth c H locs cells slots A Z ls cx wo hl hret) (fun q => kf q p e Rm s m args below meth c H locs cells slots A Z ls cx wo hl hret)
theorem r_tsIn {dflt lo hi off : Int} {offs : Array Int} {len : Nat} {x : Int32} (tgt : Nat) (hd : decode mi.2.1 pc = .ok (.tableswitch dflt lo hi offs, len)) (h1 : ¬ x.toInt < lo) (h2 : ¬ hi < x.toInt) (ho : offs[(x.toInt - lo).toNat]? = some off) (ht : (pc : Int) + off = (tgt : Int)) (k : R g mi tgt lv st h Q) : R g mi pc lv (.int x :: st) h Q := by
  intro p e Rm s m args below meth c H locs cells slots A Z ls cx wo hl hret
  exact lv_tableIn cx.1 cx.2.1 hd h1 h2 ho ht (k p e Rm s m args below meth c H locs cells slots A Z ls cx wo hl hret)
theorem r_tsOut {dflt lo hi : Int} {offs : Array Int} {len : Nat} {x : Int32} (tgt : Nat) (hd : decode mi.2.1 pc = .ok (.tableswitch dflt lo hi offs, len)) (hx : x.toInt < lo ∨ hi < x.toInt) (ht : (pc : Int) + dflt = (tgt : Int)) (k : R g mi tgt lv st h Q) : R g mi pc lv (.int x :: st) h Q := by
  intro p e Rm s m args below meth c H locs cells slots A Z ls cx wo hl hret
  exact lv_tableOut cx.1 cx.2.1 hd hx ht (k p e Rm s m args below meth c H locs cells slots A Z ls cx wo hl hret)
theorem r_istore_n {n : Fin 4} {x : Int32} (hn : (n : Nat) < mi.2.2.1) (hp : ∀ j w, j + 1 = (n : Nat) → lv[j]? = some (some w) → w.category = 1) (hd : decode mi.2.1 pc = .ok (.istore_n n, 1)) (k : R g mi (pc + 1) (lv.set n (some (.int x))) st h Q) : R g mi pc lv (.int x :: st) h Q := by
  intro p e Rm s m args below meth c H locs cells slots A Z ls cx wo hl hret
  exact lv_istore_n cx.1 cx.2.1 hd rfl (lvr_has hl) hn rfl (fun ls2 hl2 => k p e Rm s m args below meth c H locs cells slots A Z ls2 cx wo (lvr_back hp hl2) hret)
theorem r_istore {n : Nat} {x : Int32} (hn : n < mi.2.2.1) (hp : ∀ j w, j + 1 = n → lv[j]? = some (some w) → w.category = 1) (hd : decode mi.2.1 pc = .ok (.istore n, 2)) (k : R g mi (pc + 2) (lv.set n (some (.int x))) st h Q) : R g mi pc lv (.int x :: st) h Q := by
  intro p e Rm s m args below meth c H locs cells slots A Z ls cx wo hl hret
  exact lv_istore cx.1 cx.2.1 hd (lvr_has hl) hn rfl (fun ls2 hl2 => k p e Rm s m args below meth c H locs cells slots A Z ls2 cx wo (lvr_back hp hl2) hret)
theorem r_astore_n {n : Fin 4} {x : Nat} (hn : (n : Nat) < mi.2.2.1) (hp : ∀ j w, j + 1 = (n : Nat) → lv[j]? = some (some w) → w.category = 1) (hd : decode mi.2.1 pc = .ok (.astore_n n, 1)) (k : R g mi (pc + 1) (lv.set n (some (.ref x))) st h Q) : R g mi pc lv (.ref x :: st) h Q := by
  intro p e Rm s m args below meth c H locs cells slots A Z ls cx wo hl hret
  exact lv_astore_n cx.1 cx.2.1 hd rfl (lvr_has hl) hn rfl (fun ls2 hl2 => k p e Rm s m args below meth c H locs cells slots A Z ls2 cx wo (lvr_back hp hl2) hret)
theorem r_iinc {n : Nat} {z : Int} {x v : Int32} (hn : n < mi.2.2.1) (hp : ∀ j w, j + 1 = n → lv[j]? = some (some w) → w.category = 1) (hx : lv[n]? = some (some (.int x))) (hv : x + Int32.ofInt z = v) (hd : decode mi.2.1 pc = .ok (.iinc n z, 3)) (k : R g mi (pc + 3) (lv.set n (some (.int v))) st h Q) : R g mi pc lv st h Q := by
  intro p e Rm s m args below meth c H locs cells slots A Z ls cx wo hl hret
  obtain ⟨q, hq⟩ := List.getElem?_of_mem (lvl_mem.mpr hx)
  exact lv_iinc cx.1 cx.2.1 hd (lvr_has hl) hq hv hn rfl (fun ls2 hl2 => k p e Rm s m args below meth c H locs cells slots A Z ls2 cx wo (lvr_back hp hl2) hret)
theorem r_ist0 { z0 : Option Value} {lt : List (Option Value)} {x : Int32} (hn : 0 < mi.2.2.1) (hd : decode mi.2.1 pc = .ok (.istore_n 0, 1)) (k : R g mi (pc + 1) (some (.int x) :: lt) st h Q) : R g mi pc (z0 :: lt) (.int x :: st) h Q :=
  r_istore_n (n := 0) hn (fun j w q _ => absurd q (by show ¬ j + 1 = 0; omega)) hd k
theorem r_inc0 {lt : List (Option Value)} {z : Int} {x v : Int32} (hn : 0 < mi.2.2.1) (hv : x + Int32.ofInt z = v) (hd : decode mi.2.1 pc = .ok (.iinc 0 z, 3)) (k : R g mi (pc + 3) (some (.int v) :: lt) st h Q) : R g mi pc (some (.int x) :: lt) st h Q :=
  r_iinc (n := 0) hn (fun j w q _ => absurd q (by show ¬ j + 1 = 0; omega)) rfl hv hd k
theorem r_ist1 {a0 z0 : Option Value} {lt : List (Option Value)} {x : Int32} (ha : cat1 a0 = true) (hn : 1 < mi.2.2.1) (hd : decode mi.2.1 pc = .ok (.istore_n 1, 1)) (k : R g mi (pc + 1) (a0 :: some (.int x) :: lt) st h Q) : R g mi pc (a0 :: z0 :: lt) (.int x :: st) h Q :=
  r_istore_n (n := 1) hn (hp_of (n := 0) rfl ha) hd k
theorem r_ast1 {a0 z0 : Option Value} {lt : List (Option Value)} {x : Nat} (ha : cat1 a0 = true) (hn : 1 < mi.2.2.1) (hd : decode mi.2.1 pc = .ok (.astore_n 1, 1)) (k : R g mi (pc + 1) (a0 :: some (.ref x) :: lt) st h Q) : R g mi pc (a0 :: z0 :: lt) (.ref x :: st) h Q :=
  r_astore_n (n := 1) hn (hp_of (n := 0) rfl ha) hd k
theorem r_inc1 {a0 : Option Value} {lt : List (Option Value)} {z : Int} {x v : Int32} (ha : cat1 a0 = true) (hn : 1 < mi.2.2.1) (hv : x + Int32.ofInt z = v) (hd : decode mi.2.1 pc = .ok (.iinc 1 z, 3)) (k : R g mi (pc + 3) (a0 :: some (.int v) :: lt) st h Q) : R g mi pc (a0 :: some (.int x) :: lt) st h Q :=
  r_iinc (n := 1) hn (hp_of (n := 0) rfl ha) rfl hv hd k
theorem r_ist2 {a0 b0 z0 : Option Value} {lt : List (Option Value)} {x : Int32} (ha : cat1 b0 = true) (hn : 2 < mi.2.2.1) (hd : decode mi.2.1 pc = .ok (.istore_n 2, 1)) (k : R g mi (pc + 1) (a0 :: b0 :: some (.int x) :: lt) st h Q) : R g mi pc (a0 :: b0 :: z0 :: lt) (.int x :: st) h Q :=
  r_istore_n (n := 2) hn (hp_of (n := 1) rfl ha) hd k
theorem r_ast2 {a0 b0 z0 : Option Value} {lt : List (Option Value)} {x : Nat} (ha : cat1 b0 = true) (hn : 2 < mi.2.2.1) (hd : decode mi.2.1 pc = .ok (.astore_n 2, 1)) (k : R g mi (pc + 1) (a0 :: b0 :: some (.ref x) :: lt) st h Q) : R g mi pc (a0 :: b0 :: z0 :: lt) (.ref x :: st) h Q :=
  r_astore_n (n := 2) hn (hp_of (n := 1) rfl ha) hd k
theorem r_inc2 {a0 b0 : Option Value} {lt : List (Option Value)} {z : Int} {x v : Int32} (ha : cat1 b0 = true) (hn : 2 < mi.2.2.1) (hv : x + Int32.ofInt z = v) (hd : decode mi.2.1 pc = .ok (.iinc 2 z, 3)) (k : R g mi (pc + 3) (a0 :: b0 :: some (.int v) :: lt) st h Q) : R g mi pc (a0 :: b0 :: some (.int x) :: lt) st h Q :=
  r_iinc (n := 2) hn (hp_of (n := 1) rfl ha) rfl hv hd k
theorem r_ist3 {a0 b0 c0 z0 : Option Value} {lt : List (Option Value)} {x : Int32} (ha : cat1 c0 = true) (hn : 3 < mi.2.2.1) (hd : decode mi.2.1 pc = .ok (.istore_n 3, 1)) (k : R g mi (pc + 1) (a0 :: b0 :: c0 :: some (.int x) :: lt) st h Q) : R g mi pc (a0 :: b0 :: c0 :: z0 :: lt) (.int x :: st) h Q :=
  r_istore_n (n := 3) hn (hp_of (n := 2) rfl ha) hd k
theorem r_inc3 {a0 b0 c0 : Option Value} {lt : List (Option Value)} {z : Int} {x v : Int32} (ha : cat1 c0 = true) (hn : 3 < mi.2.2.1) (hv : x + Int32.ofInt z = v) (hd : decode mi.2.1 pc = .ok (.iinc 3 z, 3)) (k : R g mi (pc + 3) (a0 :: b0 :: c0 :: some (.int v) :: lt) st h Q) : R g mi pc (a0 :: b0 :: c0 :: some (.int x) :: lt) st h Q :=
  r_iinc (n := 3) hn (hp_of (n := 2) rfl ha) rfl hv hd k
theorem r_ist4 {a0 b0 c0 d0 z0 : Option Value} {lt : List (Option Value)} {x : Int32} (ha : cat1 d0 = true) (hn : 4 < mi.2.2.1) (hd : decode mi.2.1 pc = .ok (.istore 4, 2)) (k : R g mi (pc + 2) (a0 :: b0 :: c0 :: d0 :: some (.int x) :: lt) st h Q) : R g mi pc (a0 :: b0 :: c0 :: d0 :: z0 :: lt) (.int x :: st) h Q :=
  r_istore (n := 4) hn (hp_of (n := 3) rfl ha) hd k
theorem r_inc4 {a0 b0 c0 d0 : Option Value} {lt : List (Option Value)} {z : Int} {x v : Int32} (ha : cat1 d0 = true) (hn : 4 < mi.2.2.1) (hv : x + Int32.ofInt z = v) (hd : decode mi.2.1 pc = .ok (.iinc 4 z, 3)) (k : R g mi (pc + 3) (a0 :: b0 :: c0 :: d0 :: some (.int v) :: lt) st h Q) : R g mi pc (a0 :: b0 :: c0 :: d0 :: some (.int x) :: lt) st h Q :=
  r_iinc (n := 4) hn (hp_of (n := 3) rfl ha) rfl hv hd k
theorem r_ist5 {a0 b0 c0 d0 e0 z0 : Option Value} {lt : List (Option Value)} {x : Int32} (ha : cat1 e0 = true) (hn : 5 < mi.2.2.1) (hd : decode mi.2.1 pc = .ok (.istore 5, 2)) (k : R g mi (pc + 2) (a0 :: b0 :: c0 :: d0 :: e0 :: some (.int x) :: lt) st h Q) : R g mi pc (a0 :: b0 :: c0 :: d0 :: e0 :: z0 :: lt) (.int x :: st) h Q :=
  r_istore (n := 5) hn (hp_of (n := 4) rfl ha) hd k
theorem r_inc5 {a0 b0 c0 d0 e0 : Option Value} {lt : List (Option Value)} {z : Int} {x v : Int32} (ha : cat1 e0 = true) (hn : 5 < mi.2.2.1) (hv : x + Int32.ofInt z = v) (hd : decode mi.2.1 pc = .ok (.iinc 5 z, 3)) (k : R g mi (pc + 3) (a0 :: b0 :: c0 :: d0 :: e0 :: some (.int v) :: lt) st h Q) : R g mi pc (a0 :: b0 :: c0 :: d0 :: e0 :: some (.int x) :: lt) st h Q :=
  r_iinc (n := 5) hn (hp_of (n := 4) rfl ha) rfl hv hd k
theorem r_ist6 {a0 b0 c0 d0 e0 f0 z0 : Option Value} {lt : List (Option Value)} {x : Int32} (ha : cat1 f0 = true) (hn : 6 < mi.2.2.1) (hd : decode mi.2.1 pc = .ok (.istore 6, 2)) (k : R g mi (pc + 2) (a0 :: b0 :: c0 :: d0 :: e0 :: f0 :: some (.int x) :: lt) st h Q) : R g mi pc (a0 :: b0 :: c0 :: d0 :: e0 :: f0 :: z0 :: lt) (.int x :: st) h Q :=
  r_istore (n := 6) hn (hp_of (n := 5) rfl ha) hd k
theorem r_inc6 {a0 b0 c0 d0 e0 f0 : Option Value} {lt : List (Option Value)} {z : Int} {x v : Int32} (ha : cat1 f0 = true) (hn : 6 < mi.2.2.1) (hv : x + Int32.ofInt z = v) (hd : decode mi.2.1 pc = .ok (.iinc 6 z, 3)) (k : R g mi (pc + 3) (a0 :: b0 :: c0 :: d0 :: e0 :: f0 :: some (.int v) :: lt) st h Q) : R g mi pc (a0 :: b0 :: c0 :: d0 :: e0 :: f0 :: some (.int x) :: lt) st h Q :=
  r_iinc (n := 6) hn (hp_of (n := 5) rfl ha) rfl hv hd k
theorem r_ist7 {a0 b0 c0 d0 e0 f0 g0 z0 : Option Value} {lt : List (Option Value)} {x : Int32} (ha : cat1 g0 = true) (hn : 7 < mi.2.2.1) (hd : decode mi.2.1 pc = .ok (.istore 7, 2)) (k : R g mi (pc + 2) (a0 :: b0 :: c0 :: d0 :: e0 :: f0 :: g0 :: some (.int x) :: lt) st h Q) : R g mi pc (a0 :: b0 :: c0 :: d0 :: e0 :: f0 :: g0 :: z0 :: lt) (.int x :: st) h Q :=
  r_istore (n := 7) hn (hp_of (n := 6) rfl ha) hd k
theorem r_inc7 {a0 b0 c0 d0 e0 f0 g0 : Option Value} {lt : List (Option Value)} {z : Int} {x v : Int32} (ha : cat1 g0 = true) (hn : 7 < mi.2.2.1) (hv : x + Int32.ofInt z = v) (hd : decode mi.2.1 pc = .ok (.iinc 7 z, 3)) (k : R g mi (pc + 3) (a0 :: b0 :: c0 :: d0 :: e0 :: f0 :: g0 :: some (.int v) :: lt) st h Q) : R g mi pc (a0 :: b0 :: c0 :: d0 :: e0 :: f0 :: g0 :: some (.int x) :: lt) st h Q :=
  r_iinc (n := 7) hn (hp_of (n := 6) rfl ha) rfl hv hd k
theorem r_ist8 {a0 b0 c0 d0 e0 f0 g0 h0 z0 : Option Value} {lt : List (Option Value)} {x : Int32} (ha : cat1 h0 = true) (hn : 8 < mi.2.2.1) (hd : decode mi.2.1 pc = .ok (.istore 8, 2)) (k : R g mi (pc + 2) (a0 :: b0 :: c0 :: d0 :: e0 :: f0 :: g0 :: h0 :: some (.int x) :: lt) st h Q) : R g mi pc (a0 :: b0 :: c0 :: d0 :: e0 :: f0 :: g0 :: h0 :: z0 :: lt) (.int x :: st) h Q :=
  r_istore (n := 8) hn (hp_of (n := 7) rfl ha) hd k
theorem r_inc8 {a0 b0 c0 d0 e0 f0 g0 h0 : Option Value} {lt : List (Option Value)} {z : Int} {x v : Int32} (ha : cat1 h0 = true) (hn : 8 < mi.2.2.1) (hv : x + Int32.ofInt z = v) (hd : decode mi.2.1 pc = .ok (.iinc 8 z, 3)) (k : R g mi (pc + 3) (a0 :: b0 :: c0 :: d0 :: e0 :: f0 :: g0 :: h0 :: some (.int v) :: lt) st h Q) : R g mi pc (a0 :: b0 :: c0 :: d0 :: e0 :: f0 :: g0 :: h0 :: some (.int x) :: lt) st h Q :=
  r_iinc (n := 8) hn (hp_of (n := 7) rfl ha) rfl hv hd k
theorem r_ist9 {a0 b0 c0 d0 e0 f0 g0 h0 i0 z0 : Option Value} {lt : List (Option Value)} {x : Int32} (ha : cat1 i0 = true) (hn : 9 < mi.2.2.1) (hd : decode mi.2.1 pc = .ok (.istore 9, 2)) (k : R g mi (pc + 2) (a0 :: b0 :: c0 :: d0 :: e0 :: f0 :: g0 :: h0 :: i0 :: some (.int x) :: lt) st h Q) : R g mi pc (a0 :: b0 :: c0 :: d0 :: e0 :: f0 :: g0 :: h0 :: i0 :: z0 :: lt) (.int x :: st) h Q :=
  r_istore (n := 9) hn (hp_of (n := 8) rfl ha) hd k
theorem r_inc9 {a0 b0 c0 d0 e0 f0 g0 h0 i0 : Option Value} {lt : List (Option Value)} {z : Int} {x v : Int32} (ha : cat1 i0 = true) (hn : 9 < mi.2.2.1) (hv : x + Int32.ofInt z = v) (hd : decode mi.2.1 pc = .ok (.iinc 9 z, 3)) (k : R g mi (pc + 3) (a0 :: b0 :: c0 :: d0 :: e0 :: f0 :: g0 :: h0 :: i0 :: some (.int v) :: lt) st h Q) : R g mi pc (a0 :: b0 :: c0 :: d0 :: e0 :: f0 :: g0 :: h0 :: i0 :: some (.int x) :: lt) st h Q :=
  r_iinc (n := 9) hn (hp_of (n := 8) rfl ha) rfl hv hd k
theorem r_ist10 {a0 b0 c0 d0 e0 f0 g0 h0 i0 j0 z0 : Option Value} {lt : List (Option Value)} {x : Int32} (ha : cat1 j0 = true) (hn : 10 < mi.2.2.1) (hd : decode mi.2.1 pc = .ok (.istore 10, 2)) (k : R g mi (pc + 2) (a0 :: b0 :: c0 :: d0 :: e0 :: f0 :: g0 :: h0 :: i0 :: j0 :: some (.int x) :: lt) st h Q) : R g mi pc (a0 :: b0 :: c0 :: d0 :: e0 :: f0 :: g0 :: h0 :: i0 :: j0 :: z0 :: lt) (.int x :: st) h Q :=
  r_istore (n := 10) hn (hp_of (n := 9) rfl ha) hd k
theorem r_inc10 {a0 b0 c0 d0 e0 f0 g0 h0 i0 j0 : Option Value} {lt : List (Option Value)} {z : Int} {x v : Int32} (ha : cat1 j0 = true) (hn : 10 < mi.2.2.1) (hv : x + Int32.ofInt z = v) (hd : decode mi.2.1 pc = .ok (.iinc 10 z, 3)) (k : R g mi (pc + 3) (a0 :: b0 :: c0 :: d0 :: e0 :: f0 :: g0 :: h0 :: i0 :: j0 :: some (.int v) :: lt) st h Q) : R g mi pc (a0 :: b0 :: c0 :: d0 :: e0 :: f0 :: g0 :: h0 :: i0 :: j0 :: some (.int x) :: lt) st h Q :=
  r_iinc (n := 10) hn (hp_of (n := 9) rfl ha) rfl hv hd k
theorem r_ist11 {a0 b0 c0 d0 e0 f0 g0 h0 i0 j0 k0 z0 : Option Value} {lt : List (Option Value)} {x : Int32} (ha : cat1 k0 = true) (hn : 11 < mi.2.2.1) (hd : decode mi.2.1 pc = .ok (.istore 11, 2)) (k : R g mi (pc + 2) (a0 :: b0 :: c0 :: d0 :: e0 :: f0 :: g0 :: h0 :: i0 :: j0 :: k0 :: some (.int x) :: lt) st h Q) : R g mi pc (a0 :: b0 :: c0 :: d0 :: e0 :: f0 :: g0 :: h0 :: i0 :: j0 :: k0 :: z0 :: lt) (.int x :: st) h Q :=
  r_istore (n := 11) hn (hp_of (n := 10) rfl ha) hd k
theorem r_inc11 {a0 b0 c0 d0 e0 f0 g0 h0 i0 j0 k0 : Option Value} {lt : List (Option Value)} {z : Int} {x v : Int32} (ha : cat1 k0 = true) (hn : 11 < mi.2.2.1) (hv : x + Int32.ofInt z = v) (hd : decode mi.2.1 pc = .ok (.iinc 11 z, 3)) (k : R g mi (pc + 3) (a0 :: b0 :: c0 :: d0 :: e0 :: f0 :: g0 :: h0 :: i0 :: j0 :: k0 :: some (.int v) :: lt) st h Q) : R g mi pc (a0 :: b0 :: c0 :: d0 :: e0 :: f0 :: g0 :: h0 :: i0 :: j0 :: k0 :: some (.int x) :: lt) st h Q :=
  r_iinc (n := 11) hn (hp_of (n := 10) rfl ha) rfl hv hd k
theorem r_ist12 {a0 b0 c0 d0 e0 f0 g0 h0 i0 j0 k0 l0 z0 : Option Value} {lt : List (Option Value)} {x : Int32} (ha : cat1 l0 = true) (hn : 12 < mi.2.2.1) (hd : decode mi.2.1 pc = .ok (.istore 12, 2)) (k : R g mi (pc + 2) (a0 :: b0 :: c0 :: d0 :: e0 :: f0 :: g0 :: h0 :: i0 :: j0 :: k0 :: l0 :: some (.int x) :: lt) st h Q) : R g mi pc (a0 :: b0 :: c0 :: d0 :: e0 :: f0 :: g0 :: h0 :: i0 :: j0 :: k0 :: l0 :: z0 :: lt) (.int x :: st) h Q :=
  r_istore (n := 12) hn (hp_of (n := 11) rfl ha) hd k
theorem r_inc12 {a0 b0 c0 d0 e0 f0 g0 h0 i0 j0 k0 l0 : Option Value} {lt : List (Option Value)} {z : Int} {x v : Int32} (ha : cat1 l0 = true) (hn : 12 < mi.2.2.1) (hv : x + Int32.ofInt z = v) (hd : decode mi.2.1 pc = .ok (.iinc 12 z, 3)) (k : R g mi (pc + 3) (a0 :: b0 :: c0 :: d0 :: e0 :: f0 :: g0 :: h0 :: i0 :: j0 :: k0 :: l0 :: some (.int v) :: lt) st h Q) : R g mi pc (a0 :: b0 :: c0 :: d0 :: e0 :: f0 :: g0 :: h0 :: i0 :: j0 :: k0 :: l0 :: some (.int x) :: lt) st h Q :=
  r_iinc (n := 12) hn (hp_of (n := 11) rfl ha) rfl hv hd k
def FO (own : String) (idx ci k : Nat) : Prop := ∃ (C : String) (T : u_T) (N : Nat), vwCl[ci]? = some (C, T, N) ∧ (∀ w ∈ u_ws C T N, w ∈ lw_g) ∧ k < N ∧ Cond.fieldLink own idx (T k).1 (T k).2.1 (T k).2.2.1 ∈ lw_g
def FP (own : String) (idx ci k : Nat) : Prop := ∃ (C : String) (T : u_T) (N : Nat) (ty0 : Nat → FieldType), vwCl[ci]? = some (C, T, N) ∧ (∀ w ∈ u_ws C T N, w ∈ lw_g) ∧ k < N ∧ Cond.fieldLink own idx (T k).1 (T k).2.1 (T k).2.2.1 ∈ lw_g ∧ (∀ k, k < N → parseFieldDescriptor (T k).2.2.1 = some (ty0 k)) ∧ (∀ a, a < N → ∀ b, b < N → a ≠ b → (T a).2.1 ≠ (T b).2.1) ∧ (T k).2.2.2 = false ∧ parseFieldDescriptor (T k).2.2.1 = some .int
theorem r_getI {o idx ci i : Nat} {fs : List (Option Nat)} (hF : FO mi.2.2.2.2.1 idx ci i) (hsh : shl[o]? = some (.inr (ci, fs))) (hf : fs[i]? = some none) (hd : decode mi.2.1 pc = .ok (.getfield idx, 3)) (k : R g mi (pc + 3) lv (.int (h o i) :: st) h Q) : R g mi pc lv (.ref (ad g o) :: st) h Q := by
  intro p e Rm s m args below meth c H locs cells slots A Z ls cx wo hl hret
  obtain ⟨C, T, N, hc, hin, hk, hlink⟩ := hF
  exact va_get cx.1 cx.2.1 cx.2.2.2.2.1 hin cx.2.2.2.1 cx.2.2.2.2.2.2.2.1 wo.1 o (wl_at hsh) hc i hk (cx.2.2.2.2.1 _ hlink) (fun _ q => q) (by rw [List.getElem?_mapIdx, hf]; rfl) hd (k p e Rm s m args below meth c H locs cells slots A Z ls cx wo hl hret)
theorem r_getR {o idx ci i q0 : Nat} {fs : List (Option Nat)} (hF : FO mi.2.2.2.2.1 idx ci i) (hsh : shl[o]? = some (.inr (ci, fs))) (hf : fs[i]? = some (some q0)) (hd : decode mi.2.1 pc = .ok (.getfield idx, 3)) (k : R g mi (pc + 3) lv (.ref (ad g q0) :: st) h Q) : R g mi pc lv (.ref (ad g o) :: st) h Q := by
  intro p e Rm s m args below meth c H locs cells slots A Z ls cx wo hl hret
  obtain ⟨C, T, N, hc, hin, hk, hlink⟩ := hF
  exact va_get cx.1 cx.2.1 cx.2.2.2.2.1 hin cx.2.2.2.1 cx.2.2.2.2.2.2.2.1 wo.1 o (wl_at hsh) hc i hk (cx.2.2.2.2.1 _ hlink) (fun _ q => q) (by rw [List.getElem?_mapIdx, hf]; rfl) hd (k p e Rm s m args below meth c H locs cells slots A Z ls cx wo hl hret)
theorem r_putI {o idx ci i : Nat} {fs : List (Option Nat)} {x : Int32} (hF : FP mi.2.2.2.2.1 idx ci i) (hsh : shl[o]? = some (.inr (ci, fs))) (hf : fs[i]? = some none) (hd : decode mi.2.1 pc = .ok (.putfield idx, 3)) (k : R g mi (pc + 3) lv st (hset h o i x) Q) : R g mi pc lv (.int x :: .ref (ad g o) :: st) h Q := by
  intro p e Rm s m args below meth c H locs cells slots A Z ls cx wo hl hret
  obtain ⟨C, T, N, ty0, hc, hin, hk, hlink, hty, hnm, hfin, hti⟩ := hF
  refine va_put cx.1 cx.2.1 cx.2.2.2.2.1 hin ty0 hty hnm cx.2.2.2.1 cx.2.2.2.2.2.2.2.1 wo.1 wo.2.1 wo.2.2 o (wl_at hsh) hc i hk (cx.2.2.2.2.1 _ hlink) (fun _ q => q) hfin hti rfl rfl (by rw [List.length_mapIdx]; exact (List.getElem?_eq_some_iff.mp hf).1) hd (fun H1 locs1 hP1 hD1 hS1 => ?_)
  rw [wl_set_fld hsh hf] at hP1 hD1
  exact k p e Rm s m args below meth c H1 locs1 cells slots A Z ls cx ⟨hP1, hD1, hS1⟩ hl hret
theorem r_iald {o n : Nat} {x : Int32} (hsh : shl[o]? = some (.inl n)) (hin : vp_in x n) (hd : decode mi.2.1 pc = .ok (.iaload, 1)) (k : R g mi (pc + 1) lv (.int (h o x.toNatClampNeg) :: st) h Q) : R g mi pc lv (.int x :: .ref (ad g o) :: st) h Q := by
  intro p e Rm s m args below meth c H locs cells slots A Z ls cx wo hl hret
  exact va_iald cx.1 cx.2.1 cx.2.2.2.2.2.2.2.1 wo.1 o 0 (wl_at hsh) rfl hin hd (k p e Rm s m args below meth c H locs cells slots A Z ls cx wo hl hret)
theorem r_iast {o n : Nat} {x y : Int32} (hsh : shl[o]? = some (.inl n)) (hin : vp_in x n) (hd : decode mi.2.1 pc = .ok (.iastore, 1)) (k : R g mi (pc + 1) lv st (hset h o x.toNatClampNeg y) Q) : R g mi pc lv (.int y :: .int x :: .ref (ad g o) :: st) h Q := by
  intro p e Rm s m args below meth c H locs cells slots A Z ls cx wo hl hret
  refine va_iast cx.1 cx.2.1 cx.2.2.2.2.2.2.2.1 wo.1 wo.2.1 wo.2.2 o 0 (wl_at hsh) rfl hin hd (fun H1 locs1 hP1 hD1 hS1 => ?_)
  rw [wl_set_arr hsh] at hP1 hD1
  exact k p e Rm s m args below meth c H1 locs1 cells slots A Z ls cx ⟨hP1, hD1, hS1⟩ hl hret
theorem r_iro {o : Nat} {x : Int32} (h1 : 1000 ≤ o) (h2 : o < 1003) (hin : vp_in x (roN g o)) (hd : decode mi.2.1 pc = .ok (.iaload, 1)) (k : R g mi (pc + 1) lv (.int (ro g o x.toNatClampNeg) :: st) h Q) : R g mi pc lv (.int x :: .ref (ad g o) :: st) h Q := by
  intro p e Rm s m args below meth c H locs cells slots A Z ls cx wo hl hret
  exact va_ti cx.1 cx.2.1 (cx.2.2.2.2.2.2.2.2.1.2.2.1 o h1 h2) wo.2.2 hin rfl hd (k p e Rm s m args below meth c H locs cells slots A Z ls cx wo hl hret)
theorem r_rolen {o : Nat} (h1 : 1000 ≤ o) (h2 : o < 1003) (hd : decode mi.2.1 pc = .ok (.arraylength, 1)) (k : R g mi (pc + 1) lv (.int (Int32.ofNat (roN g o)) :: st) h Q) : R g mi pc lv (.ref (ad g o) :: st) h Q := by
  intro p e Rm s m args below meth c H locs cells slots A Z ls cx wo hl hret
  exact va_tlen cx.1 cx.2.1 (cx.2.2.2.2.2.2.2.2.1.2.2.1 o h1 h2) wo.2.2 rfl hd (k p e Rm s m args below meth c H locs cells slots A Z ls cx wo hl hret)
theorem r_PARTINGS {idx : Nat} (hw : Cond.fieldLink mi.2.2.2.2.1 idx "LandUnions" "PARTINGS" "[I" ∈ lw_g) (hd : decode mi.2.1 pc = .ok (.getstatic idx, 3)) (k : R g mi (pc + 3) lv (.ref (ad g 1000) :: st) h Q) : R g mi pc lv st h Q := by
  intro p e Rm s m args below meth c H locs cells slots A Z ls cx wo hl hret
  exact va_gets cx.1 cx.2.1 cx.2.2.2.2.2.2.2.2.1.1 wo.2.2 cx.2.2.2.1 (cx.2.2.2.2.1 _ hw) (fun _ q => q) hd (k p e Rm s m args below meth c H locs cells slots A Z ls cx wo hl hret)
theorem r_WAYS (ho : mi.2.2.2.2.1 = "LandUnions$Parting") (hd : decode mi.2.1 pc = .ok (.getstatic 44, 3)) (k : R g mi (pc + 3) lv (.ref (ad g 1001) :: st) h Q) : R g mi pc lv st h Q := by
  intro p e Rm s m args below meth c H locs cells slots A Z ls cx wo hl hret
  have hown := cx.2.2.2.1
  rw [ho] at hown
  exact va_getsN cx.1 cx.2.1 cx.2.2.2.2.2.2.2.2.1.2.1 wo.2.2 hown (va_Nw.use rfl cx.2.2.2.2.2.2.2.2.1.2.2.2) (fun _ q => q) hd (k p e Rm s m args below meth c H locs cells slots A Z ls cx wo hl hret)
theorem r_max {idx : Nat} {x y : Int32} (hw : Cond.methodLink mi.2.2.2.2.1 idx Lib.Math.max.name ∈ lw_g ∧ Cond.static Lib.Math.max.name ∈ lw_g ∧ Cond.initialized "java/lang/Math" ∈ lw_g ∧ Cond.code Lib.Math.max.name Lib.Math.max.code 2 (some .int) ∈ lw_g) (hr : 1 ≤ mi.2.2.2.2.2.1 ∧ (st.map fun v => v.category).sum + 13 ≤ mi.2.2.2.2.2.2) (hd : decode mi.2.1 pc = .ok (.invokestatic idx, 3)) (k : R g mi (pc + 3) lv (.int (if x < y then y else x) :: st) h Q) : R g mi pc lv (.int y :: .int x :: st) h Q := by
  intro p e Rm s m args below meth c H locs cells slots A Z ls cx wo hl hret
  have hrm := cx.2.2.2.2.2.2.2.2.2.1
  exact va_mmax cx.1 cx.2.1 (by rw [cx.2.2.1, hl.1]) cx.2.2.2.1 (cx.2.2.2.2.1 _ hw.1) (cx.2.2.2.2.1 _ hw.2.1) (cx.2.2.2.2.1 _ hw.2.2.1) (cx.2.2.2.2.1 _ hw.2.2.2) (by omega) (by omega) hrm.2.2.1 hrm.2.2.2 hd (k p e Rm s m args below meth c H locs cells slots A Z ls cx wo hl hret)
theorem r_min {idx : Nat} {x y : Int32} (hw : Cond.methodLink mi.2.2.2.2.1 idx Lib.Math.min.name ∈ lw_g ∧ Cond.static Lib.Math.min.name ∈ lw_g ∧ Cond.initialized "java/lang/Math" ∈ lw_g ∧ Cond.code Lib.Math.min.name Lib.Math.min.code 2 (some .int) ∈ lw_g) (hr : 1 ≤ mi.2.2.2.2.2.1 ∧ (st.map fun v => v.category).sum + 13 ≤ mi.2.2.2.2.2.2) (hd : decode mi.2.1 pc = .ok (.invokestatic idx, 3)) (k : R g mi (pc + 3) lv (.int (if y < x then y else x) :: st) h Q) : R g mi pc lv (.int y :: .int x :: st) h Q := by
  intro p e Rm s m args below meth c H locs cells slots A Z ls cx wo hl hret
  have hrm := cx.2.2.2.2.2.2.2.2.2.1
  exact va_mmin cx.1 cx.2.1 (by rw [cx.2.2.1, hl.1]) cx.2.2.2.1 (cx.2.2.2.2.1 _ hw.1) (cx.2.2.2.2.1 _ hw.2.1) (cx.2.2.2.2.1 _ hw.2.2.1) (cx.2.2.2.2.1 _ hw.2.2.2) (by omega) (by omega) hrm.2.2.1 hrm.2.2.2 hd (k p e Rm s m args below meth c H locs cells slots A Z ls cx wo hl hret)
end RR
end
section
def ent (vs : List Value) (n : Nat) : List (Option Value) := vs.flatMap (fun v => if v.category = 2 then [some v, none] else [some v]) ++ List.replicate (n - (lg_sl vs).length) none
theorem ent_args (vs : List Value) : ∀ (b i : Nat) (v : Value), (vs.flatMap (fun v => if v.category = 2 then [some v, none] else [some v]))[i]? = some (some v) → (b + i, v) ∈ lv_args b vs := by
  induction vs with
  | nil => intro b i v h; simp at h
  | cons a t ih =>
    intro b i v h
    rw [List.flatMap_cons] at h
    by_cases hc : a.category = 2
    · rw [if_pos hc] at h
      match i, h with
      | 0, h => cases h; simp [lv_args]
      | 1, h => cases h
      | j + 2, h =>
        have := ih (b + 2) j v h
        rw [lv_args, if_pos hc]
        refine List.mem_cons_of_mem _ ?_
        rw [show b + (j + 2) = b + 2 + j by omega]
        exact this
    · rw [if_neg hc] at h
      match i, h with
      | 0, h => cases h; simp [lv_args]
      | j + 1, h =>
        have := ih (b + 1) j v h
        rw [lv_args, if_neg hc]
        refine List.mem_cons_of_mem _ ?_
        rw [show b + (j + 1) = b + 1 + j by omega]
        exact this
theorem ent_lvr {vs : List Value} {n : Nat} (hs : (lg_sl vs).length ≤ n) : lvr ((lg_sl vs ++ List.replicate (n - (lg_sl vs).length) Slot.unset).toArray) n (ent vs n) := by
  have h := lv_entry vs hs
  refine ⟨h.1, h.2.1, fun i v hi => ?_⟩
  unfold ent at hi
  have hm : (i, v) ∈ lv_args 0 vs := by
    rcases Nat.lt_or_ge i (vs.flatMap (fun v : Value => if v.category = 2 then [some v, none] else [some v])).length with q | q
    · rw [List.getElem?_append_left q] at hi
      have := ent_args vs 0 i v hi
      rwa [Nat.zero_add] at this
    · rw [List.getElem?_append_right q, List.getElem?_replicate] at hi
      split at hi <;> simp at hi
  exact h.2.2 (i, v) hm
theorem ROk.to {g : GG} {A B : Nat → Prop} {s U : State} {H : Heap} (hR : ROk g A s s.heap) (hW : s.WarmedH U.vm) (hk : ∀ q : Nat, q < s.heap.size → ¬ A q → H[q]? = s.heap[q]?) (hAB : ∀ q, B q → A q) : ROk g B U H := by
  obtain ⟨h1, h2, h3, h4⟩ := hR
  exact ⟨((h1.moved hW.alike).kept hk).narrow hAB, ((h2.moved hW.alike).kept hk).narrow hAB, fun k a b => (((h3 k a b).moved hW.alike).kept hk).narrow hAB, va_Nw.warmF hW h4⟩
theorem ROk.blind {g : GG} {A : Nat → Prop} {U : State} (a : Array Value) (f : JFrame) (mk : MethodId) (hR : ROk g A U U.heap) : ROk g A (U.calling f mk a) (U.calling f mk a).heap := by
  obtain ⟨h1, h2, h3, h4⟩ := hR
  exact ⟨h1.moved (u := U) (U := U.calling f mk a) (Vm.Alike.refl U.vm), h2.moved (u := U) (U := U.calling f mk a) (Vm.Alike.refl U.vm), fun k x y => (h3 k x y).moved (u := U) (U := U.calling f mk a) (Vm.Alike.refl U.vm), va_Nw.same (U := U.calling f mk a) rfl rfl h4⟩
abbrev gPc (g : GG) (vals : List Value) (h : Hp) (sz : Nat) : Array Value → State → Prop := va_Pc vals (fun U => U.heap.size = sz ∧ va_P (gD g) vwCl (wl g h) U.heap ∧ va_K (gD g) vwCl [(gA g, .int)] U ∧ va_D (fun _ => True) (wl g h) ∧ ROk g (va_A (wl g h) sz) U U.heap)
abbrev gQc (g : GG) (Q : Option Value → Hp → Prop) (h : Hp) (sz : Nat) : Array Value → State → Outcome → State → Prop := fun _ st oc t => (∃ r h', oc = .returned r ∧ Q r h' ∧ va_P (gD g) vwCl (wl g h') t.heap) ∧ va_F (va_A (wl g h) sz) st t
abbrev gWs (mi : MI) : List Cond := Cond.code mi.1 mi.2.1 mi.2.2.1 mi.2.2.2.1 :: lw_g
abbrev gRm (mi : MI) : Room := { frames := mi.2.2.2.2.2.1, cells := 0, slots := 0, locals := mi.2.2.2.2.2.2 }
theorem gBlind (g : GG) (vals : List Value) (h : Hp) (sz : Nat) : FrameBlind (gPc g vals h sz) := by
  intro a U f mk q
  obtain ⟨q0, q1, qP, qK, qD, qR⟩ := q
  exact ⟨q0, q1, qP, va_K.moved (u := U) (U := U.calling f mk a) (Vm.Alike.refl U.vm) qK, qD, ROk.blind a f mk qR⟩
theorem met_of {g : GG} {mi : MI} (hy : plainName mi.1.cls = true) (hown : mi.2.2.2.2.1 = mi.1.cls) {vals : List Value} (hsl : (lg_sl vals).length ≤ mi.2.2.1) {h : Hp} {Q : Option Value → Hp → Prop} (hM : R g mi 0 (ent vals mi.2.2.1) [] h Q) (sz : Nat) :
    Met (gL g) mi.1 (gWs mi) (gRm mi) (gPc g vals h sz) (gQc g Q h sz) 0 0 (va_A (wl g h) sz) := by
  refine Met.ofW (cc := mi.2.1) (maxL := mi.2.2.1) (ret := mi.2.2.2.1) hy rfl ?_
  intro p e s m args below meth c s₁ B hml hv
  obtain ⟨rfl, hsz, hP, hK, hD0, hRO⟩ := hv
  subst hsz
  have hts := atoms_spec (ws := gWs mi) B.pre
  have hown' : s.vm.findClass mi.1.cls = some m.cls := findClass_of_methodNamed B.named
  have hlocks := B.notSynchronized
  rw [lg_entry_eq]
  refine hM p e _ s m _ below meth c s.heap [] 0 0 (va_A (wl g h) s.heap.size) _ _ ⟨B.exec, B.bytes, hml, by rw [hown]; exact hown', fun w hw => hts w (List.mem_cons_of_mem _ hw), B.returns, B.notSynchronized, hK, hRO, ⟨Nat.le_refl _, Nat.le_refl _, Nat.le_refl _, Nat.le_refl _⟩, fun q hq => Or.inr hq⟩ ⟨hP, hD0.self, va_S.rf⟩ (ent_lvr hsl) ?_
  intro r h' H' locs' pc' ls' hq wo hri
  rcases hri with ⟨rfl, hd, ht⟩ | ⟨v, ty, rfl, hd, ht, hn⟩ | ⟨a, ta, rfl, hd, ht⟩
  · exact W.vret B.exec B.bytes (B.returns.trans ht) (fun t et hW => ⟨⟨none, h', rfl, hq, by rw [et]; exact wo.1⟩, wo.2.2.F et⟩) wo.2.2.2.2 hd
  · exact W.zret B.exec B.bytes (B.returns.trans ht) hn (fun t et hW => ⟨⟨some (.int v), h', rfl, hq, by rw [et]; exact wo.1⟩, wo.2.2.F et⟩) wo.2.2.2.2 hd
  · exact W.aret B.exec B.bytes (B.returns.trans ht) (Or.inr ⟨ta, rfl⟩) (Or.inr ⟨a, rfl⟩) (fun t et hW => ⟨⟨some (.ref a), h', rfl, hq, by rw [et]; exact wo.1⟩, wo.2.2.F et⟩) wo.2.2.2.2 hd
/-- what the tables say of a method that is called -/
def MO (mi : MI) (n : Nat) : Prop := plainName mi.1.cls = true ∧ mi.2.2.2.2.1 = mi.1.cls ∧ Cond.code mi.1 mi.2.1 mi.2.2.1 mi.2.2.2.1 ∈ lw_g ∧ Cond.initialized mi.1.cls ∈ lw_g ∧ (mi.1.cls ≠ "java/lang/invoke/MethodHandle" ∧ mi.1.cls ≠ "java/lang/invoke/VarHandle" ∧ (parseMethodDescriptor mi.1.desc).map (fun d => d.parameters.length) = some n)
theorem gGood {mi : MI} {n : Nat} (hm : MO mi n) : GoodIn lw_g (gWs mi) := by
  intro w hw
  rcases List.mem_cons.mp hw with rfl | hw
  · exact ⟨hm.2.2.1, good_of_word (lw_g_good _ hm.2.2.1)⟩
  · exact ⟨hw, good_of_word (lw_g_good _ hw)⟩
section CALL
variable {g : GG} {mi mj : MI} {pc idx n : Nat} {lv : List (Option Value)} {st : List Value} {h : Hp} {Q Q' : Option Value → Hp → Prop}
theorem r_behind {p : Program} {e : Env} {Rm : Room} {s : State} {m : MethodId} {args : Array Value} {below : List Frame} {meth : Method} {c : Code} {H : Heap} {locs : List Loc} {cells slots : Nat} {A : Nat → Prop} {Z : State → Prop} {ls : Array Slot} {stk : List Value} {a : Array Value}
    (cx : Cx g mi p Rm s m args meth c cells slots A) (wo : Wo g A s h H locs) (hl : lvr ls mi.2.2.1 lv)
    (hret : ∀ (r : Option Value) (h' : Hp) (H' : Heap) (locs' : List Loc) (pc' : Nat) (ls' : Array Slot), Q r h' → Wo g A s h' H' locs' → RetI mi pc' r → W p (gL g) e Rm s m args below meth c H' locs' cells slots Z (F0 m pc' ls' r.toList))
    (hr : va_Run p (gL g) e Rm s m args below meth c H locs cells slots 0 0 (F0 m pc ls stk) st (gQc g Q' h H.size a) (va_A (wl g h) H.size))
    (kk : ∀ r h', Q' r h' → R g mi (pc + 3) lv (r.toList ++ st) h' Q) : W p (gL g) e Rm s m args below meth c H locs cells slots Z (F0 m pc ls stk) := by
  have hF : ∀ q, va_A (wl g h) H.size q → A q := by
    rintro q (⟨k, x, hk⟩ | hq)
    · exact wo.2.1.2 k _ hk
    · exact cx.2.2.2.2.2.2.2.2.2.2 q (Nat.le_trans wo.2.2.1 hq)
  intro T hT X
  obtain ⟨v, st₀, t, T', L, h0, X', hL, e1, e2, ⟨⟨r, h', hv, hq, hP'⟩, hz, hk⟩, stp⟩ := hr T hT X
  cases hv
  rw [h0] at hz hk
  have wo' : Wo g A s h' T'.heap (locs ++ L) := by
    refine ⟨by rw [e1]; exact hP', wl_D wo.2.1, Nat.le_trans wo.2.2.1 (by rw [e1]; exact hz), fun q h1 h2 => ?_, fun q hq => ?_⟩
    · rw [e1, hk q (Nat.lt_of_lt_of_le h1 wo.2.2.1) (fun z => h2 (hF q z))]
      exact wo.2.2.2.1 q h1 h2
    · rcases List.mem_append.mp hq with h | h
      · exact wo.2.2.2.2 q h
      · exact hF _ (hL q h)
  obtain ⟨t2, a1, b1⟩ := kk v h' hq p e Rm s m args below meth c T'.heap (locs ++ L) cells slots A Z ls cx wo' hl hret T' rfl X'
  exact ⟨t2, stp t2 a1, b1⟩
theorem r_pre {p : Program} {Rm : Room} {s : State} {m : MethodId} {args : Array Value} {meth : Method} {c : Code} {H : Heap} {locs : List Loc} {cells slots : Nat} {A : Nat → Prop}
    (cx : Cx g mi p Rm s m args meth c cells slots A) (wo : Wo g A s h H locs) (vals : List Value) : ∀ U : State, U.heap = H → s.WarmedH U.vm → gPc g vals h H.size vals.toArray U := by
  intro U hU hW
  refine ⟨rfl, by rw [hU], by rw [hU]; exact wo.1, va_K.moved hW.alike cx.2.2.2.2.2.2.2.1, wo.2.1.weaken (fun _ _ _ _ => trivial), ?_⟩
  rw [hU]
  refine ROk.to cx.2.2.2.2.2.2.2.2.1 hW wo.2.2.2.1 ?_
  rintro q (⟨k, x, hk⟩ | hq)
  · exact wo.2.1.2 k _ hk
  · exact cx.2.2.2.2.2.2.2.2.2.2 q (Nat.le_trans wo.2.2.1 hq)
theorem r_callV {o ci : Nat} {fs : List (Option Nat)} {T : u_T} {N : Nat} (vals : List Value) (hm : MO mj n) (hw : Cond.methodLink mi.2.2.2.2.1 idx mj.1 ∈ lw_g ∧ Cond.instanceMethod mj.1 ∈ lw_g ∧ Cond.selects mj.1.cls mj.1 mj.1 ∈ lw_g) (hsh : shl[o]? = some (.inr (ci, fs))) (hci : vwCl[ci]? = some (mj.1.cls, T, N))
    (hn : vals.length = n) (hsl : (lg_sl (.ref (ad g o) :: vals)).length ≤ mj.2.2.1) (hroom : mj.2.2.2.2.2.1 + 1 ≤ mi.2.2.2.2.2.1 ∧ 8 + (mj.2.2.1 + 11) + mj.2.2.2.2.2.2 ≤ mi.2.2.2.2.2.2) (hcat : (st.map fun v => v.category).sum ≤ 8)
    (hd : decode mi.2.1 pc = .ok (.invokevirtual idx, 3)) (hM : R g mj 0 (ent (.ref (ad g o) :: vals) mj.2.2.1) [] h Q') (kk : ∀ r h', Q' r h' → R g mi (pc + 3) lv (r.toList ++ st) h' Q) : R g mi pc lv (vals.reverse ++ .ref (ad g o) :: st) h Q := by
  intro p e Rm s m args below meth c H locs cells slots A Z ls cx wo hl hret
  have hrm := cx.2.2.2.2.2.2.2.2.2.1
  have hgood : GoodIn lw_g (wsV mi.2.2.2.2.1 idx mj.1.cls mj.1 (gWs mj)) := by
    intro w h1
    rcases List.mem_append.mp h1 with h1 | h1
    · have h2 : w ∈ lw_g := by
        rcases List.mem_cons.mp h1 with rfl | h1
        · exact hw.1
        rcases List.mem_cons.mp h1 with rfl | h1
        · exact hw.2.1
        rcases List.mem_cons.mp h1 with rfl | h1
        · exact hw.2.2
        rcases List.mem_cons.mp h1 with rfl | h1
        · exact hm.2.2.2.1
        · cases h1
      exact ⟨h2, good_of_word (lw_g_good _ h2)⟩
    · exact gGood hm w h1
  have cw := cwV (R := Rm) (s := s) (args := args) (own := mi.2.2.2.2.1) (index := idx) (C := mj.1.cls) (y := mj.1) (bytes := mj.2.1) (maxL := mj.2.2.1) (ret := mj.2.2.2.1) (ws := gWs mj) (ws' := lw_g) (rm := gRm mj) (mc := 0) (ms := 0) n cx.2.2.2.2.1 hgood rfl rfl rfl ⟨rfl, hm.2.2.2.2⟩ ⟨by show mj.2.2.2.2.2.1 + 1 ≤ _; omega, by show _ + mj.2.2.2.2.2.2 ≤ _; omega⟩
  refine r_behind cx wo hl hret (va_runV (As := vals) (rest := st) (b := ad g o) ⟨cx.1, cx.2.1, cx.2.2.1, cx.2.2.2.1, cx.2.2.2.2.1⟩ (met_of hm.1 hm.2.1 hsl hM H.size) cw ⟨gBlind _ _ _ _, va_recv cx.2.2.2.2.2.2.2.1 wo.1 hci (wl_at hsh), r_pre cx wo (.ref (ad g o) :: vals)⟩ rfl hn hl.1 rfl (lv_room hcat) hd ⟨hrm.2.2.1, hrm.2.2.2⟩) kk
theorem r_callS (vals : List Value) (hm : MO mj n) (hw : Cond.methodLink mi.2.2.2.2.1 idx mj.1 ∈ lw_g ∧ Cond.static mj.1 ∈ lw_g)
    (hn : vals.length = n) (hsl : (lg_sl vals).length ≤ mj.2.2.1) (hroom : mj.2.2.2.2.2.1 + 1 ≤ mi.2.2.2.2.2.1 ∧ 8 + (mj.2.2.1 + 11) + mj.2.2.2.2.2.2 ≤ mi.2.2.2.2.2.2) (hcat : (st.map fun v => v.category).sum ≤ 8)
    (hd : decode mi.2.1 pc = .ok (.invokestatic idx, 3)) (hM : R g mj 0 (ent vals mj.2.2.1) [] h Q') (kk : ∀ r h', Q' r h' → R g mi (pc + 3) lv (r.toList ++ st) h' Q) : R g mi pc lv (vals.reverse ++ st) h Q := by
  intro p e Rm s m args below meth c H locs cells slots A Z ls cx wo hl hret
  have hrm := cx.2.2.2.2.2.2.2.2.2.1
  have hgood : GoodIn lw_g (va_wsS mi.2.2.2.2.1 idx mj.1 (gWs mj)) := by
    intro w h1
    rcases List.mem_append.mp h1 with h1 | h1
    · have h2 : w ∈ lw_g := by
        rcases List.mem_cons.mp h1 with rfl | h1
        · exact hw.1
        rcases List.mem_cons.mp h1 with rfl | h1
        · exact hw.2
        rcases List.mem_cons.mp h1 with rfl | h1
        · exact hm.2.2.2.1
        · cases h1
      exact ⟨h2, good_of_word (lw_g_good _ h2)⟩
    · exact gGood hm w h1
  have cw := va_cwS (R := Rm) (s := s) (args := args) (own := mi.2.2.2.2.1) (index := idx) (y := mj.1) (bytes := mj.2.1) (maxL := mj.2.2.1) (ret := mj.2.2.2.1) (ws := gWs mj) (ws' := lw_g) (rm := gRm mj) (mc := 0) (ms := 0) n cx.2.2.2.2.1 hgood rfl rfl rfl hm.2.2.2.2 ⟨by show mj.2.2.2.2.2.1 + 1 ≤ _; omega, by show _ + mj.2.2.2.2.2.2 ≤ _; omega⟩
  refine r_behind cx wo hl hret (va_runS (As := vals) (rest := st) ⟨cx.1, cx.2.1, cx.2.2.1, cx.2.2.2.1, cx.2.2.2.2.1⟩ (met_of hm.1 hm.2.1 hsl hM H.size) cw ⟨gBlind _ _ _ _, r_pre cx wo vals⟩ rfl hn hl.1 rfl (lv_room hcat) hd ⟨hrm.2.2.1, hrm.2.2.2⟩) kk
end CALL
end
section
theorem lw_ix {c : Cond} (i : Nat) (h : tables_1[i]? = some c) (hg : goodWord c = true) : c ∈ lw_g := List.mem_filter.mpr ⟨List.mem_append_right _ (List.mem_of_getElem? h), hg⟩
theorem lw_ip {c : Cond} (i : Nat) (h : (k2_sels lw_privs)[i]? = some c) (hg : goodWord c = true) : c ∈ lw_g := List.mem_filter.mpr ⟨List.mem_append_left _ (List.mem_of_getElem? h), hg⟩
theorem lw_mem {c : Cond} (h : c ∈ lw_tbl) (hg : goodWord c = true) : c ∈ lw_g := List.mem_filter.mpr ⟨h, hg⟩
set_option maxRecDepth 20000 in
theorem goodX : (wsX00 ++ wsX10 ++ wsX20 ++ wsX30 ++ wsX40 ++ wsX50 ++ wsX60 ++ wsX70 ++ wsX80 ++ wsX90).all goodWord = true := by decide +kernel
set_option maxRecDepth 20000 in
theorem gwX0 : ∀ w ∈ wsX00, w ∈ lw_g := fun w h => lw_mem (inX0 w h) (List.all_eq_true.mp goodX w (by simp only [List.mem_append]; simp only [h, true_or, or_true]))
set_option maxRecDepth 20000 in
theorem gwX1 : ∀ w ∈ wsX10, w ∈ lw_g := fun w h => lw_mem (inX1 w h) (List.all_eq_true.mp goodX w (by simp only [List.mem_append]; simp only [h, true_or, or_true]))
set_option maxRecDepth 20000 in
theorem gwX2 : ∀ w ∈ wsX20, w ∈ lw_g := fun w h => lw_mem (inX2 w h) (List.all_eq_true.mp goodX w (by simp only [List.mem_append]; simp only [h, true_or, or_true]))
set_option maxRecDepth 20000 in
theorem gwX3 : ∀ w ∈ wsX30, w ∈ lw_g := fun w h => lw_mem (inX3 w h) (List.all_eq_true.mp goodX w (by simp only [List.mem_append]; simp only [h, true_or, or_true]))
set_option maxRecDepth 20000 in
theorem gwX4 : ∀ w ∈ wsX40, w ∈ lw_g := fun w h => lw_mem (inX4 w h) (List.all_eq_true.mp goodX w (by simp only [List.mem_append]; simp only [h, true_or, or_true]))
set_option maxRecDepth 20000 in
theorem gwX5 : ∀ w ∈ wsX50, w ∈ lw_g := fun w h => lw_mem (inX5 w h) (List.all_eq_true.mp goodX w (by simp only [List.mem_append]; simp only [h, true_or, or_true]))
set_option maxRecDepth 20000 in
theorem gwX6 : ∀ w ∈ wsX60, w ∈ lw_g := fun w h => lw_mem (inX6 w h) (List.all_eq_true.mp goodX w (by simp only [List.mem_append]; simp only [h, true_or, or_true]))
set_option maxRecDepth 20000 in
theorem gwX7 : ∀ w ∈ wsX70, w ∈ lw_g := fun w h => lw_mem (inX7 w h) (List.all_eq_true.mp goodX w (by simp only [List.mem_append]; simp only [h, true_or, or_true]))
set_option maxRecDepth 20000 in
theorem gwX8 : ∀ w ∈ wsX80, w ∈ lw_g := fun w h => lw_mem (inX8 w h) (List.all_eq_true.mp goodX w (by simp only [List.mem_append]; simp only [h, true_or, or_true]))
set_option maxRecDepth 20000 in
theorem gwX9 : ∀ w ∈ wsX90, w ∈ lw_g := fun w h => lw_mem (inX9 w h) (List.all_eq_true.mp goodX w (by simp only [List.mem_append]; simp only [h, true_or, or_true]))
abbrev mX0_rowOf : MI := (yX0_rowOf, cX0_rowOf, 5, (some .int), RX0, 2, 53)
abbrev mX0_at : MI := (yX0_at, cX0_at, 3, (some .int), RX0, 0, 0)
abbrev mX1_travel : MI := (yX1_travel, cX1_travel, 6, none, RX1, 6, 151)
abbrev mX1_where : MI := (yX1_where, cX1_where, 1, (some .int), RX1, 1, 23)
abbrev mX1_firstSeen : MI := (yX1_firstSeen, cX1_firstSeen, 4, (some .int), RX1, 0, 0)
abbrev mX1_findGoer : MI := (yX1_findGoer, cX1_findGoer, 3, (some .boolean), RX1, 5, 129)
abbrev mX1_step : MI := (yX1_step, cX1_step, 1, none, RX1, 3, 66)
abbrev mX1_behind : MI := (yX1_behind, cX1_behind, 2, (some .int), RX1, 0, 0)
abbrev mX2_gainByLeaving : MI := (yX2_gainByLeaving, cX2_gainByLeaving, 3, (some .int), RX2, 3, 77)
abbrev mX2_gainByJoining : MI := (yX2_gainByJoining, cX2_gainByJoining, 7, (some .int), RX2, 3, 77)
abbrev mX2_wouldAllGain : MI := (yX2_wouldAllGain, cX2_wouldAllGain, 6, (some .boolean), RX2, 3, 77)
abbrev mX2_goodGathered : MI := (yX2_goodGathered, cX2_goodGathered, 4, (some .int), RX2, 3, 77)
abbrev mX2_stayBreaker : MI := (yX2_stayBreaker, cX2_stayBreaker, 3, (some .int), RX2, 4, 99)
abbrev mX2_joinBreaker : MI := (yX2_joinBreaker, cX2_joinBreaker, 4, (some .int), RX2, 4, 103)
abbrev mX2_coreBreaker : MI := (yX2_coreBreaker, cX2_coreBreaker, 3, (some .int), RX2, 4, 102)
abbrev mX2_bestGoal : MI := (yX2_bestGoal, cX2_bestGoal, 7, (some .int), RX2, 4, 103)
abbrev mX3_fits : MI := (yX3_fits, cX3_fits, 2, (some .boolean), RX3, 0, 0)
abbrev mX3_rowOf : MI := (yX3_rowOf, cX3_rowOf, 2, (some (.array .int)), RX3, 0, 0)
abbrev mX3_add : MI := (yX3_add, cX3_add, 6, (some .int), RX3, 0, 0)
abbrev mX3_put : MI := (yX3_put, cX3_put, 4, none, RX3, 1, 21)
abbrev mX3_putWalls : MI := (yX3_putWalls, cX3_putWalls, 2, none, RX3, 0, 0)
abbrev mX3_putShares : MI := (yX3_putShares, cX3_putShares, 2, none, RX3, 0, 0)
abbrev mX3_copy : MI := (yX3_copy, cX3_copy, 3, none, RX3, 0, 0)
abbrev mX4_reckon : MI := (yX4_reckon, cX4_reckon, 5, none, RX4, 1, 29)
abbrev mX4_wallAround : MI := (yX4_wallAround, cX4_wallAround, 10, (some .int), RX4, 0, 0)
abbrev mX4_buy : MI := (yX4_buy, cX4_buy, 8, none, RX4, 0, 0)
abbrev mX4_shareOut : MI := (yX4_shareOut, cX4_shareOut, 9, none, RX4, 0, 0)
abbrev mX5_add : MI := (yX5_add, cX5_add, 2, none, RX5, 0, 0)
abbrev mX5_firstFault : MI := (yX5_firstFault, cX5_firstFault, 7, (some .int), RX5, 0, 0)
abbrev mX5_putInto : MI := (yX5_putInto, cX5_putInto, 5, none, RX5, 2, 44)
abbrev mX6_addApart : MI := (yX6_addApart, cX6_addApart, 1, none, RX6, 0, 0)
abbrev mX6_putAllApart : MI := (yX6_putAllApart, cX6_putAllApart, 3, none, RX6, 0, 0)
abbrev mX6_putAllTogether : MI := (yX6_putAllTogether, cX6_putAllTogether, 3, none, RX6, 1, 21)
abbrev mX6_copy : MI := (yX6_copy, cX6_copy, 3, none, RX6, 0, 0)
abbrev mX6_leave : MI := (yX6_leave, cX6_leave, 2, none, RX6, 2, 44)
abbrev mX6_move : MI := (yX6_move, cX6_move, 3, none, RX6, 2, 44)
abbrev mX6_gather : MI := (yX6_gather, cX6_gather, 3, none, RX6, 2, 44)
abbrev mX6_scatter : MI := (yX6_scatter, cX6_scatter, 3, none, RX6, 2, 44)
abbrev mX6_number : MI := (yX6_number, cX6_number, 3, none, RX6, 1, 22)
abbrev mX6_firstLike : MI := (yX6_firstLike, cX6_firstLike, 3, (some .int), RX6, 0, 0)
abbrev mX6_advance : MI := (yX6_advance, cX6_advance, 4, none, RX6, 2, 44)
abbrev mX6_unionsAhead : MI := (yX6_unionsAhead, cX6_unionsAhead, 4, (some .int), RX6, 1, 21)
abbrev mX6_place : MI := (yX6_place, cX6_place, 4, (some .int), RX6, 0, 0)
abbrev mX7_firstBreaker : MI := (yX7_firstBreaker, cX7_firstBreaker, 6, (some .int), RX7, 5, 126)
abbrev mX8_land : MI := (yX8_land, cX8_land, 7, (some .int), RX8, 1, 25)
abbrev mX8_change : MI := (yX8_change, cX8_change, 5, (some .int), RX8, 2, 44)
abbrev mX8_set : MI := (yX8_set, cX8_set, 4, (some .int), RX8, 1, 21)
abbrev mX8_say : MI := (yX8_say, cX8_say, 2, (some .int), RX8, 1, 21)
abbrev mX8_wipe : MI := (yX8_wipe, cX8_wipe, 2, (some .int), RX8, 0, 0)
abbrev mX8_fault : MI := (yX8_fault, cX8_fault, 1, (some .int), RX8, 1, 26)
abbrev mX8_part : MI := (yX8_part, cX8_part, 1, (some .int), RX8, 3, 68)
abbrev mX8_union : MI := (yX8_union, cX8_union, 2, (some .int), RX8, 1, 21)
abbrev mX8_of : MI := (yX8_of, cX8_of, 3, (some .int), RX8, 2, 53)
abbrev mX8_all : MI := (yX8_all, cX8_all, 2, (some .int), RX8, 5, 123)
abbrev mX8_goodsTogether : MI := (yX8_goodsTogether, cX8_goodsTogether, 5, (some .int), RX8, 3, 77)
abbrev mX8_bestPlaced : MI := (yX8_bestPlaced, cX8_bestPlaced, 3, (some .int), RX8, 4, 101)
abbrev mX8_breaks : MI := (yX8_breaks, cX8_breaks, 2, (some .int), RX8, 6, 151)
abbrev mX8_rests : MI := (yX8_rests, cX8_rests, 6, (some .int), RX8, 6, 151)
abbrev mX8_go : MI := (yX8_go, cX8_go, 4, (some .int), RX8, 7, 176)
abbrev mX8_whole : MI := (yX8_whole, cX8_whole, 8, (some .int), RX8, 3, 77)
abbrev mX8_rules : MI := (yX8_rules, cX8_rules, 3, (some .int), RX8, 5, 121)
abbrev mX8_propose : MI := (yX8_propose, cX8_propose, 7, (some .int), RX8, 4, 102)
abbrev mX8_enter : MI := (yX8_enter, cX8_enter, 8, (some .int), RX8, 3, 77)
abbrev mX8_holds : MI := (yX8_holds, cX8_holds, 3, (some .int), RX8, 4, 99)
abbrev mX8_hurt : MI := (yX8_hurt, cX8_hurt, 6, (some .int), RX8, 3, 77)
abbrev mX8_edge : MI := (yX8_edge, cX8_edge, 5, (some .int), RX8, 6, 144)
abbrev mX8_turnsStay : MI := (yX8_turnsStay, cX8_turnsStay, 4, (some .boolean), RX8, 5, 121)
abbrev mX8_told : MI := (yX8_told, cX8_told, 2, (some .int), RX8, 1, 21)
abbrev mX8_isLand : MI := (yX8_isLand, cX8_isLand, 2, (some .boolean), RX8, 0, 0)
abbrev mX8_isUnion : MI := (yX8_isUnion, cX8_isUnion, 2, (some .boolean), RX8, 0, 0)
abbrev mX8_isRest : MI := (yX8_isRest, cX8_isRest, 1, (some .boolean), RX8, 0, 0)
abbrev mX9_in : MI := (yX9_in, cX9_in, 6, (some .boolean), RX9, 0, 0)
abbrev mX9_isLand : MI := (yX9_isLand, cX9_isLand, 2, (some .boolean), RX9, 1, 25)
abbrev mX9_isNumber : MI := (yX9_isNumber, cX9_isNumber, 2, (some .boolean), RX9, 1, 25)
abbrev mX9_land : MI := (yX9_land, cX9_land, 5, (some .int), RX9, 2, 46)
abbrev mX9_change : MI := (yX9_change, cX9_change, 5, (some .int), RX9, 2, 46)
abbrev mX9_set : MI := (yX9_set, cX9_set, 4, (some .int), RX9, 1, 25)
abbrev mX9_manyOf : MI := (yX9_manyOf, cX9_manyOf, 4, (some .int), RX9, 0, 0)
abbrev mX9_say : MI := (yX9_say, cX9_say, 2, (some .int), RX9, 1, 25)
abbrev mX9_wipe : MI := (yX9_wipe, cX9_wipe, 2, (some .int), RX9, 0, 0)
abbrev mX9_fault : MI := (yX9_fault, cX9_fault, 7, (some .int), RX9, 1, 25)
abbrev mX9_part : MI := (yX9_part, cX9_part, 3, (some .int), RX9, 2, 51)
abbrev mX9_number : MI := (yX9_number, cX9_number, 4, none, RX9, 0, 0)
abbrev mX9_union : MI := (yX9_union, cX9_union, 2, (some .int), RX9, 2, 46)
abbrev mX9_wallOf : MI := (yX9_wallOf, cX9_wallOf, 9, (some .int), RX9, 0, 0)
abbrev mX9_findGoods : MI := (yX9_findGoods, cX9_findGoods, 6, none, RX9, 1, 28)
abbrev mX9_shareOf : MI := (yX9_shareOf, cX9_shareOf, 9, (some .int), RX9, 0, 0)
abbrev mX9_copy : MI := (yX9_copy, cX9_copy, 4, none, RX9, 0, 0)
abbrev mX9_together : MI := (yX9_together, cX9_together, 3, (some .int), RX9, 0, 0)
abbrev mX9_of : MI := (yX9_of, cX9_of, 3, (some .int), RX9, 2, 53)
abbrev mX9_firstParting : MI := (yX9_firstParting, cX9_firstParting, 2, none, RX9, 0, 0)
abbrev mX9_nextParting : MI := (yX9_nextParting, cX9_nextParting, 4, (some .boolean), RX9, 0, 0)
abbrev mX9_all : MI := (yX9_all, cX9_all, 5, (some .int), RX9, 2, 53)
abbrev mX9_keepGoods : MI := (yX9_keepGoods, cX9_keepGoods, 2, none, RX9, 2, 53)
abbrev mX9_gainApart : MI := (yX9_gainApart, cX9_gainApart, 3, (some .int), RX9, 2, 53)
abbrev mX9_gainIn : MI := (yX9_gainIn, cX9_gainIn, 6, (some .int), RX9, 2, 53)
abbrev mX9_leaver : MI := (yX9_leaver, cX9_leaver, 3, (some .int), RX9, 3, 75)
abbrev mX9_joiner : MI := (yX9_joiner, cX9_joiner, 5, (some .int), RX9, 3, 78)
abbrev mX9_isUnion : MI := (yX9_isUnion, cX9_isUnion, 6, (some .boolean), RX9, 0, 0)
abbrev mX9_isBetter : MI := (yX9_isBetter, cX9_isBetter, 5, (some .boolean), RX9, 2, 53)
abbrev mX9_breakerOf : MI := (yX9_breakerOf, cX9_breakerOf, 4, (some .int), RX9, 4, 102)
abbrev mX9_breaks : MI := (yX9_breaks, cX9_breaks, 2, (some .int), RX9, 5, 125)
abbrev mX9_rests : MI := (yX9_rests, cX9_rests, 6, (some .int), RX9, 5, 125)
abbrev mX9_stateOf : MI := (yX9_stateOf, cX9_stateOf, 5, (some .int), RX9, 0, 0)
abbrev mX9_goOne : MI := (yX9_goOne, cX9_goOne, 9, (some .int), RX9, 3, 78)
abbrev mX9_goAll : MI := (yX9_goAll, cX9_goAll, 5, none, RX9, 4, 106)
abbrev mX9_go : MI := (yX9_go, cX9_go, 3, (some .int), RX9, 5, 130)
abbrev mX9_whole : MI := (yX9_whole, cX9_whole, 6, (some .int), RX9, 3, 74)
abbrev mX9_rules : MI := (yX9_rules, cX9_rules, 4, (some .int), RX9, 5, 125)
abbrev mX9_propose : MI := (yX9_propose, cX9_propose, 6, (some .int), RX9, 3, 77)
abbrev mX9_isThere : MI := (yX9_isThere, cX9_isThere, 2, (some .boolean), RX9, 1, 25)
abbrev mX9_enter : MI := (yX9_enter, cX9_enter, 6, (some .int), RX9, 3, 74)
abbrev mX9_holds : MI := (yX9_holds, cX9_holds, 4, (some .int), RX9, 3, 75)
abbrev mX9_hurt : MI := (yX9_hurt, cX9_hurt, 4, (some .int), RX9, 3, 74)
abbrev mX9_edge : MI := (yX9_edge, cX9_edge, 8, (some .int), RX9, 5, 125)
abbrev mX9_told : MI := (yX9_told, cX9_told, 2, (some .int), RX9, 2, 46)
abbrev mL_law : MI := (yL_law, cL_law, 4, some .boolean, RL, 8, 199)
set_option maxRecDepth 20000 in
theorem moX0_rowOf : MO mX0_rowOf 1 := ⟨by decide +kernel, rfl, lw_ix 377 (by decide +kernel) rfl, lw_ix 3 (by decide +kernel) rfl, by decide +kernel⟩
set_option maxRecDepth 20000 in
theorem moX0_at : MO mX0_at 2 := ⟨by decide +kernel, rfl, lw_ix 388 (by decide +kernel) rfl, lw_ix 3 (by decide +kernel) rfl, by decide +kernel⟩
set_option maxRecDepth 20000 in
theorem moX1_travel : MO mX1_travel 3 := ⟨by decide +kernel, rfl, lw_ix 480 (by decide +kernel) rfl, lw_ix 8 (by decide +kernel) rfl, by decide +kernel⟩
set_option maxRecDepth 20000 in
theorem moX1_where : MO mX1_where 0 := ⟨by decide +kernel, rfl, lw_ix 485 (by decide +kernel) rfl, lw_ix 8 (by decide +kernel) rfl, by decide +kernel⟩
set_option maxRecDepth 20000 in
theorem moX1_firstSeen : MO mX1_firstSeen 2 := ⟨by decide +kernel, rfl, lw_ix 490 (by decide +kernel) rfl, lw_ix 8 (by decide +kernel) rfl, by decide +kernel⟩
set_option maxRecDepth 20000 in
theorem moX1_findGoer : MO mX1_findGoer 1 := ⟨by decide +kernel, rfl, lw_ix 494 (by decide +kernel) rfl, lw_ix 8 (by decide +kernel) rfl, by decide +kernel⟩
set_option maxRecDepth 20000 in
theorem moX1_step : MO mX1_step 0 := ⟨by decide +kernel, rfl, lw_ix 506 (by decide +kernel) rfl, lw_ix 8 (by decide +kernel) rfl, by decide +kernel⟩
set_option maxRecDepth 20000 in
theorem moX1_behind : MO mX1_behind 1 := ⟨by decide +kernel, rfl, lw_ix 502 (by decide +kernel) rfl, lw_ix 8 (by decide +kernel) rfl, by decide +kernel⟩
set_option maxRecDepth 20000 in
theorem moX2_gainByLeaving : MO mX2_gainByLeaving 2 := ⟨by decide +kernel, rfl, lw_ix 452 (by decide +kernel) rfl, lw_ix 2 (by decide +kernel) rfl, by decide +kernel⟩
set_option maxRecDepth 20000 in
theorem moX2_gainByJoining : MO mX2_gainByJoining 3 := ⟨by decide +kernel, rfl, lw_ix 464 (by decide +kernel) rfl, lw_ix 2 (by decide +kernel) rfl, by decide +kernel⟩
set_option maxRecDepth 20000 in
theorem moX2_wouldAllGain : MO mX2_wouldAllGain 2 := ⟨by decide +kernel, rfl, lw_ix 433 (by decide +kernel) rfl, lw_ix 2 (by decide +kernel) rfl, by decide +kernel⟩
set_option maxRecDepth 20000 in
theorem moX2_goodGathered : MO mX2_goodGathered 3 := ⟨by decide +kernel, rfl, lw_ix 534 (by decide +kernel) rfl, lw_ix 2 (by decide +kernel) rfl, by decide +kernel⟩
set_option maxRecDepth 20000 in
theorem moX2_stayBreaker : MO mX2_stayBreaker 1 := ⟨by decide +kernel, rfl, lw_ix 448 (by decide +kernel) rfl, lw_ix 2 (by decide +kernel) rfl, by decide +kernel⟩
set_option maxRecDepth 20000 in
theorem moX2_joinBreaker : MO mX2_joinBreaker 1 := ⟨by decide +kernel, rfl, lw_ix 460 (by decide +kernel) rfl, lw_ix 2 (by decide +kernel) rfl, by decide +kernel⟩
set_option maxRecDepth 20000 in
theorem moX2_coreBreaker : MO mX2_coreBreaker 1 := ⟨by decide +kernel, rfl, lw_ix 429 (by decide +kernel) rfl, lw_ix 2 (by decide +kernel) rfl, by decide +kernel⟩
set_option maxRecDepth 20000 in
theorem moX2_bestGoal : MO mX2_bestGoal 2 := ⟨by decide +kernel, rfl, lw_ix 498 (by decide +kernel) rfl, lw_ix 2 (by decide +kernel) rfl, by decide +kernel⟩
set_option maxRecDepth 20000 in
theorem moX3_fits : MO mX3_fits 2 := ⟨by decide +kernel, rfl, lw_ix 268 (by decide +kernel) rfl, lw_ix 4 (by decide +kernel) rfl, by decide +kernel⟩
set_option maxRecDepth 20000 in
theorem moX3_rowOf : MO mX3_rowOf 1 := ⟨by decide +kernel, rfl, lw_ix 288 (by decide +kernel) rfl, lw_ix 4 (by decide +kernel) rfl, by decide +kernel⟩
set_option maxRecDepth 20000 in
theorem moX3_add : MO mX3_add 4 := ⟨by decide +kernel, rfl, lw_ix 272 (by decide +kernel) rfl, lw_ix 4 (by decide +kernel) rfl, by decide +kernel⟩
set_option maxRecDepth 20000 in
theorem moX3_put : MO mX3_put 3 := ⟨by decide +kernel, rfl, lw_ix 292 (by decide +kernel) rfl, lw_ix 4 (by decide +kernel) rfl, by decide +kernel⟩
set_option maxRecDepth 20000 in
theorem moX3_putWalls : MO mX3_putWalls 1 := ⟨by decide +kernel, rfl, lw_ix 301 (by decide +kernel) rfl, lw_ix 4 (by decide +kernel) rfl, by decide +kernel⟩
set_option maxRecDepth 20000 in
theorem moX3_putShares : MO mX3_putShares 1 := ⟨by decide +kernel, rfl, lw_ix 305 (by decide +kernel) rfl, lw_ix 4 (by decide +kernel) rfl, by decide +kernel⟩
set_option maxRecDepth 20000 in
theorem moX3_copy : MO mX3_copy 1 := ⟨by decide +kernel, rfl, lw_ix 524 (by decide +kernel) rfl, lw_ix 4 (by decide +kernel) rfl, by decide +kernel⟩
set_option maxRecDepth 20000 in
theorem moX4_reckon : MO mX4_reckon 2 := ⟨by decide +kernel, rfl, lw_ix 353 (by decide +kernel) rfl, lw_ix 5 (by decide +kernel) rfl, by decide +kernel⟩
set_option maxRecDepth 20000 in
theorem moX4_wallAround : MO mX4_wallAround 3 := ⟨by decide +kernel, rfl, lw_ix 357 (by decide +kernel) rfl, lw_ix 5 (by decide +kernel) rfl, by decide +kernel⟩
set_option maxRecDepth 20000 in
theorem moX4_buy : MO mX4_buy 3 := ⟨by decide +kernel, rfl, lw_ix 361 (by decide +kernel) rfl, lw_ix 5 (by decide +kernel) rfl, by decide +kernel⟩
set_option maxRecDepth 20000 in
theorem moX4_shareOut : MO mX4_shareOut 3 := ⟨by decide +kernel, rfl, lw_ix 365 (by decide +kernel) rfl, lw_ix 5 (by decide +kernel) rfl, by decide +kernel⟩
set_option maxRecDepth 20000 in
theorem moX5_add : MO mX5_add 1 := ⟨by decide +kernel, rfl, lw_ix 313 (by decide +kernel) rfl, lw_ix 9 (by decide +kernel) rfl, by decide +kernel⟩
set_option maxRecDepth 20000 in
theorem moX5_firstFault : MO mX5_firstFault 1 := ⟨by decide +kernel, rfl, lw_ix 325 (by decide +kernel) rfl, lw_ix 9 (by decide +kernel) rfl, by decide +kernel⟩
set_option maxRecDepth 20000 in
theorem moX5_putInto : MO mX5_putInto 1 := ⟨by decide +kernel, rfl, lw_ix 333 (by decide +kernel) rfl, lw_ix 9 (by decide +kernel) rfl, by decide +kernel⟩
set_option maxRecDepth 20000 in
theorem moX6_addApart : MO mX6_addApart 0 := ⟨by decide +kernel, rfl, lw_ix 276 (by decide +kernel) rfl, lw_ix 6 (by decide +kernel) rfl, by decide +kernel⟩
set_option maxRecDepth 20000 in
theorem moX6_putAllApart : MO mX6_putAllApart 1 := ⟨by decide +kernel, rfl, lw_ix 516 (by decide +kernel) rfl, lw_ix 6 (by decide +kernel) rfl, by decide +kernel⟩
set_option maxRecDepth 20000 in
theorem moX6_putAllTogether : MO mX6_putAllTogether 1 := ⟨by decide +kernel, rfl, lw_ix 396 (by decide +kernel) rfl, lw_ix 6 (by decide +kernel) rfl, by decide +kernel⟩
set_option maxRecDepth 20000 in
theorem moX6_copy : MO mX6_copy 1 := ⟨by decide +kernel, rfl, lw_ix 437 (by decide +kernel) rfl, lw_ix 6 (by decide +kernel) rfl, by decide +kernel⟩
set_option maxRecDepth 20000 in
theorem moX6_leave : MO mX6_leave 1 := ⟨by decide +kernel, rfl, lw_ix 456 (by decide +kernel) rfl, lw_ix 6 (by decide +kernel) rfl, by decide +kernel⟩
set_option maxRecDepth 20000 in
theorem moX6_move : MO mX6_move 2 := ⟨by decide +kernel, rfl, lw_ix 468 (by decide +kernel) rfl, lw_ix 6 (by decide +kernel) rfl, by decide +kernel⟩
set_option maxRecDepth 20000 in
theorem moX6_gather : MO mX6_gather 1 := ⟨by decide +kernel, rfl, lw_ix 441 (by decide +kernel) rfl, lw_ix 6 (by decide +kernel) rfl, by decide +kernel⟩
set_option maxRecDepth 20000 in
theorem moX6_scatter : MO mX6_scatter 1 := ⟨by decide +kernel, rfl, lw_ix 559 (by decide +kernel) rfl, lw_ix 6 (by decide +kernel) rfl, by decide +kernel⟩
set_option maxRecDepth 20000 in
theorem moX6_number : MO mX6_number 0 := ⟨by decide +kernel, rfl, lw_ix 337 (by decide +kernel) rfl, lw_ix 6 (by decide +kernel) rfl, by decide +kernel⟩
set_option maxRecDepth 20000 in
theorem moX6_firstLike : MO mX6_firstLike 1 := ⟨by decide +kernel, rfl, lw_ix 341 (by decide +kernel) rfl, lw_ix 6 (by decide +kernel) rfl, by decide +kernel⟩
set_option maxRecDepth 20000 in
theorem moX6_advance : MO mX6_advance 0 := ⟨by decide +kernel, rfl, lw_ix 408 (by decide +kernel) rfl, lw_ix 6 (by decide +kernel) rfl, by decide +kernel⟩
set_option maxRecDepth 20000 in
theorem moX6_unionsAhead : MO mX6_unionsAhead 1 := ⟨by decide +kernel, rfl, lw_ix 412 (by decide +kernel) rfl, lw_ix 6 (by decide +kernel) rfl, by decide +kernel⟩
set_option maxRecDepth 20000 in
theorem moX6_place : MO mX6_place 0 := ⟨by decide +kernel, rfl, lw_ix 381 (by decide +kernel) rfl, lw_ix 6 (by decide +kernel) rfl, by decide +kernel⟩
set_option maxRecDepth 20000 in
theorem moX7_firstBreaker : MO mX7_firstBreaker 3 := ⟨by decide +kernel, rfl, lw_ix 424 (by decide +kernel) rfl, lw_ix 7 (by decide +kernel) rfl, by decide +kernel⟩
set_option maxRecDepth 20000 in
theorem moX8_land : MO mX8_land 4 := ⟨by decide +kernel, rfl, lw_ix 265 (by decide +kernel) rfl, lw_ix 1 (by decide +kernel) rfl, by decide +kernel⟩
set_option maxRecDepth 20000 in
theorem moX8_change : MO mX8_change 3 := ⟨by decide +kernel, rfl, lw_ix 280 (by decide +kernel) rfl, lw_ix 1 (by decide +kernel) rfl, by decide +kernel⟩
set_option maxRecDepth 20000 in
theorem moX8_set : MO mX8_set 2 := ⟨by decide +kernel, rfl, lw_ix 297 (by decide +kernel) rfl, lw_ix 1 (by decide +kernel) rfl, by decide +kernel⟩
set_option maxRecDepth 20000 in
theorem moX8_say : MO mX8_say 1 := ⟨by decide +kernel, rfl, lw_ix 309 (by decide +kernel) rfl, lw_ix 1 (by decide +kernel) rfl, by decide +kernel⟩
set_option maxRecDepth 20000 in
theorem moX8_wipe : MO mX8_wipe 0 := ⟨by decide +kernel, rfl, lw_ix 317 (by decide +kernel) rfl, lw_ix 1 (by decide +kernel) rfl, by decide +kernel⟩
set_option maxRecDepth 20000 in
theorem moX8_fault : MO mX8_fault 0 := ⟨by decide +kernel, rfl, lw_ix 321 (by decide +kernel) rfl, lw_ix 1 (by decide +kernel) rfl, by decide +kernel⟩
set_option maxRecDepth 20000 in
theorem moX8_part : MO mX8_part 0 := ⟨by decide +kernel, rfl, lw_ix 329 (by decide +kernel) rfl, lw_ix 1 (by decide +kernel) rfl, by decide +kernel⟩
set_option maxRecDepth 20000 in
theorem moX8_union : MO mX8_union 1 := ⟨by decide +kernel, rfl, lw_ix 345 (by decide +kernel) rfl, lw_ix 1 (by decide +kernel) rfl, by decide +kernel⟩
set_option maxRecDepth 20000 in
theorem moX8_of : MO mX8_of 2 := ⟨by decide +kernel, rfl, lw_ix 349 (by decide +kernel) rfl, lw_ix 1 (by decide +kernel) rfl, by decide +kernel⟩
set_option maxRecDepth 20000 in
theorem moX8_all : MO mX8_all 1 := ⟨by decide +kernel, rfl, lw_ix 369 (by decide +kernel) rfl, lw_ix 1 (by decide +kernel) rfl, by decide +kernel⟩
set_option maxRecDepth 20000 in
theorem moX8_goodsTogether : MO mX8_goodsTogether 1 := ⟨by decide +kernel, rfl, lw_ix 373 (by decide +kernel) rfl, lw_ix 1 (by decide +kernel) rfl, by decide +kernel⟩
set_option maxRecDepth 20000 in
theorem moX8_bestPlaced : MO mX8_bestPlaced 0 := ⟨by decide +kernel, rfl, lw_ix 392 (by decide +kernel) rfl, lw_ix 1 (by decide +kernel) rfl, by decide +kernel⟩
set_option maxRecDepth 20000 in
theorem moX8_breaks : MO mX8_breaks 1 := ⟨by decide +kernel, rfl, lw_ix 417 (by decide +kernel) rfl, lw_ix 1 (by decide +kernel) rfl, by decide +kernel⟩
set_option maxRecDepth 20000 in
theorem moX8_rests : MO mX8_rests 3 := ⟨by decide +kernel, rfl, lw_ix 472 (by decide +kernel) rfl, lw_ix 1 (by decide +kernel) rfl, by decide +kernel⟩
set_option maxRecDepth 20000 in
theorem moX8_go : MO mX8_go 2 := ⟨by decide +kernel, rfl, lw_ix 476 (by decide +kernel) rfl, lw_ix 1 (by decide +kernel) rfl, by decide +kernel⟩
set_option maxRecDepth 20000 in
theorem moX8_whole : MO mX8_whole 1 := ⟨by decide +kernel, rfl, lw_ix 512 (by decide +kernel) rfl, lw_ix 1 (by decide +kernel) rfl, by decide +kernel⟩
set_option maxRecDepth 20000 in
theorem moX8_rules : MO mX8_rules 0 := ⟨by decide +kernel, rfl, lw_ix 520 (by decide +kernel) rfl, lw_ix 1 (by decide +kernel) rfl, by decide +kernel⟩
set_option maxRecDepth 20000 in
theorem moX8_propose : MO mX8_propose 2 := ⟨by decide +kernel, rfl, lw_ix 529 (by decide +kernel) rfl, lw_ix 1 (by decide +kernel) rfl, by decide +kernel⟩
set_option maxRecDepth 20000 in
theorem moX8_enter : MO mX8_enter 3 := ⟨by decide +kernel, rfl, lw_ix 538 (by decide +kernel) rfl, lw_ix 1 (by decide +kernel) rfl, by decide +kernel⟩
set_option maxRecDepth 20000 in
theorem moX8_holds : MO mX8_holds 0 := ⟨by decide +kernel, rfl, lw_ix 550 (by decide +kernel) rfl, lw_ix 1 (by decide +kernel) rfl, by decide +kernel⟩
set_option maxRecDepth 20000 in
theorem moX8_hurt : MO mX8_hurt 1 := ⟨by decide +kernel, rfl, lw_ix 555 (by decide +kernel) rfl, lw_ix 1 (by decide +kernel) rfl, by decide +kernel⟩
set_option maxRecDepth 20000 in
theorem moX8_edge : MO mX8_edge 1 := ⟨by decide +kernel, rfl, lw_ix 563 (by decide +kernel) rfl, lw_ix 1 (by decide +kernel) rfl, by decide +kernel⟩
set_option maxRecDepth 20000 in
theorem moX8_turnsStay : MO mX8_turnsStay 3 := ⟨by decide +kernel, rfl, lw_ix 567 (by decide +kernel) rfl, lw_ix 1 (by decide +kernel) rfl, by decide +kernel⟩
set_option maxRecDepth 20000 in
theorem moX8_told : MO mX8_told 1 := ⟨by decide +kernel, rfl, lw_ix 571 (by decide +kernel) rfl, lw_ix 1 (by decide +kernel) rfl, by decide +kernel⟩
set_option maxRecDepth 20000 in
theorem moX8_isLand : MO mX8_isLand 1 := ⟨by decide +kernel, rfl, lw_ix 284 (by decide +kernel) rfl, lw_ix 1 (by decide +kernel) rfl, by decide +kernel⟩
set_option maxRecDepth 20000 in
theorem moX8_isUnion : MO mX8_isUnion 1 := ⟨by decide +kernel, rfl, lw_ix 543 (by decide +kernel) rfl, lw_ix 1 (by decide +kernel) rfl, by decide +kernel⟩
set_option maxRecDepth 20000 in
theorem moX8_isRest : MO mX8_isRest 1 := ⟨by decide +kernel, rfl, lw_ix 420 (by decide +kernel) rfl, lw_ix 1 (by decide +kernel) rfl, by decide +kernel⟩
set_option maxRecDepth 20000 in
theorem moX9_in : MO mX9_in 3 := ⟨by decide +kernel, rfl, lw_ix 654 (by decide +kernel) rfl, lw_ix 10 (by decide +kernel) rfl, by decide +kernel⟩
set_option maxRecDepth 20000 in
theorem moX9_isLand : MO mX9_isLand 1 := ⟨by decide +kernel, rfl, lw_ix 666 (by decide +kernel) rfl, lw_ix 10 (by decide +kernel) rfl, by decide +kernel⟩
set_option maxRecDepth 20000 in
theorem moX9_isNumber : MO mX9_isNumber 2 := ⟨by decide +kernel, rfl, lw_ix 648 (by decide +kernel) rfl, lw_ix 10 (by decide +kernel) rfl, by decide +kernel⟩
set_option maxRecDepth 20000 in
theorem moX9_land : MO mX9_land 4 := ⟨by decide +kernel, rfl, lw_ix 645 (by decide +kernel) rfl, lw_ix 10 (by decide +kernel) rfl, by decide +kernel⟩
set_option maxRecDepth 20000 in
theorem moX9_change : MO mX9_change 3 := ⟨by decide +kernel, rfl, lw_ix 662 (by decide +kernel) rfl, lw_ix 10 (by decide +kernel) rfl, by decide +kernel⟩
set_option maxRecDepth 20000 in
theorem moX9_set : MO mX9_set 2 := ⟨by decide +kernel, rfl, lw_ix 671 (by decide +kernel) rfl, lw_ix 10 (by decide +kernel) rfl, by decide +kernel⟩
set_option maxRecDepth 20000 in
theorem moX9_manyOf : MO mX9_manyOf 1 := ⟨by decide +kernel, rfl, lw_ix 658 (by decide +kernel) rfl, lw_ix 10 (by decide +kernel) rfl, by decide +kernel⟩
set_option maxRecDepth 20000 in
theorem moX9_say : MO mX9_say 1 := ⟨by decide +kernel, rfl, lw_ix 676 (by decide +kernel) rfl, lw_ix 10 (by decide +kernel) rfl, by decide +kernel⟩
set_option maxRecDepth 20000 in
theorem moX9_wipe : MO mX9_wipe 0 := ⟨by decide +kernel, rfl, lw_ix 682 (by decide +kernel) rfl, lw_ix 10 (by decide +kernel) rfl, by decide +kernel⟩
set_option maxRecDepth 20000 in
theorem moX9_fault : MO mX9_fault 0 := ⟨by decide +kernel, rfl, lw_ix 686 (by decide +kernel) rfl, lw_ix 10 (by decide +kernel) rfl, by decide +kernel⟩
set_option maxRecDepth 20000 in
theorem moX9_part : MO mX9_part 0 := ⟨by decide +kernel, rfl, lw_ix 691 (by decide +kernel) rfl, lw_ix 10 (by decide +kernel) rfl, by decide +kernel⟩
set_option maxRecDepth 20000 in
theorem moX9_number : MO mX9_number 1 := ⟨by decide +kernel, rfl, lw_ix 696 (by decide +kernel) rfl, lw_ix 10 (by decide +kernel) rfl, by decide +kernel⟩
set_option maxRecDepth 20000 in
theorem moX9_union : MO mX9_union 1 := ⟨by decide +kernel, rfl, lw_ix 700 (by decide +kernel) rfl, lw_ix 10 (by decide +kernel) rfl, by decide +kernel⟩
set_option maxRecDepth 20000 in
theorem moX9_wallOf : MO mX9_wallOf 2 := ⟨by decide +kernel, rfl, lw_ix 712 (by decide +kernel) rfl, lw_ix 10 (by decide +kernel) rfl, by decide +kernel⟩
set_option maxRecDepth 20000 in
theorem moX9_findGoods : MO mX9_findGoods 1 := ⟨by decide +kernel, rfl, lw_ix 708 (by decide +kernel) rfl, lw_ix 10 (by decide +kernel) rfl, by decide +kernel⟩
set_option maxRecDepth 20000 in
theorem moX9_shareOf : MO mX9_shareOf 2 := ⟨by decide +kernel, rfl, lw_ix 716 (by decide +kernel) rfl, lw_ix 10 (by decide +kernel) rfl, by decide +kernel⟩
set_option maxRecDepth 20000 in
theorem moX9_copy : MO mX9_copy 2 := ⟨by decide +kernel, rfl, lw_ix 748 (by decide +kernel) rfl, lw_ix 10 (by decide +kernel) rfl, by decide +kernel⟩
set_option maxRecDepth 20000 in
theorem moX9_together : MO mX9_together 0 := ⟨by decide +kernel, rfl, lw_ix 724 (by decide +kernel) rfl, lw_ix 10 (by decide +kernel) rfl, by decide +kernel⟩
set_option maxRecDepth 20000 in
theorem moX9_of : MO mX9_of 2 := ⟨by decide +kernel, rfl, lw_ix 704 (by decide +kernel) rfl, lw_ix 10 (by decide +kernel) rfl, by decide +kernel⟩
set_option maxRecDepth 20000 in
theorem moX9_firstParting : MO mX9_firstParting 0 := ⟨by decide +kernel, rfl, lw_ix 728 (by decide +kernel) rfl, lw_ix 10 (by decide +kernel) rfl, by decide +kernel⟩
set_option maxRecDepth 20000 in
theorem moX9_nextParting : MO mX9_nextParting 0 := ⟨by decide +kernel, rfl, lw_ix 732 (by decide +kernel) rfl, lw_ix 10 (by decide +kernel) rfl, by decide +kernel⟩
set_option maxRecDepth 20000 in
theorem moX9_all : MO mX9_all 1 := ⟨by decide +kernel, rfl, lw_ix 720 (by decide +kernel) rfl, lw_ix 10 (by decide +kernel) rfl, by decide +kernel⟩
set_option maxRecDepth 20000 in
theorem moX9_keepGoods : MO mX9_keepGoods 1 := ⟨by decide +kernel, rfl, lw_ix 744 (by decide +kernel) rfl, lw_ix 10 (by decide +kernel) rfl, by decide +kernel⟩
set_option maxRecDepth 20000 in
theorem moX9_gainApart : MO mX9_gainApart 2 := ⟨by decide +kernel, rfl, lw_ix 764 (by decide +kernel) rfl, lw_ix 10 (by decide +kernel) rfl, by decide +kernel⟩
set_option maxRecDepth 20000 in
theorem moX9_gainIn : MO mX9_gainIn 3 := ⟨by decide +kernel, rfl, lw_ix 772 (by decide +kernel) rfl, lw_ix 10 (by decide +kernel) rfl, by decide +kernel⟩
set_option maxRecDepth 20000 in
theorem moX9_leaver : MO mX9_leaver 1 := ⟨by decide +kernel, rfl, lw_ix 760 (by decide +kernel) rfl, lw_ix 10 (by decide +kernel) rfl, by decide +kernel⟩
set_option maxRecDepth 20000 in
theorem moX9_joiner : MO mX9_joiner 1 := ⟨by decide +kernel, rfl, lw_ix 768 (by decide +kernel) rfl, lw_ix 10 (by decide +kernel) rfl, by decide +kernel⟩
set_option maxRecDepth 20000 in
theorem moX9_isUnion : MO mX9_isUnion 2 := ⟨by decide +kernel, rfl, lw_ix 756 (by decide +kernel) rfl, lw_ix 10 (by decide +kernel) rfl, by decide +kernel⟩
set_option maxRecDepth 20000 in
theorem moX9_isBetter : MO mX9_isBetter 2 := ⟨by decide +kernel, rfl, lw_ix 752 (by decide +kernel) rfl, lw_ix 10 (by decide +kernel) rfl, by decide +kernel⟩
set_option maxRecDepth 20000 in
theorem moX9_breakerOf : MO mX9_breakerOf 2 := ⟨by decide +kernel, rfl, lw_ix 740 (by decide +kernel) rfl, lw_ix 10 (by decide +kernel) rfl, by decide +kernel⟩
set_option maxRecDepth 20000 in
theorem moX9_breaks : MO mX9_breaks 1 := ⟨by decide +kernel, rfl, lw_ix 736 (by decide +kernel) rfl, lw_ix 10 (by decide +kernel) rfl, by decide +kernel⟩
set_option maxRecDepth 20000 in
theorem moX9_rests : MO mX9_rests 3 := ⟨by decide +kernel, rfl, lw_ix 776 (by decide +kernel) rfl, lw_ix 10 (by decide +kernel) rfl, by decide +kernel⟩
set_option maxRecDepth 20000 in
theorem moX9_stateOf : MO mX9_stateOf 2 := ⟨by decide +kernel, rfl, lw_ix 790 (by decide +kernel) rfl, lw_ix 10 (by decide +kernel) rfl, by decide +kernel⟩
set_option maxRecDepth 20000 in
theorem moX9_goOne : MO mX9_goOne 1 := ⟨by decide +kernel, rfl, lw_ix 794 (by decide +kernel) rfl, lw_ix 10 (by decide +kernel) rfl, by decide +kernel⟩
set_option maxRecDepth 20000 in
theorem moX9_goAll : MO mX9_goAll 1 := ⟨by decide +kernel, rfl, lw_ix 786 (by decide +kernel) rfl, lw_ix 10 (by decide +kernel) rfl, by decide +kernel⟩
set_option maxRecDepth 20000 in
theorem moX9_go : MO mX9_go 2 := ⟨by decide +kernel, rfl, lw_ix 780 (by decide +kernel) rfl, lw_ix 10 (by decide +kernel) rfl, by decide +kernel⟩
set_option maxRecDepth 20000 in
theorem moX9_whole : MO mX9_whole 1 := ⟨by decide +kernel, rfl, lw_ix 798 (by decide +kernel) rfl, lw_ix 10 (by decide +kernel) rfl, by decide +kernel⟩
set_option maxRecDepth 20000 in
theorem moX9_rules : MO mX9_rules 0 := ⟨by decide +kernel, rfl, lw_ix 802 (by decide +kernel) rfl, lw_ix 10 (by decide +kernel) rfl, by decide +kernel⟩
set_option maxRecDepth 20000 in
theorem moX9_propose : MO mX9_propose 2 := ⟨by decide +kernel, rfl, lw_ix 806 (by decide +kernel) rfl, lw_ix 10 (by decide +kernel) rfl, by decide +kernel⟩
set_option maxRecDepth 20000 in
theorem moX9_isThere : MO mX9_isThere 1 := ⟨by decide +kernel, rfl, lw_ix 815 (by decide +kernel) rfl, lw_ix 10 (by decide +kernel) rfl, by decide +kernel⟩
set_option maxRecDepth 20000 in
theorem moX9_enter : MO mX9_enter 3 := ⟨by decide +kernel, rfl, lw_ix 810 (by decide +kernel) rfl, lw_ix 10 (by decide +kernel) rfl, by decide +kernel⟩
set_option maxRecDepth 20000 in
theorem moX9_holds : MO mX9_holds 0 := ⟨by decide +kernel, rfl, lw_ix 820 (by decide +kernel) rfl, lw_ix 10 (by decide +kernel) rfl, by decide +kernel⟩
set_option maxRecDepth 20000 in
theorem moX9_hurt : MO mX9_hurt 1 := ⟨by decide +kernel, rfl, lw_ix 824 (by decide +kernel) rfl, lw_ix 10 (by decide +kernel) rfl, by decide +kernel⟩
set_option maxRecDepth 20000 in
theorem moX9_edge : MO mX9_edge 1 := ⟨by decide +kernel, rfl, lw_ix 828 (by decide +kernel) rfl, lw_ix 10 (by decide +kernel) rfl, by decide +kernel⟩
set_option maxRecDepth 20000 in
theorem moX9_told : MO mX9_told 1 := ⟨by decide +kernel, rfl, lw_ix 832 (by decide +kernel) rfl, lw_ix 10 (by decide +kernel) rfl, by decide +kernel⟩
set_option maxRecDepth 20000 in
theorem lkX0_32 : Cond.methodLink RX0 32 yX6_place ∈ lw_g ∧ Cond.instanceMethod yX6_place ∈ lw_g ∧ Cond.selects yX6_place.cls yX6_place yX6_place ∈ lw_g := ⟨lw_ix 378 (by decide +kernel) rfl, lw_ix 379 (by decide +kernel) rfl, lw_ix 380 (by decide +kernel) rfl⟩
set_option maxRecDepth 20000 in
theorem lkX0_42 : Cond.methodLink RX0 42 yX4_reckon ∈ lw_g ∧ Cond.instanceMethod yX4_reckon ∈ lw_g ∧ Cond.selects yX4_reckon.cls yX4_reckon yX4_reckon ∈ lw_g := ⟨lw_ix 384 (by decide +kernel) rfl, lw_ix 351 (by decide +kernel) rfl, lw_ix 352 (by decide +kernel) rfl⟩
set_option maxRecDepth 20000 in
theorem lkX1_22 : Cond.methodLink RX1 22 yX6_copy ∈ lw_g ∧ Cond.instanceMethod yX6_copy ∈ lw_g ∧ Cond.selects yX6_copy.cls yX6_copy yX6_copy ∈ lw_g := ⟨lw_ix 481 (by decide +kernel) rfl, lw_ix 435 (by decide +kernel) rfl, lw_ix 436 (by decide +kernel) rfl⟩
set_option maxRecDepth 20000 in
theorem lkX1_36 : Cond.methodLink RX1 36 yX1_where ∈ lw_g ∧ Cond.instanceMethod yX1_where ∈ lw_g ∧ Cond.selects yX1_where.cls yX1_where yX1_where ∈ lw_g := ⟨lw_ix 482 (by decide +kernel) rfl, lw_ix 484 (by decide +kernel) rfl, lw_ip 8 (by decide +kernel) rfl⟩
set_option maxRecDepth 20000 in
theorem lkX1_40 : Cond.methodLink RX1 40 yX1_firstSeen ∈ lw_g ∧ Cond.instanceMethod yX1_firstSeen ∈ lw_g ∧ Cond.selects yX1_firstSeen.cls yX1_firstSeen yX1_firstSeen ∈ lw_g := ⟨lw_ix 487 (by decide +kernel) rfl, lw_ix 489 (by decide +kernel) rfl, lw_ip 9 (by decide +kernel) rfl⟩
set_option maxRecDepth 20000 in
theorem lkX1_44 : Cond.methodLink RX1 44 yX1_findGoer ∈ lw_g ∧ Cond.instanceMethod yX1_findGoer ∈ lw_g ∧ Cond.selects yX1_findGoer.cls yX1_findGoer yX1_findGoer ∈ lw_g := ⟨lw_ix 491 (by decide +kernel) rfl, lw_ix 493 (by decide +kernel) rfl, lw_ip 10 (by decide +kernel) rfl⟩
set_option maxRecDepth 20000 in
theorem lkX1_48 : Cond.methodLink RX1 48 yX1_step ∈ lw_g ∧ Cond.instanceMethod yX1_step ∈ lw_g ∧ Cond.selects yX1_step.cls yX1_step yX1_step ∈ lw_g := ⟨lw_ix 503 (by decide +kernel) rfl, lw_ix 505 (by decide +kernel) rfl, lw_ip 12 (by decide +kernel) rfl⟩
set_option maxRecDepth 20000 in
theorem lkX1_51 : Cond.methodLink RX1 51 yX6_place ∈ lw_g ∧ Cond.instanceMethod yX6_place ∈ lw_g ∧ Cond.selects yX6_place.cls yX6_place yX6_place ∈ lw_g := ⟨lw_ix 486 (by decide +kernel) rfl, lw_ix 379 (by decide +kernel) rfl, lw_ix 380 (by decide +kernel) rfl⟩
set_option maxRecDepth 20000 in
theorem lkX1_60 : Cond.methodLink RX1 60 yX2_bestGoal ∈ lw_g ∧ Cond.instanceMethod yX2_bestGoal ∈ lw_g ∧ Cond.selects yX2_bestGoal.cls yX2_bestGoal yX2_bestGoal ∈ lw_g := ⟨lw_ix 495 (by decide +kernel) rfl, lw_ix 496 (by decide +kernel) rfl, lw_ix 497 (by decide +kernel) rfl⟩
set_option maxRecDepth 20000 in
theorem lkX1_69 : Cond.methodLink RX1 69 yX1_behind ∈ lw_g ∧ Cond.instanceMethod yX1_behind ∈ lw_g ∧ Cond.selects yX1_behind.cls yX1_behind yX1_behind ∈ lw_g := ⟨lw_ix 499 (by decide +kernel) rfl, lw_ix 501 (by decide +kernel) rfl, lw_ip 11 (by decide +kernel) rfl⟩
set_option maxRecDepth 20000 in
theorem lkX1_73 : Cond.methodLink RX1 73 yX6_leave ∈ lw_g ∧ Cond.instanceMethod yX6_leave ∈ lw_g ∧ Cond.selects yX6_leave.cls yX6_leave yX6_leave ∈ lw_g := ⟨lw_ix 507 (by decide +kernel) rfl, lw_ix 454 (by decide +kernel) rfl, lw_ix 455 (by decide +kernel) rfl⟩
set_option maxRecDepth 20000 in
theorem lkX1_77 : Cond.methodLink RX1 77 yX6_move ∈ lw_g ∧ Cond.instanceMethod yX6_move ∈ lw_g ∧ Cond.selects yX6_move.cls yX6_move yX6_move ∈ lw_g := ⟨lw_ix 508 (by decide +kernel) rfl, lw_ix 466 (by decide +kernel) rfl, lw_ix 467 (by decide +kernel) rfl⟩
set_option maxRecDepth 20000 in
theorem lkX2_30 : Cond.methodLink RX2 30 yX6_copy ∈ lw_g ∧ Cond.instanceMethod yX6_copy ∈ lw_g ∧ Cond.selects yX6_copy.cls yX6_copy yX6_copy ∈ lw_g := ⟨lw_ix 434 (by decide +kernel) rfl, lw_ix 435 (by decide +kernel) rfl, lw_ix 436 (by decide +kernel) rfl⟩
set_option maxRecDepth 20000 in
theorem lkX2_34 : Cond.methodLink RX2 34 yX6_leave ∈ lw_g ∧ Cond.instanceMethod yX6_leave ∈ lw_g ∧ Cond.selects yX6_leave.cls yX6_leave yX6_leave ∈ lw_g := ⟨lw_ix 453 (by decide +kernel) rfl, lw_ix 454 (by decide +kernel) rfl, lw_ix 455 (by decide +kernel) rfl⟩
set_option maxRecDepth 20000 in
theorem lkX2_38 : Cond.methodLink RX2 38 yX0_rowOf ∈ lw_g ∧ Cond.instanceMethod yX0_rowOf ∈ lw_g ∧ Cond.selects yX0_rowOf.cls yX0_rowOf yX0_rowOf ∈ lw_g := ⟨lw_ix 443 (by decide +kernel) rfl, lw_ix 375 (by decide +kernel) rfl, lw_ix 376 (by decide +kernel) rfl⟩
set_option maxRecDepth 20000 in
theorem lkX2_42 : Cond.methodLink RX2 42 yX0_at ∈ lw_g ∧ Cond.instanceMethod yX0_at ∈ lw_g ∧ Cond.selects yX0_at.cls yX0_at yX0_at ∈ lw_g := ⟨lw_ix 444 (by decide +kernel) rfl, lw_ix 386 (by decide +kernel) rfl, lw_ix 387 (by decide +kernel) rfl⟩
set_option maxRecDepth 20000 in
theorem lkX2_46 : Cond.methodLink RX2 46 yX6_move ∈ lw_g ∧ Cond.instanceMethod yX6_move ∈ lw_g ∧ Cond.selects yX6_move.cls yX6_move yX6_move ∈ lw_g := ⟨lw_ix 465 (by decide +kernel) rfl, lw_ix 466 (by decide +kernel) rfl, lw_ix 467 (by decide +kernel) rfl⟩
set_option maxRecDepth 20000 in
theorem lkX2_60 : Cond.methodLink RX2 60 yX6_gather ∈ lw_g ∧ Cond.instanceMethod yX6_gather ∈ lw_g ∧ Cond.selects yX6_gather.cls yX6_gather yX6_gather ∈ lw_g := ⟨lw_ix 438 (by decide +kernel) rfl, lw_ix 439 (by decide +kernel) rfl, lw_ix 440 (by decide +kernel) rfl⟩
set_option maxRecDepth 20000 in
theorem lkX2_63 : Cond.methodLink RX2 63 yX2_gainByLeaving ∈ lw_g ∧ Cond.instanceMethod yX2_gainByLeaving ∈ lw_g ∧ Cond.selects yX2_gainByLeaving.cls yX2_gainByLeaving yX2_gainByLeaving ∈ lw_g := ⟨lw_ix 449 (by decide +kernel) rfl, lw_ix 450 (by decide +kernel) rfl, lw_ix 451 (by decide +kernel) rfl⟩
set_option maxRecDepth 20000 in
theorem lkX2_70 : Cond.methodLink RX2 70 yX2_gainByJoining ∈ lw_g ∧ Cond.instanceMethod yX2_gainByJoining ∈ lw_g ∧ Cond.selects yX2_gainByJoining.cls yX2_gainByJoining yX2_gainByJoining ∈ lw_g := ⟨lw_ix 461 (by decide +kernel) rfl, lw_ix 462 (by decide +kernel) rfl, lw_ix 463 (by decide +kernel) rfl⟩
set_option maxRecDepth 20000 in
theorem lkX2_75 : Cond.methodLink RX2 75 yX2_wouldAllGain ∈ lw_g ∧ Cond.instanceMethod yX2_wouldAllGain ∈ lw_g ∧ Cond.selects yX2_wouldAllGain.cls yX2_wouldAllGain yX2_wouldAllGain ∈ lw_g := ⟨lw_ix 430 (by decide +kernel) rfl, lw_ix 431 (by decide +kernel) rfl, lw_ix 432 (by decide +kernel) rfl⟩
set_option maxRecDepth 20000 in
theorem lkX3_31 : Cond.methodLink RX3 31 yX3_rowOf ∈ lw_g ∧ Cond.instanceMethod yX3_rowOf ∈ lw_g ∧ Cond.selects yX3_rowOf.cls yX3_rowOf yX3_rowOf ∈ lw_g := ⟨lw_ix 293 (by decide +kernel) rfl, lw_ix 286 (by decide +kernel) rfl, lw_ix 287 (by decide +kernel) rfl⟩
set_option maxRecDepth 20000 in
theorem lkX4_36 : Cond.methodLink RX4 36 yX4_wallAround ∈ lw_g ∧ Cond.instanceMethod yX4_wallAround ∈ lw_g ∧ Cond.selects yX4_wallAround.cls yX4_wallAround yX4_wallAround ∈ lw_g := ⟨lw_ix 354 (by decide +kernel) rfl, lw_ix 356 (by decide +kernel) rfl, lw_ip 2 (by decide +kernel) rfl⟩
set_option maxRecDepth 20000 in
theorem lkX4_40 : Cond.methodLink RX4 40 yX4_buy ∈ lw_g ∧ Cond.instanceMethod yX4_buy ∈ lw_g ∧ Cond.selects yX4_buy.cls yX4_buy yX4_buy ∈ lw_g := ⟨lw_ix 358 (by decide +kernel) rfl, lw_ix 360 (by decide +kernel) rfl, lw_ip 3 (by decide +kernel) rfl⟩
set_option maxRecDepth 20000 in
theorem lkX4_55 : Cond.methodLink RX4 55 yX4_shareOut ∈ lw_g ∧ Cond.instanceMethod yX4_shareOut ∈ lw_g ∧ Cond.selects yX4_shareOut.cls yX4_shareOut yX4_shareOut ∈ lw_g := ⟨lw_ix 362 (by decide +kernel) rfl, lw_ix 364 (by decide +kernel) rfl, lw_ip 4 (by decide +kernel) rfl⟩
set_option maxRecDepth 20000 in
theorem lkX5_25 : Cond.methodLink RX5 25 yX6_number ∈ lw_g ∧ Cond.instanceMethod yX6_number ∈ lw_g ∧ Cond.selects yX6_number.cls yX6_number yX6_number ∈ lw_g := ⟨lw_ix 334 (by decide +kernel) rfl, lw_ix 335 (by decide +kernel) rfl, lw_ix 336 (by decide +kernel) rfl⟩
set_option maxRecDepth 20000 in
theorem lkX6_25 : Cond.methodLink RX6 25 Lib.Math.min.name ∈ lw_g ∧ Cond.static Lib.Math.min.name ∈ lw_g ∧ Cond.initialized "java/lang/Math" ∈ lw_g ∧ Cond.code Lib.Math.min.name Lib.Math.min.code 2 (some .int) ∈ lw_g := ⟨lw_ix 397 (by decide +kernel) rfl, lw_ix 398 (by decide +kernel) rfl, lw_ix 11 (by decide +kernel) rfl, lw_ix 399 (by decide +kernel) rfl⟩
set_option maxRecDepth 20000 in
theorem lkX6_31 : Cond.methodLink RX6 31 yX6_number ∈ lw_g ∧ Cond.instanceMethod yX6_number ∈ lw_g ∧ Cond.selects yX6_number.cls yX6_number yX6_number ∈ lw_g := ⟨lw_ix 442 (by decide +kernel) rfl, lw_ix 335 (by decide +kernel) rfl, lw_ix 336 (by decide +kernel) rfl⟩
set_option maxRecDepth 20000 in
theorem lkX6_34 : Cond.methodLink RX6 34 yX6_firstLike ∈ lw_g ∧ Cond.instanceMethod yX6_firstLike ∈ lw_g ∧ Cond.selects yX6_firstLike.cls yX6_firstLike yX6_firstLike ∈ lw_g := ⟨lw_ix 338 (by decide +kernel) rfl, lw_ix 340 (by decide +kernel) rfl, lw_ip 1 (by decide +kernel) rfl⟩
set_option maxRecDepth 20000 in
theorem lkX6_38 : Cond.methodLink RX6 38 yX6_unionsAhead ∈ lw_g ∧ Cond.instanceMethod yX6_unionsAhead ∈ lw_g ∧ Cond.selects yX6_unionsAhead.cls yX6_unionsAhead yX6_unionsAhead ∈ lw_g := ⟨lw_ix 409 (by decide +kernel) rfl, lw_ix 411 (by decide +kernel) rfl, lw_ip 7 (by decide +kernel) rfl⟩
set_option maxRecDepth 20000 in
theorem lkX6_41 : Cond.methodLink RX6 41 Lib.Math.max.name ∈ lw_g ∧ Cond.static Lib.Math.max.name ∈ lw_g ∧ Cond.initialized "java/lang/Math" ∈ lw_g ∧ Cond.code Lib.Math.max.name Lib.Math.max.code 2 (some .int) ∈ lw_g := ⟨lw_ix 413 (by decide +kernel) rfl, lw_ix 403 (by decide +kernel) rfl, lw_ix 11 (by decide +kernel) rfl, lw_ix 404 (by decide +kernel) rfl⟩
set_option maxRecDepth 20000 in
theorem lkX7_18 : Cond.methodLink RX7 18 yX6_place ∈ lw_g ∧ Cond.instanceMethod yX6_place ∈ lw_g ∧ Cond.selects yX6_place.cls yX6_place yX6_place ∈ lw_g := ⟨lw_ix 425 (by decide +kernel) rfl, lw_ix 379 (by decide +kernel) rfl, lw_ix 380 (by decide +kernel) rfl⟩
set_option maxRecDepth 20000 in
theorem lkX7_36 : Cond.methodLink RX7 36 yX2_coreBreaker ∈ lw_g ∧ Cond.instanceMethod yX2_coreBreaker ∈ lw_g ∧ Cond.selects yX2_coreBreaker.cls yX2_coreBreaker yX2_coreBreaker ∈ lw_g := ⟨lw_ix 426 (by decide +kernel) rfl, lw_ix 427 (by decide +kernel) rfl, lw_ix 428 (by decide +kernel) rfl⟩
set_option maxRecDepth 20000 in
theorem lkX7_40 : Cond.methodLink RX7 40 yX2_stayBreaker ∈ lw_g ∧ Cond.instanceMethod yX2_stayBreaker ∈ lw_g ∧ Cond.selects yX2_stayBreaker.cls yX2_stayBreaker yX2_stayBreaker ∈ lw_g := ⟨lw_ix 445 (by decide +kernel) rfl, lw_ix 446 (by decide +kernel) rfl, lw_ix 447 (by decide +kernel) rfl⟩
set_option maxRecDepth 20000 in
theorem lkX7_43 : Cond.methodLink RX7 43 yX2_joinBreaker ∈ lw_g ∧ Cond.instanceMethod yX2_joinBreaker ∈ lw_g ∧ Cond.selects yX2_joinBreaker.cls yX2_joinBreaker yX2_joinBreaker ∈ lw_g := ⟨lw_ix 457 (by decide +kernel) rfl, lw_ix 458 (by decide +kernel) rfl, lw_ix 459 (by decide +kernel) rfl⟩
set_option maxRecDepth 20000 in
theorem lkX8_67 : Cond.methodLink RX8 67 yX3_fits ∈ lw_g ∧ Cond.static yX3_fits ∈ lw_g := ⟨lw_ix 266 (by decide +kernel) rfl, lw_ix 267 (by decide +kernel) rfl⟩
set_option maxRecDepth 20000 in
theorem lkX8_77 : Cond.methodLink RX8 77 yX3_add ∈ lw_g ∧ Cond.instanceMethod yX3_add ∈ lw_g ∧ Cond.selects yX3_add.cls yX3_add yX3_add ∈ lw_g := ⟨lw_ix 269 (by decide +kernel) rfl, lw_ix 270 (by decide +kernel) rfl, lw_ix 271 (by decide +kernel) rfl⟩
set_option maxRecDepth 20000 in
theorem lkX8_81 : Cond.methodLink RX8 81 yX6_addApart ∈ lw_g ∧ Cond.instanceMethod yX6_addApart ∈ lw_g ∧ Cond.selects yX6_addApart.cls yX6_addApart yX6_addApart ∈ lw_g := ⟨lw_ix 273 (by decide +kernel) rfl, lw_ix 274 (by decide +kernel) rfl, lw_ix 275 (by decide +kernel) rfl⟩
set_option maxRecDepth 20000 in
theorem lkX8_84 : Cond.methodLink RX8 84 yX8_isLand ∈ lw_g ∧ Cond.instanceMethod yX8_isLand ∈ lw_g ∧ Cond.selects yX8_isLand.cls yX8_isLand yX8_isLand ∈ lw_g := ⟨lw_ix 281 (by decide +kernel) rfl, lw_ix 283 (by decide +kernel) rfl, lw_ip 0 (by decide +kernel) rfl⟩
set_option maxRecDepth 20000 in
theorem lkX8_88 : Cond.methodLink RX8 88 yX3_rowOf ∈ lw_g ∧ Cond.instanceMethod yX3_rowOf ∈ lw_g ∧ Cond.selects yX3_rowOf.cls yX3_rowOf yX3_rowOf ∈ lw_g := ⟨lw_ix 285 (by decide +kernel) rfl, lw_ix 286 (by decide +kernel) rfl, lw_ix 287 (by decide +kernel) rfl⟩
set_option maxRecDepth 20000 in
theorem lkX8_92 : Cond.methodLink RX8 92 yX3_put ∈ lw_g ∧ Cond.instanceMethod yX3_put ∈ lw_g ∧ Cond.selects yX3_put.cls yX3_put yX3_put ∈ lw_g := ⟨lw_ix 289 (by decide +kernel) rfl, lw_ix 290 (by decide +kernel) rfl, lw_ix 291 (by decide +kernel) rfl⟩
set_option maxRecDepth 20000 in
theorem lkX8_102 : Cond.methodLink RX8 102 yX3_putWalls ∈ lw_g ∧ Cond.instanceMethod yX3_putWalls ∈ lw_g ∧ Cond.selects yX3_putWalls.cls yX3_putWalls yX3_putWalls ∈ lw_g := ⟨lw_ix 298 (by decide +kernel) rfl, lw_ix 299 (by decide +kernel) rfl, lw_ix 300 (by decide +kernel) rfl⟩
set_option maxRecDepth 20000 in
theorem lkX8_106 : Cond.methodLink RX8 106 yX3_putShares ∈ lw_g ∧ Cond.instanceMethod yX3_putShares ∈ lw_g ∧ Cond.selects yX3_putShares.cls yX3_putShares yX3_putShares ∈ lw_g := ⟨lw_ix 302 (by decide +kernel) rfl, lw_ix 303 (by decide +kernel) rfl, lw_ix 304 (by decide +kernel) rfl⟩
set_option maxRecDepth 20000 in
theorem lkX8_110 : Cond.methodLink RX8 110 yX5_add ∈ lw_g ∧ Cond.instanceMethod yX5_add ∈ lw_g ∧ Cond.selects yX5_add.cls yX5_add yX5_add ∈ lw_g := ⟨lw_ix 310 (by decide +kernel) rfl, lw_ix 311 (by decide +kernel) rfl, lw_ix 312 (by decide +kernel) rfl⟩
set_option maxRecDepth 20000 in
theorem lkX8_112 : Cond.methodLink RX8 112 yX5_firstFault ∈ lw_g ∧ Cond.instanceMethod yX5_firstFault ∈ lw_g ∧ Cond.selects yX5_firstFault.cls yX5_firstFault yX5_firstFault ∈ lw_g := ⟨lw_ix 322 (by decide +kernel) rfl, lw_ix 323 (by decide +kernel) rfl, lw_ix 324 (by decide +kernel) rfl⟩
set_option maxRecDepth 20000 in
theorem lkX8_116 : Cond.methodLink RX8 116 yX5_putInto ∈ lw_g ∧ Cond.instanceMethod yX5_putInto ∈ lw_g ∧ Cond.selects yX5_putInto.cls yX5_putInto yX5_putInto ∈ lw_g := ⟨lw_ix 330 (by decide +kernel) rfl, lw_ix 331 (by decide +kernel) rfl, lw_ix 332 (by decide +kernel) rfl⟩
set_option maxRecDepth 20000 in
theorem lkX8_127 : Cond.methodLink RX8 127 yX4_reckon ∈ lw_g ∧ Cond.instanceMethod yX4_reckon ∈ lw_g ∧ Cond.selects yX4_reckon.cls yX4_reckon yX4_reckon ∈ lw_g := ⟨lw_ix 350 (by decide +kernel) rfl, lw_ix 351 (by decide +kernel) rfl, lw_ix 352 (by decide +kernel) rfl⟩
set_option maxRecDepth 20000 in
theorem lkX8_149 : Cond.methodLink RX8 149 yX8_goodsTogether ∈ lw_g ∧ Cond.instanceMethod yX8_goodsTogether ∈ lw_g ∧ Cond.selects yX8_goodsTogether.cls yX8_goodsTogether yX8_goodsTogether ∈ lw_g := ⟨lw_ix 370 (by decide +kernel) rfl, lw_ix 372 (by decide +kernel) rfl, lw_ip 5 (by decide +kernel) rfl⟩
set_option maxRecDepth 20000 in
theorem lkX8_153 : Cond.methodLink RX8 153 yX8_bestPlaced ∈ lw_g ∧ Cond.instanceMethod yX8_bestPlaced ∈ lw_g ∧ Cond.selects yX8_bestPlaced.cls yX8_bestPlaced yX8_bestPlaced ∈ lw_g := ⟨lw_ix 389 (by decide +kernel) rfl, lw_ix 391 (by decide +kernel) rfl, lw_ip 6 (by decide +kernel) rfl⟩
set_option maxRecDepth 20000 in
theorem lkX8_160 : Cond.methodLink RX8 160 yX0_rowOf ∈ lw_g ∧ Cond.instanceMethod yX0_rowOf ∈ lw_g ∧ Cond.selects yX0_rowOf.cls yX0_rowOf yX0_rowOf ∈ lw_g := ⟨lw_ix 374 (by decide +kernel) rfl, lw_ix 375 (by decide +kernel) rfl, lw_ix 376 (by decide +kernel) rfl⟩
set_option maxRecDepth 20000 in
theorem lkX8_164 : Cond.methodLink RX8 164 yX0_at ∈ lw_g ∧ Cond.instanceMethod yX0_at ∈ lw_g ∧ Cond.selects yX0_at.cls yX0_at yX0_at ∈ lw_g := ⟨lw_ix 385 (by decide +kernel) rfl, lw_ix 386 (by decide +kernel) rfl, lw_ix 387 (by decide +kernel) rfl⟩
set_option maxRecDepth 20000 in
theorem lkX8_168 : Cond.methodLink RX8 168 yX6_putAllTogether ∈ lw_g ∧ Cond.instanceMethod yX6_putAllTogether ∈ lw_g ∧ Cond.selects yX6_putAllTogether.cls yX6_putAllTogether yX6_putAllTogether ∈ lw_g := ⟨lw_ix 393 (by decide +kernel) rfl, lw_ix 394 (by decide +kernel) rfl, lw_ix 395 (by decide +kernel) rfl⟩
set_option maxRecDepth 20000 in
theorem lkX8_171 : Cond.methodLink RX8 171 Lib.Math.max.name ∈ lw_g ∧ Cond.static Lib.Math.max.name ∈ lw_g ∧ Cond.initialized "java/lang/Math" ∈ lw_g ∧ Cond.code Lib.Math.max.name Lib.Math.max.code 2 (some .int) ∈ lw_g := ⟨lw_ix 402 (by decide +kernel) rfl, lw_ix 403 (by decide +kernel) rfl, lw_ix 11 (by decide +kernel) rfl, lw_ix 404 (by decide +kernel) rfl⟩
set_option maxRecDepth 20000 in
theorem lkX8_176 : Cond.methodLink RX8 176 yX6_advance ∈ lw_g ∧ Cond.instanceMethod yX6_advance ∈ lw_g ∧ Cond.selects yX6_advance.cls yX6_advance yX6_advance ∈ lw_g := ⟨lw_ix 405 (by decide +kernel) rfl, lw_ix 406 (by decide +kernel) rfl, lw_ix 407 (by decide +kernel) rfl⟩
set_option maxRecDepth 20000 in
theorem lkX8_179 : Cond.methodLink RX8 179 yX8_isRest ∈ lw_g ∧ Cond.static yX8_isRest ∈ lw_g := ⟨lw_ix 418 (by decide +kernel) rfl, lw_ix 419 (by decide +kernel) rfl⟩
set_option maxRecDepth 20000 in
theorem lkX8_182 : Cond.methodLink RX8 182 yX7_firstBreaker ∈ lw_g ∧ Cond.instanceMethod yX7_firstBreaker ∈ lw_g ∧ Cond.selects yX7_firstBreaker.cls yX7_firstBreaker yX7_firstBreaker ∈ lw_g := ⟨lw_ix 421 (by decide +kernel) rfl, lw_ix 422 (by decide +kernel) rfl, lw_ix 423 (by decide +kernel) rfl⟩
set_option maxRecDepth 20000 in
theorem lkX8_186 : Cond.methodLink RX8 186 yX1_travel ∈ lw_g ∧ Cond.instanceMethod yX1_travel ∈ lw_g ∧ Cond.selects yX1_travel.cls yX1_travel yX1_travel ∈ lw_g := ⟨lw_ix 477 (by decide +kernel) rfl, lw_ix 478 (by decide +kernel) rfl, lw_ix 479 (by decide +kernel) rfl⟩
set_option maxRecDepth 20000 in
theorem lkX8_198 : Cond.methodLink RX8 198 yX6_putAllApart ∈ lw_g ∧ Cond.instanceMethod yX6_putAllApart ∈ lw_g ∧ Cond.selects yX6_putAllApart.cls yX6_putAllApart yX6_putAllApart ∈ lw_g := ⟨lw_ix 513 (by decide +kernel) rfl, lw_ix 514 (by decide +kernel) rfl, lw_ix 515 (by decide +kernel) rfl⟩
set_option maxRecDepth 20000 in
theorem lkX8_201 : Cond.methodLink RX8 201 yX3_copy ∈ lw_g ∧ Cond.instanceMethod yX3_copy ∈ lw_g ∧ Cond.selects yX3_copy.cls yX3_copy yX3_copy ∈ lw_g := ⟨lw_ix 521 (by decide +kernel) rfl, lw_ix 522 (by decide +kernel) rfl, lw_ix 523 (by decide +kernel) rfl⟩
set_option maxRecDepth 20000 in
theorem lkX8_205 : Cond.methodLink RX8 205 yX2_stayBreaker ∈ lw_g ∧ Cond.instanceMethod yX2_stayBreaker ∈ lw_g ∧ Cond.selects yX2_stayBreaker.cls yX2_stayBreaker yX2_stayBreaker ∈ lw_g := ⟨lw_ix 525 (by decide +kernel) rfl, lw_ix 446 (by decide +kernel) rfl, lw_ix 447 (by decide +kernel) rfl⟩
set_option maxRecDepth 20000 in
theorem lkX8_208 : Cond.methodLink RX8 208 yX2_wouldAllGain ∈ lw_g ∧ Cond.instanceMethod yX2_wouldAllGain ∈ lw_g ∧ Cond.selects yX2_wouldAllGain.cls yX2_wouldAllGain yX2_wouldAllGain ∈ lw_g := ⟨lw_ix 530 (by decide +kernel) rfl, lw_ix 431 (by decide +kernel) rfl, lw_ix 432 (by decide +kernel) rfl⟩
set_option maxRecDepth 20000 in
theorem lkX8_212 : Cond.methodLink RX8 212 yX2_goodGathered ∈ lw_g ∧ Cond.instanceMethod yX2_goodGathered ∈ lw_g ∧ Cond.selects yX2_goodGathered.cls yX2_goodGathered yX2_goodGathered ∈ lw_g := ⟨lw_ix 531 (by decide +kernel) rfl, lw_ix 532 (by decide +kernel) rfl, lw_ix 533 (by decide +kernel) rfl⟩
set_option maxRecDepth 20000 in
theorem lkX8_217 : Cond.methodLink RX8 217 yX8_isUnion ∈ lw_g ∧ Cond.instanceMethod yX8_isUnion ∈ lw_g ∧ Cond.selects yX8_isUnion.cls yX8_isUnion yX8_isUnion ∈ lw_g := ⟨lw_ix 540 (by decide +kernel) rfl, lw_ix 542 (by decide +kernel) rfl, lw_ip 13 (by decide +kernel) rfl⟩
set_option maxRecDepth 20000 in
theorem lkX8_221 : Cond.methodLink RX8 221 yX6_copy ∈ lw_g ∧ Cond.instanceMethod yX6_copy ∈ lw_g ∧ Cond.selects yX6_copy.cls yX6_copy yX6_copy ∈ lw_g := ⟨lw_ix 545 (by decide +kernel) rfl, lw_ix 435 (by decide +kernel) rfl, lw_ix 436 (by decide +kernel) rfl⟩
set_option maxRecDepth 20000 in
theorem lkX8_223 : Cond.methodLink RX8 223 yX6_move ∈ lw_g ∧ Cond.instanceMethod yX6_move ∈ lw_g ∧ Cond.selects yX6_move.cls yX6_move yX6_move ∈ lw_g := ⟨lw_ix 546 (by decide +kernel) rfl, lw_ix 466 (by decide +kernel) rfl, lw_ix 467 (by decide +kernel) rfl⟩
set_option maxRecDepth 20000 in
theorem lkX8_227 : Cond.methodLink RX8 227 yX2_gainByLeaving ∈ lw_g ∧ Cond.instanceMethod yX2_gainByLeaving ∈ lw_g ∧ Cond.selects yX2_gainByLeaving.cls yX2_gainByLeaving yX2_gainByLeaving ∈ lw_g := ⟨lw_ix 551 (by decide +kernel) rfl, lw_ix 450 (by decide +kernel) rfl, lw_ix 451 (by decide +kernel) rfl⟩
set_option maxRecDepth 20000 in
theorem lkX8_231 : Cond.methodLink RX8 231 yX6_scatter ∈ lw_g ∧ Cond.instanceMethod yX6_scatter ∈ lw_g ∧ Cond.selects yX6_scatter.cls yX6_scatter yX6_scatter ∈ lw_g := ⟨lw_ix 556 (by decide +kernel) rfl, lw_ix 557 (by decide +kernel) rfl, lw_ix 558 (by decide +kernel) rfl⟩
set_option maxRecDepth 20000 in
theorem lkX8_237 : Cond.methodLink RX8 237 yX8_turnsStay ∈ lw_g ∧ Cond.instanceMethod yX8_turnsStay ∈ lw_g ∧ Cond.selects yX8_turnsStay.cls yX8_turnsStay yX8_turnsStay ∈ lw_g := ⟨lw_ix 564 (by decide +kernel) rfl, lw_ix 566 (by decide +kernel) rfl, lw_ip 14 (by decide +kernel) rfl⟩
set_option maxRecDepth 20000 in
theorem lkX9_59 : Cond.methodLink RX9 59 yX9_in ∈ lw_g ∧ Cond.static yX9_in ∈ lw_g := ⟨lw_ix 652 (by decide +kernel) rfl, lw_ix 653 (by decide +kernel) rfl⟩
set_option maxRecDepth 20000 in
theorem lkX9_69 : Cond.methodLink RX9 69 yX9_isNumber ∈ lw_g ∧ Cond.static yX9_isNumber ∈ lw_g := ⟨lw_ix 646 (by decide +kernel) rfl, lw_ix 647 (by decide +kernel) rfl⟩
set_option maxRecDepth 20000 in
theorem lkX9_73 : Cond.methodLink RX9 73 yX9_manyOf ∈ lw_g ∧ Cond.instanceMethod yX9_manyOf ∈ lw_g ∧ Cond.selects yX9_manyOf.cls yX9_manyOf yX9_manyOf ∈ lw_g := ⟨lw_ix 655 (by decide +kernel) rfl, lw_ix 657 (by decide +kernel) rfl, lw_ip 15 (by decide +kernel) rfl⟩
set_option maxRecDepth 20000 in
theorem lkX9_77 : Cond.methodLink RX9 77 yX9_isLand ∈ lw_g ∧ Cond.instanceMethod yX9_isLand ∈ lw_g ∧ Cond.selects yX9_isLand.cls yX9_isLand yX9_isLand ∈ lw_g := ⟨lw_ix 663 (by decide +kernel) rfl, lw_ix 665 (by decide +kernel) rfl, lw_ip 16 (by decide +kernel) rfl⟩
set_option maxRecDepth 20000 in
theorem lkX9_100 : Cond.methodLink RX9 100 yX9_fault ∈ lw_g ∧ Cond.instanceMethod yX9_fault ∈ lw_g ∧ Cond.selects yX9_fault.cls yX9_fault yX9_fault ∈ lw_g := ⟨lw_ix 692 (by decide +kernel) rfl, lw_ix 684 (by decide +kernel) rfl, lw_ix 685 (by decide +kernel) rfl⟩
set_option maxRecDepth 20000 in
theorem lkX9_104 : Cond.methodLink RX9 104 yX9_number ∈ lw_g ∧ Cond.instanceMethod yX9_number ∈ lw_g ∧ Cond.selects yX9_number.cls yX9_number yX9_number ∈ lw_g := ⟨lw_ix 693 (by decide +kernel) rfl, lw_ix 695 (by decide +kernel) rfl, lw_ip 17 (by decide +kernel) rfl⟩
set_option maxRecDepth 20000 in
theorem lkX9_108 : Cond.methodLink RX9 108 yX9_wallOf ∈ lw_g ∧ Cond.instanceMethod yX9_wallOf ∈ lw_g ∧ Cond.selects yX9_wallOf.cls yX9_wallOf yX9_wallOf ∈ lw_g := ⟨lw_ix 709 (by decide +kernel) rfl, lw_ix 711 (by decide +kernel) rfl, lw_ip 19 (by decide +kernel) rfl⟩
set_option maxRecDepth 20000 in
theorem lkX9_112 : Cond.methodLink RX9 112 yX9_shareOf ∈ lw_g ∧ Cond.instanceMethod yX9_shareOf ∈ lw_g ∧ Cond.selects yX9_shareOf.cls yX9_shareOf yX9_shareOf ∈ lw_g := ⟨lw_ix 713 (by decide +kernel) rfl, lw_ix 715 (by decide +kernel) rfl, lw_ip 20 (by decide +kernel) rfl⟩
set_option maxRecDepth 20000 in
theorem lkX9_115 : Cond.methodLink RX9 115 yX9_findGoods ∈ lw_g ∧ Cond.instanceMethod yX9_findGoods ∈ lw_g ∧ Cond.selects yX9_findGoods.cls yX9_findGoods yX9_findGoods ∈ lw_g := ⟨lw_ix 705 (by decide +kernel) rfl, lw_ix 707 (by decide +kernel) rfl, lw_ip 18 (by decide +kernel) rfl⟩
set_option maxRecDepth 20000 in
theorem lkX9_118 : Cond.methodLink RX9 118 yX9_together ∈ lw_g ∧ Cond.instanceMethod yX9_together ∈ lw_g ∧ Cond.selects yX9_together.cls yX9_together yX9_together ∈ lw_g := ⟨lw_ix 721 (by decide +kernel) rfl, lw_ix 723 (by decide +kernel) rfl, lw_ip 21 (by decide +kernel) rfl⟩
set_option maxRecDepth 20000 in
theorem lkX9_121 : Cond.methodLink RX9 121 yX9_firstParting ∈ lw_g ∧ Cond.instanceMethod yX9_firstParting ∈ lw_g ∧ Cond.selects yX9_firstParting.cls yX9_firstParting yX9_firstParting ∈ lw_g := ⟨lw_ix 725 (by decide +kernel) rfl, lw_ix 727 (by decide +kernel) rfl, lw_ip 22 (by decide +kernel) rfl⟩
set_option maxRecDepth 20000 in
theorem lkX9_124 : Cond.methodLink RX9 124 yX9_nextParting ∈ lw_g ∧ Cond.instanceMethod yX9_nextParting ∈ lw_g ∧ Cond.selects yX9_nextParting.cls yX9_nextParting yX9_nextParting ∈ lw_g := ⟨lw_ix 729 (by decide +kernel) rfl, lw_ix 731 (by decide +kernel) rfl, lw_ip 23 (by decide +kernel) rfl⟩
set_option maxRecDepth 20000 in
theorem lkX9_128 : Cond.methodLink RX9 128 yX9_copy ∈ lw_g ∧ Cond.instanceMethod yX9_copy ∈ lw_g ∧ Cond.selects yX9_copy.cls yX9_copy yX9_copy ∈ lw_g := ⟨lw_ix 745 (by decide +kernel) rfl, lw_ix 747 (by decide +kernel) rfl, lw_ip 26 (by decide +kernel) rfl⟩
set_option maxRecDepth 20000 in
theorem lkX9_132 : Cond.methodLink RX9 132 yX9_gainApart ∈ lw_g ∧ Cond.instanceMethod yX9_gainApart ∈ lw_g ∧ Cond.selects yX9_gainApart.cls yX9_gainApart yX9_gainApart ∈ lw_g := ⟨lw_ix 761 (by decide +kernel) rfl, lw_ix 763 (by decide +kernel) rfl, lw_ip 30 (by decide +kernel) rfl⟩
set_option maxRecDepth 20000 in
theorem lkX9_135 : Cond.methodLink RX9 135 yX9_gainIn ∈ lw_g ∧ Cond.instanceMethod yX9_gainIn ∈ lw_g ∧ Cond.selects yX9_gainIn.cls yX9_gainIn yX9_gainIn ∈ lw_g := ⟨lw_ix 769 (by decide +kernel) rfl, lw_ix 771 (by decide +kernel) rfl, lw_ip 32 (by decide +kernel) rfl⟩
set_option maxRecDepth 20000 in
theorem lkX9_139 : Cond.methodLink RX9 139 yX9_isUnion ∈ lw_g ∧ Cond.instanceMethod yX9_isUnion ∈ lw_g ∧ Cond.selects yX9_isUnion.cls yX9_isUnion yX9_isUnion ∈ lw_g := ⟨lw_ix 753 (by decide +kernel) rfl, lw_ix 755 (by decide +kernel) rfl, lw_ip 28 (by decide +kernel) rfl⟩
set_option maxRecDepth 20000 in
theorem lkX9_143 : Cond.methodLink RX9 143 yX9_keepGoods ∈ lw_g ∧ Cond.instanceMethod yX9_keepGoods ∈ lw_g ∧ Cond.selects yX9_keepGoods.cls yX9_keepGoods yX9_keepGoods ∈ lw_g := ⟨lw_ix 741 (by decide +kernel) rfl, lw_ix 743 (by decide +kernel) rfl, lw_ip 25 (by decide +kernel) rfl⟩
set_option maxRecDepth 20000 in
theorem lkX9_146 : Cond.methodLink RX9 146 yX9_isBetter ∈ lw_g ∧ Cond.instanceMethod yX9_isBetter ∈ lw_g ∧ Cond.selects yX9_isBetter.cls yX9_isBetter yX9_isBetter ∈ lw_g := ⟨lw_ix 749 (by decide +kernel) rfl, lw_ix 751 (by decide +kernel) rfl, lw_ip 27 (by decide +kernel) rfl⟩
set_option maxRecDepth 20000 in
theorem lkX9_149 : Cond.methodLink RX9 149 yX9_leaver ∈ lw_g ∧ Cond.instanceMethod yX9_leaver ∈ lw_g ∧ Cond.selects yX9_leaver.cls yX9_leaver yX9_leaver ∈ lw_g := ⟨lw_ix 757 (by decide +kernel) rfl, lw_ix 759 (by decide +kernel) rfl, lw_ip 29 (by decide +kernel) rfl⟩
set_option maxRecDepth 20000 in
theorem lkX9_152 : Cond.methodLink RX9 152 yX9_joiner ∈ lw_g ∧ Cond.instanceMethod yX9_joiner ∈ lw_g ∧ Cond.selects yX9_joiner.cls yX9_joiner yX9_joiner ∈ lw_g := ⟨lw_ix 765 (by decide +kernel) rfl, lw_ix 767 (by decide +kernel) rfl, lw_ip 31 (by decide +kernel) rfl⟩
set_option maxRecDepth 20000 in
theorem lkX9_155 : Cond.methodLink RX9 155 yX9_breakerOf ∈ lw_g ∧ Cond.instanceMethod yX9_breakerOf ∈ lw_g ∧ Cond.selects yX9_breakerOf.cls yX9_breakerOf yX9_breakerOf ∈ lw_g := ⟨lw_ix 737 (by decide +kernel) rfl, lw_ix 739 (by decide +kernel) rfl, lw_ip 24 (by decide +kernel) rfl⟩
set_option maxRecDepth 20000 in
theorem lkX9_164 : Cond.methodLink RX9 164 yX9_stateOf ∈ lw_g ∧ Cond.instanceMethod yX9_stateOf ∈ lw_g ∧ Cond.selects yX9_stateOf.cls yX9_stateOf yX9_stateOf ∈ lw_g := ⟨lw_ix 787 (by decide +kernel) rfl, lw_ix 789 (by decide +kernel) rfl, lw_ip 34 (by decide +kernel) rfl⟩
set_option maxRecDepth 20000 in
theorem lkX9_167 : Cond.methodLink RX9 167 yX9_goOne ∈ lw_g ∧ Cond.instanceMethod yX9_goOne ∈ lw_g ∧ Cond.selects yX9_goOne.cls yX9_goOne yX9_goOne ∈ lw_g := ⟨lw_ix 791 (by decide +kernel) rfl, lw_ix 793 (by decide +kernel) rfl, lw_ip 35 (by decide +kernel) rfl⟩
set_option maxRecDepth 20000 in
theorem lkX9_175 : Cond.methodLink RX9 175 yX9_goAll ∈ lw_g ∧ Cond.instanceMethod yX9_goAll ∈ lw_g ∧ Cond.selects yX9_goAll.cls yX9_goAll yX9_goAll ∈ lw_g := ⟨lw_ix 783 (by decide +kernel) rfl, lw_ix 785 (by decide +kernel) rfl, lw_ip 33 (by decide +kernel) rfl⟩
set_option maxRecDepth 20000 in
theorem lkX9_180 : Cond.methodLink RX9 180 yX9_isThere ∈ lw_g ∧ Cond.instanceMethod yX9_isThere ∈ lw_g ∧ Cond.selects yX9_isThere.cls yX9_isThere yX9_isThere ∈ lw_g := ⟨lw_ix 812 (by decide +kernel) rfl, lw_ix 814 (by decide +kernel) rfl, lw_ip 36 (by decide +kernel) rfl⟩
set_option maxRecDepth 20000 in
theorem lkL_13 : Cond.methodLink RL 13 yX8_land ∈ lw_g ∧ Cond.instanceMethod yX8_land ∈ lw_g ∧ Cond.selects yX8_land.cls yX8_land yX8_land ∈ lw_g := ⟨lw_ix 262 (by decide +kernel) rfl, lw_ix 263 (by decide +kernel) rfl, lw_ix 264 (by decide +kernel) rfl⟩
set_option maxRecDepth 20000 in
theorem lkL_17 : Cond.methodLink RL 17 yX9_land ∈ lw_g ∧ Cond.instanceMethod yX9_land ∈ lw_g ∧ Cond.selects yX9_land.cls yX9_land yX9_land ∈ lw_g := ⟨lw_ix 642 (by decide +kernel) rfl, lw_ix 643 (by decide +kernel) rfl, lw_ix 644 (by decide +kernel) rfl⟩
set_option maxRecDepth 20000 in
theorem lkL_18 : Cond.methodLink RL 18 yX8_change ∈ lw_g ∧ Cond.instanceMethod yX8_change ∈ lw_g ∧ Cond.selects yX8_change.cls yX8_change yX8_change ∈ lw_g := ⟨lw_ix 277 (by decide +kernel) rfl, lw_ix 278 (by decide +kernel) rfl, lw_ix 279 (by decide +kernel) rfl⟩
set_option maxRecDepth 20000 in
theorem lkL_22 : Cond.methodLink RL 22 yX9_change ∈ lw_g ∧ Cond.instanceMethod yX9_change ∈ lw_g ∧ Cond.selects yX9_change.cls yX9_change yX9_change ∈ lw_g := ⟨lw_ix 659 (by decide +kernel) rfl, lw_ix 660 (by decide +kernel) rfl, lw_ix 661 (by decide +kernel) rfl⟩
set_option maxRecDepth 20000 in
theorem lkL_23 : Cond.methodLink RL 23 yX8_set ∈ lw_g ∧ Cond.instanceMethod yX8_set ∈ lw_g ∧ Cond.selects yX8_set.cls yX8_set yX8_set ∈ lw_g := ⟨lw_ix 294 (by decide +kernel) rfl, lw_ix 295 (by decide +kernel) rfl, lw_ix 296 (by decide +kernel) rfl⟩
set_option maxRecDepth 20000 in
theorem lkL_27 : Cond.methodLink RL 27 yX9_set ∈ lw_g ∧ Cond.instanceMethod yX9_set ∈ lw_g ∧ Cond.selects yX9_set.cls yX9_set yX9_set ∈ lw_g := ⟨lw_ix 668 (by decide +kernel) rfl, lw_ix 669 (by decide +kernel) rfl, lw_ix 670 (by decide +kernel) rfl⟩
set_option maxRecDepth 20000 in
theorem lkL_28 : Cond.methodLink RL 28 yX8_say ∈ lw_g ∧ Cond.instanceMethod yX8_say ∈ lw_g ∧ Cond.selects yX8_say.cls yX8_say yX8_say ∈ lw_g := ⟨lw_ix 306 (by decide +kernel) rfl, lw_ix 307 (by decide +kernel) rfl, lw_ix 308 (by decide +kernel) rfl⟩
set_option maxRecDepth 20000 in
theorem lkL_32 : Cond.methodLink RL 32 yX9_say ∈ lw_g ∧ Cond.instanceMethod yX9_say ∈ lw_g ∧ Cond.selects yX9_say.cls yX9_say yX9_say ∈ lw_g := ⟨lw_ix 673 (by decide +kernel) rfl, lw_ix 674 (by decide +kernel) rfl, lw_ix 675 (by decide +kernel) rfl⟩
set_option maxRecDepth 20000 in
theorem lkL_33 : Cond.methodLink RL 33 yX8_wipe ∈ lw_g ∧ Cond.instanceMethod yX8_wipe ∈ lw_g ∧ Cond.selects yX8_wipe.cls yX8_wipe yX8_wipe ∈ lw_g := ⟨lw_ix 314 (by decide +kernel) rfl, lw_ix 315 (by decide +kernel) rfl, lw_ix 316 (by decide +kernel) rfl⟩
set_option maxRecDepth 20000 in
theorem lkL_37 : Cond.methodLink RL 37 yX9_wipe ∈ lw_g ∧ Cond.instanceMethod yX9_wipe ∈ lw_g ∧ Cond.selects yX9_wipe.cls yX9_wipe yX9_wipe ∈ lw_g := ⟨lw_ix 679 (by decide +kernel) rfl, lw_ix 680 (by decide +kernel) rfl, lw_ix 681 (by decide +kernel) rfl⟩
set_option maxRecDepth 20000 in
theorem lkL_38 : Cond.methodLink RL 38 yX8_fault ∈ lw_g ∧ Cond.instanceMethod yX8_fault ∈ lw_g ∧ Cond.selects yX8_fault.cls yX8_fault yX8_fault ∈ lw_g := ⟨lw_ix 318 (by decide +kernel) rfl, lw_ix 319 (by decide +kernel) rfl, lw_ix 320 (by decide +kernel) rfl⟩
set_option maxRecDepth 20000 in
theorem lkL_41 : Cond.methodLink RL 41 yX9_fault ∈ lw_g ∧ Cond.instanceMethod yX9_fault ∈ lw_g ∧ Cond.selects yX9_fault.cls yX9_fault yX9_fault ∈ lw_g := ⟨lw_ix 683 (by decide +kernel) rfl, lw_ix 684 (by decide +kernel) rfl, lw_ix 685 (by decide +kernel) rfl⟩
set_option maxRecDepth 20000 in
theorem lkL_42 : Cond.methodLink RL 42 yX8_part ∈ lw_g ∧ Cond.instanceMethod yX8_part ∈ lw_g ∧ Cond.selects yX8_part.cls yX8_part yX8_part ∈ lw_g := ⟨lw_ix 326 (by decide +kernel) rfl, lw_ix 327 (by decide +kernel) rfl, lw_ix 328 (by decide +kernel) rfl⟩
set_option maxRecDepth 20000 in
theorem lkL_45 : Cond.methodLink RL 45 yX9_part ∈ lw_g ∧ Cond.instanceMethod yX9_part ∈ lw_g ∧ Cond.selects yX9_part.cls yX9_part yX9_part ∈ lw_g := ⟨lw_ix 688 (by decide +kernel) rfl, lw_ix 689 (by decide +kernel) rfl, lw_ix 690 (by decide +kernel) rfl⟩
set_option maxRecDepth 20000 in
theorem lkL_46 : Cond.methodLink RL 46 yX8_union ∈ lw_g ∧ Cond.instanceMethod yX8_union ∈ lw_g ∧ Cond.selects yX8_union.cls yX8_union yX8_union ∈ lw_g := ⟨lw_ix 342 (by decide +kernel) rfl, lw_ix 343 (by decide +kernel) rfl, lw_ix 344 (by decide +kernel) rfl⟩
set_option maxRecDepth 20000 in
theorem lkL_49 : Cond.methodLink RL 49 yX9_union ∈ lw_g ∧ Cond.instanceMethod yX9_union ∈ lw_g ∧ Cond.selects yX9_union.cls yX9_union yX9_union ∈ lw_g := ⟨lw_ix 697 (by decide +kernel) rfl, lw_ix 698 (by decide +kernel) rfl, lw_ix 699 (by decide +kernel) rfl⟩
set_option maxRecDepth 20000 in
theorem lkL_50 : Cond.methodLink RL 50 yX8_of ∈ lw_g ∧ Cond.instanceMethod yX8_of ∈ lw_g ∧ Cond.selects yX8_of.cls yX8_of yX8_of ∈ lw_g := ⟨lw_ix 346 (by decide +kernel) rfl, lw_ix 347 (by decide +kernel) rfl, lw_ix 348 (by decide +kernel) rfl⟩
set_option maxRecDepth 20000 in
theorem lkL_53 : Cond.methodLink RL 53 yX9_of ∈ lw_g ∧ Cond.instanceMethod yX9_of ∈ lw_g ∧ Cond.selects yX9_of.cls yX9_of yX9_of ∈ lw_g := ⟨lw_ix 701 (by decide +kernel) rfl, lw_ix 702 (by decide +kernel) rfl, lw_ix 703 (by decide +kernel) rfl⟩
set_option maxRecDepth 20000 in
theorem lkL_54 : Cond.methodLink RL 54 yX8_all ∈ lw_g ∧ Cond.instanceMethod yX8_all ∈ lw_g ∧ Cond.selects yX8_all.cls yX8_all yX8_all ∈ lw_g := ⟨lw_ix 366 (by decide +kernel) rfl, lw_ix 367 (by decide +kernel) rfl, lw_ix 368 (by decide +kernel) rfl⟩
set_option maxRecDepth 20000 in
theorem lkL_57 : Cond.methodLink RL 57 yX9_all ∈ lw_g ∧ Cond.instanceMethod yX9_all ∈ lw_g ∧ Cond.selects yX9_all.cls yX9_all yX9_all ∈ lw_g := ⟨lw_ix 717 (by decide +kernel) rfl, lw_ix 718 (by decide +kernel) rfl, lw_ix 719 (by decide +kernel) rfl⟩
set_option maxRecDepth 20000 in
theorem lkL_58 : Cond.methodLink RL 58 yX8_breaks ∈ lw_g ∧ Cond.instanceMethod yX8_breaks ∈ lw_g ∧ Cond.selects yX8_breaks.cls yX8_breaks yX8_breaks ∈ lw_g := ⟨lw_ix 414 (by decide +kernel) rfl, lw_ix 415 (by decide +kernel) rfl, lw_ix 416 (by decide +kernel) rfl⟩
set_option maxRecDepth 20000 in
theorem lkL_61 : Cond.methodLink RL 61 yX9_breaks ∈ lw_g ∧ Cond.instanceMethod yX9_breaks ∈ lw_g ∧ Cond.selects yX9_breaks.cls yX9_breaks yX9_breaks ∈ lw_g := ⟨lw_ix 733 (by decide +kernel) rfl, lw_ix 734 (by decide +kernel) rfl, lw_ix 735 (by decide +kernel) rfl⟩
set_option maxRecDepth 20000 in
theorem lkL_62 : Cond.methodLink RL 62 yX8_rests ∈ lw_g ∧ Cond.instanceMethod yX8_rests ∈ lw_g ∧ Cond.selects yX8_rests.cls yX8_rests yX8_rests ∈ lw_g := ⟨lw_ix 469 (by decide +kernel) rfl, lw_ix 470 (by decide +kernel) rfl, lw_ix 471 (by decide +kernel) rfl⟩
set_option maxRecDepth 20000 in
theorem lkL_65 : Cond.methodLink RL 65 yX9_rests ∈ lw_g ∧ Cond.instanceMethod yX9_rests ∈ lw_g ∧ Cond.selects yX9_rests.cls yX9_rests yX9_rests ∈ lw_g := ⟨lw_ix 773 (by decide +kernel) rfl, lw_ix 774 (by decide +kernel) rfl, lw_ix 775 (by decide +kernel) rfl⟩
set_option maxRecDepth 20000 in
theorem lkL_66 : Cond.methodLink RL 66 yX8_go ∈ lw_g ∧ Cond.instanceMethod yX8_go ∈ lw_g ∧ Cond.selects yX8_go.cls yX8_go yX8_go ∈ lw_g := ⟨lw_ix 473 (by decide +kernel) rfl, lw_ix 474 (by decide +kernel) rfl, lw_ix 475 (by decide +kernel) rfl⟩
set_option maxRecDepth 20000 in
theorem lkL_69 : Cond.methodLink RL 69 yX9_go ∈ lw_g ∧ Cond.instanceMethod yX9_go ∈ lw_g ∧ Cond.selects yX9_go.cls yX9_go yX9_go ∈ lw_g := ⟨lw_ix 777 (by decide +kernel) rfl, lw_ix 778 (by decide +kernel) rfl, lw_ix 779 (by decide +kernel) rfl⟩
set_option maxRecDepth 20000 in
theorem lkL_70 : Cond.methodLink RL 70 yX8_whole ∈ lw_g ∧ Cond.instanceMethod yX8_whole ∈ lw_g ∧ Cond.selects yX8_whole.cls yX8_whole yX8_whole ∈ lw_g := ⟨lw_ix 509 (by decide +kernel) rfl, lw_ix 510 (by decide +kernel) rfl, lw_ix 511 (by decide +kernel) rfl⟩
set_option maxRecDepth 20000 in
theorem lkL_73 : Cond.methodLink RL 73 yX9_whole ∈ lw_g ∧ Cond.instanceMethod yX9_whole ∈ lw_g ∧ Cond.selects yX9_whole.cls yX9_whole yX9_whole ∈ lw_g := ⟨lw_ix 795 (by decide +kernel) rfl, lw_ix 796 (by decide +kernel) rfl, lw_ix 797 (by decide +kernel) rfl⟩
set_option maxRecDepth 20000 in
theorem lkL_74 : Cond.methodLink RL 74 yX8_rules ∈ lw_g ∧ Cond.instanceMethod yX8_rules ∈ lw_g ∧ Cond.selects yX8_rules.cls yX8_rules yX8_rules ∈ lw_g := ⟨lw_ix 517 (by decide +kernel) rfl, lw_ix 518 (by decide +kernel) rfl, lw_ix 519 (by decide +kernel) rfl⟩
set_option maxRecDepth 20000 in
theorem lkL_77 : Cond.methodLink RL 77 yX9_rules ∈ lw_g ∧ Cond.instanceMethod yX9_rules ∈ lw_g ∧ Cond.selects yX9_rules.cls yX9_rules yX9_rules ∈ lw_g := ⟨lw_ix 799 (by decide +kernel) rfl, lw_ix 800 (by decide +kernel) rfl, lw_ix 801 (by decide +kernel) rfl⟩
set_option maxRecDepth 20000 in
theorem lkL_78 : Cond.methodLink RL 78 yX8_propose ∈ lw_g ∧ Cond.instanceMethod yX8_propose ∈ lw_g ∧ Cond.selects yX8_propose.cls yX8_propose yX8_propose ∈ lw_g := ⟨lw_ix 526 (by decide +kernel) rfl, lw_ix 527 (by decide +kernel) rfl, lw_ix 528 (by decide +kernel) rfl⟩
set_option maxRecDepth 20000 in
theorem lkL_81 : Cond.methodLink RL 81 yX9_propose ∈ lw_g ∧ Cond.instanceMethod yX9_propose ∈ lw_g ∧ Cond.selects yX9_propose.cls yX9_propose yX9_propose ∈ lw_g := ⟨lw_ix 803 (by decide +kernel) rfl, lw_ix 804 (by decide +kernel) rfl, lw_ix 805 (by decide +kernel) rfl⟩
set_option maxRecDepth 20000 in
theorem lkL_82 : Cond.methodLink RL 82 yX8_enter ∈ lw_g ∧ Cond.instanceMethod yX8_enter ∈ lw_g ∧ Cond.selects yX8_enter.cls yX8_enter yX8_enter ∈ lw_g := ⟨lw_ix 535 (by decide +kernel) rfl, lw_ix 536 (by decide +kernel) rfl, lw_ix 537 (by decide +kernel) rfl⟩
set_option maxRecDepth 20000 in
theorem lkL_85 : Cond.methodLink RL 85 yX9_enter ∈ lw_g ∧ Cond.instanceMethod yX9_enter ∈ lw_g ∧ Cond.selects yX9_enter.cls yX9_enter yX9_enter ∈ lw_g := ⟨lw_ix 807 (by decide +kernel) rfl, lw_ix 808 (by decide +kernel) rfl, lw_ix 809 (by decide +kernel) rfl⟩
set_option maxRecDepth 20000 in
theorem lkL_86 : Cond.methodLink RL 86 yX8_holds ∈ lw_g ∧ Cond.instanceMethod yX8_holds ∈ lw_g ∧ Cond.selects yX8_holds.cls yX8_holds yX8_holds ∈ lw_g := ⟨lw_ix 547 (by decide +kernel) rfl, lw_ix 548 (by decide +kernel) rfl, lw_ix 549 (by decide +kernel) rfl⟩
set_option maxRecDepth 20000 in
theorem lkL_89 : Cond.methodLink RL 89 yX9_holds ∈ lw_g ∧ Cond.instanceMethod yX9_holds ∈ lw_g ∧ Cond.selects yX9_holds.cls yX9_holds yX9_holds ∈ lw_g := ⟨lw_ix 817 (by decide +kernel) rfl, lw_ix 818 (by decide +kernel) rfl, lw_ix 819 (by decide +kernel) rfl⟩
set_option maxRecDepth 20000 in
theorem lkL_90 : Cond.methodLink RL 90 yX8_hurt ∈ lw_g ∧ Cond.instanceMethod yX8_hurt ∈ lw_g ∧ Cond.selects yX8_hurt.cls yX8_hurt yX8_hurt ∈ lw_g := ⟨lw_ix 552 (by decide +kernel) rfl, lw_ix 553 (by decide +kernel) rfl, lw_ix 554 (by decide +kernel) rfl⟩
set_option maxRecDepth 20000 in
theorem lkL_93 : Cond.methodLink RL 93 yX9_hurt ∈ lw_g ∧ Cond.instanceMethod yX9_hurt ∈ lw_g ∧ Cond.selects yX9_hurt.cls yX9_hurt yX9_hurt ∈ lw_g := ⟨lw_ix 821 (by decide +kernel) rfl, lw_ix 822 (by decide +kernel) rfl, lw_ix 823 (by decide +kernel) rfl⟩
set_option maxRecDepth 20000 in
theorem lkL_94 : Cond.methodLink RL 94 yX8_edge ∈ lw_g ∧ Cond.instanceMethod yX8_edge ∈ lw_g ∧ Cond.selects yX8_edge.cls yX8_edge yX8_edge ∈ lw_g := ⟨lw_ix 560 (by decide +kernel) rfl, lw_ix 561 (by decide +kernel) rfl, lw_ix 562 (by decide +kernel) rfl⟩
set_option maxRecDepth 20000 in
theorem lkL_97 : Cond.methodLink RL 97 yX9_edge ∈ lw_g ∧ Cond.instanceMethod yX9_edge ∈ lw_g ∧ Cond.selects yX9_edge.cls yX9_edge yX9_edge ∈ lw_g := ⟨lw_ix 825 (by decide +kernel) rfl, lw_ix 826 (by decide +kernel) rfl, lw_ix 827 (by decide +kernel) rfl⟩
set_option maxRecDepth 20000 in
theorem lkL_98 : Cond.methodLink RL 98 yX8_told ∈ lw_g ∧ Cond.instanceMethod yX8_told ∈ lw_g ∧ Cond.selects yX8_told.cls yX8_told yX8_told ∈ lw_g := ⟨lw_ix 568 (by decide +kernel) rfl, lw_ix 569 (by decide +kernel) rfl, lw_ix 570 (by decide +kernel) rfl⟩
set_option maxRecDepth 20000 in
theorem lkL_101 : Cond.methodLink RL 101 yX9_told ∈ lw_g ∧ Cond.instanceMethod yX9_told ∈ lw_g ∧ Cond.selects yX9_told.cls yX9_told yX9_told ∈ lw_g := ⟨lw_ix 829 (by decide +kernel) rfl, lw_ix 830 (by decide +kernel) rfl, lw_ix 831 (by decide +kernel) rfl⟩
set_option maxRecDepth 20000 in
theorem fsX8_157 : Cond.fieldLink RX8 157 "LandUnions" "PARTINGS" "[I" ∈ lw_g := lw_ix 400 (by decide +kernel) rfl
set_option maxRecDepth 20000 in
theorem kcX8_216 : Cond.constant RX8 216 (-1000000001) ∈ lw_g := lw_ix 539 (by decide +kernel) rfl
set_option maxRecDepth 20000 in
theorem kcX8_220 : Cond.constant RX8 220 (-1000000002) ∈ lw_g := lw_ix 544 (by decide +kernel) rfl
set_option maxRecDepth 20000 in
theorem kcX9_63 : Cond.constantLong RX9 63 (99) ∈ lw_g := lw_ix 649 (by decide +kernel) rfl
set_option maxRecDepth 20000 in
theorem kcX9_65 : Cond.constantLong RX9 65 (20) ∈ lw_g := lw_ix 650 (by decide +kernel) rfl
set_option maxRecDepth 20000 in
theorem kcX9_67 : Cond.constantLong RX9 67 (60) ∈ lw_g := lw_ix 651 (by decide +kernel) rfl
set_option maxRecDepth 20000 in
theorem kcX9_81 : Cond.constantLong RX9 81 (3) ∈ lw_g := lw_ix 667 (by decide +kernel) rfl
set_option maxRecDepth 20000 in
theorem kcX9_83 : Cond.constantLong RX9 83 (2) ∈ lw_g := lw_ix 672 (by decide +kernel) rfl
set_option maxRecDepth 20000 in
theorem kcX9_91 : Cond.constantLong RX9 91 (33) ∈ lw_g := lw_ix 677 (by decide +kernel) rfl
set_option maxRecDepth 20000 in
theorem kcX9_93 : Cond.constantLong RX9 93 (126) ∈ lw_g := lw_ix 678 (by decide +kernel) rfl
set_option maxRecDepth 20000 in
theorem kcX9_98 : Cond.constantLong RX9 98 (97) ∈ lw_g := lw_ix 687 (by decide +kernel) rfl
set_option maxRecDepth 20000 in
theorem kcX9_171 : Cond.constantLong RX9 171 (10) ∈ lw_g := lw_ix 781 (by decide +kernel) rfl
set_option maxRecDepth 20000 in
theorem kcX9_173 : Cond.constantLong RX9 173 (15) ∈ lw_g := lw_ix 782 (by decide +kernel) rfl
set_option maxRecDepth 20000 in
theorem kcX9_179 : Cond.constant RX9 179 (-1000000001) ∈ lw_g := lw_ix 811 (by decide +kernel) rfl
set_option maxRecDepth 20000 in
theorem kcX9_183 : Cond.constant RX9 183 (-1000000002) ∈ lw_g := lw_ix 816 (by decide +kernel) rfl
set_option maxRecDepth 20000 in
theorem foX0_12 : FO RX0 12 0 0 := ⟨RX0, TX0, 4, rfl, gwX0, by decide, lw_ix 111 (by decide +kernel) rfl⟩
set_option maxRecDepth 20000 in
theorem foX0_21 : FO RX0 21 0 1 := ⟨RX0, TX0, 4, rfl, gwX0, by decide, lw_ix 113 (by decide +kernel) rfl⟩
set_option maxRecDepth 20000 in
theorem foX0_25 : FO RX0 25 0 2 := ⟨RX0, TX0, 4, rfl, gwX0, by decide, lw_ix 114 (by decide +kernel) rfl⟩
set_option maxRecDepth 20000 in
theorem foX0_29 : FO RX0 29 0 3 := ⟨RX0, TX0, 4, rfl, gwX0, by decide, lw_ix 115 (by decide +kernel) rfl⟩
set_option maxRecDepth 20000 in
theorem foX0_38 : FO RX0 38 3 3 := ⟨RX3, TX3, 8, rfl, gwX3, by decide, lw_ix 50 (by decide +kernel) rfl⟩
set_option maxRecDepth 20000 in
theorem foX0_46 : FO RX0 46 3 0 := ⟨RX3, TX3, 8, rfl, gwX3, by decide, lw_ix 39 (by decide +kernel) rfl⟩
set_option maxRecDepth 20000 in
theorem foX0_49 : FO RX0 49 4 5 := ⟨RX4, TX4, 6, rfl, gwX4, by decide, lw_ix 96 (by decide +kernel) rfl⟩
set_option maxRecDepth 20000 in
theorem foX1_12 : FO RX1 12 1 0 := ⟨RX1, TX1, 7, rfl, gwX1, by decide, lw_ix 188 (by decide +kernel) rfl⟩
set_option maxRecDepth 20000 in
theorem foX1_18 : FO RX1 18 1 6 := ⟨RX1, TX1, 7, rfl, gwX1, by decide, lw_ix 197 (by decide +kernel) rfl⟩
set_option maxRecDepth 20000 in
theorem foX1_26 : FO RX1 26 1 3 := ⟨RX1, TX1, 7, rfl, gwX1, by decide, lw_ix 194 (by decide +kernel) rfl⟩
set_option maxRecDepth 20000 in
theorem foX1_54 : FO RX1 54 1 4 := ⟨RX1, TX1, 7, rfl, gwX1, by decide, lw_ix 195 (by decide +kernel) rfl⟩
set_option maxRecDepth 20000 in
theorem foX1_57 : FO RX1 57 6 0 := ⟨RX6, TX6, 4, rfl, gwX6, by decide, lw_ix 133 (by decide +kernel) rfl⟩
set_option maxRecDepth 20000 in
theorem foX1_66 : FO RX1 66 1 5 := ⟨RX1, TX1, 7, rfl, gwX1, by decide, lw_ix 196 (by decide +kernel) rfl⟩
set_option maxRecDepth 20000 in
theorem foX2_12 : FO RX2 12 2 0 := ⟨RX2, TX2, 3, rfl, gwX2, by decide, lw_ix 154 (by decide +kernel) rfl⟩
set_option maxRecDepth 20000 in
theorem foX2_22 : FO RX2 22 2 1 := ⟨RX2, TX2, 3, rfl, gwX2, by decide, lw_ix 156 (by decide +kernel) rfl⟩
set_option maxRecDepth 20000 in
theorem foX2_26 : FO RX2 26 2 2 := ⟨RX2, TX2, 3, rfl, gwX2, by decide, lw_ix 159 (by decide +kernel) rfl⟩
set_option maxRecDepth 20000 in
theorem foX2_50 : FO RX2 50 3 0 := ⟨RX3, TX3, 8, rfl, gwX3, by decide, lw_ix 41 (by decide +kernel) rfl⟩
set_option maxRecDepth 20000 in
theorem foX2_56 : FO RX2 56 6 2 := ⟨RX6, TX6, 4, rfl, gwX6, by decide, lw_ix 141 (by decide +kernel) rfl⟩
set_option maxRecDepth 20000 in
theorem foX2_67 : FO RX2 67 6 1 := ⟨RX6, TX6, 4, rfl, gwX6, by decide, lw_ix 137 (by decide +kernel) rfl⟩
set_option maxRecDepth 20000 in
theorem foX2_74 : FO RX2 74 6 0 := ⟨RX6, TX6, 4, rfl, gwX6, by decide, lw_ix 134 (by decide +kernel) rfl⟩
set_option maxRecDepth 20000 in
theorem foX3_9 : FO RX3 9 3 3 := ⟨RX3, TX3, 8, rfl, gwX3, by decide, lw_ix 49 (by decide +kernel) rfl⟩
set_option maxRecDepth 20000 in
theorem foX3_15 : FO RX3 15 3 4 := ⟨RX3, TX3, 8, rfl, gwX3, by decide, lw_ix 52 (by decide +kernel) rfl⟩
set_option maxRecDepth 20000 in
theorem foX3_19 : FO RX3 19 3 5 := ⟨RX3, TX3, 8, rfl, gwX3, by decide, lw_ix 54 (by decide +kernel) rfl⟩
set_option maxRecDepth 20000 in
theorem foX3_22 : FO RX3 22 3 6 := ⟨RX3, TX3, 8, rfl, gwX3, by decide, lw_ix 57 (by decide +kernel) rfl⟩
set_option maxRecDepth 20000 in
theorem foX3_25 : FO RX3 25 3 7 := ⟨RX3, TX3, 8, rfl, gwX3, by decide, lw_ix 59 (by decide +kernel) rfl⟩
set_option maxRecDepth 20000 in
theorem foX3_28 : FO RX3 28 3 0 := ⟨RX3, TX3, 8, rfl, gwX3, by decide, lw_ix 42 (by decide +kernel) rfl⟩
set_option maxRecDepth 20000 in
theorem foX3_35 : FO RX3 35 3 1 := ⟨RX3, TX3, 8, rfl, gwX3, by decide, lw_ix 45 (by decide +kernel) rfl⟩
set_option maxRecDepth 20000 in
theorem foX3_38 : FO RX3 38 3 2 := ⟨RX3, TX3, 8, rfl, gwX3, by decide, lw_ix 48 (by decide +kernel) rfl⟩
set_option maxRecDepth 20000 in
theorem foX4_9 : FO RX4 9 4 0 := ⟨RX4, TX4, 6, rfl, gwX4, by decide, lw_ix 85 (by decide +kernel) rfl⟩
set_option maxRecDepth 20000 in
theorem foX4_15 : FO RX4 15 4 1 := ⟨RX4, TX4, 6, rfl, gwX4, by decide, lw_ix 87 (by decide +kernel) rfl⟩
set_option maxRecDepth 20000 in
theorem foX4_18 : FO RX4 18 4 2 := ⟨RX4, TX4, 6, rfl, gwX4, by decide, lw_ix 89 (by decide +kernel) rfl⟩
set_option maxRecDepth 20000 in
theorem foX4_21 : FO RX4 21 4 3 := ⟨RX4, TX4, 6, rfl, gwX4, by decide, lw_ix 91 (by decide +kernel) rfl⟩
set_option maxRecDepth 20000 in
theorem foX4_24 : FO RX4 24 4 4 := ⟨RX4, TX4, 6, rfl, gwX4, by decide, lw_ix 93 (by decide +kernel) rfl⟩
set_option maxRecDepth 20000 in
theorem foX4_27 : FO RX4 27 4 5 := ⟨RX4, TX4, 6, rfl, gwX4, by decide, lw_ix 95 (by decide +kernel) rfl⟩
set_option maxRecDepth 20000 in
theorem foX4_30 : FO RX4 30 3 0 := ⟨RX3, TX3, 8, rfl, gwX3, by decide, lw_ix 38 (by decide +kernel) rfl⟩
set_option maxRecDepth 20000 in
theorem foX4_44 : FO RX4 44 6 2 := ⟨RX6, TX6, 4, rfl, gwX6, by decide, lw_ix 140 (by decide +kernel) rfl⟩
set_option maxRecDepth 20000 in
theorem foX4_49 : FO RX4 49 3 2 := ⟨RX3, TX3, 8, rfl, gwX3, by decide, lw_ix 46 (by decide +kernel) rfl⟩
set_option maxRecDepth 20000 in
theorem foX4_52 : FO RX4 52 6 1 := ⟨RX6, TX6, 4, rfl, gwX6, by decide, lw_ix 136 (by decide +kernel) rfl⟩
set_option maxRecDepth 20000 in
theorem foX4_58 : FO RX4 58 3 6 := ⟨RX3, TX3, 8, rfl, gwX3, by decide, lw_ix 58 (by decide +kernel) rfl⟩
set_option maxRecDepth 20000 in
theorem foX4_61 : FO RX4 61 3 7 := ⟨RX3, TX3, 8, rfl, gwX3, by decide, lw_ix 60 (by decide +kernel) rfl⟩
set_option maxRecDepth 20000 in
theorem foX4_64 : FO RX4 64 3 1 := ⟨RX3, TX3, 8, rfl, gwX3, by decide, lw_ix 43 (by decide +kernel) rfl⟩
set_option maxRecDepth 20000 in
theorem foX4_67 : FO RX4 67 3 5 := ⟨RX3, TX3, 8, rfl, gwX3, by decide, lw_ix 55 (by decide +kernel) rfl⟩
set_option maxRecDepth 20000 in
theorem foX4_70 : FO RX4 70 3 4 := ⟨RX3, TX3, 8, rfl, gwX3, by decide, lw_ix 53 (by decide +kernel) rfl⟩
set_option maxRecDepth 20000 in
theorem foX5_9 : FO RX5 9 5 1 := ⟨RX5, TX5, 2, rfl, gwX5, by decide, lw_ix 223 (by decide +kernel) rfl⟩
set_option maxRecDepth 20000 in
theorem foX5_15 : FO RX5 15 5 0 := ⟨RX5, TX5, 2, rfl, gwX5, by decide, lw_ix 221 (by decide +kernel) rfl⟩
set_option maxRecDepth 20000 in
theorem foX5_19 : FO RX5 19 6 0 := ⟨RX6, TX6, 4, rfl, gwX6, by decide, lw_ix 132 (by decide +kernel) rfl⟩
set_option maxRecDepth 20000 in
theorem foX5_22 : FO RX5 22 6 2 := ⟨RX6, TX6, 4, rfl, gwX6, by decide, lw_ix 142 (by decide +kernel) rfl⟩
set_option maxRecDepth 20000 in
theorem foX6_9 : FO RX6 9 6 2 := ⟨RX6, TX6, 4, rfl, gwX6, by decide, lw_ix 139 (by decide +kernel) rfl⟩
set_option maxRecDepth 20000 in
theorem foX6_15 : FO RX6 15 6 3 := ⟨RX6, TX6, 4, rfl, gwX6, by decide, lw_ix 144 (by decide +kernel) rfl⟩
set_option maxRecDepth 20000 in
theorem foX6_18 : FO RX6 18 6 0 := ⟨RX6, TX6, 4, rfl, gwX6, by decide, lw_ix 131 (by decide +kernel) rfl⟩
set_option maxRecDepth 20000 in
theorem foX6_22 : FO RX6 22 6 1 := ⟨RX6, TX6, 4, rfl, gwX6, by decide, lw_ix 135 (by decide +kernel) rfl⟩
set_option maxRecDepth 20000 in
theorem foX7_9 : FO RX7 9 7 0 := ⟨RX7, TX7, 2, rfl, gwX7, by decide, lw_ix 173 (by decide +kernel) rfl⟩
set_option maxRecDepth 20000 in
theorem foX7_15 : FO RX7 15 7 1 := ⟨RX7, TX7, 2, rfl, gwX7, by decide, lw_ix 174 (by decide +kernel) rfl⟩
set_option maxRecDepth 20000 in
theorem foX7_24 : FO RX7 24 2 1 := ⟨RX2, TX2, 3, rfl, gwX2, by decide, lw_ix 158 (by decide +kernel) rfl⟩
set_option maxRecDepth 20000 in
theorem foX7_30 : FO RX7 30 3 3 := ⟨RX3, TX3, 8, rfl, gwX3, by decide, lw_ix 51 (by decide +kernel) rfl⟩
set_option maxRecDepth 20000 in
theorem foX8_10 : FO RX8 10 8 0 := ⟨RX8, TX8, 10, rfl, gwX8, by decide, lw_ix 231 (by decide +kernel) rfl⟩
set_option maxRecDepth 20000 in
theorem foX8_16 : FO RX8 16 8 1 := ⟨RX8, TX8, 10, rfl, gwX8, by decide, lw_ix 232 (by decide +kernel) rfl⟩
set_option maxRecDepth 20000 in
theorem foX8_19 : FO RX8 19 2 1 := ⟨RX2, TX2, 3, rfl, gwX2, by decide, lw_ix 157 (by decide +kernel) rfl⟩
set_option maxRecDepth 20000 in
theorem foX8_23 : FO RX8 23 8 2 := ⟨RX8, TX8, 10, rfl, gwX8, by decide, lw_ix 233 (by decide +kernel) rfl⟩
set_option maxRecDepth 20000 in
theorem foX8_28 : FO RX8 28 8 3 := ⟨RX8, TX8, 10, rfl, gwX8, by decide, lw_ix 234 (by decide +kernel) rfl⟩
set_option maxRecDepth 20000 in
theorem foX8_32 : FO RX8 32 8 4 := ⟨RX8, TX8, 10, rfl, gwX8, by decide, lw_ix 235 (by decide +kernel) rfl⟩
set_option maxRecDepth 20000 in
theorem foX8_39 : FO RX8 39 8 5 := ⟨RX8, TX8, 10, rfl, gwX8, by decide, lw_ix 236 (by decide +kernel) rfl⟩
set_option maxRecDepth 20000 in
theorem foX8_46 : FO RX8 46 8 6 := ⟨RX8, TX8, 10, rfl, gwX8, by decide, lw_ix 237 (by decide +kernel) rfl⟩
set_option maxRecDepth 20000 in
theorem foX8_53 : FO RX8 53 8 7 := ⟨RX8, TX8, 10, rfl, gwX8, by decide, lw_ix 238 (by decide +kernel) rfl⟩
set_option maxRecDepth 20000 in
theorem foX8_60 : FO RX8 60 8 8 := ⟨RX8, TX8, 10, rfl, gwX8, by decide, lw_ix 239 (by decide +kernel) rfl⟩
set_option maxRecDepth 20000 in
theorem foX8_64 : FO RX8 64 8 9 := ⟨RX8, TX8, 10, rfl, gwX8, by decide, lw_ix 240 (by decide +kernel) rfl⟩
set_option maxRecDepth 20000 in
theorem foX8_73 : FO RX8 73 3 0 := ⟨RX3, TX3, 8, rfl, gwX3, by decide, lw_ix 40 (by decide +kernel) rfl⟩
set_option maxRecDepth 20000 in
theorem foX8_96 : FO RX8 96 3 1 := ⟨RX3, TX3, 8, rfl, gwX3, by decide, lw_ix 44 (by decide +kernel) rfl⟩
set_option maxRecDepth 20000 in
theorem foX8_99 : FO RX8 99 3 2 := ⟨RX3, TX3, 8, rfl, gwX3, by decide, lw_ix 47 (by decide +kernel) rfl⟩
set_option maxRecDepth 20000 in
theorem foX8_109 : FO RX8 109 5 0 := ⟨RX5, TX5, 2, rfl, gwX5, by decide, lw_ix 222 (by decide +kernel) rfl⟩
set_option maxRecDepth 20000 in
theorem foX8_120 : FO RX8 120 6 1 := ⟨RX6, TX6, 4, rfl, gwX6, by decide, lw_ix 138 (by decide +kernel) rfl⟩
set_option maxRecDepth 20000 in
theorem foX8_123 : FO RX8 123 6 2 := ⟨RX6, TX6, 4, rfl, gwX6, by decide, lw_ix 143 (by decide +kernel) rfl⟩
set_option maxRecDepth 20000 in
theorem foX8_131 : FO RX8 131 4 5 := ⟨RX4, TX4, 6, rfl, gwX4, by decide, lw_ix 97 (by decide +kernel) rfl⟩
set_option maxRecDepth 20000 in
theorem foX8_134 : FO RX8 134 4 1 := ⟨RX4, TX4, 6, rfl, gwX4, by decide, lw_ix 88 (by decide +kernel) rfl⟩
set_option maxRecDepth 20000 in
theorem foX8_137 : FO RX8 137 4 3 := ⟨RX4, TX4, 6, rfl, gwX4, by decide, lw_ix 92 (by decide +kernel) rfl⟩
set_option maxRecDepth 20000 in
theorem foX8_140 : FO RX8 140 4 2 := ⟨RX4, TX4, 6, rfl, gwX4, by decide, lw_ix 90 (by decide +kernel) rfl⟩
set_option maxRecDepth 20000 in
theorem foX8_143 : FO RX8 143 4 0 := ⟨RX4, TX4, 6, rfl, gwX4, by decide, lw_ix 86 (by decide +kernel) rfl⟩
set_option maxRecDepth 20000 in
theorem foX8_146 : FO RX8 146 4 4 := ⟨RX4, TX4, 6, rfl, gwX4, by decide, lw_ix 94 (by decide +kernel) rfl⟩
set_option maxRecDepth 20000 in
theorem foX8_190 : FO RX8 190 1 0 := ⟨RX1, TX1, 7, rfl, gwX1, by decide, lw_ix 189 (by decide +kernel) rfl⟩
set_option maxRecDepth 20000 in
theorem foX8_192 : FO RX8 192 1 1 := ⟨RX1, TX1, 7, rfl, gwX1, by decide, lw_ix 191 (by decide +kernel) rfl⟩
set_option maxRecDepth 20000 in
theorem foX8_195 : FO RX8 195 1 2 := ⟨RX1, TX1, 7, rfl, gwX1, by decide, lw_ix 193 (by decide +kernel) rfl⟩
set_option maxRecDepth 20000 in
theorem foX8_234 : FO RX8 234 3 5 := ⟨RX3, TX3, 8, rfl, gwX3, by decide, lw_ix 56 (by decide +kernel) rfl⟩
set_option maxRecDepth 20000 in
theorem foX9_7 : FO RX9 7 9 0 := ⟨RX9, TX9, 21, rfl, gwX9, by decide, lw_ix 578 (by decide +kernel) rfl⟩
set_option maxRecDepth 20000 in
theorem foX9_13 : FO RX9 13 9 4 := ⟨RX9, TX9, 21, rfl, gwX9, by decide, lw_ix 582 (by decide +kernel) rfl⟩
set_option maxRecDepth 20000 in
theorem foX9_16 : FO RX9 16 9 5 := ⟨RX9, TX9, 21, rfl, gwX9, by decide, lw_ix 583 (by decide +kernel) rfl⟩
set_option maxRecDepth 20000 in
theorem foX9_19 : FO RX9 19 9 6 := ⟨RX9, TX9, 21, rfl, gwX9, by decide, lw_ix 584 (by decide +kernel) rfl⟩
set_option maxRecDepth 20000 in
theorem foX9_22 : FO RX9 22 9 8 := ⟨RX9, TX9, 21, rfl, gwX9, by decide, lw_ix 586 (by decide +kernel) rfl⟩
set_option maxRecDepth 20000 in
theorem foX9_25 : FO RX9 25 9 9 := ⟨RX9, TX9, 21, rfl, gwX9, by decide, lw_ix 587 (by decide +kernel) rfl⟩
set_option maxRecDepth 20000 in
theorem foX9_28 : FO RX9 28 9 10 := ⟨RX9, TX9, 21, rfl, gwX9, by decide, lw_ix 588 (by decide +kernel) rfl⟩
set_option maxRecDepth 20000 in
theorem foX9_31 : FO RX9 31 9 11 := ⟨RX9, TX9, 21, rfl, gwX9, by decide, lw_ix 589 (by decide +kernel) rfl⟩
set_option maxRecDepth 20000 in
theorem foX9_34 : FO RX9 34 9 12 := ⟨RX9, TX9, 21, rfl, gwX9, by decide, lw_ix 590 (by decide +kernel) rfl⟩
set_option maxRecDepth 20000 in
theorem foX9_37 : FO RX9 37 9 13 := ⟨RX9, TX9, 21, rfl, gwX9, by decide, lw_ix 591 (by decide +kernel) rfl⟩
set_option maxRecDepth 20000 in
theorem foX9_40 : FO RX9 40 9 14 := ⟨RX9, TX9, 21, rfl, gwX9, by decide, lw_ix 592 (by decide +kernel) rfl⟩
set_option maxRecDepth 20000 in
theorem foX9_43 : FO RX9 43 9 15 := ⟨RX9, TX9, 21, rfl, gwX9, by decide, lw_ix 593 (by decide +kernel) rfl⟩
set_option maxRecDepth 20000 in
theorem foX9_46 : FO RX9 46 9 16 := ⟨RX9, TX9, 21, rfl, gwX9, by decide, lw_ix 594 (by decide +kernel) rfl⟩
set_option maxRecDepth 20000 in
theorem foX9_49 : FO RX9 49 9 17 := ⟨RX9, TX9, 21, rfl, gwX9, by decide, lw_ix 595 (by decide +kernel) rfl⟩
set_option maxRecDepth 20000 in
theorem foX9_52 : FO RX9 52 9 18 := ⟨RX9, TX9, 21, rfl, gwX9, by decide, lw_ix 596 (by decide +kernel) rfl⟩
set_option maxRecDepth 20000 in
theorem foX9_55 : FO RX9 55 9 1 := ⟨RX9, TX9, 21, rfl, gwX9, by decide, lw_ix 579 (by decide +kernel) rfl⟩
set_option maxRecDepth 20000 in
theorem foX9_85 : FO RX9 85 9 2 := ⟨RX9, TX9, 21, rfl, gwX9, by decide, lw_ix 580 (by decide +kernel) rfl⟩
set_option maxRecDepth 20000 in
theorem foX9_88 : FO RX9 88 9 3 := ⟨RX9, TX9, 21, rfl, gwX9, by decide, lw_ix 581 (by decide +kernel) rfl⟩
set_option maxRecDepth 20000 in
theorem foX9_95 : FO RX9 95 9 7 := ⟨RX9, TX9, 21, rfl, gwX9, by decide, lw_ix 585 (by decide +kernel) rfl⟩
set_option maxRecDepth 20000 in
theorem foX9_158 : FO RX9 158 9 19 := ⟨RX9, TX9, 21, rfl, gwX9, by decide, lw_ix 597 (by decide +kernel) rfl⟩
set_option maxRecDepth 20000 in
theorem foX9_161 : FO RX9 161 9 20 := ⟨RX9, TX9, 21, rfl, gwX9, by decide, lw_ix 598 (by decide +kernel) rfl⟩
set_option maxRecDepth 20000 in
theorem fpX1_26 : FP RX1 26 1 3 := ⟨RX1, TX1, 7, tyX1, rfl, gwX1, by decide, lw_ix 194 (by decide +kernel) rfl, tyX1_ok, nmX1, rfl, by decide +kernel⟩
set_option maxRecDepth 20000 in
theorem fpX1_30 : FP RX1 30 1 2 := ⟨RX1, TX1, 7, tyX1, rfl, gwX1, by decide, lw_ix 192 (by decide +kernel) rfl, tyX1_ok, nmX1, rfl, by decide +kernel⟩
set_option maxRecDepth 20000 in
theorem fpX1_33 : FP RX1 33 1 1 := ⟨RX1, TX1, 7, tyX1, rfl, gwX1, by decide, lw_ix 190 (by decide +kernel) rfl, tyX1_ok, nmX1, rfl, by decide +kernel⟩
set_option maxRecDepth 20000 in
theorem fpX1_54 : FP RX1 54 1 4 := ⟨RX1, TX1, 7, tyX1, rfl, gwX1, by decide, lw_ix 195 (by decide +kernel) rfl, tyX1_ok, nmX1, rfl, by decide +kernel⟩
set_option maxRecDepth 20000 in
theorem fpX1_66 : FP RX1 66 1 5 := ⟨RX1, TX1, 7, tyX1, rfl, gwX1, by decide, lw_ix 196 (by decide +kernel) rfl, tyX1_ok, nmX1, rfl, by decide +kernel⟩
set_option maxRecDepth 20000 in
theorem fpX3_9 : FP RX3 9 3 3 := ⟨RX3, TX3, 8, tyX3, rfl, gwX3, by decide, lw_ix 49 (by decide +kernel) rfl, tyX3_ok, nmX3, rfl, by decide +kernel⟩
set_option maxRecDepth 20000 in
theorem fpX3_28 : FP RX3 28 3 0 := ⟨RX3, TX3, 8, tyX3, rfl, gwX3, by decide, lw_ix 42 (by decide +kernel) rfl, tyX3_ok, nmX3, rfl, by decide +kernel⟩
set_option maxRecDepth 20000 in
theorem fpX3_35 : FP RX3 35 3 1 := ⟨RX3, TX3, 8, tyX3, rfl, gwX3, by decide, lw_ix 45 (by decide +kernel) rfl, tyX3_ok, nmX3, rfl, by decide +kernel⟩
set_option maxRecDepth 20000 in
theorem fpX3_38 : FP RX3 38 3 2 := ⟨RX3, TX3, 8, tyX3, rfl, gwX3, by decide, lw_ix 48 (by decide +kernel) rfl, tyX3_ok, nmX3, rfl, by decide +kernel⟩
set_option maxRecDepth 20000 in
theorem fpX5_15 : FP RX5 15 5 0 := ⟨RX5, TX5, 2, tyX5, rfl, gwX5, by decide, lw_ix 221 (by decide +kernel) rfl, tyX5_ok, nmX5, rfl, by decide +kernel⟩
set_option maxRecDepth 20000 in
theorem fpX6_18 : FP RX6 18 6 0 := ⟨RX6, TX6, 4, tyX6, rfl, gwX6, by decide, lw_ix 131 (by decide +kernel) rfl, tyX6_ok, nmX6, rfl, by decide +kernel⟩
set_option maxRecDepth 20000 in
theorem fpX6_22 : FP RX6 22 6 1 := ⟨RX6, TX6, 4, tyX6, rfl, gwX6, by decide, lw_ix 135 (by decide +kernel) rfl, tyX6_ok, nmX6, rfl, by decide +kernel⟩
set_option maxRecDepth 20000 in
theorem fpX8_109 : FP RX8 109 5 0 := ⟨RX5, TX5, 2, tyX5, rfl, gwX5, by decide, lw_ix 222 (by decide +kernel) rfl, tyX5_ok, nmX5, rfl, by decide +kernel⟩
set_option maxRecDepth 20000 in
theorem fpX9_55 : FP RX9 55 9 1 := ⟨RX9, TX9, 21, tyX9, rfl, gwX9, by decide, lw_ix 579 (by decide +kernel) rfl, tyX9_ok, nmX9, rfl, by decide +kernel⟩
set_option maxRecDepth 20000 in
theorem fpX9_85 : FP RX9 85 9 2 := ⟨RX9, TX9, 21, tyX9, rfl, gwX9, by decide, lw_ix 580 (by decide +kernel) rfl, tyX9_ok, nmX9, rfl, by decide +kernel⟩
set_option maxRecDepth 20000 in
theorem fpX9_88 : FP RX9 88 9 3 := ⟨RX9, TX9, 21, tyX9, rfl, gwX9, by decide, lw_ix 581 (by decide +kernel) rfl, tyX9_ok, nmX9, rfl, by decide +kernel⟩
set_option maxRecDepth 20000 in
theorem fpX9_95 : FP RX9 95 9 7 := ⟨RX9, TX9, 21, tyX9, rfl, gwX9, by decide, lw_ix 585 (by decide +kernel) rfl, tyX9_ok, nmX9, rfl, by decide +kernel⟩
set_option maxRecDepth 20000 in
theorem fpX9_158 : FP RX9 158 9 19 := ⟨RX9, TX9, 21, tyX9, rfl, gwX9, by decide, lw_ix 597 (by decide +kernel) rfl, tyX9_ok, nmX9, rfl, by decide +kernel⟩
set_option maxRecDepth 20000 in
theorem fpX9_161 : FP RX9 161 9 20 := ⟨RX9, TX9, 21, tyX9, rfl, gwX9, by decide, lw_ix 598 (by decide +kernel) rfl, tyX9_ok, nmX9, rfl, by decide +kernel⟩
end
section
/-! answers of a kind, calls by arity, rows at a counted place -/
def Ri (P : Int32 → Hp → Prop) : Option Value → Hp → Prop := fun r h' => ∃ v, r = some (.int v) ∧ P v h'
def Rv (P : Hp → Prop) : Option Value → Hp → Prop := fun r h' => r = none ∧ P h'
def Ra (P : Nat → Hp → Prop) : Option Value → Hp → Prop := fun r h' => ∃ a, r = some (.ref a) ∧ P a h'
section KND
variable {g : GG} {mi mj : MI} {pc idx : Nat} {lv lv0 : List (Option Value)} {st : List Value} {h : Hp} {Q : Option Value → Hp → Prop}
theorem ret_i {P : Int32 → Hp → Prop} {v : Int32} (hd : decode mi.2.1 pc = .ok (.ireturn, 1)) (ht : mi.2.2.2.1 = some .int) (hq : P v h) : R g mi pc lv [.int v] h (Ri P) := R.ret_i hd ht ⟨v, rfl, hq⟩
theorem ret_z {P : Int32 → Hp → Prop} {v : Int32} (hd : decode mi.2.1 pc = .ok (.ireturn, 1)) (ht : mi.2.2.2.1 = some .boolean) (hv : v = 0 ∨ v = 1) (hq : P v h) : R g mi pc lv [.int v] h (Ri P) := R.ret_z hd ht hv ⟨v, rfl, hq⟩
theorem ret_v {P : Hp → Prop} (hd : decode mi.2.1 pc = .ok (.return_, 1)) (ht : mi.2.2.2.1 = none) (hq : P h) : R g mi pc lv [] h (Rv P) := R.ret_v hd ht ⟨rfl, hq⟩
theorem ret_a {P : Nat → Hp → Prop} {a : Nat} {t : FieldType} (hd : decode mi.2.1 pc = .ok (.areturn, 1)) (ht : mi.2.2.2.1 = some (.array t)) (hq : P a h) : R g mi pc lv [.ref a] h (Ra P) := R.ret_a hd ht ⟨a, rfl, hq⟩
theorem Ri.imp {P P' : Int32 → Hp → Prop} (k : R g mi pc lv st h (Ri P)) (hq : ∀ v h', P v h' → P' v h') : R g mi pc lv st h (Ri P') := R.imp (fun r h' ⟨v, e, q⟩ => ⟨v, e, hq v h' q⟩) k
theorem Rv.imp {P P' : Hp → Prop} (k : R g mi pc lv st h (Rv P)) (hq : ∀ h', P h' → P' h') : R g mi pc lv st h (Rv P') := R.imp (fun r h' ⟨e, q⟩ => ⟨e, hq h' q⟩) k
theorem r_ild {o n j : Nat} {x : Int32} (hsh : shl[o]? = some (.inl n)) (hx : x = nI j) (hj : j < n) (hn : n < 2 ^ 31) (hd : decode mi.2.1 pc = .ok (.iaload, 1)) (k : R g mi (pc + 1) lv (.int (h o j) :: st) h Q) : R g mi pc lv (.int x :: .ref (ad g o) :: st) h Q := by
  subst hx
  refine r_iald hsh (vp_in_nI hj hn) hd ?_
  rw [nI_clamp (Nat.lt_trans hj hn)]
  exact k
theorem r_ias {o n j : Nat} {x y : Int32} (hsh : shl[o]? = some (.inl n)) (hx : x = nI j) (hj : j < n) (hn : n < 2 ^ 31) (hd : decode mi.2.1 pc = .ok (.iastore, 1)) (k : R g mi (pc + 1) lv st (hset h o j y) Q) : R g mi pc lv (.int y :: .int x :: .ref (ad g o) :: st) h Q := by
  subst hx
  refine r_iast hsh (vp_in_nI hj hn) hd ?_
  rw [nI_clamp (Nat.lt_trans hj hn)]
  exact k
theorem r_irn {o j : Nat} {x : Int32} (h1 : 1000 ≤ o) (h2 : o < 1003) (hx : x = nI j) (hj : j < roN g o) (hn : j < 2 ^ 31) (hd : decode mi.2.1 pc = .ok (.iaload, 1)) (k : R g mi (pc + 1) lv (.int (ro g o j) :: st) h Q) : R g mi pc lv (.int x :: .ref (ad g o) :: st) h Q := by
  subst hx
  have hc : (nI j).toNatClampNeg = j := nI_clamp hn
  refine r_iro h1 h2 ?_ hd ?_
  · intro q
    rcases q with q | q
    · exact nI_pos hn q
    · rw [hc] at q; omega
  · rw [hc]
    exact k

theorem r_cV0i {o ci : Nat} {fs : List (Option Nat)} {T : u_T} {N : Nat} {P : Int32 → Hp → Prop} (hm : MO mj 0) (hw : Cond.methodLink mi.2.2.2.2.1 idx mj.1 ∈ lw_g ∧ Cond.instanceMethod mj.1 ∈ lw_g ∧ Cond.selects mj.1.cls mj.1 mj.1 ∈ lw_g) (hsh : shl[o]? = some (.inr (ci, fs))) (hci : vwCl[ci]? = some (mj.1.cls, T, N)) (hsl : (lg_sl (.ref (ad g o) :: [])).length ≤ mj.2.2.1) (hroom : mj.2.2.2.2.2.1 + 1 ≤ mi.2.2.2.2.2.1 ∧ 8 + (mj.2.2.1 + 11) + mj.2.2.2.2.2.2 ≤ mi.2.2.2.2.2.2) (hcat : (st.map fun v => v.category).sum ≤ 8)
    (hd : decode mi.2.1 pc = .ok (.invokevirtual idx, 3)) (hE : ent (.ref (ad g o) :: []) mj.2.2.1 = lv0) (hM : R g mj 0 lv0 [] h (Ri P)) (kk : ∀ v h', P v h' → R g mi (pc + 3) lv (.int v :: st) h' Q) : R g mi pc lv (.ref (ad g o) :: st) h Q := by
  subst hE
  exact r_callV [] hm hw hsh hci rfl hsl hroom hcat hd hM (fun r h' ⟨v, e, q⟩ => by subst e; exact kk v h' q)
theorem r_cV0v {o ci : Nat} {fs : List (Option Nat)} {T : u_T} {N : Nat} {P : Hp → Prop} (hm : MO mj 0) (hw : Cond.methodLink mi.2.2.2.2.1 idx mj.1 ∈ lw_g ∧ Cond.instanceMethod mj.1 ∈ lw_g ∧ Cond.selects mj.1.cls mj.1 mj.1 ∈ lw_g) (hsh : shl[o]? = some (.inr (ci, fs))) (hci : vwCl[ci]? = some (mj.1.cls, T, N)) (hsl : (lg_sl (.ref (ad g o) :: [])).length ≤ mj.2.2.1) (hroom : mj.2.2.2.2.2.1 + 1 ≤ mi.2.2.2.2.2.1 ∧ 8 + (mj.2.2.1 + 11) + mj.2.2.2.2.2.2 ≤ mi.2.2.2.2.2.2) (hcat : (st.map fun v => v.category).sum ≤ 8)
    (hd : decode mi.2.1 pc = .ok (.invokevirtual idx, 3)) (hE : ent (.ref (ad g o) :: []) mj.2.2.1 = lv0) (hM : R g mj 0 lv0 [] h (Rv P)) (kk : ∀ h', P h' → R g mi (pc + 3) lv st h' Q) : R g mi pc lv (.ref (ad g o) :: st) h Q := by
  subst hE
  exact r_callV [] hm hw hsh hci rfl hsl hroom hcat hd hM (fun r h' ⟨e, q⟩ => by subst e; exact kk h' q)
theorem r_cV1i {o ci : Nat} {fs : List (Option Nat)} {T : u_T} {N : Nat} {a1 : Value} {P : Int32 → Hp → Prop} (hm : MO mj 1) (hw : Cond.methodLink mi.2.2.2.2.1 idx mj.1 ∈ lw_g ∧ Cond.instanceMethod mj.1 ∈ lw_g ∧ Cond.selects mj.1.cls mj.1 mj.1 ∈ lw_g) (hsh : shl[o]? = some (.inr (ci, fs))) (hci : vwCl[ci]? = some (mj.1.cls, T, N)) (hsl : (lg_sl (.ref (ad g o) :: [a1])).length ≤ mj.2.2.1) (hroom : mj.2.2.2.2.2.1 + 1 ≤ mi.2.2.2.2.2.1 ∧ 8 + (mj.2.2.1 + 11) + mj.2.2.2.2.2.2 ≤ mi.2.2.2.2.2.2) (hcat : (st.map fun v => v.category).sum ≤ 8)
    (hd : decode mi.2.1 pc = .ok (.invokevirtual idx, 3)) (hE : ent (.ref (ad g o) :: [a1]) mj.2.2.1 = lv0) (hM : R g mj 0 lv0 [] h (Ri P)) (kk : ∀ v h', P v h' → R g mi (pc + 3) lv (.int v :: st) h' Q) : R g mi pc lv (a1 :: .ref (ad g o) :: st) h Q := by
  subst hE
  exact r_callV [a1] hm hw hsh hci rfl hsl hroom hcat hd hM (fun r h' ⟨v, e, q⟩ => by subst e; exact kk v h' q)
theorem r_cV1v {o ci : Nat} {fs : List (Option Nat)} {T : u_T} {N : Nat} {a1 : Value} {P : Hp → Prop} (hm : MO mj 1) (hw : Cond.methodLink mi.2.2.2.2.1 idx mj.1 ∈ lw_g ∧ Cond.instanceMethod mj.1 ∈ lw_g ∧ Cond.selects mj.1.cls mj.1 mj.1 ∈ lw_g) (hsh : shl[o]? = some (.inr (ci, fs))) (hci : vwCl[ci]? = some (mj.1.cls, T, N)) (hsl : (lg_sl (.ref (ad g o) :: [a1])).length ≤ mj.2.2.1) (hroom : mj.2.2.2.2.2.1 + 1 ≤ mi.2.2.2.2.2.1 ∧ 8 + (mj.2.2.1 + 11) + mj.2.2.2.2.2.2 ≤ mi.2.2.2.2.2.2) (hcat : (st.map fun v => v.category).sum ≤ 8)
    (hd : decode mi.2.1 pc = .ok (.invokevirtual idx, 3)) (hE : ent (.ref (ad g o) :: [a1]) mj.2.2.1 = lv0) (hM : R g mj 0 lv0 [] h (Rv P)) (kk : ∀ h', P h' → R g mi (pc + 3) lv st h' Q) : R g mi pc lv (a1 :: .ref (ad g o) :: st) h Q := by
  subst hE
  exact r_callV [a1] hm hw hsh hci rfl hsl hroom hcat hd hM (fun r h' ⟨e, q⟩ => by subst e; exact kk h' q)
theorem r_cV1a {o ci : Nat} {fs : List (Option Nat)} {T : u_T} {N : Nat} {a1 : Value} {P : Nat → Hp → Prop} (hm : MO mj 1) (hw : Cond.methodLink mi.2.2.2.2.1 idx mj.1 ∈ lw_g ∧ Cond.instanceMethod mj.1 ∈ lw_g ∧ Cond.selects mj.1.cls mj.1 mj.1 ∈ lw_g) (hsh : shl[o]? = some (.inr (ci, fs))) (hci : vwCl[ci]? = some (mj.1.cls, T, N)) (hsl : (lg_sl (.ref (ad g o) :: [a1])).length ≤ mj.2.2.1) (hroom : mj.2.2.2.2.2.1 + 1 ≤ mi.2.2.2.2.2.1 ∧ 8 + (mj.2.2.1 + 11) + mj.2.2.2.2.2.2 ≤ mi.2.2.2.2.2.2) (hcat : (st.map fun v => v.category).sum ≤ 8)
    (hd : decode mi.2.1 pc = .ok (.invokevirtual idx, 3)) (hE : ent (.ref (ad g o) :: [a1]) mj.2.2.1 = lv0) (hM : R g mj 0 lv0 [] h (Ra P)) (kk : ∀ a h', P a h' → R g mi (pc + 3) lv (.ref a :: st) h' Q) : R g mi pc lv (a1 :: .ref (ad g o) :: st) h Q := by
  subst hE
  exact r_callV [a1] hm hw hsh hci rfl hsl hroom hcat hd hM (fun r h' ⟨a, e, q⟩ => by subst e; exact kk a h' q)
theorem r_cV2i {o ci : Nat} {fs : List (Option Nat)} {T : u_T} {N : Nat} {a1 a2 : Value} {P : Int32 → Hp → Prop} (hm : MO mj 2) (hw : Cond.methodLink mi.2.2.2.2.1 idx mj.1 ∈ lw_g ∧ Cond.instanceMethod mj.1 ∈ lw_g ∧ Cond.selects mj.1.cls mj.1 mj.1 ∈ lw_g) (hsh : shl[o]? = some (.inr (ci, fs))) (hci : vwCl[ci]? = some (mj.1.cls, T, N)) (hsl : (lg_sl (.ref (ad g o) :: [a1, a2])).length ≤ mj.2.2.1) (hroom : mj.2.2.2.2.2.1 + 1 ≤ mi.2.2.2.2.2.1 ∧ 8 + (mj.2.2.1 + 11) + mj.2.2.2.2.2.2 ≤ mi.2.2.2.2.2.2) (hcat : (st.map fun v => v.category).sum ≤ 8)
    (hd : decode mi.2.1 pc = .ok (.invokevirtual idx, 3)) (hE : ent (.ref (ad g o) :: [a1, a2]) mj.2.2.1 = lv0) (hM : R g mj 0 lv0 [] h (Ri P)) (kk : ∀ v h', P v h' → R g mi (pc + 3) lv (.int v :: st) h' Q) : R g mi pc lv (a2 :: a1 :: .ref (ad g o) :: st) h Q := by
  subst hE
  exact r_callV [a1, a2] hm hw hsh hci rfl hsl hroom hcat hd hM (fun r h' ⟨v, e, q⟩ => by subst e; exact kk v h' q)
theorem r_cV2v {o ci : Nat} {fs : List (Option Nat)} {T : u_T} {N : Nat} {a1 a2 : Value} {P : Hp → Prop} (hm : MO mj 2) (hw : Cond.methodLink mi.2.2.2.2.1 idx mj.1 ∈ lw_g ∧ Cond.instanceMethod mj.1 ∈ lw_g ∧ Cond.selects mj.1.cls mj.1 mj.1 ∈ lw_g) (hsh : shl[o]? = some (.inr (ci, fs))) (hci : vwCl[ci]? = some (mj.1.cls, T, N)) (hsl : (lg_sl (.ref (ad g o) :: [a1, a2])).length ≤ mj.2.2.1) (hroom : mj.2.2.2.2.2.1 + 1 ≤ mi.2.2.2.2.2.1 ∧ 8 + (mj.2.2.1 + 11) + mj.2.2.2.2.2.2 ≤ mi.2.2.2.2.2.2) (hcat : (st.map fun v => v.category).sum ≤ 8)
    (hd : decode mi.2.1 pc = .ok (.invokevirtual idx, 3)) (hE : ent (.ref (ad g o) :: [a1, a2]) mj.2.2.1 = lv0) (hM : R g mj 0 lv0 [] h (Rv P)) (kk : ∀ h', P h' → R g mi (pc + 3) lv st h' Q) : R g mi pc lv (a2 :: a1 :: .ref (ad g o) :: st) h Q := by
  subst hE
  exact r_callV [a1, a2] hm hw hsh hci rfl hsl hroom hcat hd hM (fun r h' ⟨e, q⟩ => by subst e; exact kk h' q)
theorem r_cV3i {o ci : Nat} {fs : List (Option Nat)} {T : u_T} {N : Nat} {a1 a2 a3 : Value} {P : Int32 → Hp → Prop} (hm : MO mj 3) (hw : Cond.methodLink mi.2.2.2.2.1 idx mj.1 ∈ lw_g ∧ Cond.instanceMethod mj.1 ∈ lw_g ∧ Cond.selects mj.1.cls mj.1 mj.1 ∈ lw_g) (hsh : shl[o]? = some (.inr (ci, fs))) (hci : vwCl[ci]? = some (mj.1.cls, T, N)) (hsl : (lg_sl (.ref (ad g o) :: [a1, a2, a3])).length ≤ mj.2.2.1) (hroom : mj.2.2.2.2.2.1 + 1 ≤ mi.2.2.2.2.2.1 ∧ 8 + (mj.2.2.1 + 11) + mj.2.2.2.2.2.2 ≤ mi.2.2.2.2.2.2) (hcat : (st.map fun v => v.category).sum ≤ 8)
    (hd : decode mi.2.1 pc = .ok (.invokevirtual idx, 3)) (hE : ent (.ref (ad g o) :: [a1, a2, a3]) mj.2.2.1 = lv0) (hM : R g mj 0 lv0 [] h (Ri P)) (kk : ∀ v h', P v h' → R g mi (pc + 3) lv (.int v :: st) h' Q) : R g mi pc lv (a3 :: a2 :: a1 :: .ref (ad g o) :: st) h Q := by
  subst hE
  exact r_callV [a1, a2, a3] hm hw hsh hci rfl hsl hroom hcat hd hM (fun r h' ⟨v, e, q⟩ => by subst e; exact kk v h' q)
theorem r_cV3v {o ci : Nat} {fs : List (Option Nat)} {T : u_T} {N : Nat} {a1 a2 a3 : Value} {P : Hp → Prop} (hm : MO mj 3) (hw : Cond.methodLink mi.2.2.2.2.1 idx mj.1 ∈ lw_g ∧ Cond.instanceMethod mj.1 ∈ lw_g ∧ Cond.selects mj.1.cls mj.1 mj.1 ∈ lw_g) (hsh : shl[o]? = some (.inr (ci, fs))) (hci : vwCl[ci]? = some (mj.1.cls, T, N)) (hsl : (lg_sl (.ref (ad g o) :: [a1, a2, a3])).length ≤ mj.2.2.1) (hroom : mj.2.2.2.2.2.1 + 1 ≤ mi.2.2.2.2.2.1 ∧ 8 + (mj.2.2.1 + 11) + mj.2.2.2.2.2.2 ≤ mi.2.2.2.2.2.2) (hcat : (st.map fun v => v.category).sum ≤ 8)
    (hd : decode mi.2.1 pc = .ok (.invokevirtual idx, 3)) (hE : ent (.ref (ad g o) :: [a1, a2, a3]) mj.2.2.1 = lv0) (hM : R g mj 0 lv0 [] h (Rv P)) (kk : ∀ h', P h' → R g mi (pc + 3) lv st h' Q) : R g mi pc lv (a3 :: a2 :: a1 :: .ref (ad g o) :: st) h Q := by
  subst hE
  exact r_callV [a1, a2, a3] hm hw hsh hci rfl hsl hroom hcat hd hM (fun r h' ⟨e, q⟩ => by subst e; exact kk h' q)
theorem r_cV4i {o ci : Nat} {fs : List (Option Nat)} {T : u_T} {N : Nat} {a1 a2 a3 a4 : Value} {P : Int32 → Hp → Prop} (hm : MO mj 4) (hw : Cond.methodLink mi.2.2.2.2.1 idx mj.1 ∈ lw_g ∧ Cond.instanceMethod mj.1 ∈ lw_g ∧ Cond.selects mj.1.cls mj.1 mj.1 ∈ lw_g) (hsh : shl[o]? = some (.inr (ci, fs))) (hci : vwCl[ci]? = some (mj.1.cls, T, N)) (hsl : (lg_sl (.ref (ad g o) :: [a1, a2, a3, a4])).length ≤ mj.2.2.1) (hroom : mj.2.2.2.2.2.1 + 1 ≤ mi.2.2.2.2.2.1 ∧ 8 + (mj.2.2.1 + 11) + mj.2.2.2.2.2.2 ≤ mi.2.2.2.2.2.2) (hcat : (st.map fun v => v.category).sum ≤ 8)
    (hd : decode mi.2.1 pc = .ok (.invokevirtual idx, 3)) (hE : ent (.ref (ad g o) :: [a1, a2, a3, a4]) mj.2.2.1 = lv0) (hM : R g mj 0 lv0 [] h (Ri P)) (kk : ∀ v h', P v h' → R g mi (pc + 3) lv (.int v :: st) h' Q) : R g mi pc lv (a4 :: a3 :: a2 :: a1 :: .ref (ad g o) :: st) h Q := by
  subst hE
  exact r_callV [a1, a2, a3, a4] hm hw hsh hci rfl hsl hroom hcat hd hM (fun r h' ⟨v, e, q⟩ => by subst e; exact kk v h' q)
theorem r_cV4v {o ci : Nat} {fs : List (Option Nat)} {T : u_T} {N : Nat} {a1 a2 a3 a4 : Value} {P : Hp → Prop} (hm : MO mj 4) (hw : Cond.methodLink mi.2.2.2.2.1 idx mj.1 ∈ lw_g ∧ Cond.instanceMethod mj.1 ∈ lw_g ∧ Cond.selects mj.1.cls mj.1 mj.1 ∈ lw_g) (hsh : shl[o]? = some (.inr (ci, fs))) (hci : vwCl[ci]? = some (mj.1.cls, T, N)) (hsl : (lg_sl (.ref (ad g o) :: [a1, a2, a3, a4])).length ≤ mj.2.2.1) (hroom : mj.2.2.2.2.2.1 + 1 ≤ mi.2.2.2.2.2.1 ∧ 8 + (mj.2.2.1 + 11) + mj.2.2.2.2.2.2 ≤ mi.2.2.2.2.2.2) (hcat : (st.map fun v => v.category).sum ≤ 8)
    (hd : decode mi.2.1 pc = .ok (.invokevirtual idx, 3)) (hE : ent (.ref (ad g o) :: [a1, a2, a3, a4]) mj.2.2.1 = lv0) (hM : R g mj 0 lv0 [] h (Rv P)) (kk : ∀ h', P h' → R g mi (pc + 3) lv st h' Q) : R g mi pc lv (a4 :: a3 :: a2 :: a1 :: .ref (ad g o) :: st) h Q := by
  subst hE
  exact r_callV [a1, a2, a3, a4] hm hw hsh hci rfl hsl hroom hcat hd hM (fun r h' ⟨e, q⟩ => by subst e; exact kk h' q)
theorem r_cS1i {a1 : Value} {P : Int32 → Hp → Prop} (hm : MO mj 1) (hw : Cond.methodLink mi.2.2.2.2.1 idx mj.1 ∈ lw_g ∧ Cond.static mj.1 ∈ lw_g) (hsl : (lg_sl [a1]).length ≤ mj.2.2.1) (hroom : mj.2.2.2.2.2.1 + 1 ≤ mi.2.2.2.2.2.1 ∧ 8 + (mj.2.2.1 + 11) + mj.2.2.2.2.2.2 ≤ mi.2.2.2.2.2.2) (hcat : (st.map fun v => v.category).sum ≤ 8)
    (hd : decode mi.2.1 pc = .ok (.invokestatic idx, 3)) (hE : ent [a1] mj.2.2.1 = lv0) (hM : R g mj 0 lv0 [] h (Ri P)) (kk : ∀ v h', P v h' → R g mi (pc + 3) lv (.int v :: st) h' Q) : R g mi pc lv (a1 :: st) h Q := by
  subst hE
  exact r_callS [a1] hm hw rfl hsl hroom hcat hd hM (fun r h' ⟨v, e, q⟩ => by subst e; exact kk v h' q)
theorem r_cS2i {a1 a2 : Value} {P : Int32 → Hp → Prop} (hm : MO mj 2) (hw : Cond.methodLink mi.2.2.2.2.1 idx mj.1 ∈ lw_g ∧ Cond.static mj.1 ∈ lw_g) (hsl : (lg_sl [a1, a2]).length ≤ mj.2.2.1) (hroom : mj.2.2.2.2.2.1 + 1 ≤ mi.2.2.2.2.2.1 ∧ 8 + (mj.2.2.1 + 11) + mj.2.2.2.2.2.2 ≤ mi.2.2.2.2.2.2) (hcat : (st.map fun v => v.category).sum ≤ 8)
    (hd : decode mi.2.1 pc = .ok (.invokestatic idx, 3)) (hE : ent [a1, a2] mj.2.2.1 = lv0) (hM : R g mj 0 lv0 [] h (Ri P)) (kk : ∀ v h', P v h' → R g mi (pc + 3) lv (.int v :: st) h' Q) : R g mi pc lv (a2 :: a1 :: st) h Q := by
  subst hE
  exact r_callS [a1, a2] hm hw rfl hsl hroom hcat hd hM (fun r h' ⟨v, e, q⟩ => by subst e; exact kk v h' q)
theorem r_cS3i {a1 a2 a3 : Value} {P : Int32 → Hp → Prop} (hm : MO mj 3) (hw : Cond.methodLink mi.2.2.2.2.1 idx mj.1 ∈ lw_g ∧ Cond.static mj.1 ∈ lw_g) (hsl : (lg_sl [a1, a2, a3]).length ≤ mj.2.2.1) (hroom : mj.2.2.2.2.2.1 + 1 ≤ mi.2.2.2.2.2.1 ∧ 8 + (mj.2.2.1 + 11) + mj.2.2.2.2.2.2 ≤ mi.2.2.2.2.2.2) (hcat : (st.map fun v => v.category).sum ≤ 8)
    (hd : decode mi.2.1 pc = .ok (.invokestatic idx, 3)) (hE : ent [a1, a2, a3] mj.2.2.1 = lv0) (hM : R g mj 0 lv0 [] h (Ri P)) (kk : ∀ v h', P v h' → R g mi (pc + 3) lv (.int v :: st) h' Q) : R g mi pc lv (a3 :: a2 :: a1 :: st) h Q := by
  subst hE
  exact r_callS [a1, a2, a3] hm hw rfl hsl hroom hcat hd hM (fun r h' ⟨v, e, q⟩ => by subst e; exact kk v h' q)
theorem r_cS4i {a1 a2 a3 a4 : Value} {P : Int32 → Hp → Prop} (hm : MO mj 4) (hw : Cond.methodLink mi.2.2.2.2.1 idx mj.1 ∈ lw_g ∧ Cond.static mj.1 ∈ lw_g) (hsl : (lg_sl [a1, a2, a3, a4]).length ≤ mj.2.2.1) (hroom : mj.2.2.2.2.2.1 + 1 ≤ mi.2.2.2.2.2.1 ∧ 8 + (mj.2.2.1 + 11) + mj.2.2.2.2.2.2 ≤ mi.2.2.2.2.2.2) (hcat : (st.map fun v => v.category).sum ≤ 8)
    (hd : decode mi.2.1 pc = .ok (.invokestatic idx, 3)) (hE : ent [a1, a2, a3, a4] mj.2.2.1 = lv0) (hM : R g mj 0 lv0 [] h (Ri P)) (kk : ∀ v h', P v h' → R g mi (pc + 3) lv (.int v :: st) h' Q) : R g mi pc lv (a4 :: a3 :: a2 :: a1 :: st) h Q := by
  subst hE
  exact r_callS [a1, a2, a3, a4] hm hw rfl hsl hroom hcat hd hM (fun r h' ⟨v, e, q⟩ => by subst e; exact kk v h' q)
end KND
end
section
theorem inc_up (l : Nat) : nI l + Int32.ofInt 1 = nI (l + 1) := by
  rw [show Int32.ofInt 1 = 1 by decide]; exact nI_1 l
theorem inc_dn (l : Nat) : nI (l + 1) + Int32.ofInt (-1) = nI l := by
  rw [show Int32.ofInt (-1) = -1 by decide, ← Int32.sub_eq_add_neg]; exact nI_pred l
theorem inc_p (x : Int32) : x + Int32.ofInt 1 = x + 1 := by rw [show Int32.ofInt 1 = 1 by decide]
theorem inc_q (x : Int32) : x + Int32.ofInt (-1) = x - 1 := by rw [show Int32.ofInt (-1) = -1 by decide, ← Int32.sub_eq_add_neg]
section MORE
variable {g : GG} {mi : MI} {pc : Nat} {st : List Value} {h : Hp} {Q : Option Value → Hp → Prop}
theorem r_incN0 {lt : List (Option Value)} {l : Nat} (hn : 0 < mi.2.2.1) (hd : decode mi.2.1 pc = .ok (.iinc 0 1, 3)) (k : R g mi (pc + 3) (some (.int (nI (l + 1))) :: lt) st h Q) : R g mi pc (some (.int (nI l)) :: lt) st h Q := r_inc0 hn (inc_up l) hd k
theorem r_incP0 {lt : List (Option Value)} {x : Int32} (hn : 0 < mi.2.2.1) (hd : decode mi.2.1 pc = .ok (.iinc 0 1, 3)) (k : R g mi (pc + 3) (some (.int (x + 1)) :: lt) st h Q) : R g mi pc (some (.int x) :: lt) st h Q := r_inc0 hn (inc_p x) hd k
theorem r_incM0 {lt : List (Option Value)} {l : Nat} (hn : 0 < mi.2.2.1) (hd : decode mi.2.1 pc = .ok (.iinc 0 (-1), 3)) (k : R g mi (pc + 3) (some (.int (nI l)) :: lt) st h Q) : R g mi pc (some (.int (nI (l + 1))) :: lt) st h Q := r_inc0 hn (inc_dn l) hd k
theorem r_incQ0 {lt : List (Option Value)} {x : Int32} (hn : 0 < mi.2.2.1) (hd : decode mi.2.1 pc = .ok (.iinc 0 (-1), 3)) (k : R g mi (pc + 3) (some (.int (x - 1)) :: lt) st h Q) : R g mi pc (some (.int x) :: lt) st h Q := r_inc0 hn (inc_q x) hd k
theorem r_incN1 {a0 : Option Value} {lt : List (Option Value)} {l : Nat} (ha : cat1 a0 = true) (hn : 1 < mi.2.2.1) (hd : decode mi.2.1 pc = .ok (.iinc 1 1, 3)) (k : R g mi (pc + 3) (a0 :: some (.int (nI (l + 1))) :: lt) st h Q) : R g mi pc (a0 :: some (.int (nI l)) :: lt) st h Q := r_inc1 ha hn (inc_up l) hd k
theorem r_incP1 {a0 : Option Value} {lt : List (Option Value)} {x : Int32} (ha : cat1 a0 = true) (hn : 1 < mi.2.2.1) (hd : decode mi.2.1 pc = .ok (.iinc 1 1, 3)) (k : R g mi (pc + 3) (a0 :: some (.int (x + 1)) :: lt) st h Q) : R g mi pc (a0 :: some (.int x) :: lt) st h Q := r_inc1 ha hn (inc_p x) hd k
theorem r_incM1 {a0 : Option Value} {lt : List (Option Value)} {l : Nat} (ha : cat1 a0 = true) (hn : 1 < mi.2.2.1) (hd : decode mi.2.1 pc = .ok (.iinc 1 (-1), 3)) (k : R g mi (pc + 3) (a0 :: some (.int (nI l)) :: lt) st h Q) : R g mi pc (a0 :: some (.int (nI (l + 1))) :: lt) st h Q := r_inc1 ha hn (inc_dn l) hd k
theorem r_incQ1 {a0 : Option Value} {lt : List (Option Value)} {x : Int32} (ha : cat1 a0 = true) (hn : 1 < mi.2.2.1) (hd : decode mi.2.1 pc = .ok (.iinc 1 (-1), 3)) (k : R g mi (pc + 3) (a0 :: some (.int (x - 1)) :: lt) st h Q) : R g mi pc (a0 :: some (.int x) :: lt) st h Q := r_inc1 ha hn (inc_q x) hd k
theorem r_incN2 {a0 b0 : Option Value} {lt : List (Option Value)} {l : Nat} (ha : cat1 b0 = true) (hn : 2 < mi.2.2.1) (hd : decode mi.2.1 pc = .ok (.iinc 2 1, 3)) (k : R g mi (pc + 3) (a0 :: b0 :: some (.int (nI (l + 1))) :: lt) st h Q) : R g mi pc (a0 :: b0 :: some (.int (nI l)) :: lt) st h Q := r_inc2 ha hn (inc_up l) hd k
theorem r_incP2 {a0 b0 : Option Value} {lt : List (Option Value)} {x : Int32} (ha : cat1 b0 = true) (hn : 2 < mi.2.2.1) (hd : decode mi.2.1 pc = .ok (.iinc 2 1, 3)) (k : R g mi (pc + 3) (a0 :: b0 :: some (.int (x + 1)) :: lt) st h Q) : R g mi pc (a0 :: b0 :: some (.int x) :: lt) st h Q := r_inc2 ha hn (inc_p x) hd k
theorem r_incM2 {a0 b0 : Option Value} {lt : List (Option Value)} {l : Nat} (ha : cat1 b0 = true) (hn : 2 < mi.2.2.1) (hd : decode mi.2.1 pc = .ok (.iinc 2 (-1), 3)) (k : R g mi (pc + 3) (a0 :: b0 :: some (.int (nI l)) :: lt) st h Q) : R g mi pc (a0 :: b0 :: some (.int (nI (l + 1))) :: lt) st h Q := r_inc2 ha hn (inc_dn l) hd k
theorem r_incQ2 {a0 b0 : Option Value} {lt : List (Option Value)} {x : Int32} (ha : cat1 b0 = true) (hn : 2 < mi.2.2.1) (hd : decode mi.2.1 pc = .ok (.iinc 2 (-1), 3)) (k : R g mi (pc + 3) (a0 :: b0 :: some (.int (x - 1)) :: lt) st h Q) : R g mi pc (a0 :: b0 :: some (.int x) :: lt) st h Q := r_inc2 ha hn (inc_q x) hd k
theorem r_incN3 {a0 b0 c0 : Option Value} {lt : List (Option Value)} {l : Nat} (ha : cat1 c0 = true) (hn : 3 < mi.2.2.1) (hd : decode mi.2.1 pc = .ok (.iinc 3 1, 3)) (k : R g mi (pc + 3) (a0 :: b0 :: c0 :: some (.int (nI (l + 1))) :: lt) st h Q) : R g mi pc (a0 :: b0 :: c0 :: some (.int (nI l)) :: lt) st h Q := r_inc3 ha hn (inc_up l) hd k
theorem r_incP3 {a0 b0 c0 : Option Value} {lt : List (Option Value)} {x : Int32} (ha : cat1 c0 = true) (hn : 3 < mi.2.2.1) (hd : decode mi.2.1 pc = .ok (.iinc 3 1, 3)) (k : R g mi (pc + 3) (a0 :: b0 :: c0 :: some (.int (x + 1)) :: lt) st h Q) : R g mi pc (a0 :: b0 :: c0 :: some (.int x) :: lt) st h Q := r_inc3 ha hn (inc_p x) hd k
theorem r_incM3 {a0 b0 c0 : Option Value} {lt : List (Option Value)} {l : Nat} (ha : cat1 c0 = true) (hn : 3 < mi.2.2.1) (hd : decode mi.2.1 pc = .ok (.iinc 3 (-1), 3)) (k : R g mi (pc + 3) (a0 :: b0 :: c0 :: some (.int (nI l)) :: lt) st h Q) : R g mi pc (a0 :: b0 :: c0 :: some (.int (nI (l + 1))) :: lt) st h Q := r_inc3 ha hn (inc_dn l) hd k
theorem r_incQ3 {a0 b0 c0 : Option Value} {lt : List (Option Value)} {x : Int32} (ha : cat1 c0 = true) (hn : 3 < mi.2.2.1) (hd : decode mi.2.1 pc = .ok (.iinc 3 (-1), 3)) (k : R g mi (pc + 3) (a0 :: b0 :: c0 :: some (.int (x - 1)) :: lt) st h Q) : R g mi pc (a0 :: b0 :: c0 :: some (.int x) :: lt) st h Q := r_inc3 ha hn (inc_q x) hd k
theorem r_incN4 {a0 b0 c0 d0 : Option Value} {lt : List (Option Value)} {l : Nat} (ha : cat1 d0 = true) (hn : 4 < mi.2.2.1) (hd : decode mi.2.1 pc = .ok (.iinc 4 1, 3)) (k : R g mi (pc + 3) (a0 :: b0 :: c0 :: d0 :: some (.int (nI (l + 1))) :: lt) st h Q) : R g mi pc (a0 :: b0 :: c0 :: d0 :: some (.int (nI l)) :: lt) st h Q := r_inc4 ha hn (inc_up l) hd k
theorem r_incP4 {a0 b0 c0 d0 : Option Value} {lt : List (Option Value)} {x : Int32} (ha : cat1 d0 = true) (hn : 4 < mi.2.2.1) (hd : decode mi.2.1 pc = .ok (.iinc 4 1, 3)) (k : R g mi (pc + 3) (a0 :: b0 :: c0 :: d0 :: some (.int (x + 1)) :: lt) st h Q) : R g mi pc (a0 :: b0 :: c0 :: d0 :: some (.int x) :: lt) st h Q := r_inc4 ha hn (inc_p x) hd k
theorem r_incM4 {a0 b0 c0 d0 : Option Value} {lt : List (Option Value)} {l : Nat} (ha : cat1 d0 = true) (hn : 4 < mi.2.2.1) (hd : decode mi.2.1 pc = .ok (.iinc 4 (-1), 3)) (k : R g mi (pc + 3) (a0 :: b0 :: c0 :: d0 :: some (.int (nI l)) :: lt) st h Q) : R g mi pc (a0 :: b0 :: c0 :: d0 :: some (.int (nI (l + 1))) :: lt) st h Q := r_inc4 ha hn (inc_dn l) hd k
theorem r_incQ4 {a0 b0 c0 d0 : Option Value} {lt : List (Option Value)} {x : Int32} (ha : cat1 d0 = true) (hn : 4 < mi.2.2.1) (hd : decode mi.2.1 pc = .ok (.iinc 4 (-1), 3)) (k : R g mi (pc + 3) (a0 :: b0 :: c0 :: d0 :: some (.int (x - 1)) :: lt) st h Q) : R g mi pc (a0 :: b0 :: c0 :: d0 :: some (.int x) :: lt) st h Q := r_inc4 ha hn (inc_q x) hd k
theorem r_incN5 {a0 b0 c0 d0 e0 : Option Value} {lt : List (Option Value)} {l : Nat} (ha : cat1 e0 = true) (hn : 5 < mi.2.2.1) (hd : decode mi.2.1 pc = .ok (.iinc 5 1, 3)) (k : R g mi (pc + 3) (a0 :: b0 :: c0 :: d0 :: e0 :: some (.int (nI (l + 1))) :: lt) st h Q) : R g mi pc (a0 :: b0 :: c0 :: d0 :: e0 :: some (.int (nI l)) :: lt) st h Q := r_inc5 ha hn (inc_up l) hd k
theorem r_incP5 {a0 b0 c0 d0 e0 : Option Value} {lt : List (Option Value)} {x : Int32} (ha : cat1 e0 = true) (hn : 5 < mi.2.2.1) (hd : decode mi.2.1 pc = .ok (.iinc 5 1, 3)) (k : R g mi (pc + 3) (a0 :: b0 :: c0 :: d0 :: e0 :: some (.int (x + 1)) :: lt) st h Q) : R g mi pc (a0 :: b0 :: c0 :: d0 :: e0 :: some (.int x) :: lt) st h Q := r_inc5 ha hn (inc_p x) hd k
theorem r_incM5 {a0 b0 c0 d0 e0 : Option Value} {lt : List (Option Value)} {l : Nat} (ha : cat1 e0 = true) (hn : 5 < mi.2.2.1) (hd : decode mi.2.1 pc = .ok (.iinc 5 (-1), 3)) (k : R g mi (pc + 3) (a0 :: b0 :: c0 :: d0 :: e0 :: some (.int (nI l)) :: lt) st h Q) : R g mi pc (a0 :: b0 :: c0 :: d0 :: e0 :: some (.int (nI (l + 1))) :: lt) st h Q := r_inc5 ha hn (inc_dn l) hd k
theorem r_incQ5 {a0 b0 c0 d0 e0 : Option Value} {lt : List (Option Value)} {x : Int32} (ha : cat1 e0 = true) (hn : 5 < mi.2.2.1) (hd : decode mi.2.1 pc = .ok (.iinc 5 (-1), 3)) (k : R g mi (pc + 3) (a0 :: b0 :: c0 :: d0 :: e0 :: some (.int (x - 1)) :: lt) st h Q) : R g mi pc (a0 :: b0 :: c0 :: d0 :: e0 :: some (.int x) :: lt) st h Q := r_inc5 ha hn (inc_q x) hd k
theorem r_incN6 {a0 b0 c0 d0 e0 f0 : Option Value} {lt : List (Option Value)} {l : Nat} (ha : cat1 f0 = true) (hn : 6 < mi.2.2.1) (hd : decode mi.2.1 pc = .ok (.iinc 6 1, 3)) (k : R g mi (pc + 3) (a0 :: b0 :: c0 :: d0 :: e0 :: f0 :: some (.int (nI (l + 1))) :: lt) st h Q) : R g mi pc (a0 :: b0 :: c0 :: d0 :: e0 :: f0 :: some (.int (nI l)) :: lt) st h Q := r_inc6 ha hn (inc_up l) hd k
theorem r_incP6 {a0 b0 c0 d0 e0 f0 : Option Value} {lt : List (Option Value)} {x : Int32} (ha : cat1 f0 = true) (hn : 6 < mi.2.2.1) (hd : decode mi.2.1 pc = .ok (.iinc 6 1, 3)) (k : R g mi (pc + 3) (a0 :: b0 :: c0 :: d0 :: e0 :: f0 :: some (.int (x + 1)) :: lt) st h Q) : R g mi pc (a0 :: b0 :: c0 :: d0 :: e0 :: f0 :: some (.int x) :: lt) st h Q := r_inc6 ha hn (inc_p x) hd k
theorem r_incM6 {a0 b0 c0 d0 e0 f0 : Option Value} {lt : List (Option Value)} {l : Nat} (ha : cat1 f0 = true) (hn : 6 < mi.2.2.1) (hd : decode mi.2.1 pc = .ok (.iinc 6 (-1), 3)) (k : R g mi (pc + 3) (a0 :: b0 :: c0 :: d0 :: e0 :: f0 :: some (.int (nI l)) :: lt) st h Q) : R g mi pc (a0 :: b0 :: c0 :: d0 :: e0 :: f0 :: some (.int (nI (l + 1))) :: lt) st h Q := r_inc6 ha hn (inc_dn l) hd k
theorem r_incQ6 {a0 b0 c0 d0 e0 f0 : Option Value} {lt : List (Option Value)} {x : Int32} (ha : cat1 f0 = true) (hn : 6 < mi.2.2.1) (hd : decode mi.2.1 pc = .ok (.iinc 6 (-1), 3)) (k : R g mi (pc + 3) (a0 :: b0 :: c0 :: d0 :: e0 :: f0 :: some (.int (x - 1)) :: lt) st h Q) : R g mi pc (a0 :: b0 :: c0 :: d0 :: e0 :: f0 :: some (.int x) :: lt) st h Q := r_inc6 ha hn (inc_q x) hd k
theorem r_incN7 {a0 b0 c0 d0 e0 f0 g0 : Option Value} {lt : List (Option Value)} {l : Nat} (ha : cat1 g0 = true) (hn : 7 < mi.2.2.1) (hd : decode mi.2.1 pc = .ok (.iinc 7 1, 3)) (k : R g mi (pc + 3) (a0 :: b0 :: c0 :: d0 :: e0 :: f0 :: g0 :: some (.int (nI (l + 1))) :: lt) st h Q) : R g mi pc (a0 :: b0 :: c0 :: d0 :: e0 :: f0 :: g0 :: some (.int (nI l)) :: lt) st h Q := r_inc7 ha hn (inc_up l) hd k
theorem r_incP7 {a0 b0 c0 d0 e0 f0 g0 : Option Value} {lt : List (Option Value)} {x : Int32} (ha : cat1 g0 = true) (hn : 7 < mi.2.2.1) (hd : decode mi.2.1 pc = .ok (.iinc 7 1, 3)) (k : R g mi (pc + 3) (a0 :: b0 :: c0 :: d0 :: e0 :: f0 :: g0 :: some (.int (x + 1)) :: lt) st h Q) : R g mi pc (a0 :: b0 :: c0 :: d0 :: e0 :: f0 :: g0 :: some (.int x) :: lt) st h Q := r_inc7 ha hn (inc_p x) hd k
theorem r_incM7 {a0 b0 c0 d0 e0 f0 g0 : Option Value} {lt : List (Option Value)} {l : Nat} (ha : cat1 g0 = true) (hn : 7 < mi.2.2.1) (hd : decode mi.2.1 pc = .ok (.iinc 7 (-1), 3)) (k : R g mi (pc + 3) (a0 :: b0 :: c0 :: d0 :: e0 :: f0 :: g0 :: some (.int (nI l)) :: lt) st h Q) : R g mi pc (a0 :: b0 :: c0 :: d0 :: e0 :: f0 :: g0 :: some (.int (nI (l + 1))) :: lt) st h Q := r_inc7 ha hn (inc_dn l) hd k
theorem r_incQ7 {a0 b0 c0 d0 e0 f0 g0 : Option Value} {lt : List (Option Value)} {x : Int32} (ha : cat1 g0 = true) (hn : 7 < mi.2.2.1) (hd : decode mi.2.1 pc = .ok (.iinc 7 (-1), 3)) (k : R g mi (pc + 3) (a0 :: b0 :: c0 :: d0 :: e0 :: f0 :: g0 :: some (.int (x - 1)) :: lt) st h Q) : R g mi pc (a0 :: b0 :: c0 :: d0 :: e0 :: f0 :: g0 :: some (.int x) :: lt) st h Q := r_inc7 ha hn (inc_q x) hd k
theorem r_incN8 {a0 b0 c0 d0 e0 f0 g0 h0 : Option Value} {lt : List (Option Value)} {l : Nat} (ha : cat1 h0 = true) (hn : 8 < mi.2.2.1) (hd : decode mi.2.1 pc = .ok (.iinc 8 1, 3)) (k : R g mi (pc + 3) (a0 :: b0 :: c0 :: d0 :: e0 :: f0 :: g0 :: h0 :: some (.int (nI (l + 1))) :: lt) st h Q) : R g mi pc (a0 :: b0 :: c0 :: d0 :: e0 :: f0 :: g0 :: h0 :: some (.int (nI l)) :: lt) st h Q := r_inc8 ha hn (inc_up l) hd k
theorem r_incP8 {a0 b0 c0 d0 e0 f0 g0 h0 : Option Value} {lt : List (Option Value)} {x : Int32} (ha : cat1 h0 = true) (hn : 8 < mi.2.2.1) (hd : decode mi.2.1 pc = .ok (.iinc 8 1, 3)) (k : R g mi (pc + 3) (a0 :: b0 :: c0 :: d0 :: e0 :: f0 :: g0 :: h0 :: some (.int (x + 1)) :: lt) st h Q) : R g mi pc (a0 :: b0 :: c0 :: d0 :: e0 :: f0 :: g0 :: h0 :: some (.int x) :: lt) st h Q := r_inc8 ha hn (inc_p x) hd k
theorem r_incM8 {a0 b0 c0 d0 e0 f0 g0 h0 : Option Value} {lt : List (Option Value)} {l : Nat} (ha : cat1 h0 = true) (hn : 8 < mi.2.2.1) (hd : decode mi.2.1 pc = .ok (.iinc 8 (-1), 3)) (k : R g mi (pc + 3) (a0 :: b0 :: c0 :: d0 :: e0 :: f0 :: g0 :: h0 :: some (.int (nI l)) :: lt) st h Q) : R g mi pc (a0 :: b0 :: c0 :: d0 :: e0 :: f0 :: g0 :: h0 :: some (.int (nI (l + 1))) :: lt) st h Q := r_inc8 ha hn (inc_dn l) hd k
theorem r_incQ8 {a0 b0 c0 d0 e0 f0 g0 h0 : Option Value} {lt : List (Option Value)} {x : Int32} (ha : cat1 h0 = true) (hn : 8 < mi.2.2.1) (hd : decode mi.2.1 pc = .ok (.iinc 8 (-1), 3)) (k : R g mi (pc + 3) (a0 :: b0 :: c0 :: d0 :: e0 :: f0 :: g0 :: h0 :: some (.int (x - 1)) :: lt) st h Q) : R g mi pc (a0 :: b0 :: c0 :: d0 :: e0 :: f0 :: g0 :: h0 :: some (.int x) :: lt) st h Q := r_inc8 ha hn (inc_q x) hd k
theorem r_incN9 {a0 b0 c0 d0 e0 f0 g0 h0 i0 : Option Value} {lt : List (Option Value)} {l : Nat} (ha : cat1 i0 = true) (hn : 9 < mi.2.2.1) (hd : decode mi.2.1 pc = .ok (.iinc 9 1, 3)) (k : R g mi (pc + 3) (a0 :: b0 :: c0 :: d0 :: e0 :: f0 :: g0 :: h0 :: i0 :: some (.int (nI (l + 1))) :: lt) st h Q) : R g mi pc (a0 :: b0 :: c0 :: d0 :: e0 :: f0 :: g0 :: h0 :: i0 :: some (.int (nI l)) :: lt) st h Q := r_inc9 ha hn (inc_up l) hd k
theorem r_incP9 {a0 b0 c0 d0 e0 f0 g0 h0 i0 : Option Value} {lt : List (Option Value)} {x : Int32} (ha : cat1 i0 = true) (hn : 9 < mi.2.2.1) (hd : decode mi.2.1 pc = .ok (.iinc 9 1, 3)) (k : R g mi (pc + 3) (a0 :: b0 :: c0 :: d0 :: e0 :: f0 :: g0 :: h0 :: i0 :: some (.int (x + 1)) :: lt) st h Q) : R g mi pc (a0 :: b0 :: c0 :: d0 :: e0 :: f0 :: g0 :: h0 :: i0 :: some (.int x) :: lt) st h Q := r_inc9 ha hn (inc_p x) hd k
theorem r_incM9 {a0 b0 c0 d0 e0 f0 g0 h0 i0 : Option Value} {lt : List (Option Value)} {l : Nat} (ha : cat1 i0 = true) (hn : 9 < mi.2.2.1) (hd : decode mi.2.1 pc = .ok (.iinc 9 (-1), 3)) (k : R g mi (pc + 3) (a0 :: b0 :: c0 :: d0 :: e0 :: f0 :: g0 :: h0 :: i0 :: some (.int (nI l)) :: lt) st h Q) : R g mi pc (a0 :: b0 :: c0 :: d0 :: e0 :: f0 :: g0 :: h0 :: i0 :: some (.int (nI (l + 1))) :: lt) st h Q := r_inc9 ha hn (inc_dn l) hd k
theorem r_incQ9 {a0 b0 c0 d0 e0 f0 g0 h0 i0 : Option Value} {lt : List (Option Value)} {x : Int32} (ha : cat1 i0 = true) (hn : 9 < mi.2.2.1) (hd : decode mi.2.1 pc = .ok (.iinc 9 (-1), 3)) (k : R g mi (pc + 3) (a0 :: b0 :: c0 :: d0 :: e0 :: f0 :: g0 :: h0 :: i0 :: some (.int (x - 1)) :: lt) st h Q) : R g mi pc (a0 :: b0 :: c0 :: d0 :: e0 :: f0 :: g0 :: h0 :: i0 :: some (.int x) :: lt) st h Q := r_inc9 ha hn (inc_q x) hd k
theorem r_incN10 {a0 b0 c0 d0 e0 f0 g0 h0 i0 j0 : Option Value} {lt : List (Option Value)} {l : Nat} (ha : cat1 j0 = true) (hn : 10 < mi.2.2.1) (hd : decode mi.2.1 pc = .ok (.iinc 10 1, 3)) (k : R g mi (pc + 3) (a0 :: b0 :: c0 :: d0 :: e0 :: f0 :: g0 :: h0 :: i0 :: j0 :: some (.int (nI (l + 1))) :: lt) st h Q) : R g mi pc (a0 :: b0 :: c0 :: d0 :: e0 :: f0 :: g0 :: h0 :: i0 :: j0 :: some (.int (nI l)) :: lt) st h Q := r_inc10 ha hn (inc_up l) hd k
theorem r_incP10 {a0 b0 c0 d0 e0 f0 g0 h0 i0 j0 : Option Value} {lt : List (Option Value)} {x : Int32} (ha : cat1 j0 = true) (hn : 10 < mi.2.2.1) (hd : decode mi.2.1 pc = .ok (.iinc 10 1, 3)) (k : R g mi (pc + 3) (a0 :: b0 :: c0 :: d0 :: e0 :: f0 :: g0 :: h0 :: i0 :: j0 :: some (.int (x + 1)) :: lt) st h Q) : R g mi pc (a0 :: b0 :: c0 :: d0 :: e0 :: f0 :: g0 :: h0 :: i0 :: j0 :: some (.int x) :: lt) st h Q := r_inc10 ha hn (inc_p x) hd k
theorem r_incM10 {a0 b0 c0 d0 e0 f0 g0 h0 i0 j0 : Option Value} {lt : List (Option Value)} {l : Nat} (ha : cat1 j0 = true) (hn : 10 < mi.2.2.1) (hd : decode mi.2.1 pc = .ok (.iinc 10 (-1), 3)) (k : R g mi (pc + 3) (a0 :: b0 :: c0 :: d0 :: e0 :: f0 :: g0 :: h0 :: i0 :: j0 :: some (.int (nI l)) :: lt) st h Q) : R g mi pc (a0 :: b0 :: c0 :: d0 :: e0 :: f0 :: g0 :: h0 :: i0 :: j0 :: some (.int (nI (l + 1))) :: lt) st h Q := r_inc10 ha hn (inc_dn l) hd k
theorem r_incQ10 {a0 b0 c0 d0 e0 f0 g0 h0 i0 j0 : Option Value} {lt : List (Option Value)} {x : Int32} (ha : cat1 j0 = true) (hn : 10 < mi.2.2.1) (hd : decode mi.2.1 pc = .ok (.iinc 10 (-1), 3)) (k : R g mi (pc + 3) (a0 :: b0 :: c0 :: d0 :: e0 :: f0 :: g0 :: h0 :: i0 :: j0 :: some (.int (x - 1)) :: lt) st h Q) : R g mi pc (a0 :: b0 :: c0 :: d0 :: e0 :: f0 :: g0 :: h0 :: i0 :: j0 :: some (.int x) :: lt) st h Q := r_inc10 ha hn (inc_q x) hd k
theorem r_incN11 {a0 b0 c0 d0 e0 f0 g0 h0 i0 j0 k0 : Option Value} {lt : List (Option Value)} {l : Nat} (ha : cat1 k0 = true) (hn : 11 < mi.2.2.1) (hd : decode mi.2.1 pc = .ok (.iinc 11 1, 3)) (k : R g mi (pc + 3) (a0 :: b0 :: c0 :: d0 :: e0 :: f0 :: g0 :: h0 :: i0 :: j0 :: k0 :: some (.int (nI (l + 1))) :: lt) st h Q) : R g mi pc (a0 :: b0 :: c0 :: d0 :: e0 :: f0 :: g0 :: h0 :: i0 :: j0 :: k0 :: some (.int (nI l)) :: lt) st h Q := r_inc11 ha hn (inc_up l) hd k
theorem r_incP11 {a0 b0 c0 d0 e0 f0 g0 h0 i0 j0 k0 : Option Value} {lt : List (Option Value)} {x : Int32} (ha : cat1 k0 = true) (hn : 11 < mi.2.2.1) (hd : decode mi.2.1 pc = .ok (.iinc 11 1, 3)) (k : R g mi (pc + 3) (a0 :: b0 :: c0 :: d0 :: e0 :: f0 :: g0 :: h0 :: i0 :: j0 :: k0 :: some (.int (x + 1)) :: lt) st h Q) : R g mi pc (a0 :: b0 :: c0 :: d0 :: e0 :: f0 :: g0 :: h0 :: i0 :: j0 :: k0 :: some (.int x) :: lt) st h Q := r_inc11 ha hn (inc_p x) hd k
theorem r_incM11 {a0 b0 c0 d0 e0 f0 g0 h0 i0 j0 k0 : Option Value} {lt : List (Option Value)} {l : Nat} (ha : cat1 k0 = true) (hn : 11 < mi.2.2.1) (hd : decode mi.2.1 pc = .ok (.iinc 11 (-1), 3)) (k : R g mi (pc + 3) (a0 :: b0 :: c0 :: d0 :: e0 :: f0 :: g0 :: h0 :: i0 :: j0 :: k0 :: some (.int (nI l)) :: lt) st h Q) : R g mi pc (a0 :: b0 :: c0 :: d0 :: e0 :: f0 :: g0 :: h0 :: i0 :: j0 :: k0 :: some (.int (nI (l + 1))) :: lt) st h Q := r_inc11 ha hn (inc_dn l) hd k
theorem r_incQ11 {a0 b0 c0 d0 e0 f0 g0 h0 i0 j0 k0 : Option Value} {lt : List (Option Value)} {x : Int32} (ha : cat1 k0 = true) (hn : 11 < mi.2.2.1) (hd : decode mi.2.1 pc = .ok (.iinc 11 (-1), 3)) (k : R g mi (pc + 3) (a0 :: b0 :: c0 :: d0 :: e0 :: f0 :: g0 :: h0 :: i0 :: j0 :: k0 :: some (.int (x - 1)) :: lt) st h Q) : R g mi pc (a0 :: b0 :: c0 :: d0 :: e0 :: f0 :: g0 :: h0 :: i0 :: j0 :: k0 :: some (.int x) :: lt) st h Q := r_inc11 ha hn (inc_q x) hd k
theorem r_incN12 {a0 b0 c0 d0 e0 f0 g0 h0 i0 j0 k0 l0 : Option Value} {lt : List (Option Value)} {l : Nat} (ha : cat1 l0 = true) (hn : 12 < mi.2.2.1) (hd : decode mi.2.1 pc = .ok (.iinc 12 1, 3)) (k : R g mi (pc + 3) (a0 :: b0 :: c0 :: d0 :: e0 :: f0 :: g0 :: h0 :: i0 :: j0 :: k0 :: l0 :: some (.int (nI (l + 1))) :: lt) st h Q) : R g mi pc (a0 :: b0 :: c0 :: d0 :: e0 :: f0 :: g0 :: h0 :: i0 :: j0 :: k0 :: l0 :: some (.int (nI l)) :: lt) st h Q := r_inc12 ha hn (inc_up l) hd k
theorem r_incP12 {a0 b0 c0 d0 e0 f0 g0 h0 i0 j0 k0 l0 : Option Value} {lt : List (Option Value)} {x : Int32} (ha : cat1 l0 = true) (hn : 12 < mi.2.2.1) (hd : decode mi.2.1 pc = .ok (.iinc 12 1, 3)) (k : R g mi (pc + 3) (a0 :: b0 :: c0 :: d0 :: e0 :: f0 :: g0 :: h0 :: i0 :: j0 :: k0 :: l0 :: some (.int (x + 1)) :: lt) st h Q) : R g mi pc (a0 :: b0 :: c0 :: d0 :: e0 :: f0 :: g0 :: h0 :: i0 :: j0 :: k0 :: l0 :: some (.int x) :: lt) st h Q := r_inc12 ha hn (inc_p x) hd k
theorem r_incM12 {a0 b0 c0 d0 e0 f0 g0 h0 i0 j0 k0 l0 : Option Value} {lt : List (Option Value)} {l : Nat} (ha : cat1 l0 = true) (hn : 12 < mi.2.2.1) (hd : decode mi.2.1 pc = .ok (.iinc 12 (-1), 3)) (k : R g mi (pc + 3) (a0 :: b0 :: c0 :: d0 :: e0 :: f0 :: g0 :: h0 :: i0 :: j0 :: k0 :: l0 :: some (.int (nI l)) :: lt) st h Q) : R g mi pc (a0 :: b0 :: c0 :: d0 :: e0 :: f0 :: g0 :: h0 :: i0 :: j0 :: k0 :: l0 :: some (.int (nI (l + 1))) :: lt) st h Q := r_inc12 ha hn (inc_dn l) hd k
theorem r_incQ12 {a0 b0 c0 d0 e0 f0 g0 h0 i0 j0 k0 l0 : Option Value} {lt : List (Option Value)} {x : Int32} (ha : cat1 l0 = true) (hn : 12 < mi.2.2.1) (hd : decode mi.2.1 pc = .ok (.iinc 12 (-1), 3)) (k : R g mi (pc + 3) (a0 :: b0 :: c0 :: d0 :: e0 :: f0 :: g0 :: h0 :: i0 :: j0 :: k0 :: l0 :: some (.int (x - 1)) :: lt) st h Q) : R g mi pc (a0 :: b0 :: c0 :: d0 :: e0 :: f0 :: g0 :: h0 :: i0 :: j0 :: k0 :: l0 :: some (.int x) :: lt) st h Q := r_inc12 ha hn (inc_q x) hd k
end MORE
/-! canonical rows: each union's number is at most the number of those ahead of it -/
def mx (c : Nat → Nat) : Nat → Nat
  | 0 => 0
  | l + 1 => max (mx c l) (c l + 1)
def Can (n : Nat) (c : Nat → Nat) : Prop := ∀ l, l < n → c l ≤ mx c l
theorem mx_lt {c : Nat → Nat} {j l : Nat} (h : j < l) : c j < mx c l := by
  induction l with
  | zero => omega
  | succ l ih =>
    rcases Nat.lt_or_ge j l with q | q
    · have := ih q
      simp only [mx]; omega
    · have : j = l := by omega
      subst this
      simp only [mx]; omega
theorem mx_congr {c c' : Nat → Nat} {l : Nat} (h : ∀ j, j < l → c j = c' j) : mx c l = mx c' l := by
  induction l with
  | zero => rfl
  | succ l ih => simp only [mx, ih (fun j q => h j (by omega)), h l (by omega)]
theorem mx_le {n : Nat} {c : Nat → Nat} (h : Can n c) : ∀ l, l ≤ n → mx c l ≤ l := by
  intro l
  induction l with
  | zero => intro _; simp [mx]
  | succ l ih =>
    intro hl
    have h1 := ih (by omega)
    have h2 := h l (by omega)
    simp only [mx]; omega
theorem Can.le {n : Nat} {c : Nat → Nat} (h : Can n c) {l : Nat} (hl : l < n) : c l ≤ l := Nat.le_trans (h l hl) (mx_le h l (by omega))
theorem mx_mono {c : Nat → Nat} {j l : Nat} (h : j ≤ l) : mx c j ≤ mx c l := by
  induction l with
  | zero => have : j = 0 := by omega
            subst this; exact Nat.le_refl _
  | succ l ih =>
    rcases Nat.lt_or_ge j (l + 1) with q | q
    · have := ih (by omega)
      simp only [mx]; omega
    · have : j = l + 1 := by omega
      subst this; exact Nat.le_refl _
/-- every number below the greatest is some land's -/
theorem mx_hit {n : Nat} {c : Nat → Nat} (h : Can n c) : ∀ l, l ≤ n → ∀ u, u < mx c l → ∃ j, j < l ∧ c j = u := by
  intro l
  induction l with
  | zero => intro _ u hu; simp [mx] at hu
  | succ l ih =>
    intro hl u hu
    by_cases q : u < mx c l
    · obtain ⟨j, h1, h2⟩ := ih (by omega) u q
      exact ⟨j, by omega, h2⟩
    · have h2 := h l (by omega)
      simp only [mx] at hu
      exact ⟨l, by omega, by omega⟩
/-- one labelling, one canonical row -/
theorem Can.uniq {n : Nat} {c c' : Nat → Nat} (h : Can n c) (h' : Can n c') (he : ∀ l k, l < n → k < n → (c l = c k ↔ c' l = c' k)) : ∀ l, l < n → c l = c' l := by
  intro l
  induction l using Nat.strongRecOn with
  | _ l ih =>
    intro hl
    have hm : mx c l = mx c' l := mx_congr (fun j q => ih j q (by omega))
    have h1 := h l hl
    have h2 := h' l hl
    by_cases q : c l < mx c l
    · obtain ⟨j, hj, ej⟩ := mx_hit h l (by omega) _ q
      have e1 := (he l j hl (by omega)).mp ej.symm
      rw [← ej, ih j hj (by omega), ← e1]
    · by_cases q' : c' l < mx c' l
      · obtain ⟨j, hj, ej⟩ := mx_hit h' l (by omega) _ q'
        have e1 := (he l j hl (by omega)).mpr ej.symm
        have e2 := mx_lt (c := c) hj
        omega
      · omega
/-- a canonical row of a labelling -/
def CanOf (n : Nat) (r : Nat → Int32) (c : Nat → Nat) : Prop := Can n c ∧ ∀ l k, l < n → k < n → (c l = c k ↔ r l = r k)
theorem CanOf.uniq {n : Nat} {r : Nat → Int32} {c c' : Nat → Nat} (h : CanOf n r c) (h' : CanOf n r c') : ∀ l, l < n → c l = c' l := h.1.uniq h'.1 (fun l k a b => (h.2 l k a b).trans (h'.2 l k a b).symm)
theorem nI_inj {a b : Nat} (ha : a < 2 ^ 31) (hb : b < 2 ^ 31) (h : nI a = nI b) : a = b := (nI_eq ha hb).mp h
theorem CanOf.self {n : Nat} {c : Nat → Nat} (h : Can n c) (hn : n ≤ 6) : CanOf n (fun l => nI (c l)) c := ⟨h, fun l k a b => (nI_eq (by have := h.le a; omega) (by have := h.le b; omega)).symm⟩
theorem CanOf.congr {n : Nat} {r r' : Nat → Int32} {c : Nat → Nat} (h : CanOf n r c) (he : ∀ l, l < n → r l = r' l) : CanOf n r' c := ⟨h.1, fun l k a b => by rw [← he l a, ← he k b]; exact h.2 l k a b⟩
theorem Can.congr {n : Nat} {c c' : Nat → Nat} (h : Can n c) (he : ∀ l, l < n → c l = c' l) : Can n c' := fun l hl => by rw [← he l hl, ← mx_congr (fun j q => he j (by omega))]; exact h l hl
end
section
theorem ge_n {l k : Nat} (hl : l < 2 ^ 31) (c : ¬ nI k ≤ nI l) : l < k := by
  rcases Nat.lt_or_ge l k with q | q
  · exact q
  · exact absurd (nI_le q hl) c
theorem ge_y {l k : Nat} (hl : l < 2 ^ 31) (hk : k < 2 ^ 31) (c : nI k ≤ nI l) : k ≤ l := (nI_leI hk hl).mp c
def PartAt (P : Nat) : Prop := shl[P]? = some (.inr (6, [none, none, some (P + 1), some (P + 2)])) ∧ shl[P + 1]? = some (.inl 6) ∧ shl[P + 2]? = some (.inl 6)
def PS (h : Hp) (P n : Nat) (c : Nat → Nat) : Prop := h P 0 = nI n ∧ h P 1 = nI (mx c n) ∧ ∀ l, l < n → h (P + 1) l = nI (c l)
def KeepP (P : Nat) (h h' : Hp) : Prop := ∀ q, ¬ q = P → ¬ q = P + 1 → ¬ q = P + 2 → h' q = h q

set_option maxRecDepth 100000 in
theorem c_firstLike {g : GG} {P k : Nat} {h : Hp} (hP : PartAt P) (hk : k < 6) : R g mX6_firstLike 0 [some (.ref (ad g P)), some (.int (nI k)), none] [] h (Ri fun v h' => h' = h ∧ ∃ f, v = nI f ∧ f ≤ k ∧ h (P + 1) f = h (P + 1) k ∧ ∀ j, j < f → ¬ h (P + 1) j = h (P + 1) k) := by
  have loop : ∀ (n l : Nat), l ≤ k → k < l + n → (∀ j, j < l → ¬ h (P + 1) j = h (P + 1) k) → R g mX6_firstLike 2 [some (.ref (ad g P)), some (.int (nI k)), some (.int (nI l))] [] h (Ri fun v h' => h' = h ∧ ∃ f, v = nI f ∧ f ≤ k ∧ h (P + 1) f = h (P + 1) k ∧ ∀ j, j < f → ¬ h (P + 1) j = h (P + 1) k) := by
    intro n
    induction n with
    | zero => intro l h1 h2; omega
    | succ n ih =>
      intro l h1 h2 hf
      refine r_iload_n rfl dX6_firstLike_2 ?_
      refine r_iload_n rfl dX6_firstLike_3 ?_
      refine r_icmp_ge 30 dX6_firstLike_4 (by decide) (fun c_4 => ?_) (fun c_4 => ?_)
      · refine r_iload_n rfl dX6_firstLike_30 ?_
        refine ret_i dX6_firstLike_31 rfl ?_
        have e : l = k := by have := (nI_leI (by omega) (by omega)).mp c_4; omega
        subst e
        exact ⟨rfl, l, rfl, Nat.le_refl _, rfl, hf⟩
      · have hlk : l < k := ge_n (by omega) c_4
        refine r_aload_n rfl dX6_firstLike_7 ?_
        refine r_getR foX6_9 hP.1 rfl dX6_firstLike_8 ?_
        refine r_iload_n rfl dX6_firstLike_11 ?_
        refine r_ild hP.2.1 rfl (by omega) (by decide) dX6_firstLike_12 ?_
        refine r_aload_n rfl dX6_firstLike_13 ?_
        refine r_getR foX6_9 hP.1 rfl dX6_firstLike_14 ?_
        refine r_iload_n rfl dX6_firstLike_17 ?_
        refine r_ild hP.2.1 rfl (by omega) (by decide) dX6_firstLike_18 ?_
        refine r_icmp_ne 24 dX6_firstLike_19 (by decide) (fun c_19 => ?_) (fun c_19 => ?_)
        · first | refine r_incN2 rfl (by decide) dX6_firstLike_24 ?_ | refine r_incP2 rfl (by decide) dX6_firstLike_24 ?_
          refine r_goto 2 dX6_firstLike_27 (by decide) ?_
          exact ih (l + 1) (by omega) (by omega) (fun j hj => by
            rcases Nat.lt_or_ge j l with q | q
            · exact hf j q
            · have e : j = l := by omega
              subst e; assumption)
        · refine r_iload_n rfl dX6_firstLike_22 ?_
          refine ret_i dX6_firstLike_23 rfl ?_
          exact ⟨rfl, l, rfl, by omega, by assumption, hf⟩
  refine r_iconst (v := nI 0) (by decide) dX6_firstLike_0 ?_
  refine r_ist2 rfl (by decide) dX6_firstLike_1 ?_
  exact loop (k + 1) 0 (by omega) (by omega) (fun j hj => by omega)

theorem sub1 (m : Nat) : nI m - 1 + 1 = nI m := by rw [Int32.sub_add_cancel]
theorem mx_step {m x : Nat} (hm : m < 2 ^ 30) (hx : x < 2 ^ 30) : (if nI m - 1 < nI x then nI x else nI m - 1) = nI (max m (x + 1)) - 1 := by
  cases m with
  | zero =>
    have e : nI 0 - 1 = -1 := by decide
    have h1 : nI 0 - 1 < nI x := by
      rw [e]
      have h0 := nI_pos' (n := x) (by omega)
      exact Int32.lt_of_lt_of_le (by decide) h0
    rw [if_pos h1, show max 0 (x + 1) = x + 1 by omega, nI_pred]
  | succ m =>
    rw [nI_pred]
    by_cases q : m < x
    · rw [if_pos (nI_lt q (by omega)), show max (m + 1) (x + 1) = x + 1 by omega, nI_pred]
    · rw [if_neg (nI_nlt (by omega) (by omega)), show max (m + 1) (x + 1) = m + 1 by omega, nI_pred]
set_option maxRecDepth 100000 in
theorem c_unionsAhead {g : GG} {P k : Nat} {h : Hp} {c : Nat → Nat} (hP : PartAt P) (hk : k ≤ 6) (hc : ∀ l, l < k → h (P + 1) l = nI (c l)) (hb : ∀ l, l < k → c l < 100) : R g mX6_unionsAhead 0 [some (.ref (ad g P)), some (.int (nI k)), none, none] [] h (Ri fun v h' => h' = h ∧ v = nI (mx c k)) := by
  have hm : ∀ l, l ≤ k → mx c l < 101 := by
    intro l
    induction l with
    | zero => intro _; simp [mx]
    | succ l ih => intro hl; have := ih (by omega); have := hb l (by omega); simp only [mx]; omega
  have loop : ∀ (n l : Nat), l ≤ k → k < l + n → R g mX6_unionsAhead 4 [some (.ref (ad g P)), some (.int (nI k)), some (.int (nI (mx c l) - 1)), some (.int (nI l))] [] h (Ri fun v h' => h' = h ∧ v = nI (mx c k)) := by
    intro n
    induction n with
    | zero => intro l h1 h2; omega
    | succ n ih =>
      intro l h1 h2
      refine r_iload_n rfl dX6_unionsAhead_4 ?_
      refine r_iload_n rfl dX6_unionsAhead_5 ?_
      refine r_icmp_ge 26 dX6_unionsAhead_6 (by decide) (fun c_6 => ?_) (fun c_6 => ?_)
      · refine r_iload_n rfl dX6_unionsAhead_26 ?_
        refine r_iconst (v := (1 : Int32)) (by decide) dX6_unionsAhead_27 ?_
        refine r_iadd dX6_unionsAhead_28 ?_
        refine ret_i dX6_unionsAhead_29 rfl ?_
        refine ⟨rfl, ?_⟩
        have e : l = k := by have := (nI_leI (by omega) (by omega)).mp c_6; omega
        subst e
        exact sub1 _
      · have hlk : l < k := ge_n (by omega) c_6
        refine r_iload_n rfl dX6_unionsAhead_9 ?_
        refine r_aload_n rfl dX6_unionsAhead_10 ?_
        refine r_getR foX6_9 hP.1 rfl dX6_unionsAhead_11 ?_
        refine r_iload_n rfl dX6_unionsAhead_14 ?_
        refine r_ild hP.2.1 rfl (by omega) (by decide) dX6_unionsAhead_15 ?_
        refine r_max lkX6_41 ⟨by decide, Nat.le_of_ble_eq_true rfl⟩ dX6_unionsAhead_16 ?_
        refine r_ist2 rfl (by decide) dX6_unionsAhead_19 ?_
        first | refine r_incN3 rfl (by decide) dX6_unionsAhead_20 ?_ | refine r_incP3 rfl (by decide) dX6_unionsAhead_20 ?_
        refine r_goto 4 dX6_unionsAhead_23 (by decide) ?_
        rw [hc l (by omega), mx_step (by have := hm l (by omega); omega) (by have := hb l (by omega); omega)]
        exact ih (l + 1) (by omega) (by omega)
  refine r_iconst (v := (-1 : Int32)) (by decide) dX6_unionsAhead_0 ?_
  refine r_ist2 rfl (by decide) dX6_unionsAhead_1 ?_
  refine r_iconst (v := nI 0) (by decide) dX6_unionsAhead_2 ?_
  refine r_ist3 rfl (by decide) dX6_unionsAhead_3 ?_
  exact loop (k + 1) 0 (by omega) (by omega)
end
section
theorem upd_eq (f : Nat → Int32) (k : Nat) (x : Int32) : upd f k x k = x := by simp [upd]
theorem upd_ne {f : Nat → Int32} {k j : Nat} {x : Int32} (hj : ¬ j = k) : upd f k x j = f j := by simp [upd, hj]
def uc (c : Nat → Nat) (k x : Nat) : Nat → Nat := fun j => if j = k then x else c j
theorem uc_eq (c : Nat → Nat) (k x : Nat) : uc c k x k = x := by simp [uc]
theorem uc_ne {c : Nat → Nat} {k j x : Nat} (hj : ¬ j = k) : uc c k x j = c j := by simp [uc, hj]
theorem mx_uc (c : Nat → Nat) (l x : Nat) : mx (uc c l x) l = mx c l := mx_congr (fun j q => uc_ne (by omega))
/-- numbers handed out so far -/
def N1 (h : Hp) (P n l : Nat) (h1 : Hp) : Prop := (∀ q, ¬ q = P → ¬ q = P + 2 → h1 q = h q) ∧ h1 P 0 = nI n ∧ ∃ c, CanOf l (h (P + 1)) c ∧ (∀ j, j < l → h1 (P + 2) j = nI (c j)) ∧ h1 P 1 = nI (mx c l)
theorem N1_new {h h1 : Hp} {P n l : Nat} (H : N1 h P n l h1) (hf : ∀ j, j < l → ¬ h (P + 1) j = h (P + 1) l) : N1 h P n (l + 1) (hset (hset h1 (P + 2) l (h1 P 1)) P 1 (hset h1 (P + 2) l (h1 P 1) P 1 + 1)) := by
  obtain ⟨k1, k2, c, ⟨hc1, hc2⟩, k3, k4⟩ := H
  refine ⟨fun q a b => by rw [hset_ne a, hset_ne b]; exact k1 q a b, ?_, uc c l (mx c l), ⟨fun j hj => ?_, fun a b ha hb => ?_⟩, fun j hj => ?_, ?_⟩
  · rw [hset_same, upd_ne (by omega), hset_ne (by omega)]; exact k2
  · by_cases e : j = l
    · subst e; rw [uc_eq, mx_uc]; exact Nat.le_refl _
    · rw [uc_ne e, mx_congr (c' := c) (fun i q => uc_ne (by omega))]; exact hc1 j (by omega)
  · by_cases ea : a = l
    · subst ea
      by_cases eb : b = a
      · subst eb; simp
      · rw [uc_eq, uc_ne eb]
        have := mx_lt (c := c) (show b < a by omega)
        exact ⟨fun e => by omega, fun e => absurd e.symm (hf b (by omega))⟩
    · by_cases eb : b = l
      · subst eb
        rw [uc_eq, uc_ne ea]
        have := mx_lt (c := c) (show a < b by omega)
        exact ⟨fun e => by omega, fun e => absurd e (hf a (by omega))⟩
      · rw [uc_ne ea, uc_ne eb]; exact hc2 a b (by omega) (by omega)
  · rw [hset_ne (by omega), hset_same]
    by_cases e : j = l
    · subst e; rw [upd_eq, uc_eq]; exact k4
    · rw [upd_ne e, uc_ne e]; exact k3 j (by omega)
  · rw [hset_same, upd_eq, hset_ne (by omega), k4, mx, mx_uc, uc_eq, show max (mx c l) (mx c l + 1) = mx c l + 1 by omega]; exact nI_1 _
theorem N1_old {h h1 : Hp} {P n l f : Nat} (H : N1 h P n l h1) (hl : f < l) (hf : h (P + 1) f = h (P + 1) l) : N1 h P n (l + 1) (hset h1 (P + 2) l (h1 (P + 2) f)) := by
  obtain ⟨k1, k2, c, ⟨hc1, hc2⟩, k3, k4⟩ := H
  have hlt := mx_lt (c := c) hl
  refine ⟨fun q a b => by rw [hset_ne b]; exact k1 q a b, ?_, uc c l (c f), ⟨fun j hj => ?_, fun a b ha hb => ?_⟩, fun j hj => ?_, ?_⟩
  · rw [hset_ne (by omega)]; exact k2
  · by_cases e : j = l
    · subst e; rw [uc_eq, mx_uc]; omega
    · rw [uc_ne e, mx_congr (c' := c) (fun i q => uc_ne (by omega))]; exact hc1 j (by omega)
  · by_cases ea : a = l
    · subst ea
      by_cases eb : b = a
      · subst eb; simp
      · rw [uc_eq, uc_ne eb, ← hf]; exact hc2 f b hl (by omega)
    · by_cases eb : b = l
      · subst eb
        rw [uc_eq, uc_ne ea, ← hf]; exact hc2 a f (by omega) hl
      · rw [uc_ne ea, uc_ne eb]; exact hc2 a b (by omega) (by omega)
  · rw [hset_same]
    by_cases e : j = l
    · subst e; rw [upd_eq, uc_eq]; exact k3 f hl
    · rw [upd_ne e, uc_ne e]; exact k3 j (by omega)
  · rw [hset_ne (by omega), k4, mx, mx_uc, uc_eq, show max (mx c l) (c f + 1) = mx c l by omega]
/-- the rows, written back so far -/
def N2 (P l : Nat) (h1 h2 : Hp) : Prop := (∀ q, ¬ q = P + 1 → h2 q = h1 q) ∧ ∀ j, j < l → h2 (P + 1) j = h1 (P + 2) j
theorem N2_step {P l : Nat} {h1 h2 : Hp} (H : N2 P l h1 h2) : N2 P (l + 1) h1 (hset h2 (P + 1) l (h2 (P + 2) l)) := by
  refine ⟨fun q a => by rw [hset_ne a]; exact H.1 q a, fun j hj => ?_⟩
  rw [hset_same]
  by_cases e : j = l
  · subst e; rw [upd_eq, H.1 _ (by omega)]
  · rw [upd_ne e]; exact H.2 j (by omega)

set_option maxRecDepth 100000 in
theorem c_number {g : GG} {P n : Nat} {h : Hp} (hP : PartAt P) (hn : n ≤ 6) (h0 : h P 0 = nI n) : R g mX6_number 0 [some (.ref (ad g P)), none, none] [] h (Rv fun h' => KeepP P h h' ∧ ∃ c, CanOf n (h (P + 1)) c ∧ PS h' P n c) := by
  have loop2 : ∀ (h1 : Hp), N1 h P n n h1 → ∀ (m l : Nat) (h2 : Hp) {z : Option Value}, l ≤ n → n < l + m → N2 P l h1 h2 → R g mX6_number 69 [some (.ref (ad g P)), some (.int (nI l)), z] [] h2 (Rv fun h' => KeepP P h h' ∧ ∃ c, CanOf n (h (P + 1)) c ∧ PS h' P n c) := by
    intro h1 H1 m
    induction m with
    | zero => intro l h2 z a b; omega
    | succ m ih =>
      intro l h2 z a b H2
      have hn0 : h2 P 0 = nI n := by rw [H2.1 _ (by omega)]; exact H1.2.1
      refine r_iload_n rfl dX6_number_69 ?_
      refine r_aload_n rfl dX6_number_70 ?_
      refine r_getI foX6_18 hP.1 rfl dX6_number_71 ?_
      refine r_icmp_ge 95 dX6_number_74 (by decide) (fun c_74 => ?_) (fun c_74 => ?_)
      · refine ret_v dX6_number_95 rfl ?_
        rw [hn0] at c_74
        have e : l = n := by have := ge_y (by omega) (by omega) c_74; omega
        subst e
        obtain ⟨k1, k2, c, hc, k3, k4⟩ := H1
        refine ⟨fun q a b d => by rw [H2.1 q b]; exact k1 q a d, c, hc, hn0, by rw [H2.1 _ (by omega)]; exact k4, fun j hj => by rw [H2.2 j hj]; exact k3 j hj⟩
      · rw [hn0] at c_74
        have hlk : l < n := ge_n (by omega) c_74
        refine r_aload_n rfl dX6_number_77 ?_
        refine r_getR foX6_9 hP.1 rfl dX6_number_78 ?_
        refine r_iload_n rfl dX6_number_81 ?_
        refine r_aload_n rfl dX6_number_82 ?_
        refine r_getR foX6_15 hP.1 rfl dX6_number_83 ?_
        refine r_iload_n rfl dX6_number_86 ?_
        refine r_ild hP.2.2 rfl (by omega) (by decide) dX6_number_87 ?_
        refine r_ias hP.2.1 rfl (by omega) (by decide) dX6_number_88 ?_
        first | refine r_incN1 rfl (by decide) dX6_number_89 ?_ | refine r_incP1 rfl (by decide) dX6_number_89 ?_
        refine r_goto 69 dX6_number_92 (by decide) ?_
        exact ih (l + 1) _ (by omega) (by omega) (N2_step H2)
  have loop : ∀ (m l : Nat) (h1 : Hp) {z : Option Value}, l ≤ n → n < l + m → N1 h P n l h1 → R g mX6_number 7 [some (.ref (ad g P)), some (.int (nI l)), z] [] h1 (Rv fun h' => KeepP P h h' ∧ ∃ c, CanOf n (h (P + 1)) c ∧ PS h' P n c) := by
    intro m
    induction m with
    | zero => intro l h1 z a b; omega
    | succ m ih =>
      intro l h1 z a b H
      refine r_iload_n rfl dX6_number_7 ?_
      refine r_aload_n rfl dX6_number_8 ?_
      refine r_getI foX6_18 hP.1 rfl dX6_number_9 ?_
      refine r_icmp_ge 67 dX6_number_12 (by decide) (fun c_12 => ?_) (fun c_12 => ?_)
      · rw [H.2.1] at c_12
        have e : l = n := by have := ge_y (by omega) (by omega) c_12; omega
        subst e
        refine r_iconst (v := nI 0) (by decide) dX6_number_67 ?_
        refine r_ist1 rfl (by decide) dX6_number_68 ?_
        exact loop2 _ H (l + 1) 0 _ (by omega) (by omega) ⟨fun _ _ => rfl, fun j hj => by omega⟩
      · rw [H.2.1] at c_12
        have hlk : l < n := ge_n (by omega) c_12
        refine r_aload_n rfl dX6_number_15 ?_
        refine r_iload_n rfl dX6_number_16 ?_
        refine r_cV1i (T := TX6) (N := 4) moX6_firstLike lkX6_34 hP.1 rfl (Nat.le_of_ble_eq_true rfl) ⟨by decide, by decide⟩ (Nat.le_of_ble_eq_true rfl) dX6_number_17 rfl (c_firstLike hP (by omega)) (fun v1 h1 q1 => ?_)
        obtain ⟨e1, f, e, hf1, hf2, hf3⟩ := q1
        subst e
        rw [e1]
        rw [H.1 (P + 1) (by omega) (by omega)] at hf2 hf3
        refine r_ist2 rfl (by decide) dX6_number_20 ?_
        refine r_iload_n rfl dX6_number_21 ?_
        refine r_iload_n rfl dX6_number_22 ?_
        refine r_icmp_ne 49 dX6_number_23 (by decide) (fun c_23 => ?_) (fun c_23 => ?_)
        · have hfl : f < l := by
            rcases Nat.lt_or_ge f l with q | q
            · exact q
            · exact absurd (by rw [show f = l by omega]) c_23
          refine r_aload_n rfl dX6_number_49 ?_
          refine r_getR foX6_15 hP.1 rfl dX6_number_50 ?_
          refine r_iload_n rfl dX6_number_53 ?_
          refine r_aload_n rfl dX6_number_54 ?_
          refine r_getR foX6_15 hP.1 rfl dX6_number_55 ?_
          refine r_iload_n rfl dX6_number_58 ?_
          refine r_ild hP.2.2 rfl (by omega) (by decide) dX6_number_59 ?_
          refine r_ias hP.2.2 rfl (by omega) (by decide) dX6_number_60 ?_
          first | refine r_incN1 rfl (by decide) dX6_number_61 ?_ | refine r_incP1 rfl (by decide) dX6_number_61 ?_
          refine r_goto 7 dX6_number_64 (by decide) ?_
          first
            | exact ih (f + 1) _ (by omega) (by omega) (N1_new H hf3)
            | exact ih (l + 1) _ (by omega) (by omega) (N1_old H hfl hf2)
        · have e : f = l := nI_inj (by omega) (by omega) c_23
          subst e
          refine r_aload_n rfl dX6_number_26 ?_
          refine r_getR foX6_15 hP.1 rfl dX6_number_27 ?_
          refine r_iload_n rfl dX6_number_30 ?_
          refine r_aload_n rfl dX6_number_31 ?_
          refine r_getI foX6_22 hP.1 rfl dX6_number_32 ?_
          refine r_ias hP.2.2 rfl (by omega) (by decide) dX6_number_35 ?_
          refine r_aload_n rfl dX6_number_36 ?_
          refine r_dup rfl dX6_number_37 ?_
          refine r_getI foX6_22 hP.1 rfl dX6_number_38 ?_
          refine r_iconst (v := (1 : Int32)) (by decide) dX6_number_41 ?_
          refine r_iadd dX6_number_42 ?_
          refine r_putI fpX6_22 hP.1 rfl dX6_number_43 ?_
          refine r_goto 61 dX6_number_46 (by decide) ?_
          first | refine r_incN1 rfl (by decide) dX6_number_61 ?_ | refine r_incP1 rfl (by decide) dX6_number_61 ?_
          refine r_goto 7 dX6_number_64 (by decide) ?_
          first
            | exact ih (f + 1) _ (by omega) (by omega) (N1_new H hf3)
            | exact ih (l + 1) _ (by omega) (by omega) (N1_old H hfl hf2)
  refine r_aload_n rfl dX6_number_0 ?_
  refine r_iconst (v := (0 : Int32)) (by decide) dX6_number_1 ?_
  refine r_putI fpX6_22 hP.1 rfl dX6_number_2 ?_
  refine r_iconst (v := nI 0) (by decide) dX6_number_5 ?_
  refine r_ist1 rfl (by decide) dX6_number_6 ?_
  exact loop (n + 1) 0 _ (by omega) (by omega) ⟨fun q a _ => hset_ne a, by rw [hset_same, upd_ne (by omega)]; exact h0, fun _ => 0, ⟨fun j hj => by omega, fun a b ha => by omega⟩, fun j hj => by omega, by rw [hset_same, upd_eq]; rfl⟩
end
section
theorem KeepP.trans {P : Nat} {h h1 h2 : Hp} (a : KeepP P h h1) (b : KeepP P h1 h2) : KeepP P h h2 := fun q x y z => (b q x y z).trans (a q x y z)
theorem KeepP.set {P i : Nat} {h h1 : Hp} {x : Int32} (a : KeepP P h h1) : KeepP P h (hset h1 P i x) := fun q u v z => (hset_ne u).trans (a q u v z)
theorem KeepP.row {P i : Nat} {h h1 : Hp} {x : Int32} (a : KeepP P h h1) : KeepP P h (hset h1 (P + 1) i x) := fun q u v z => (hset_ne v).trans (a q u v z)
theorem KeepP.refl {P : Nat} {h : Hp} : KeepP P h h := fun _ _ _ _ => rfl
/-- is the j-th in the set s -/
abbrev bt (s : Int32) (j : Nat) : Prop := (s >>> (nI j &&& 31)) &&& 1 = 1

set_option maxRecDepth 100000 in
theorem c_leave {g : GG} {P n k : Nat} {h : Hp} (hP : PartAt P) (hn : n ≤ 6) (hk : k < 6) (h0 : h P 0 = nI n) : R g mX6_leave 0 [some (.ref (ad g P)), some (.int (nI k))] [] h (Rv fun h' => KeepP P h h' ∧ ∃ c', CanOf n (upd (h (P + 1)) k (-1)) c' ∧ PS h' P n c') := by
  refine r_aload_n rfl dX6_leave_0 ?_
  refine r_getR foX6_9 hP.1 rfl dX6_leave_1 ?_
  refine r_iload_n rfl dX6_leave_4 ?_
  refine r_iconst (v := (-1 : Int32)) (by decide) dX6_leave_5 ?_
  refine r_ias hP.2.1 rfl (by omega) (by decide) dX6_leave_6 ?_
  refine r_aload_n rfl dX6_leave_7 ?_
  refine r_cV0v (T := TX6) (N := 4) moX6_number lkX6_31 hP.1 rfl (Nat.le_of_ble_eq_true rfl) ⟨by decide, by decide⟩ (Nat.le_of_ble_eq_true rfl) dX6_leave_8 rfl (c_number hP hn (by rw [hset_ne (by omega)]; exact h0)) (fun h1 q1 => ?_)
  refine ret_v dX6_leave_11 rfl ?_
  obtain ⟨a, c', b, d⟩ := q1
  rw [hset_same] at b
  exact ⟨KeepP.trans (KeepP.row KeepP.refl) a, c', b, d⟩

set_option maxRecDepth 100000 in
theorem c_move {g : GG} {P n k : Nat} {u : Int32} {h : Hp} (hP : PartAt P) (hn : n ≤ 6) (hk : k < 6) (h0 : h P 0 = nI n) : R g mX6_move 0 [some (.ref (ad g P)), some (.int (nI k)), some (.int u)] [] h (Rv fun h' => KeepP P h h' ∧ ∃ c', CanOf n (upd (h (P + 1)) k u) c' ∧ PS h' P n c') := by
  refine r_aload_n rfl dX6_move_0 ?_
  refine r_getR foX6_9 hP.1 rfl dX6_move_1 ?_
  refine r_iload_n rfl dX6_move_4 ?_
  refine r_iload_n rfl dX6_move_5 ?_
  refine r_ias hP.2.1 rfl (by omega) (by decide) dX6_move_6 ?_
  refine r_aload_n rfl dX6_move_7 ?_
  refine r_cV0v (T := TX6) (N := 4) moX6_number lkX6_31 hP.1 rfl (Nat.le_of_ble_eq_true rfl) ⟨by decide, by decide⟩ (Nat.le_of_ble_eq_true rfl) dX6_move_8 rfl (c_number hP hn (by rw [hset_ne (by omega)]; exact h0)) (fun h1 q1 => ?_)
  refine ret_v dX6_move_11 rfl ?_
  obtain ⟨a, c', b, d⟩ := q1
  rw [hset_same] at b
  exact ⟨KeepP.trans (KeepP.row KeepP.refl) a, c', b, d⟩

def L1 (P l : Nat) (f : Nat → Int32) (h h1 : Hp) : Prop := (∀ q, ¬ q = P + 1 → h1 q = h q) ∧ (∀ j, j < l → h1 (P + 1) j = f j) ∧ ∀ j, l ≤ j → h1 (P + 1) j = h (P + 1) j
theorem L1_set {P l : Nat} {f : Nat → Int32} {h h1 : Hp} {x : Int32} (H : L1 P l f h h1) (hx : x = f l) : L1 P (l + 1) f h (hset h1 (P + 1) l x) := by
  refine ⟨fun q a => by rw [hset_ne a]; exact H.1 q a, fun j hj => ?_, fun j hj => ?_⟩
  · rw [hset_same]
    by_cases e : j = l
    · subst e; rw [upd_eq, hx]
    · rw [upd_ne e]; exact H.2.1 j (by omega)
  · rw [hset_same, upd_ne (by omega)]; exact H.2.2 j (by omega)
theorem L1_not {P l : Nat} {f : Nat → Int32} {h h1 : Hp} (H : L1 P l f h h1) (hx : h (P + 1) l = f l) : L1 P (l + 1) f h h1 := by
  refine ⟨H.1, fun j hj => ?_, fun j hj => H.2.2 j (by omega)⟩
  by_cases e : j = l
  · subst e; rw [H.2.2 j (Nat.le_refl _), hx]
  · exact H.2.1 j (by omega)
theorem L1_0 {P : Nat} {f : Nat → Int32} {h : Hp} : L1 P 0 f h h := ⟨fun _ _ => rfl, fun j hj => by omega, fun _ _ => rfl⟩

set_option maxRecDepth 100000 in
theorem c_gather {g : GG} {P n : Nat} {s : Int32} {h : Hp} (hP : PartAt P) (hn : n ≤ 6) (h0 : h P 0 = nI n) : R g mX6_gather 0 [some (.ref (ad g P)), some (.int s), none] [] h (Rv fun h' => KeepP P h h' ∧ ∃ c', CanOf n (fun j => if bt s j then -1 else h (P + 1) j) c' ∧ PS h' P n c') := by
  have loop : ∀ (m l : Nat) (h1 : Hp), l ≤ n → n < l + m → L1 P l (fun j => if bt s j then -1 else h (P + 1) j) h h1 → R g mX6_gather 2 [some (.ref (ad g P)), some (.int s), some (.int (nI l))] [] h1 (Rv fun h' => KeepP P h h' ∧ ∃ c', CanOf n (fun j => if bt s j then -1 else h (P + 1) j) c' ∧ PS h' P n c') := by
    intro m
    induction m with
    | zero => intro l h1 a b; omega
    | succ m ih =>
      intro l h1 a b H
      refine r_iload_n rfl dX6_gather_2 ?_
      refine r_aload_n rfl dX6_gather_3 ?_
      refine r_getI foX6_18 hP.1 rfl dX6_gather_4 ?_
      refine r_icmp_ge 32 dX6_gather_7 (by decide) (fun c_7 => ?_) (fun c_7 => ?_)
      · refine r_aload_n rfl dX6_gather_32 ?_
        refine r_cV0v (T := TX6) (N := 4) moX6_number lkX6_31 hP.1 rfl (Nat.le_of_ble_eq_true rfl) ⟨by decide, by decide⟩ (Nat.le_of_ble_eq_true rfl) dX6_gather_33 rfl (c_number hP hn (by rw [H.1 P (by omega)]; exact h0)) (fun h1 q1 => ?_)
        refine ret_v dX6_gather_36 rfl ?_
        rw [H.1 P (by omega), h0] at c_7
        have e : l = n := by have := ge_y (by omega) (by omega) c_7; omega
        subst e
        obtain ⟨a, c', b, d⟩ := q1
        exact ⟨KeepP.trans (fun q x y z => H.1 q y) a, c', b.congr H.2.1, d⟩
      · rw [H.1 P (by omega), h0] at c_7
        have hlk : l < n := ge_n (by omega) c_7
        refine r_iload_n rfl dX6_gather_10 ?_
        refine r_iload_n rfl dX6_gather_11 ?_
        refine r_ishr dX6_gather_12 ?_
        refine r_iconst (v := (1 : Int32)) (by decide) dX6_gather_13 ?_
        refine r_iand dX6_gather_14 ?_
        refine r_iconst (v := (1 : Int32)) (by decide) dX6_gather_15 ?_
        refine r_icmp_ne 26 dX6_gather_16 (by decide) (fun c_16 => ?_) (fun c_16 => ?_)
        · first | refine r_incN2 rfl (by decide) dX6_gather_26 ?_ | refine r_incP2 rfl (by decide) dX6_gather_26 ?_
          refine r_goto 2 dX6_gather_29 (by decide) ?_
          first
            | exact ih (l + 1) _ (by omega) (by omega) (L1_set H (if_pos c_16).symm)
            | exact ih (l + 1) _ (by omega) (by omega) (L1_not H (if_neg c_16).symm)
        · refine r_aload_n rfl dX6_gather_19 ?_
          refine r_getR foX6_9 hP.1 rfl dX6_gather_20 ?_
          refine r_iload_n rfl dX6_gather_23 ?_
          refine r_iconst (v := (-1 : Int32)) (by decide) dX6_gather_24 ?_
          refine r_ias hP.2.1 rfl (by omega) (by decide) dX6_gather_25 ?_
          first | refine r_incN2 rfl (by decide) dX6_gather_26 ?_ | refine r_incP2 rfl (by decide) dX6_gather_26 ?_
          refine r_goto 2 dX6_gather_29 (by decide) ?_
          first
            | exact ih (l + 1) _ (by omega) (by omega) (L1_set H (if_pos c_16).symm)
            | exact ih (l + 1) _ (by omega) (by omega) (L1_not H (if_neg c_16).symm)
  refine r_iconst (v := nI 0) (by decide) dX6_gather_0 ?_
  refine r_ist2 rfl (by decide) dX6_gather_1 ?_
  exact loop (n + 1) 0 _ (by omega) (by omega) L1_0

set_option maxRecDepth 100000 in
theorem c_scatter {g : GG} {P n : Nat} {u : Int32} {h : Hp} (hP : PartAt P) (hn : n ≤ 6) (h0 : h P 0 = nI n) : R g mX6_scatter 0 [some (.ref (ad g P)), some (.int u), none] [] h (Rv fun h' => KeepP P h h' ∧ ∃ c', CanOf n (fun j => if h (P + 1) j = u then -1 - nI j else h (P + 1) j) c' ∧ PS h' P n c') := by
  have loop : ∀ (m l : Nat) (h1 : Hp), l ≤ n → n < l + m → L1 P l (fun j => if h (P + 1) j = u then -1 - nI j else h (P + 1) j) h h1 → R g mX6_scatter 2 [some (.ref (ad g P)), some (.int u), some (.int (nI l))] [] h1 (Rv fun h' => KeepP P h h' ∧ ∃ c', CanOf n (fun j => if h (P + 1) j = u then -1 - nI j else h (P + 1) j) c' ∧ PS h' P n c') := by
    intro m
    induction m with
    | zero => intro l h1 a b; omega
    | succ m ih =>
      intro l h1 a b H
      refine r_iload_n rfl dX6_scatter_2 ?_
      refine r_aload_n rfl dX6_scatter_3 ?_
      refine r_getI foX6_18 hP.1 rfl dX6_scatter_4 ?_
      refine r_icmp_ge 35 dX6_scatter_7 (by decide) (fun c_7 => ?_) (fun c_7 => ?_)
      · refine r_aload_n rfl dX6_scatter_35 ?_
        refine r_cV0v (T := TX6) (N := 4) moX6_number lkX6_31 hP.1 rfl (Nat.le_of_ble_eq_true rfl) ⟨by decide, by decide⟩ (Nat.le_of_ble_eq_true rfl) dX6_scatter_36 rfl (c_number hP hn (by rw [H.1 P (by omega)]; exact h0)) (fun h1 q1 => ?_)
        refine ret_v dX6_scatter_39 rfl ?_
        rw [H.1 P (by omega), h0] at c_7
        have e : l = n := by have := ge_y (by omega) (by omega) c_7; omega
        subst e
        obtain ⟨a, c', b, d⟩ := q1
        exact ⟨KeepP.trans (fun q x y z => H.1 q y) a, c', b.congr H.2.1, d⟩
      · rw [H.1 P (by omega), h0] at c_7
        have hlk : l < n := ge_n (by omega) c_7
        refine r_aload_n rfl dX6_scatter_10 ?_
        refine r_getR foX6_9 hP.1 rfl dX6_scatter_11 ?_
        refine r_iload_n rfl dX6_scatter_14 ?_
        refine r_ild hP.2.1 rfl (by omega) (by decide) dX6_scatter_15 ?_
        refine r_iload_n rfl dX6_scatter_16 ?_
        refine r_icmp_ne 29 dX6_scatter_17 (by decide) (fun c_17 => ?_) (fun c_17 => ?_)
        · first | refine r_incN2 rfl (by decide) dX6_scatter_29 ?_ | refine r_incP2 rfl (by decide) dX6_scatter_29 ?_
          refine r_goto 2 dX6_scatter_32 (by decide) ?_
          first
            | exact ih (l + 1) _ (by omega) (by omega) (L1_set H (by rw [H.2.2 l (Nat.le_refl _)] at c_17; exact (if_pos c_17).symm))
            | exact ih (l + 1) _ (by omega) (by omega) (L1_not H (by rw [H.2.2 l (Nat.le_refl _)] at c_17; exact (if_neg c_17).symm))
        · refine r_aload_n rfl dX6_scatter_20 ?_
          refine r_getR foX6_9 hP.1 rfl dX6_scatter_21 ?_
          refine r_iload_n rfl dX6_scatter_24 ?_
          refine r_iconst (v := (-1 : Int32)) (by decide) dX6_scatter_25 ?_
          refine r_iload_n rfl dX6_scatter_26 ?_
          refine r_isub dX6_scatter_27 ?_
          refine r_ias hP.2.1 rfl (by omega) (by decide) dX6_scatter_28 ?_
          first | refine r_incN2 rfl (by decide) dX6_scatter_29 ?_ | refine r_incP2 rfl (by decide) dX6_scatter_29 ?_
          refine r_goto 2 dX6_scatter_32 (by decide) ?_
          first
            | exact ih (l + 1) _ (by omega) (by omega) (L1_set H (by rw [H.2.2 l (Nat.le_refl _)] at c_17; exact (if_pos c_17).symm))
            | exact ih (l + 1) _ (by omega) (by omega) (L1_not H (by rw [H.2.2 l (Nat.le_refl _)] at c_17; exact (if_neg c_17).symm))
  refine r_iconst (v := nI 0) (by decide) dX6_scatter_0 ?_
  refine r_ist2 rfl (by decide) dX6_scatter_1 ?_
  exact loop (n + 1) 0 _ (by omega) (by omega) L1_0

set_option maxRecDepth 100000 in
theorem c_copyP {g : GG} {P S n : Nat} {h : Hp} {c : Nat → Nat} (hP : PartAt P) (hS : PartAt S) (hd : P + 3 ≤ S ∨ S + 3 ≤ P) (hn : n ≤ 6) (hs : PS h S n c) : R g mX6_copy 0 [some (.ref (ad g P)), some (.ref (ad g S)), none] [] h (Rv fun h' => KeepP P h h' ∧ PS h' P n c) := by
  have loop : ∀ (m l : Nat) (h1 : Hp), l ≤ n → n < l + m → ((∀ q, ¬ q = P → ¬ q = P + 1 → h1 q = h q) ∧ h1 P 0 = nI n ∧ h1 P 1 = nI (mx c n) ∧ ∀ j, j < l → h1 (P + 1) j = nI (c j)) → R g mX6_copy 18 [some (.ref (ad g P)), some (.ref (ad g S)), some (.int (nI l))] [] h1 (Rv fun h' => KeepP P h h' ∧ PS h' P n c) := by
    intro m
    induction m with
    | zero => intro l h1 a b; omega
    | succ m ih =>
      rintro l h1 a b ⟨H1, H2, H3, H4⟩
      refine r_iload_n rfl dX6_copy_18 ?_
      refine r_aload_n rfl dX6_copy_19 ?_
      refine r_getI foX6_18 hP.1 rfl dX6_copy_20 ?_
      refine r_icmp_ge 44 dX6_copy_23 (by decide) (fun c_23 => ?_) (fun c_23 => ?_)
      · refine ret_v dX6_copy_44 rfl ?_
        rw [H2] at c_23
        have e : l = n := by have := ge_y (by omega) (by omega) c_23; omega
        subst e
        exact ⟨fun q x y z => H1 q x y, H2, H3, H4⟩
      · rw [H2] at c_23
        have hlk : l < n := ge_n (by omega) c_23
        refine r_aload_n rfl dX6_copy_26 ?_
        refine r_getR foX6_9 hP.1 rfl dX6_copy_27 ?_
        refine r_iload_n rfl dX6_copy_30 ?_
        refine r_aload_n rfl dX6_copy_31 ?_
        refine r_getR foX6_9 hS.1 rfl dX6_copy_32 ?_
        refine r_iload_n rfl dX6_copy_35 ?_
        refine r_ild hS.2.1 rfl (by omega) (by decide) dX6_copy_36 ?_
        refine r_ias hP.2.1 rfl (by omega) (by decide) dX6_copy_37 ?_
        first | refine r_incN2 rfl (by decide) dX6_copy_38 ?_ | refine r_incP2 rfl (by decide) dX6_copy_38 ?_
        refine r_goto 18 dX6_copy_41 (by decide) ?_
        refine ih (l + 1) _ (by omega) (by omega) ⟨fun q x y => by rw [hset_ne y]; exact H1 q x y, by rw [hset_ne (by omega)]; exact H2, by rw [hset_ne (by omega)]; exact H3, fun j hj => ?_⟩
        rw [hset_same]
        by_cases e : j = l
        · subst e; rw [upd_eq, H1 (S + 1) (by omega) (by omega)]; exact hs.2.2 j hlk
        · rw [upd_ne e]; exact H4 j (by omega)
  refine r_aload_n rfl dX6_copy_0 ?_
  refine r_aload_n rfl dX6_copy_1 ?_
  refine r_getI foX6_18 hS.1 rfl dX6_copy_2 ?_
  refine r_putI fpX6_18 hP.1 rfl dX6_copy_5 ?_
  refine r_aload_n rfl dX6_copy_8 ?_
  refine r_aload_n rfl dX6_copy_9 ?_
  refine r_getI foX6_22 hS.1 rfl dX6_copy_10 ?_
  refine r_putI fpX6_22 hP.1 rfl dX6_copy_13 ?_
  refine r_iconst (v := nI 0) (by decide) dX6_copy_16 ?_
  refine r_ist2 rfl (by decide) dX6_copy_17 ?_
  refine loop (n + 1) 0 _ (by omega) (by omega) ⟨fun q x y => by rw [hset_ne x, hset_ne x], ?_, ?_, fun j hj => by omega⟩
  · rw [hset_same, upd_ne (by omega), hset_same, upd_eq]; exact hs.1
  · rw [hset_same, upd_eq, hset_ne (by omega)]; exact hs.2.1

theorem mx_id : ∀ n, mx (fun l => l) n = n := by
  intro n
  induction n with
  | zero => rfl
  | succ n ih => simp only [mx, ih]; omega
theorem mx_0 : ∀ n, mx (fun _ => 0) n = min n 1 := by
  intro n
  induction n with
  | zero => rfl
  | succ n ih => simp only [mx, ih]; omega
theorem small7 {n : Nat} (h : n ≤ 6) : n = 0 ∨ n = 1 ∨ n = 2 ∨ n = 3 ∨ n = 4 ∨ n = 5 ∨ n = 6 := by omega
theorem min1 {n : Nat} (hn : n ≤ 6) : (if (1 : Int32) < nI n then (1 : Int32) else nI n) = nI (min n 1) := by
  rcases small7 hn with rfl | rfl | rfl | rfl | rfl | rfl | rfl <;> decide

set_option maxRecDepth 100000 in
theorem c_putAllApart {g : GG} {P n : Nat} {h : Hp} (hP : PartAt P) (hn : n ≤ 6) : R g mX6_putAllApart 0 [some (.ref (ad g P)), some (.int (nI n)), none] [] h (Rv fun h' => KeepP P h h' ∧ PS h' P n (fun l => l)) := by
  have loop : ∀ (m l : Nat) (h1 : Hp), l ≤ n → n < l + m → (KeepP P h h1 ∧ h1 P 0 = nI n ∧ h1 P 1 = nI (mx (fun l => l) n) ∧ ∀ j, j < l → h1 (P + 1) j = nI ((fun l => l) j)) → R g mX6_putAllApart 12 [some (.ref (ad g P)), some (.int (nI n)), some (.int (nI l))] [] h1 (Rv fun h' => KeepP P h h' ∧ PS h' P n (fun l => l)) := by
    intro m
    induction m with
    | zero => intro l h1 a b; omega
    | succ m ih =>
      rintro l h1 a b ⟨H1, H2, H3, H4⟩
      refine r_iload_n rfl dX6_putAllApart_12 ?_
      refine r_iload_n rfl dX6_putAllApart_13 ?_
      refine r_icmp_ge 30 dX6_putAllApart_14 (by decide) (fun c_14 => ?_) (fun c_14 => ?_)
      · refine ret_v dX6_putAllApart_30 rfl ?_
        have e : l = n := by have := ge_y (by omega) (by omega) c_14; omega
        subst e
        exact ⟨H1, H2, H3, H4⟩
      · have hlk : l < n := ge_n (by omega) c_14
        refine r_aload_n rfl dX6_putAllApart_17 ?_
        refine r_getR foX6_9 hP.1 rfl dX6_putAllApart_18 ?_
        refine r_iload_n rfl dX6_putAllApart_21 ?_
        refine r_iload_n rfl dX6_putAllApart_22 ?_
        refine r_ias hP.2.1 rfl (by omega) (by decide) dX6_putAllApart_23 ?_
        first | refine r_incN2 rfl (by decide) dX6_putAllApart_24 ?_ | refine r_incP2 rfl (by decide) dX6_putAllApart_24 ?_
        refine r_goto 12 dX6_putAllApart_27 (by decide) ?_
        refine ih (l + 1) _ (by omega) (by omega) ⟨KeepP.row H1, by rw [hset_ne (by omega)]; exact H2, by rw [hset_ne (by omega)]; exact H3, fun j hj => ?_⟩
        rw [hset_same]
        by_cases e : j = l
        · subst e; rw [upd_eq]; first | done | rfl
        · rw [upd_ne e]; exact H4 j (by omega)
  refine r_aload_n rfl dX6_putAllApart_0 ?_
  refine r_iload_n rfl dX6_putAllApart_1 ?_
  refine r_putI fpX6_18 hP.1 rfl dX6_putAllApart_2 ?_
  refine r_aload_n rfl dX6_putAllApart_5 ?_
  refine r_iload_n rfl dX6_putAllApart_6 ?_
  refine r_putI fpX6_22 hP.1 rfl dX6_putAllApart_7 ?_
  refine r_iconst (v := nI 0) (by decide) dX6_putAllApart_10 ?_
  refine r_ist2 rfl (by decide) dX6_putAllApart_11 ?_
  refine loop (n + 1) 0 _ (by omega) (by omega) ⟨KeepP.set (KeepP.set KeepP.refl), ?_, ?_, fun j hj => by omega⟩
  · rw [hset_same, upd_ne (by omega), hset_same, upd_eq]
  · rw [hset_same, upd_eq, mx_id]

set_option maxRecDepth 100000 in
theorem c_putAllTogether {g : GG} {P n : Nat} {h : Hp} (hP : PartAt P) (hn : n ≤ 6) : R g mX6_putAllTogether 0 [some (.ref (ad g P)), some (.int (nI n)), none] [] h (Rv fun h' => KeepP P h h' ∧ PS h' P n (fun _ => 0)) := by
  have loop : ∀ (m l : Nat) (h1 : Hp), l ≤ n → n < l + m → (KeepP P h h1 ∧ h1 P 0 = nI n ∧ h1 P 1 = nI (mx (fun _ => 0) n) ∧ ∀ j, j < l → h1 (P + 1) j = nI ((fun _ => 0) j)) → R g mX6_putAllTogether 16 [some (.ref (ad g P)), some (.int (nI n)), some (.int (nI l))] [] h1 (Rv fun h' => KeepP P h h' ∧ PS h' P n (fun _ => 0)) := by
    intro m
    induction m with
    | zero => intro l h1 a b; omega
    | succ m ih =>
      rintro l h1 a b ⟨H1, H2, H3, H4⟩
      refine r_iload_n rfl dX6_putAllTogether_16 ?_
      refine r_iload_n rfl dX6_putAllTogether_17 ?_
      refine r_icmp_ge 34 dX6_putAllTogether_18 (by decide) (fun c_18 => ?_) (fun c_18 => ?_)
      · refine ret_v dX6_putAllTogether_34 rfl ?_
        have e : l = n := by have := ge_y (by omega) (by omega) c_18; omega
        subst e
        exact ⟨H1, H2, H3, H4⟩
      · have hlk : l < n := ge_n (by omega) c_18
        refine r_aload_n rfl dX6_putAllTogether_21 ?_
        refine r_getR foX6_9 hP.1 rfl dX6_putAllTogether_22 ?_
        refine r_iload_n rfl dX6_putAllTogether_25 ?_
        refine r_iconst (v := (0 : Int32)) (by decide) dX6_putAllTogether_26 ?_
        refine r_ias hP.2.1 rfl (by omega) (by decide) dX6_putAllTogether_27 ?_
        first | refine r_incN2 rfl (by decide) dX6_putAllTogether_28 ?_ | refine r_incP2 rfl (by decide) dX6_putAllTogether_28 ?_
        refine r_goto 16 dX6_putAllTogether_31 (by decide) ?_
        refine ih (l + 1) _ (by omega) (by omega) ⟨KeepP.row H1, by rw [hset_ne (by omega)]; exact H2, by rw [hset_ne (by omega)]; exact H3, fun j hj => ?_⟩
        rw [hset_same]
        by_cases e : j = l
        · subst e; rw [upd_eq]; first | done | rfl
        · rw [upd_ne e]; exact H4 j (by omega)
  refine r_aload_n rfl dX6_putAllTogether_0 ?_
  refine r_iload_n rfl dX6_putAllTogether_1 ?_
  refine r_putI fpX6_18 hP.1 rfl dX6_putAllTogether_2 ?_
  refine r_aload_n rfl dX6_putAllTogether_5 ?_
  refine r_iload_n rfl dX6_putAllTogether_6 ?_
  refine r_iconst (v := (1 : Int32)) (by decide) dX6_putAllTogether_7 ?_
  refine r_min lkX6_25 ⟨by decide, Nat.le_of_ble_eq_true rfl⟩ dX6_putAllTogether_8 ?_
  refine r_putI fpX6_22 hP.1 rfl dX6_putAllTogether_11 ?_
  refine r_iconst (v := nI 0) (by decide) dX6_putAllTogether_14 ?_
  refine r_ist2 rfl (by decide) dX6_putAllTogether_15 ?_
  refine loop (n + 1) 0 _ (by omega) (by omega) ⟨KeepP.set (KeepP.set KeepP.refl), ?_, ?_, fun j hj => by omega⟩
  · rw [hset_same, upd_ne (by omega), hset_same, upd_eq]
  · rw [hset_same, upd_eq, mx_0]; exact min1 hn

set_option maxRecDepth 100000 in
theorem c_addApart {g : GG} {P n : Nat} {h : Hp} {c : Nat → Nat} (hP : PartAt P) (hn : n < 6) (hs : PS h P n c) : R g mX6_addApart 0 [some (.ref (ad g P))] [] h (Rv fun h' => KeepP P h h' ∧ PS h' P (n + 1) (uc c n (mx c n))) := by
  refine r_aload_n rfl dX6_addApart_0 ?_
  refine r_getR foX6_9 hP.1 rfl dX6_addApart_1 ?_
  refine r_aload_n rfl dX6_addApart_4 ?_
  refine r_getI foX6_18 hP.1 rfl dX6_addApart_5 ?_
  refine r_aload_n rfl dX6_addApart_8 ?_
  refine r_getI foX6_22 hP.1 rfl dX6_addApart_9 ?_
  refine r_ias hP.2.1 hs.1 (by omega) (by decide) dX6_addApart_12 ?_
  refine r_aload_n rfl dX6_addApart_13 ?_
  refine r_dup rfl dX6_addApart_14 ?_
  refine r_getI foX6_18 hP.1 rfl dX6_addApart_15 ?_
  refine r_iconst (v := (1 : Int32)) (by decide) dX6_addApart_18 ?_
  refine r_iadd dX6_addApart_19 ?_
  refine r_putI fpX6_18 hP.1 rfl dX6_addApart_20 ?_
  refine r_aload_n rfl dX6_addApart_23 ?_
  refine r_dup rfl dX6_addApart_24 ?_
  refine r_getI foX6_22 hP.1 rfl dX6_addApart_25 ?_
  refine r_iconst (v := (1 : Int32)) (by decide) dX6_addApart_28 ?_
  refine r_iadd dX6_addApart_29 ?_
  refine r_putI fpX6_22 hP.1 rfl dX6_addApart_30 ?_
  refine ret_v dX6_addApart_33 rfl ?_
  refine ⟨KeepP.set (KeepP.set (KeepP.row KeepP.refl)), ?_, ?_, fun j hj => ?_⟩
  · rw [hset_same, upd_ne (by omega), hset_same, upd_eq, hset_ne (by omega), hs.1]; exact nI_1 n
  · rw [hset_same, upd_eq, hset_same, upd_ne (by omega), hset_ne (by omega), hs.2.1, mx, uc_eq, mx_uc, show max (mx c n) (mx c n + 1) = mx c n + 1 by omega]; exact nI_1 _
  · rw [hset_ne (by omega), hset_ne (by omega), hset_same]
    by_cases e : j = n
    · subst e; rw [upd_eq, uc_eq]; exact hs.2.1
    · rw [upd_ne e, uc_ne e]; exact hs.2.2 j (by omega)
end
section
/-- the next of all partings, looked for from land l down -/
def adv (c : Nat → Nat) : Nat → (Nat → Nat)
  | 0 => c
  | l + 1 => if c (l + 1) < mx c (l + 1) then (fun j => if j ≤ l then c j else if j = l + 1 then c (l + 1) + 1 else 0) else adv c l
def A1 (P l m : Nat) (c : Nat → Nat) (h h1 : Hp) : Prop := (∀ q, ¬ q = P + 1 → h1 q = h q) ∧ ∀ j, j < m → h1 (P + 1) j = nI (if j ≤ l then c j else if j = l + 1 then c (l + 1) + 1 else 0)

set_option maxRecDepth 100000 in
theorem c_advance {g : GG} {P n : Nat} {h : Hp} {c : Nat → Nat} (hP : PartAt P) (hn : n ≤ 6) (hc : Can n c) (hs : PS h P n c) : R g mX6_advance 0 [some (.ref (ad g P)), none, none, none] [] h (Rv fun h' => KeepP P h h' ∧ PS h' P n (adv c (n - 1))) := by
  have inner : ∀ l, l + 1 < n → adv c (n - 1) = (fun j => if j ≤ l then c j else if j = l + 1 then c (l + 1) + 1 else 0) → ∀ (k m : Nat) (h1 : Hp) {z : Int32}, l + 2 ≤ m → m ≤ n → n < m + k → A1 P l m c h h1 → R g mX6_advance 41 [some (.ref (ad g P)), some (.int (nI (l + 1))), some (.int z), some (.int (nI m))] [] h1 (Rv fun h' => KeepP P h h' ∧ PS h' P n (adv c (n - 1))) := by
    intro l hl ha k
    have hb : ∀ j, j < n → (if j ≤ l then c j else if j = l + 1 then c (l + 1) + 1 else 0) < 100 := by
      intro j hj
      have := hc.le hj
      have := hc.le hl
      split
      · omega
      · split <;> omega
    induction k with
    | zero => intro m h1 z a b d; omega
    | succ k ih =>
      intro m h1 z a b d H
      refine r_iload_n rfl dX6_advance_41 ?_
      refine r_aload_n rfl dX6_advance_42 ?_
      refine r_getI foX6_18 hP.1 rfl dX6_advance_43 ?_
      refine r_icmp_ge 62 dX6_advance_46 (by decide) (fun c_46 => ?_) (fun c_46 => ?_)
      · rw [H.1 P (by omega), hs.1] at c_46
        have e : m = n := by have := ge_y (by omega) (by omega) c_46; omega
        subst e
        refine r_aload_n rfl dX6_advance_62 ?_
        refine r_aload_n rfl dX6_advance_63 ?_
        refine r_aload_n rfl dX6_advance_64 ?_
        refine r_getI foX6_18 hP.1 rfl dX6_advance_65 ?_
        rw [H.1 P (by omega), hs.1]
        refine r_cV1i (T := TX6) (N := 4) moX6_unionsAhead lkX6_38 hP.1 rfl (Nat.le_of_ble_eq_true rfl) ⟨by decide, by decide⟩ (Nat.le_of_ble_eq_true rfl) dX6_advance_68 rfl (c_unionsAhead (c := fun j => if j ≤ l then c j else if j = l + 1 then c (l + 1) + 1 else 0) hP (by omega) H.2 hb) (fun v1 h1 q1 => ?_)
        obtain ⟨e1, e2⟩ := q1
        subst e2
        rw [e1]
        refine r_putI fpX6_22 hP.1 rfl dX6_advance_71 ?_
        refine ret_v dX6_advance_74 rfl ?_
        refine ⟨KeepP.set (fun q x y z => H.1 q y), ?_, ?_, fun j hj => ?_⟩
        · rw [hset_same, upd_ne (by omega), H.1 P (by omega)]; exact hs.1
        · rw [hset_same, upd_eq, ha]
        · rw [hset_ne (by omega), H.2 j hj, ha]
      · rw [H.1 P (by omega), hs.1] at c_46
        have hlk : m < n := ge_n (by omega) c_46
        refine r_aload_n rfl dX6_advance_49 ?_
        refine r_getR foX6_9 hP.1 rfl dX6_advance_50 ?_
        refine r_iload_n rfl dX6_advance_53 ?_
        refine r_iconst (v := (0 : Int32)) (by decide) dX6_advance_54 ?_
        refine r_ias hP.2.1 rfl (by omega) (by decide) dX6_advance_55 ?_
        first | refine r_incN3 rfl (by decide) dX6_advance_56 ?_ | refine r_incP3 rfl (by decide) dX6_advance_56 ?_
        refine r_goto 41 dX6_advance_59 (by decide) ?_
        refine ih (m + 1) _ (by omega) (by omega) (by omega) ⟨fun q x => by rw [hset_ne x]; exact H.1 q x, fun j hj => ?_⟩
        rw [hset_same]
        by_cases e : j = m
        · subst e; rw [upd_eq, if_neg (by omega), if_neg (by omega)]; rfl
        · rw [upd_ne e]; exact H.2 j (by omega)
  have loop : ∀ l {z y : Option Value}, l < n → adv c (n - 1) = adv c l → R g mX6_advance 7 [some (.ref (ad g P)), some (.int (nI l)), z, y] [] h (Rv fun h' => KeepP P h h' ∧ PS h' P n (adv c (n - 1))) := by
    intro l
    induction l with
    | zero =>
      intro z y hl ha
      refine r_iload_n rfl dX6_advance_7 ?_
      refine r_if_le 81 dX6_advance_8 (by decide) (fun c_8 => ?_) (fun c_8 => ?_)
      · refine ret_v dX6_advance_81 rfl ?_
        exact ⟨KeepP.refl, by rw [ha]; exact hs⟩
      · exact absurd (by decide) c_8
    | succ l ih =>
      intro z y hl ha
      refine r_iload_n rfl dX6_advance_7 ?_
      refine r_if_le 81 dX6_advance_8 (by decide) (fun c_8 => ?_) (fun c_8 => ?_)
      · exact absurd c_8 (nI_nle (by omega) (by omega))
      · refine r_aload_n rfl dX6_advance_11 ?_
        refine r_iload_n rfl dX6_advance_12 ?_
        refine r_cV1i (T := TX6) (N := 4) moX6_unionsAhead lkX6_38 hP.1 rfl (Nat.le_of_ble_eq_true rfl) ⟨by decide, by decide⟩ (Nat.le_of_ble_eq_true rfl) dX6_advance_13 rfl (c_unionsAhead (c := c) hP (by omega) (fun j hj => hs.2.2 j (by omega)) (fun j hj => by have := hc.le (show j < n by omega); omega)) (fun v1 h1 q1 => ?_)
        obtain ⟨e1, e2⟩ := q1
        subst e2
        rw [e1]
        refine r_ist2 rfl (by decide) dX6_advance_16 ?_
        refine r_aload_n rfl dX6_advance_17 ?_
        refine r_getR foX6_9 hP.1 rfl dX6_advance_18 ?_
        refine r_iload_n rfl dX6_advance_21 ?_
        refine r_ild hP.2.1 rfl (by omega) (by decide) dX6_advance_22 ?_
        rw [hs.2.2 (l + 1) (by omega)]
        refine r_iload_n rfl dX6_advance_23 ?_
        refine r_icmp_ge 75 dX6_advance_24 (by decide) (fun c_24 => ?_) (fun c_24 => ?_)
        · first | refine r_incM1 rfl (by decide) dX6_advance_75 ?_ | refine r_incQ1 rfl (by decide) dX6_advance_75 ?_
          refine r_goto 7 dX6_advance_78 (by decide) ?_
          refine ih (by omega) ?_
          rw [ha, adv, if_neg]
          have := ge_y (by have := hc.le (show l + 1 < n by omega); omega) (by have := mx_le hc (l + 1) (by omega); omega) c_24
          omega
        · refine r_aload_n rfl dX6_advance_27 ?_
          refine r_getR foX6_9 hP.1 rfl dX6_advance_28 ?_
          refine r_iload_n rfl dX6_advance_31 ?_
          refine r_dup2 rfl rfl dX6_advance_32 ?_
          refine r_ild hP.2.1 rfl (by omega) (by decide) dX6_advance_33 ?_
          rw [hs.2.2 (l + 1) (by omega)]
          refine r_iconst (v := (1 : Int32)) (by decide) dX6_advance_34 ?_
          refine r_iadd dX6_advance_35 ?_
          rw [nI_1]
          refine r_ias hP.2.1 rfl (by omega) (by decide) dX6_advance_36 ?_
          refine r_iload_n rfl dX6_advance_37 ?_
          refine r_iconst (v := (1 : Int32)) (by decide) dX6_advance_38 ?_
          refine r_iadd dX6_advance_39 ?_
          rw [nI_1]
          refine r_ist3 rfl (by decide) dX6_advance_40 ?_
          have hlt : c (l + 1) < mx c (l + 1) := ge_n (by have := hc.le (show l + 1 < n by omega); omega) c_24
          refine inner l (by omega) (by rw [ha, adv, if_pos hlt]) (n + 1) (l + 2) _ (by omega) (by omega) (by omega) ⟨fun q x => hset_ne x, fun j hj => ?_⟩
          rw [hset_same]
          by_cases e : j = l + 1
          · subst e; rw [upd_eq, if_neg (by omega), if_pos rfl]
          · rw [upd_ne e, if_pos (by omega)]; exact hs.2.2 j (by omega)
  cases n with
  | zero =>
    refine r_aload_n rfl dX6_advance_0 ?_
    refine r_getI foX6_18 hP.1 rfl dX6_advance_1 ?_
    rw [hs.1]
    refine r_iconst (v := (1 : Int32)) (by decide) dX6_advance_4 ?_
    refine r_isub dX6_advance_5 ?_
    refine r_ist1 rfl (by decide) dX6_advance_6 ?_
    refine r_iload_n rfl dX6_advance_7 ?_
    refine r_if_le 81 dX6_advance_8 (by decide) (fun c_8 => ?_) (fun c_8 => ?_)
    · refine ret_v dX6_advance_81 rfl ?_
      exact ⟨KeepP.refl, hs⟩
    · exact absurd (by decide) c_8
  | succ k =>
    refine r_aload_n rfl dX6_advance_0 ?_
    refine r_getI foX6_18 hP.1 rfl dX6_advance_1 ?_
    refine r_iconst (v := (1 : Int32)) (by decide) dX6_advance_4 ?_
    refine r_isub dX6_advance_5 ?_
    rw [hs.1, nI_pred]
    refine r_ist1 rfl (by decide) dX6_advance_6 ?_
    exact loop k (by omega) rfl

def wayL : List Nat := [1, 1, 1, 1, 1, 1, 1, 2, 3, 4, 5, 6, 2, 5, 10, 17, 26, 37, 5, 15, 37, 77, 141, 235, 15, 52, 151, 372, 799, 1540, 52, 203, 674, 1915, 4736, 10427]
def way (j : Nat) : Nat := wayL.getD j 0
def bell (n : Nat) : Nat := [1, 1, 2, 5, 15, 52, 203].getD n 0
/-- what the two rows that nobody writes hold -/
def ROv (g : GG) : Prop := (roN g 1000 = 7 ∧ ∀ j, j < 7 → ro g 1000 j = nI (bell j)) ∧ roN g 1001 = 36 ∧ ∀ j, j < 36 → ro g 1001 j = nI (way j)
def plc (n : Nat) (c : Nat → Nat) : Nat → Nat
  | 0 => 0
  | l + 1 => plc n c l + c l * way ((n - 1 - l) * 6 + mx c l)
theorem nI_mul (a b : Nat) : nI a * nI b = nI (a * b) := (Int32.ofNat_mul a b).symm
theorem nI_sub1 {n l : Nat} (hl : l < n) (hn : n ≤ 6) : nI n - 1 - nI l = nI (n - 1 - l) := by
  obtain ⟨d, rfl⟩ : ∃ d, n = d + 1 + l := ⟨n - 1 - l, by omega⟩
  rw [show d + 1 + l - 1 - l = d by omega, show d + 1 + l = (d + l) + 1 by omega, nI_pred, ← nI_add, Int32.add_sub_cancel]
theorem wayIx {n l m : Nat} (hl : l < n) (hn : n ≤ 6) : (nI n - 1 - nI l) * 6 + nI m = nI ((n - 1 - l) * 6 + m) := by
  rw [nI_sub1 hl hn, show (6 : Int32) = nI 6 by decide, nI_mul, nI_add]
theorem mx_can {n l : Nat} {c : Nat → Nat} (hc : Can n c) (hl : l < n) : mx c (l + 1) = if c l = mx c l then mx c l + 1 else mx c l := by
  have := hc l hl
  rw [mx]
  split <;> omega

set_option maxRecDepth 100000 in
theorem c_place {g : GG} {P n : Nat} {h : Hp} {c : Nat → Nat} (hP : PartAt P) (hn : n ≤ 6) (hc : Can n c) (hs : PS h P n c) (hro : ROv g) : R g mX6_place 0 [some (.ref (ad g P)), none, none, none] [] h (Ri fun v h' => h' = h ∧ v = nI (plc n c n)) := by
  have loop : ∀ (m l : Nat), l ≤ n → n < l + m → R g mX6_place 6 [some (.ref (ad g P)), some (.int (nI (plc n c l))), some (.int (nI (mx c l))), some (.int (nI l))] [] h (Ri fun v h' => h' = h ∧ v = nI (plc n c n)) := by
    intro m
    induction m with
    | zero => intro l a b; omega
    | succ m ih =>
      intro l a b
      refine r_iload_n rfl dX6_place_6 ?_
      refine r_aload_n rfl dX6_place_7 ?_
      refine r_getI foX6_18 hP.1 rfl dX6_place_8 ?_
      refine r_icmp_ge 60 dX6_place_11 (by decide) (fun c_11 => ?_) (fun c_11 => ?_)
      · refine r_iload_n rfl dX6_place_60 ?_
        refine ret_i dX6_place_61 rfl ?_
        rw [hs.1] at c_11
        have e : l = n := by have := ge_y (by omega) (by omega) c_11; omega
        subst e
        exact ⟨rfl, rfl⟩
      · rw [hs.1] at c_11
        have hlk : l < n := ge_n (by omega) c_11
        have hm := mx_le hc l (by omega)
        have hix : (n - 1 - l) * 6 + mx c l < 36 := by omega
        refine r_iload_n rfl dX6_place_14 ?_
        refine r_aload_n rfl dX6_place_15 ?_
        refine r_getR foX6_9 hP.1 rfl dX6_place_16 ?_
        refine r_iload_n rfl dX6_place_19 ?_
        refine r_ild hP.2.1 rfl (by omega) (by decide) dX6_place_20 ?_
        rw [hs.2.2 l hlk]
        refine r_WAYS rfl dX6_place_21 ?_
        refine r_aload_n rfl dX6_place_24 ?_
        refine r_getI foX6_18 hP.1 rfl dX6_place_25 ?_
        rw [hs.1]
        refine r_iconst (v := (1 : Int32)) (by decide) dX6_place_28 ?_
        refine r_isub dX6_place_29 ?_
        refine r_iload_n rfl dX6_place_30 ?_
        refine r_isub dX6_place_31 ?_
        refine r_bipush (v := (6 : Int32)) (by decide) dX6_place_32 ?_
        refine r_imul dX6_place_34 ?_
        refine r_iload_n rfl dX6_place_35 ?_
        refine r_iadd dX6_place_36 ?_
        rw [wayIx hlk hn]
        refine r_irn (by decide) (by decide) rfl (by rw [hro.2.1]; exact hix) (by omega) dX6_place_37 ?_
        rw [hro.2.2 _ hix]
        refine r_imul dX6_place_38 ?_
        refine r_iadd dX6_place_39 ?_
        rw [nI_mul, nI_add]
        refine r_ist1 rfl (by decide) dX6_place_40 ?_
        refine r_aload_n rfl dX6_place_41 ?_
        refine r_getR foX6_9 hP.1 rfl dX6_place_42 ?_
        refine r_iload_n rfl dX6_place_45 ?_
        refine r_ild hP.2.1 rfl (by omega) (by decide) dX6_place_46 ?_
        rw [hs.2.2 l hlk]
        refine r_iload_n rfl dX6_place_47 ?_
        refine r_icmp_ne 54 dX6_place_48 (by decide) (fun c_48 => ?_) (fun c_48 => ?_)
        · first | refine r_incN3 rfl (by decide) dX6_place_54 ?_ | refine r_incP3 rfl (by decide) dX6_place_54 ?_
          refine r_goto 6 dX6_place_57 (by decide) ?_
          refine R.cast (ih (l + 1) (by omega) (by omega)) rfl ?_ rfl rfl
          rw [plc, mx_can hc hlk]
          first
            | rw [if_pos (nI_inj (by have := hc.le hlk; omega) (by omega) c_48)]
            | rw [if_neg (fun e => c_48 (by rw [e]))]
        · first | refine r_incN2 rfl (by decide) dX6_place_51 ?_ | refine r_incP2 rfl (by decide) dX6_place_51 ?_
          first | refine r_incN3 rfl (by decide) dX6_place_54 ?_ | refine r_incP3 rfl (by decide) dX6_place_54 ?_
          refine r_goto 6 dX6_place_57 (by decide) ?_
          refine R.cast (ih (l + 1) (by omega) (by omega)) rfl ?_ rfl rfl
          rw [plc, mx_can hc hlk]
          first
            | rw [if_pos (nI_inj (by have := hc.le hlk; omega) (by omega) c_48)]
            | rw [if_neg (fun e => c_48 (by rw [e]))]
  refine r_iconst (v := nI 0) (by decide) dX6_place_0 ?_
  refine r_ist1 rfl (by decide) dX6_place_1 ?_
  refine r_iconst (v := nI 0) (by decide) dX6_place_2 ?_
  refine r_ist2 rfl (by decide) dX6_place_3 ?_
  refine r_iconst (v := nI 0) (by decide) dX6_place_4 ?_
  refine r_ist3 rfl (by decide) dX6_place_5 ?_
  exact loop (n + 1) 0 (by omega) (by omega)
end
section
/-! the lands: how many, WISH, COST, GAIN, TOLL, the rules of walls and of shares -/
abbrev Ec : Type := Nat × (Nat → Int32) × (Nat → Int32) × (Nat → Int32) × (Nat → Int32) × Int32 × Int32
def eN (E : Ec) : Nat := E.1
def eW (E : Ec) : Nat → Int32 := E.2.1
def eC (E : Ec) : Nat → Int32 := E.2.2.1
def eG (E : Ec) : Nat → Int32 := E.2.2.2.1
def eT (E : Ec) : Nat → Int32 := E.2.2.2.2.1
def eWa (E : Ec) : Int32 := E.2.2.2.2.2.1
def eSh (E : Ec) : Int32 := E.2.2.2.2.2.2
def eH (h : Hp) (L n : Nat) : Ec := (n, h (L + 1), h (L + 2), h (L + 3), h (L + 4), h L 1, h L 2)
def LandAt (L : Nat) : Prop := shl[L]? = some (.inr (3, [none, none, none, none, some (L + 1), some (L + 2), some (L + 3), some (L + 4)])) ∧ shl[L + 1]? = some (.inl 6) ∧ shl[L + 2]? = some (.inl 6) ∧ shl[L + 3]? = some (.inl 6) ∧ shl[L + 4]? = some (.inl 6)
def MarkAt (M : Nat) : Prop := shl[M]? = some (.inr (4, [some (M + 1), some (M + 2), some (M + 3), some (M + 4), some (M + 5), some (M + 6)])) ∧ shl[M + 1]? = some (.inl 6) ∧ shl[M + 2]? = some (.inl 6) ∧ shl[M + 3]? = some (.inl 6) ∧ shl[M + 4]? = some (.inl 6) ∧ shl[M + 5]? = some (.inl 6) ∧ shl[M + 6]? = some (.inl 6)
/-! over the lands that are with k: the least, the greatest, the sum, how many -/
def mnF (T r : Nat → Int32) (k : Nat) (a : Int32) : Nat → Int32
  | 0 => a
  | l + 1 => if r l = r k then (if mnF T r k a l ≤ T l then mnF T r k a l else T l) else mnF T r k a l
def mxF (T r : Nat → Int32) (k : Nat) (a : Int32) : Nat → Int32
  | 0 => a
  | l + 1 => if r l = r k then (if T l ≤ mxF T r k a l then mxF T r k a l else T l) else mxF T r k a l
def smF (T r : Nat → Int32) (u : Int32) : Nat → Int32
  | 0 => 0
  | l + 1 => if r l = u then smF T r u l + T l else smF T r u l
def ctF (r : Nat → Int32) (u : Int32) : Nat → Nat
  | 0 => 0
  | l + 1 => if r l = u then ctF r u l + 1 else ctF r u l
theorem ctF_le (r : Nat → Int32) (u : Int32) : ∀ l, ctF r u l ≤ l := by
  intro l
  induction l with
  | zero => exact Nat.le_refl _
  | succ l ih => rw [ctF]; split <;> omega
theorem ctF_pos {r : Nat → Int32} {u : Int32} {k : Nat} (hk : r k = u) : ∀ l, k < l → 0 < ctF r u l := by
  intro l
  induction l with
  | zero => intro h; omega
  | succ l ih =>
    intro h
    rw [ctF]
    by_cases e : l = k
    · subst e; rw [if_pos hk]; omega
    · have := ih (by omega)
      split <;> omega
def wallS (E : Ec) (r : Nat → Int32) (k : Nat) : Int32 := if eWa E = 0 then mnF (eT E) r k (eT E k) (eN E) else if eWa E = 1 then mxF (eT E) r k (eT E k) (eN E) else smF (eT E) r (r k) (eN E) / nI (ctF r (r k) (eN E))
theorem wallS_at (h : Hp) (L n : Nat) (r : Nat → Int32) (k : Nat) : wallS (eH h L n) r k = if h L 1 = 0 then mnF (h (L + 4)) r k (h (L + 4) k) n else if h L 1 = 1 then mxF (h (L + 4)) r k (h (L + 4) k) n else smF (h (L + 4)) r (r k) n / nI (ctF r (r k) n) := rfl
/-! where a land buys, its price, how many -/
def askS (E : Ec) (r : Nat → Int32) (k : Nat) (wa : Int32) (l : Nat) : Int32 := if r l = r k then eC E l + eG E l else eC E l + eG E l + wa
def byF (f : Nat → Int32) (k : Nat) : Nat → (Nat × Int32)
  | 0 => (k, 1000)
  | l + 1 => if (byF f k l).2 ≤ f l then byF f k l else (l, f l)
theorem byF_lt {f : Nat → Int32} {k n : Nat} (hk : k < n) : ∀ l, l ≤ n → (byF f k l).1 < n := by
  intro l
  induction l with
  | zero => intro _; exact hk
  | succ l ih => intro hl; rw [byF]; split
                 · exact ih (by omega)
                 · show l < n; omega
def selS (E : Ec) (r : Nat → Int32) (k : Nat) (wa : Int32) : Nat := (byF (askS E r k wa) k (eN E)).1
def priS (E : Ec) (r : Nat → Int32) (k : Nat) (wa : Int32) : Int32 := (byF (askS E r k wa) k (eN E)).2
def bouS (E : Ec) (r : Nat → Int32) (k : Nat) (wa : Int32) : Int32 := if eW E k ≤ priS E r k wa then 0 else eW E k - priS E r k wa

set_option maxRecDepth 100000 in
set_option maxHeartbeats 4000000 in
theorem c_wallAround {g : GG} {M L P n k : Nat} {h : Hp} (hL : LandAt L) (hP : PartAt P) (hn : n ≤ 6) (h0 : h L 0 = nI n) (hk : k < n) : R g mX4_wallAround 0 [some (.ref (ad g M)), some (.ref (ad g L)), some (.ref (ad g P)), some (.int (nI k)), none, none, none, none, none, none] [] h (Ri fun v h' => h' = h ∧ v = wallS (eH h L n) (h (P + 1)) k) := by
  have loop : ∀ (m l : Nat) (x4 x5 x6 x7 : Int32) (z : Option Value), l ≤ n → n < l + m → x4 = mnF (h (L + 4)) (h (P + 1)) k (h (L + 4) k) l → x5 = mxF (h (L + 4)) (h (P + 1)) k (h (L + 4) k) l → x6 = smF (h (L + 4)) (h (P + 1)) (h (P + 1) k) l → x7 = nI (ctF (h (P + 1)) (h (P + 1) k) l) → R g mX4_wallAround 25 [some (.ref (ad g M)), some (.ref (ad g L)), some (.ref (ad g P)), some (.int (nI k)), some (.int x4), some (.int x5), some (.int x6), some (.int x7), some (.int (nI l)), z] [] h (Ri fun v h' => h' = h ∧ v = wallS (eH h L n) (h (P + 1)) k) := by
    intro m
    induction m with
    | zero => intro l x4 x5 x6 x7 z a b; omega
    | succ m ih =>
      intro l x4 x5 x6 x7 z a b e4 e5 e6 e7
      subst e4; subst e5; subst e6; subst e7
      refine r_iload rfl dX4_wallAround_25 ?_
      refine r_aload_n rfl dX4_wallAround_27 ?_
      refine r_getI foX4_30 hL.1 rfl dX4_wallAround_28 ?_
      refine r_icmp_ge 107 dX4_wallAround_31 (by decide) (fun c_31 => ?_) (fun c_31 => ?_)
      · refine r_aload_n rfl dX4_wallAround_107 ?_
        refine r_getI foX4_64 hL.1 rfl dX4_wallAround_108 ?_
        refine r_if_ne 117 dX4_wallAround_111 (by decide) (fun c_111 => ?_) (fun c_111 => ?_)
        · refine r_aload_n rfl dX4_wallAround_117 ?_
          refine r_getI foX4_64 hL.1 rfl dX4_wallAround_118 ?_
          refine r_iconst (v := (1 : Int32)) (by decide) dX4_wallAround_121 ?_
          refine r_icmp_ne 128 dX4_wallAround_122 (by decide) (fun c_122 => ?_) (fun c_122 => ?_)
          · refine r_iload rfl dX4_wallAround_128 ?_
            refine r_if_le 141 dX4_wallAround_130 (by decide) (fun c_130 => ?_) (fun c_130 => ?_)
            · refine r_iconst (v := (0 : Int32)) (by decide) dX4_wallAround_141 ?_
              refine ret_i dX4_wallAround_142 rfl ?_
              rw [h0] at c_31
              have e : l = n := by have := ge_y (by omega) (by omega) c_31; omega
              subst e
              refine ⟨rfl, ?_⟩
              rw [wallS_at, if_neg c_111, if_neg c_122]
              first
                | done
                | rfl
                | exact absurd c_130 (nI_nle (ctF_pos rfl l hk) (by have := ctF_le (h (P + 1)) (h (P + 1) k) l; omega))
            · refine r_iload rfl dX4_wallAround_133 ?_
              refine r_iload rfl dX4_wallAround_135 ?_
              refine r_idiv (by intro q; rw [q] at c_130; exact c_130 (by decide)) dX4_wallAround_137 ?_
              refine r_goto 142 dX4_wallAround_138 (by decide) ?_
              refine ret_i dX4_wallAround_142 rfl ?_
              rw [h0] at c_31
              have e : l = n := by have := ge_y (by omega) (by omega) c_31; omega
              subst e
              refine ⟨rfl, ?_⟩
              rw [wallS_at, if_neg c_111, if_neg c_122]
              first
                | done
                | rfl
                | exact absurd c_130 (nI_nle (ctF_pos rfl l hk) (by have := ctF_le (h (P + 1)) (h (P + 1) k) l; omega))
          · refine r_iload rfl dX4_wallAround_125 ?_
            refine ret_i dX4_wallAround_127 rfl ?_
            rw [h0] at c_31
            have e : l = n := by have := ge_y (by omega) (by omega) c_31; omega
            subst e
            refine ⟨rfl, ?_⟩
            rw [wallS_at, if_neg c_111, if_pos c_122]
        · refine r_iload rfl dX4_wallAround_114 ?_
          refine ret_i dX4_wallAround_116 rfl ?_
          rw [h0] at c_31
          have e : l = n := by have := ge_y (by omega) (by omega) c_31; omega
          subst e
          refine ⟨rfl, ?_⟩
          rw [wallS_at, if_pos c_111]
      · rw [h0] at c_31
        have hlk : l < n := ge_n (by omega) c_31
        refine r_aload_n rfl dX4_wallAround_34 ?_
        refine r_getR foX4_44 hP.1 rfl dX4_wallAround_35 ?_
        refine r_iload rfl dX4_wallAround_38 ?_
        refine r_ild hP.2.1 rfl (by omega) (by decide) dX4_wallAround_40 ?_
        refine r_aload_n rfl dX4_wallAround_41 ?_
        refine r_getR foX4_44 hP.1 rfl dX4_wallAround_42 ?_
        refine r_iload_n rfl dX4_wallAround_45 ?_
        refine r_ild hP.2.1 rfl (by omega) (by decide) dX4_wallAround_46 ?_
        refine r_icmp_ne 101 dX4_wallAround_47 (by decide) (fun c_47 => ?_) (fun c_47 => ?_)
        · first | refine r_incN8 rfl (by decide) dX4_wallAround_101 ?_ | refine r_incP8 rfl (by decide) dX4_wallAround_101 ?_
          refine r_goto 25 dX4_wallAround_104 (by decide) ?_
          refine ih (l + 1) _ _ _ _ _ (by omega) (by omega) ?_ ?_ ?_ ?_
          all_goals first
            | (simp [mnF, mxF, smF, ctF, c_47, c_63, c_79]; done)
            | (simp [mnF, mxF, smF, ctF, c_47]; done)
        · refine r_aload_n rfl dX4_wallAround_50 ?_
          refine r_getR foX4_61 hL.1 rfl dX4_wallAround_51 ?_
          refine r_iload rfl dX4_wallAround_54 ?_
          refine r_ild hL.2.2.2.2 rfl (by omega) (by decide) dX4_wallAround_56 ?_
          refine r_ist9 rfl (by decide) dX4_wallAround_57 ?_
          refine r_iload rfl dX4_wallAround_59 ?_
          refine r_iload rfl dX4_wallAround_61 ?_
          refine r_icmp_ge 71 dX4_wallAround_63 (by decide) (fun c_63 => ?_) (fun c_63 => ?_)
          · refine r_iload rfl dX4_wallAround_71 ?_
            refine r_ist4 rfl (by decide) dX4_wallAround_73 ?_
            refine r_iload rfl dX4_wallAround_75 ?_
            refine r_iload rfl dX4_wallAround_77 ?_
            refine r_icmp_le 87 dX4_wallAround_79 (by decide) (fun c_79 => ?_) (fun c_79 => ?_)
            · refine r_iload rfl dX4_wallAround_87 ?_
              refine r_ist5 rfl (by decide) dX4_wallAround_89 ?_
              refine r_iload rfl dX4_wallAround_91 ?_
              refine r_iload rfl dX4_wallAround_93 ?_
              refine r_iadd dX4_wallAround_95 ?_
              refine r_ist6 rfl (by decide) dX4_wallAround_96 ?_
              first | refine r_incN7 rfl (by decide) dX4_wallAround_98 ?_ | refine r_incP7 rfl (by decide) dX4_wallAround_98 ?_
              first | refine r_incN8 rfl (by decide) dX4_wallAround_101 ?_ | refine r_incP8 rfl (by decide) dX4_wallAround_101 ?_
              refine r_goto 25 dX4_wallAround_104 (by decide) ?_
              refine ih (l + 1) _ _ _ _ _ (by omega) (by omega) ?_ ?_ ?_ ?_
              all_goals first
                | (simp [mnF, mxF, smF, ctF, c_47, c_63, c_79]; done)
                | (simp [mnF, mxF, smF, ctF, c_47]; done)
            · refine r_iload rfl dX4_wallAround_82 ?_
              refine r_goto 89 dX4_wallAround_84 (by decide) ?_
              refine r_ist5 rfl (by decide) dX4_wallAround_89 ?_
              refine r_iload rfl dX4_wallAround_91 ?_
              refine r_iload rfl dX4_wallAround_93 ?_
              refine r_iadd dX4_wallAround_95 ?_
              refine r_ist6 rfl (by decide) dX4_wallAround_96 ?_
              first | refine r_incN7 rfl (by decide) dX4_wallAround_98 ?_ | refine r_incP7 rfl (by decide) dX4_wallAround_98 ?_
              first | refine r_incN8 rfl (by decide) dX4_wallAround_101 ?_ | refine r_incP8 rfl (by decide) dX4_wallAround_101 ?_
              refine r_goto 25 dX4_wallAround_104 (by decide) ?_
              refine ih (l + 1) _ _ _ _ _ (by omega) (by omega) ?_ ?_ ?_ ?_
              all_goals first
                | (simp [mnF, mxF, smF, ctF, c_47, c_63, c_79]; done)
                | (simp [mnF, mxF, smF, ctF, c_47]; done)
          · refine r_iload rfl dX4_wallAround_66 ?_
            refine r_goto 73 dX4_wallAround_68 (by decide) ?_
            refine r_ist4 rfl (by decide) dX4_wallAround_73 ?_
            refine r_iload rfl dX4_wallAround_75 ?_
            refine r_iload rfl dX4_wallAround_77 ?_
            refine r_icmp_le 87 dX4_wallAround_79 (by decide) (fun c_79 => ?_) (fun c_79 => ?_)
            · refine r_iload rfl dX4_wallAround_87 ?_
              refine r_ist5 rfl (by decide) dX4_wallAround_89 ?_
              refine r_iload rfl dX4_wallAround_91 ?_
              refine r_iload rfl dX4_wallAround_93 ?_
              refine r_iadd dX4_wallAround_95 ?_
              refine r_ist6 rfl (by decide) dX4_wallAround_96 ?_
              first | refine r_incN7 rfl (by decide) dX4_wallAround_98 ?_ | refine r_incP7 rfl (by decide) dX4_wallAround_98 ?_
              first | refine r_incN8 rfl (by decide) dX4_wallAround_101 ?_ | refine r_incP8 rfl (by decide) dX4_wallAround_101 ?_
              refine r_goto 25 dX4_wallAround_104 (by decide) ?_
              refine ih (l + 1) _ _ _ _ _ (by omega) (by omega) ?_ ?_ ?_ ?_
              all_goals first
                | (simp [mnF, mxF, smF, ctF, c_47, c_63, c_79]; done)
                | (simp [mnF, mxF, smF, ctF, c_47]; done)
            · refine r_iload rfl dX4_wallAround_82 ?_
              refine r_goto 89 dX4_wallAround_84 (by decide) ?_
              refine r_ist5 rfl (by decide) dX4_wallAround_89 ?_
              refine r_iload rfl dX4_wallAround_91 ?_
              refine r_iload rfl dX4_wallAround_93 ?_
              refine r_iadd dX4_wallAround_95 ?_
              refine r_ist6 rfl (by decide) dX4_wallAround_96 ?_
              first | refine r_incN7 rfl (by decide) dX4_wallAround_98 ?_ | refine r_incP7 rfl (by decide) dX4_wallAround_98 ?_
              first | refine r_incN8 rfl (by decide) dX4_wallAround_101 ?_ | refine r_incP8 rfl (by decide) dX4_wallAround_101 ?_
              refine r_goto 25 dX4_wallAround_104 (by decide) ?_
              refine ih (l + 1) _ _ _ _ _ (by omega) (by omega) ?_ ?_ ?_ ?_
              all_goals first
                | (simp [mnF, mxF, smF, ctF, c_47, c_63, c_79]; done)
                | (simp [mnF, mxF, smF, ctF, c_47]; done)
  refine r_aload_n rfl dX4_wallAround_0 ?_
  refine r_getR foX4_61 hL.1 rfl dX4_wallAround_1 ?_
  refine r_iload_n rfl dX4_wallAround_4 ?_
  refine r_ild hL.2.2.2.2 rfl (by omega) (by decide) dX4_wallAround_5 ?_
  refine r_ist4 rfl (by decide) dX4_wallAround_6 ?_
  refine r_aload_n rfl dX4_wallAround_8 ?_
  refine r_getR foX4_61 hL.1 rfl dX4_wallAround_9 ?_
  refine r_iload_n rfl dX4_wallAround_12 ?_
  refine r_ild hL.2.2.2.2 rfl (by omega) (by decide) dX4_wallAround_13 ?_
  refine r_ist5 rfl (by decide) dX4_wallAround_14 ?_
  refine r_iconst (v := (0 : Int32)) (by decide) dX4_wallAround_16 ?_
  refine r_ist6 rfl (by decide) dX4_wallAround_17 ?_
  refine r_iconst (v := nI 0) (by decide) dX4_wallAround_19 ?_
  refine r_ist7 rfl (by decide) dX4_wallAround_20 ?_
  refine r_iconst (v := nI 0) (by decide) dX4_wallAround_22 ?_
  refine r_ist8 rfl (by decide) dX4_wallAround_23 ?_
  exact loop (n + 1) 0 _ _ _ _ _ (by omega) (by omega) rfl rfl rfl rfl

theorem bouS_at (h : Hp) (L n : Nat) (r : Nat → Int32) (k : Nat) (wa : Int32) : bouS (eH h L n) r k wa = if h (L + 1) k ≤ (byF (askS (eH h L n) r k wa) k n).2 then 0 else h (L + 1) k - (byF (askS (eH h L n) r k wa) k n).2 := rfl
theorem askS_at (h : Hp) (L n P k : Nat) (wa : Int32) (l : Nat) : askS (eH h L n) (h (P + 1)) k wa l = if h (P + 1) l = h (P + 1) k then h (L + 2) l + h (L + 3) l else h (L + 2) l + h (L + 3) l + wa := rfl

set_option maxRecDepth 100000 in
set_option maxHeartbeats 4000000 in
theorem c_buy {g : GG} {M L P n k : Nat} {h : Hp} (hM : MarkAt M) (hL : LandAt L) (hP : PartAt P) (hML : M + 7 ≤ L ∨ L + 5 ≤ M) (hn : n ≤ 6) (h0 : h L 0 = nI n) (hk : k < n) : R g mX4_buy 0 [some (.ref (ad g M)), some (.ref (ad g L)), some (.ref (ad g P)), some (.int (nI k)), none, none, none, none] [] h (Rv fun h' => h' = hset (hset (hset h (M + 2) k (priS (eH h L n) (h (P + 1)) k (h (M + 1) k))) (M + 3) k (nI (selS (eH h L n) (h (P + 1)) k (h (M + 1) k)))) (M + 4) k (bouS (eH h L n) (h (P + 1)) k (h (M + 1) k))) := by
  have loop : ∀ (m l : Nat) (x4 x5 : Int32) (z : Option Value), l ≤ n → n < l + m → x4 = nI (byF (askS (eH h L n) (h (P + 1)) k (h (M + 1) k)) k l).1 → x5 = (byF (askS (eH h L n) (h (P + 1)) k (h (M + 1) k)) k l).2 → R g mX4_buy 11 [some (.ref (ad g M)), some (.ref (ad g L)), some (.ref (ad g P)), some (.int (nI k)), some (.int x4), some (.int x5), some (.int (nI l)), z] [] h (Rv fun h' => h' = hset (hset (hset h (M + 2) k (priS (eH h L n) (h (P + 1)) k (h (M + 1) k))) (M + 3) k (nI (selS (eH h L n) (h (P + 1)) k (h (M + 1) k)))) (M + 4) k (bouS (eH h L n) (h (P + 1)) k (h (M + 1) k))) := by
    intro m
    induction m with
    | zero => intro l x4 x5 z a b; omega
    | succ m ih =>
      intro l x4 x5 z a b e4 e5
      subst e4; subst e5
      refine r_iload rfl dX4_buy_11 ?_
      refine r_aload_n rfl dX4_buy_13 ?_
      refine r_getI foX4_30 hL.1 rfl dX4_buy_14 ?_
      refine r_icmp_ge 85 dX4_buy_17 (by decide) (fun c_17 => ?_) (fun c_17 => ?_)
      · rw [h0] at c_17
        have e : l = n := by have := ge_y (by omega) (by omega) c_17; omega
        subst e
        refine r_aload_n rfl dX4_buy_85 ?_
        refine r_getR foX4_15 hM.1 rfl dX4_buy_86 ?_
        refine r_iload_n rfl dX4_buy_89 ?_
        refine r_iload rfl dX4_buy_90 ?_
        refine r_ias hM.2.2.1 rfl (by omega) (by decide) dX4_buy_92 ?_
        refine r_aload_n rfl dX4_buy_93 ?_
        refine r_getR foX4_18 hM.1 rfl dX4_buy_94 ?_
        refine r_iload_n rfl dX4_buy_97 ?_
        refine r_iload rfl dX4_buy_98 ?_
        refine r_ias hM.2.2.2.1 rfl (by omega) (by decide) dX4_buy_100 ?_
        refine r_aload_n rfl dX4_buy_101 ?_
        refine r_getR foX4_21 hM.1 rfl dX4_buy_102 ?_
        refine r_iload_n rfl dX4_buy_105 ?_
        refine r_aload_n rfl dX4_buy_106 ?_
        refine r_getR foX4_70 hL.1 rfl dX4_buy_107 ?_
        refine r_iload_n rfl dX4_buy_110 ?_
        refine r_ild hL.2.1 rfl (by omega) (by decide) dX4_buy_111 ?_
        refine r_iload rfl dX4_buy_112 ?_
        refine r_icmp_le 129 dX4_buy_114 (by decide) (fun c_114 => ?_) (fun c_114 => ?_)
        · refine r_iconst (v := (0 : Int32)) (by decide) dX4_buy_129 ?_
          refine r_ias hM.2.2.2.2.1 rfl (by omega) (by decide) dX4_buy_130 ?_
          refine ret_v dX4_buy_131 rfl ?_
          rw [hset_ne (by omega), hset_ne (by omega)] at c_114
          first
            | (rw [bouS_at, if_pos c_114]; rfl)
            | (rw [bouS_at, if_neg c_114, hset_ne (by omega), hset_ne (by omega)]; rfl)
        · refine r_aload_n rfl dX4_buy_117 ?_
          refine r_getR foX4_70 hL.1 rfl dX4_buy_118 ?_
          refine r_iload_n rfl dX4_buy_121 ?_
          refine r_ild hL.2.1 rfl (by omega) (by decide) dX4_buy_122 ?_
          refine r_iload rfl dX4_buy_123 ?_
          refine r_isub dX4_buy_125 ?_
          refine r_goto 130 dX4_buy_126 (by decide) ?_
          refine r_ias hM.2.2.2.2.1 rfl (by omega) (by decide) dX4_buy_130 ?_
          refine ret_v dX4_buy_131 rfl ?_
          rw [hset_ne (by omega), hset_ne (by omega)] at c_114
          first
            | (rw [bouS_at, if_pos c_114]; rfl)
            | (rw [bouS_at, if_neg c_114, hset_ne (by omega), hset_ne (by omega)]; rfl)
      · rw [h0] at c_17
        have hlk : l < n := ge_n (by omega) c_17
        refine r_aload_n rfl dX4_buy_20 ?_
        refine r_getR foX4_67 hL.1 rfl dX4_buy_21 ?_
        refine r_iload rfl dX4_buy_24 ?_
        refine r_ild hL.2.2.1 rfl (by omega) (by decide) dX4_buy_26 ?_
        refine r_aload_n rfl dX4_buy_27 ?_
        refine r_getR foX4_58 hL.1 rfl dX4_buy_28 ?_
        refine r_iload rfl dX4_buy_31 ?_
        refine r_ild hL.2.2.2.1 rfl (by omega) (by decide) dX4_buy_33 ?_
        refine r_iadd dX4_buy_34 ?_
        refine r_ist7 rfl (by decide) dX4_buy_35 ?_
        refine r_aload_n rfl dX4_buy_37 ?_
        refine r_getR foX4_44 hP.1 rfl dX4_buy_38 ?_
        refine r_iload rfl dX4_buy_41 ?_
        refine r_ild hP.2.1 rfl (by omega) (by decide) dX4_buy_43 ?_
        refine r_aload_n rfl dX4_buy_44 ?_
        refine r_getR foX4_44 hP.1 rfl dX4_buy_45 ?_
        refine r_iload_n rfl dX4_buy_48 ?_
        refine r_ild hP.2.1 rfl (by omega) (by decide) dX4_buy_49 ?_
        refine r_icmp_eq 64 dX4_buy_50 (by decide) (fun c_50 => ?_) (fun c_50 => ?_)
        · refine r_iload rfl dX4_buy_64 ?_
          refine r_iload rfl dX4_buy_66 ?_
          refine r_icmp_ge 79 dX4_buy_68 (by decide) (fun c_68 => ?_) (fun c_68 => ?_)
          · first | refine r_incN6 rfl (by decide) dX4_buy_79 ?_ | refine r_incP6 rfl (by decide) dX4_buy_79 ?_
            refine r_goto 11 dX4_buy_82 (by decide) ?_
            have ea := askS_at h L n P k (h (M + 1) k) l
            first
              | rw [if_pos c_50] at ea
              | rw [if_neg c_50] at ea
            rw [← ea] at c_68
            first
              | exact ih (l + 1) _ _ _ (by omega) (by omega) (by rw [byF, if_pos c_68]) (by rw [byF, if_pos c_68])
              | exact ih (l + 1) _ _ _ (by omega) (by omega) (by rw [byF, if_neg c_68]) (by rw [byF, if_neg c_68]; exact ea.symm)
          · refine r_iload rfl dX4_buy_71 ?_
            refine r_ist5 rfl (by decide) dX4_buy_73 ?_
            refine r_iload rfl dX4_buy_75 ?_
            refine r_ist4 rfl (by decide) dX4_buy_77 ?_
            first | refine r_incN6 rfl (by decide) dX4_buy_79 ?_ | refine r_incP6 rfl (by decide) dX4_buy_79 ?_
            refine r_goto 11 dX4_buy_82 (by decide) ?_
            have ea := askS_at h L n P k (h (M + 1) k) l
            first
              | rw [if_pos c_50] at ea
              | rw [if_neg c_50] at ea
            rw [← ea] at c_68
            first
              | exact ih (l + 1) _ _ _ (by omega) (by omega) (by rw [byF, if_pos c_68]) (by rw [byF, if_pos c_68])
              | exact ih (l + 1) _ _ _ (by omega) (by omega) (by rw [byF, if_neg c_68]) (by rw [byF, if_neg c_68]; exact ea.symm)
        · refine r_iload rfl dX4_buy_53 ?_
          refine r_aload_n rfl dX4_buy_55 ?_
          refine r_getR foX4_9 hM.1 rfl dX4_buy_56 ?_
          refine r_iload_n rfl dX4_buy_59 ?_
          refine r_ild hM.2.1 rfl (by omega) (by decide) dX4_buy_60 ?_
          refine r_iadd dX4_buy_61 ?_
          refine r_ist7 rfl (by decide) dX4_buy_62 ?_
          refine r_iload rfl dX4_buy_64 ?_
          refine r_iload rfl dX4_buy_66 ?_
          refine r_icmp_ge 79 dX4_buy_68 (by decide) (fun c_68 => ?_) (fun c_68 => ?_)
          · first | refine r_incN6 rfl (by decide) dX4_buy_79 ?_ | refine r_incP6 rfl (by decide) dX4_buy_79 ?_
            refine r_goto 11 dX4_buy_82 (by decide) ?_
            have ea := askS_at h L n P k (h (M + 1) k) l
            first
              | rw [if_pos c_50] at ea
              | rw [if_neg c_50] at ea
            rw [← ea] at c_68
            first
              | exact ih (l + 1) _ _ _ (by omega) (by omega) (by rw [byF, if_pos c_68]) (by rw [byF, if_pos c_68])
              | exact ih (l + 1) _ _ _ (by omega) (by omega) (by rw [byF, if_neg c_68]) (by rw [byF, if_neg c_68]; exact ea.symm)
          · refine r_iload rfl dX4_buy_71 ?_
            refine r_ist5 rfl (by decide) dX4_buy_73 ?_
            refine r_iload rfl dX4_buy_75 ?_
            refine r_ist4 rfl (by decide) dX4_buy_77 ?_
            first | refine r_incN6 rfl (by decide) dX4_buy_79 ?_ | refine r_incP6 rfl (by decide) dX4_buy_79 ?_
            refine r_goto 11 dX4_buy_82 (by decide) ?_
            have ea := askS_at h L n P k (h (M + 1) k) l
            first
              | rw [if_pos c_50] at ea
              | rw [if_neg c_50] at ea
            rw [← ea] at c_68
            first
              | exact ih (l + 1) _ _ _ (by omega) (by omega) (by rw [byF, if_pos c_68]) (by rw [byF, if_pos c_68])
              | exact ih (l + 1) _ _ _ (by omega) (by omega) (by rw [byF, if_neg c_68]) (by rw [byF, if_neg c_68]; exact ea.symm)
  refine r_iload_n rfl dX4_buy_0 ?_
  refine r_ist4 rfl (by decide) dX4_buy_1 ?_
  refine r_sipush (v := (1000 : Int32)) (by decide) dX4_buy_3 ?_
  refine r_ist5 rfl (by decide) dX4_buy_6 ?_
  refine r_iconst (v := nI 0) (by decide) dX4_buy_8 ?_
  refine r_ist6 rfl (by decide) dX4_buy_9 ?_
  exact loop (n + 1) 0 _ _ _ (by omega) (by omega) rfl rfl
end
section
def KeepA (a : Nat) (h h' : Hp) : Prop := ∀ q, ¬ q = a → h' q = h q
def wtS (E : Ec) (l : Nat) : Int32 := if eSh E = 1 then 1 else eW E l
def shQ (E : Ec) (tk r : Nat → Int32) (u : Int32) (l : Nat) : Int32 := smF tk r u (eN E) * wtS E l / smF (wtS E) r u (eN E)
/-- what is left over, as it is handed out -/
def lfF (r : Nat → Int32) (u a : Int32) : Nat → Int32
  | 0 => a
  | l + 1 => if lfF r u a l ≤ 0 then lfF r u a l else if r l = u then lfF r u a l - 1 else lfF r u a l
theorem lfF_stay {r : Nat → Int32} {u a : Int32} {l : Nat} (h : lfF r u a l ≤ 0) : ∀ d, lfF r u a (l + d) ≤ 0 := by
  intro d
  induction d with
  | zero => exact h
  | succ d ih => show lfF r u a (l + d + 1) ≤ 0; rw [lfF, if_pos ih]; exact ih
def shA (E : Ec) (tk r : Nat → Int32) (u : Int32) : Int32 := smF tk r u (eN E) - smF (shQ E tk r u) r u (eN E)
def shO (E : Ec) (tk r : Nat → Int32) (u : Int32) (j : Nat) : Int32 := if r j = u then (if lfF r u (shA E tk r u) j ≤ 0 then shQ E tk r u j else shQ E tk r u j + 1) else tk j
def shM (E : Ec) (tk r : Nat → Int32) (u : Int32) (j : Nat) : Int32 := if r j = u then shQ E tk r u j else tk j
theorem wtS_at (h : Hp) (L n l : Nat) : wtS (eH h L n) l = if h L 2 = 1 then 1 else h (L + 1) l := rfl
/-- the takings, as they come to be -/
def S1 (a l : Nat) (f : Nat → Int32) (h h1 : Hp) : Prop := KeepA a h h1 ∧ (∀ j, j < l → h1 a j = f j) ∧ ∀ j, l ≤ j → h1 a j = h a j
theorem S1_set {a l : Nat} {f : Nat → Int32} {h h1 : Hp} {x : Int32} (H : S1 a l f h h1) (hx : x = f l) : S1 a (l + 1) f h (hset h1 a l x) := by
  refine ⟨fun q z => by rw [hset_ne z]; exact H.1 q z, fun j hj => ?_, fun j hj => ?_⟩
  · rw [hset_same]
    by_cases e : j = l
    · subst e; rw [upd_eq, hx]
    · rw [upd_ne e]; exact H.2.1 j (by omega)
  · rw [hset_same, upd_ne (by omega)]; exact H.2.2 j (by omega)
theorem S1_not {a l : Nat} {f : Nat → Int32} {h h1 : Hp} (H : S1 a l f h h1) (hx : h a l = f l) : S1 a (l + 1) f h h1 := by
  refine ⟨H.1, fun j hj => ?_, fun j hj => H.2.2 j (by omega)⟩
  by_cases e : j = l
  · subst e; rw [H.2.2 j (Nat.le_refl _), hx]
  · exact H.2.1 j (by omega)
theorem S1_0 {a : Nat} {f : Nat → Int32} {h : Hp} : S1 a 0 f h h := ⟨fun _ _ => rfl, fun j hj => by omega, fun _ _ => rfl⟩

theorem shQ_at (h : Hp) (L n : Nat) (tk r : Nat → Int32) (u : Int32) (l : Nat) : shQ (eH h L n) tk r u l = smF tk r u n * wtS (eH h L n) l / smF (wtS (eH h L n)) r u n := rfl
theorem sub_sub' (a b c : Int32) : a - (b + c) = a - b - c := by
  rw [Int32.sub_eq_add_neg a (b + c), Int32.neg_add, Int32.sub_eq_add_neg (-b) c, Int32.sub_eq_add_neg a b, Int32.sub_eq_add_neg (a + -b) c, Int32.add_assoc]

set_option maxRecDepth 100000 in
set_option maxHeartbeats 4000000 in
theorem c_shareOut {g : GG} {M L P n : Nat} {u : Int32} {h : Hp} (hM : MarkAt M) (hL : LandAt L) (hP : PartAt P) (hML : M + 7 ≤ L ∨ L + 5 ≤ M) (hMP : M + 7 ≤ P ∨ P + 3 ≤ M) (hn : n ≤ 6) (h0 : h L 0 = nI n) (hpos : 0 < (smF (wtS (eH h L n)) (h (P + 1)) u n)) : R g mX4_shareOut 0 [some (.ref (ad g M)), some (.ref (ad g L)), some (.ref (ad g P)), some (.int u), none, none, none, none, none] [] h (Rv fun h' => KeepA (M + 5) h h' ∧ ∀ j, j < n → h' (M + 5) j = shO (eH h L n) (h (M + 5)) (h (P + 1)) u j) := by
  have hwt : ¬ (smF (wtS (eH h L n)) (h (P + 1)) u n) = 0 := fun e => by rw [e] at hpos; exact absurd hpos (by decide)
  have loop3 : ∀ {al x5 x6 : Int32} (h1 : Hp), KeepA (M + 5) h h1 → (∀ j, j < n → h1 (M + 5) j = (shM (eH h L n) (h (M + 5)) (h (P + 1)) u) j) → ∀ (m l : Nat) (x7 : Int32) (h2 : Hp), l ≤ n → n < l + m → x7 = lfF (h (P + 1)) u (shA (eH h L n) (h (M + 5)) (h (P + 1)) u) l → S1 (M + 5) l (shO (eH h L n) (h (M + 5)) (h (P + 1)) u) h1 h2 → R g mX4_shareOut 166 [some (.ref (ad g M)), some (.ref (ad g L)), some (.ref (ad g P)), some (.int u), some (.int al), some (.int x5), some (.int x6), some (.int x7), some (.int (nI l))] [] h2 (Rv fun h' => KeepA (M + 5) h h' ∧ ∀ j, j < n → h' (M + 5) j = shO (eH h L n) (h (M + 5)) (h (P + 1)) u j) := by
    intro al x5 x6 h1 hk hmid m
    have h0 : h1 L 0 = nI n := by rw [hk L (by omega)]; exact h0
    have hr : h1 (P + 1) = h (P + 1) := hk (P + 1) (by omega)
    induction m with
    | zero => intro l x7 h2 a b; omega
    | succ m ih =>
      intro l x7 h2 a b e7 H
      subst e7
      refine r_iload rfl dX4_shareOut_166 ?_
      refine r_aload_n rfl dX4_shareOut_168 ?_
      refine r_getI foX4_30 hL.1 rfl dX4_shareOut_169 ?_
      refine r_icmp_ge 211 dX4_shareOut_172 (by decide) (fun c_172 => ?_) (fun c_172 => ?_)
      · refine ret_v dX4_shareOut_211 rfl ?_
        refine ⟨fun q z => by rw [H.1 q z]; exact hk q z, fun j hj => ?_⟩
        rcases Nat.lt_or_ge j l with q | q
        · exact H.2.1 j q
        · have hst : lfF (h (P + 1)) u (shA (eH h L n) (h (M + 5)) (h (P + 1)) u) j ≤ 0 := by
            first
              | (obtain ⟨d, rfl⟩ : ∃ d, j = l + d := ⟨j - l, by omega⟩
                 exact lfF_stay c_177 d)
              | (rw [H.1 L (by omega), h0] at c_172
                 exact absurd (ge_y (by omega) (by omega) c_172) (by omega))
          rw [H.2.2 j q, hmid j hj, shO, shM]
          by_cases e : h (P + 1) j = u
          · rw [if_pos e, if_pos e, if_pos hst]
          · rw [if_neg e, if_neg e]
      · rw [H.1 L (by omega), h0] at c_172
        have hlk : l < n := ge_n (by omega) c_172
        refine r_iload rfl dX4_shareOut_175 ?_
        refine r_if_le 211 dX4_shareOut_177 (by decide) (fun c_177 => ?_) (fun c_177 => ?_)
        · refine ret_v dX4_shareOut_211 rfl ?_
          refine ⟨fun q z => by rw [H.1 q z]; exact hk q z, fun j hj => ?_⟩
          rcases Nat.lt_or_ge j l with q | q
          · exact H.2.1 j q
          · have hst : lfF (h (P + 1)) u (shA (eH h L n) (h (M + 5)) (h (P + 1)) u) j ≤ 0 := by
              first
                | (obtain ⟨d, rfl⟩ : ∃ d, j = l + d := ⟨j - l, by omega⟩
                   exact lfF_stay c_177 d)
                | (rw [H.1 L (by omega), h0] at c_172
                   exact absurd (ge_y (by omega) (by omega) c_172) (by omega))
            rw [H.2.2 j q, hmid j hj, shO, shM]
            by_cases e : h (P + 1) j = u
            · rw [if_pos e, if_pos e, if_pos hst]
            · rw [if_neg e, if_neg e]
        · skip
          refine r_aload_n rfl dX4_shareOut_180 ?_
          refine r_getR foX4_44 hP.1 rfl dX4_shareOut_181 ?_
          refine r_iload rfl dX4_shareOut_184 ?_
          refine r_ild hP.2.1 rfl (by omega) (by decide) dX4_shareOut_186 ?_
          rw [H.1 (P + 1) (by omega), hr]
          refine r_iload_n rfl dX4_shareOut_187 ?_
          refine r_icmp_ne 205 dX4_shareOut_188 (by decide) (fun c_188 => ?_) (fun c_188 => ?_)
          · first | refine r_incN8 rfl (by decide) dX4_shareOut_205 ?_ | refine r_incP8 rfl (by decide) dX4_shareOut_205 ?_
            refine r_goto 166 dX4_shareOut_208 (by decide) ?_
            first
              | exact ih (l + 1) _ _ (by omega) (by omega) (by rw [lfF, if_neg c_177, if_pos c_188]) (S1_set H (by rw [hmid l hlk, shM, if_pos c_188]; show _ = shO _ _ _ _ _; rw [shO, if_pos c_188, if_neg c_177]))
              | exact ih (l + 1) _ _ (by omega) (by omega) (by rw [lfF, if_neg c_177, if_neg c_188]) (S1_not H (by rw [hmid l hlk, shM, if_neg c_188]; show _ = shO _ _ _ _ _; rw [shO, if_neg c_188]))
          · refine r_aload_n rfl dX4_shareOut_191 ?_
            refine r_getR foX4_24 hM.1 rfl dX4_shareOut_192 ?_
            refine r_iload rfl dX4_shareOut_195 ?_
            refine r_dup2 rfl rfl dX4_shareOut_197 ?_
            refine r_ild hM.2.2.2.2.2.1 rfl (by omega) (by decide) dX4_shareOut_198 ?_
            rw [H.2.2 l (Nat.le_refl _)]
            refine r_iconst (v := (1 : Int32)) (by decide) dX4_shareOut_199 ?_
            refine r_iadd dX4_shareOut_200 ?_
            refine r_ias hM.2.2.2.2.2.1 rfl (by omega) (by decide) dX4_shareOut_201 ?_
            first | refine r_incM7 rfl (by decide) dX4_shareOut_202 ?_ | refine r_incQ7 rfl (by decide) dX4_shareOut_202 ?_
            first | refine r_incN8 rfl (by decide) dX4_shareOut_205 ?_ | refine r_incP8 rfl (by decide) dX4_shareOut_205 ?_
            refine r_goto 166 dX4_shareOut_208 (by decide) ?_
            first
              | exact ih (l + 1) _ _ (by omega) (by omega) (by rw [lfF, if_neg c_177, if_pos c_188]) (S1_set H (by rw [hmid l hlk, shM, if_pos c_188]; show _ = shO _ _ _ _ _; rw [shO, if_pos c_188, if_neg c_177]))
              | exact ih (l + 1) _ _ (by omega) (by omega) (by rw [lfF, if_neg c_177, if_neg c_188]) (S1_not H (by rw [hmid l hlk, shM, if_neg c_188]; show _ = shO _ _ _ _ _; rw [shO, if_neg c_188]))
  have loop2 : ∀ {al : Int32}, al = (if h L 2 = 1 then 1 else 0) → ∀ (m l : Nat) (x7 : Int32) (h1 : Hp), l ≤ n → n < l + m → x7 = (smF (h (M + 5)) (h (P + 1)) u n) - smF (shQ (eH h L n) (h (M + 5)) (h (P + 1)) u) (h (P + 1)) u l → S1 (M + 5) l (shM (eH h L n) (h (M + 5)) (h (P + 1)) u) h h1 → R g mX4_shareOut 96 [some (.ref (ad g M)), some (.ref (ad g L)), some (.ref (ad g P)), some (.int u), some (.int al), some (.int (smF (h (M + 5)) (h (P + 1)) u n)), some (.int (smF (wtS (eH h L n)) (h (P + 1)) u n)), some (.int x7), some (.int (nI l))] [] h1 (Rv fun h' => KeepA (M + 5) h h' ∧ ∀ j, j < n → h' (M + 5) j = shO (eH h L n) (h (M + 5)) (h (P + 1)) u j) := by
    intro al hal m
    induction m with
    | zero => intro l x7 h1 a b; omega
    | succ m ih =>
      intro l x7 h1 a b e7 H
      subst e7
      refine r_iload rfl dX4_shareOut_96 ?_
      refine r_aload_n rfl dX4_shareOut_98 ?_
      refine r_getI foX4_30 hL.1 rfl dX4_shareOut_99 ?_
      refine r_icmp_ge 163 dX4_shareOut_102 (by decide) (fun c_102 => ?_) (fun c_102 => ?_)
      · rw [H.1 L (by omega), h0] at c_102
        have e : l = n := by have := ge_y (by omega) (by omega) c_102; omega
        subst e
        refine r_iconst (v := nI 0) (by decide) dX4_shareOut_163 ?_
        refine r_ist8 rfl (by decide) dX4_shareOut_164 ?_
        exact loop3 _ H.1 H.2.1 (l + 1) 0 _ _ (by omega) (by omega) rfl S1_0
      · rw [H.1 L (by omega), h0] at c_102
        have hlk : l < n := ge_n (by omega) c_102
        refine r_aload_n rfl dX4_shareOut_105 ?_
        refine r_getR foX4_44 hP.1 rfl dX4_shareOut_106 ?_
        refine r_iload rfl dX4_shareOut_109 ?_
        refine r_ild hP.2.1 rfl (by omega) (by decide) dX4_shareOut_111 ?_
        rw [H.1 (P + 1) (by omega)]
        refine r_iload_n rfl dX4_shareOut_112 ?_
        refine r_icmp_ne 157 dX4_shareOut_113 (by decide) (fun c_113 => ?_) (fun c_113 => ?_)
        · first | refine r_incN8 rfl (by decide) dX4_shareOut_157 ?_ | refine r_incP8 rfl (by decide) dX4_shareOut_157 ?_
          refine r_goto 96 dX4_shareOut_160 (by decide) ?_
          first
            | exact ih (l + 1) _ _ (by omega) (by omega) (by rw [smF, if_neg c_113]) (S1_not H (by rw [shM, if_neg c_113]))
            | (have eq1 := shQ_at h L n (h (M + 5)) (h (P + 1)) u l
               rw [wtS_at] at eq1
               first
                 | (rw [if_neg (fun e => by rw [hal, if_pos e] at c_126; exact absurd c_126 (by decide))] at eq1
                    rw [← eq1]
                    exact ih (l + 1) _ _ (by omega) (by omega) (by rw [smF, if_pos c_113, sub_sub']) (S1_set H (by rw [shM, if_pos c_113])))
                 | (rw [if_pos (Decidable.byContradiction fun e => c_126 (by rw [hal, if_neg e]))] at eq1
                    rw [← eq1]
                    exact ih (l + 1) _ _ (by omega) (by omega) (by rw [smF, if_pos c_113, sub_sub']) (S1_set H (by rw [shM, if_pos c_113]))))
        · refine r_aload_n rfl dX4_shareOut_116 ?_
          refine r_getR foX4_24 hM.1 rfl dX4_shareOut_117 ?_
          refine r_iload rfl dX4_shareOut_120 ?_
          refine r_iload rfl dX4_shareOut_122 ?_
          refine r_iload rfl dX4_shareOut_124 ?_
          refine r_if_eq 133 dX4_shareOut_126 (by decide) (fun c_126 => ?_) (fun c_126 => ?_)
          · refine r_aload_n rfl dX4_shareOut_133 ?_
            refine r_getR foX4_70 hL.1 rfl dX4_shareOut_134 ?_
            refine r_iload rfl dX4_shareOut_137 ?_
            refine r_ild hL.2.1 rfl (by omega) (by decide) dX4_shareOut_139 ?_
            rw [H.1 (L + 1) (by omega)]
            refine r_imul dX4_shareOut_140 ?_
            refine r_iload rfl dX4_shareOut_141 ?_
            refine r_idiv hwt dX4_shareOut_143 ?_
            refine r_ias hM.2.2.2.2.2.1 rfl (by omega) (by decide) dX4_shareOut_144 ?_
            have hq : shQ (eH h L n) (h (M + 5)) (h (P + 1)) u l = shQ (eH h L n) (h (M + 5)) (h (P + 1)) u l := rfl
            refine r_iload rfl dX4_shareOut_145 ?_
            refine r_aload_n rfl dX4_shareOut_147 ?_
            refine r_getR foX4_24 hM.1 rfl dX4_shareOut_148 ?_
            refine r_iload rfl dX4_shareOut_151 ?_
            refine r_ild hM.2.2.2.2.2.1 rfl (by omega) (by decide) dX4_shareOut_153 ?_
            rw [hset_same, upd_eq]
            refine r_isub dX4_shareOut_154 ?_
            refine r_ist7 rfl (by decide) dX4_shareOut_155 ?_
            first | refine r_incN8 rfl (by decide) dX4_shareOut_157 ?_ | refine r_incP8 rfl (by decide) dX4_shareOut_157 ?_
            refine r_goto 96 dX4_shareOut_160 (by decide) ?_
            first
              | exact ih (l + 1) _ _ (by omega) (by omega) (by rw [smF, if_neg c_113]) (S1_not H (by rw [shM, if_neg c_113]))
              | (have eq1 := shQ_at h L n (h (M + 5)) (h (P + 1)) u l
                 rw [wtS_at] at eq1
                 first
                   | (rw [if_neg (fun e => by rw [hal, if_pos e] at c_126; exact absurd c_126 (by decide))] at eq1
                      rw [← eq1]
                      exact ih (l + 1) _ _ (by omega) (by omega) (by rw [smF, if_pos c_113, sub_sub']) (S1_set H (by rw [shM, if_pos c_113])))
                   | (rw [if_pos (Decidable.byContradiction fun e => c_126 (by rw [hal, if_neg e]))] at eq1
                      rw [← eq1]
                      exact ih (l + 1) _ _ (by omega) (by omega) (by rw [smF, if_pos c_113, sub_sub']) (S1_set H (by rw [shM, if_pos c_113]))))
          · refine r_iconst (v := (1 : Int32)) (by decide) dX4_shareOut_129 ?_
            refine r_goto 140 dX4_shareOut_130 (by decide) ?_
            refine r_imul dX4_shareOut_140 ?_
            refine r_iload rfl dX4_shareOut_141 ?_
            refine r_idiv hwt dX4_shareOut_143 ?_
            refine r_ias hM.2.2.2.2.2.1 rfl (by omega) (by decide) dX4_shareOut_144 ?_
            have hq : shQ (eH h L n) (h (M + 5)) (h (P + 1)) u l = shQ (eH h L n) (h (M + 5)) (h (P + 1)) u l := rfl
            refine r_iload rfl dX4_shareOut_145 ?_
            refine r_aload_n rfl dX4_shareOut_147 ?_
            refine r_getR foX4_24 hM.1 rfl dX4_shareOut_148 ?_
            refine r_iload rfl dX4_shareOut_151 ?_
            refine r_ild hM.2.2.2.2.2.1 rfl (by omega) (by decide) dX4_shareOut_153 ?_
            rw [hset_same, upd_eq]
            refine r_isub dX4_shareOut_154 ?_
            refine r_ist7 rfl (by decide) dX4_shareOut_155 ?_
            first | refine r_incN8 rfl (by decide) dX4_shareOut_157 ?_ | refine r_incP8 rfl (by decide) dX4_shareOut_157 ?_
            refine r_goto 96 dX4_shareOut_160 (by decide) ?_
            first
              | exact ih (l + 1) _ _ (by omega) (by omega) (by rw [smF, if_neg c_113]) (S1_not H (by rw [shM, if_neg c_113]))
              | (have eq1 := shQ_at h L n (h (M + 5)) (h (P + 1)) u l
                 rw [wtS_at] at eq1
                 first
                   | (rw [if_neg (fun e => by rw [hal, if_pos e] at c_126; exact absurd c_126 (by decide))] at eq1
                      rw [← eq1]
                      exact ih (l + 1) _ _ (by omega) (by omega) (by rw [smF, if_pos c_113, sub_sub']) (S1_set H (by rw [shM, if_pos c_113])))
                   | (rw [if_pos (Decidable.byContradiction fun e => c_126 (by rw [hal, if_neg e]))] at eq1
                      rw [← eq1]
                      exact ih (l + 1) _ _ (by omega) (by omega) (by rw [smF, if_pos c_113, sub_sub']) (S1_set H (by rw [shM, if_pos c_113]))))
  have loop1 : ∀ {al : Int32}, al = (if h L 2 = 1 then 1 else 0) → ∀ (m l : Nat) (x5 x6 : Int32) (z : Option Value), l ≤ n → n < l + m → x5 = smF (h (M + 5)) (h (P + 1)) u l → x6 = smF (wtS (eH h L n)) (h (P + 1)) u l → R g mX4_shareOut 24 [some (.ref (ad g M)), some (.ref (ad g L)), some (.ref (ad g P)), some (.int u), some (.int al), some (.int x5), some (.int x6), some (.int (nI l)), z] [] h (Rv fun h' => KeepA (M + 5) h h' ∧ ∀ j, j < n → h' (M + 5) j = shO (eH h L n) (h (M + 5)) (h (P + 1)) u j) := by
    intro al hal m
    induction m with
    | zero => intro l x5 x6 z a b; omega
    | succ m ih =>
      intro l x5 x6 z a b e5 e6
      subst e5; subst e6
      refine r_iload rfl dX4_shareOut_24 ?_
      refine r_aload_n rfl dX4_shareOut_26 ?_
      refine r_getI foX4_30 hL.1 rfl dX4_shareOut_27 ?_
      refine r_icmp_ge 83 dX4_shareOut_30 (by decide) (fun c_30 => ?_) (fun c_30 => ?_)
      · rw [h0] at c_30
        have e : l = n := by have := ge_y (by omega) (by omega) c_30; omega
        subst e
        refine r_iload rfl dX4_shareOut_83 ?_
        refine r_if_gt 89 dX4_shareOut_85 (by decide) (fun c_85 => ?_) (fun c_85 => ?_)
        · refine r_iload rfl dX4_shareOut_89 ?_
          refine r_ist7 rfl (by decide) dX4_shareOut_91 ?_
          refine r_iconst (v := nI 0) (by decide) dX4_shareOut_93 ?_
          refine r_ist8 rfl (by decide) dX4_shareOut_94 ?_
          exact loop2 hal (l + 1) 0 _ _ (by omega) (by omega) (by rw [smF, Int32.sub_zero]) S1_0
        · refine ret_v dX4_shareOut_88 rfl ?_
          exact absurd hpos c_85
      · rw [h0] at c_30
        have hlk : l < n := ge_n (by omega) c_30
        refine r_aload_n rfl dX4_shareOut_33 ?_
        refine r_getR foX4_44 hP.1 rfl dX4_shareOut_34 ?_
        refine r_iload rfl dX4_shareOut_37 ?_
        refine r_ild hP.2.1 rfl (by omega) (by decide) dX4_shareOut_39 ?_
        refine r_iload_n rfl dX4_shareOut_40 ?_
        refine r_icmp_ne 77 dX4_shareOut_41 (by decide) (fun c_41 => ?_) (fun c_41 => ?_)
        · first | refine r_incN7 rfl (by decide) dX4_shareOut_77 ?_ | refine r_incP7 rfl (by decide) dX4_shareOut_77 ?_
          refine r_goto 24 dX4_shareOut_80 (by decide) ?_
          first
            | exact ih (l + 1) _ _ _ (by omega) (by omega) (by rw [smF, if_neg c_41]) (by rw [smF, if_neg c_41])
            | (have hwl : (if h L 2 = 1 then 1 else h (L + 1) l) = h (L + 1) l := if_neg (fun e => by rw [hal, if_pos e] at c_60; exact absurd c_60 (by decide))
               exact ih (l + 1) _ _ _ (by omega) (by omega) (by rw [smF, if_pos c_41]) (by rw [smF, if_pos c_41, wtS_at, hwl]))
            | (have hwl : (if h L 2 = 1 then 1 else h (L + 1) l) = 1 := if_pos (Decidable.byContradiction fun e => c_60 (by rw [hal, if_neg e]))
               exact ih (l + 1) _ _ _ (by omega) (by omega) (by rw [smF, if_pos c_41]) (by rw [smF, if_pos c_41, wtS_at, hwl]))
        · refine r_iload rfl dX4_shareOut_44 ?_
          refine r_aload_n rfl dX4_shareOut_46 ?_
          refine r_getR foX4_24 hM.1 rfl dX4_shareOut_47 ?_
          refine r_iload rfl dX4_shareOut_50 ?_
          refine r_ild hM.2.2.2.2.2.1 rfl (by omega) (by decide) dX4_shareOut_52 ?_
          refine r_iadd dX4_shareOut_53 ?_
          refine r_ist5 rfl (by decide) dX4_shareOut_54 ?_
          refine r_iload rfl dX4_shareOut_56 ?_
          refine r_iload rfl dX4_shareOut_58 ?_
          refine r_if_eq 67 dX4_shareOut_60 (by decide) (fun c_60 => ?_) (fun c_60 => ?_)
          · refine r_aload_n rfl dX4_shareOut_67 ?_
            refine r_getR foX4_70 hL.1 rfl dX4_shareOut_68 ?_
            refine r_iload rfl dX4_shareOut_71 ?_
            refine r_ild hL.2.1 rfl (by omega) (by decide) dX4_shareOut_73 ?_
            refine r_iadd dX4_shareOut_74 ?_
            refine r_ist6 rfl (by decide) dX4_shareOut_75 ?_
            first | refine r_incN7 rfl (by decide) dX4_shareOut_77 ?_ | refine r_incP7 rfl (by decide) dX4_shareOut_77 ?_
            refine r_goto 24 dX4_shareOut_80 (by decide) ?_
            first
              | exact ih (l + 1) _ _ _ (by omega) (by omega) (by rw [smF, if_neg c_41]) (by rw [smF, if_neg c_41])
              | (have hwl : (if h L 2 = 1 then 1 else h (L + 1) l) = h (L + 1) l := if_neg (fun e => by rw [hal, if_pos e] at c_60; exact absurd c_60 (by decide))
                 exact ih (l + 1) _ _ _ (by omega) (by omega) (by rw [smF, if_pos c_41]) (by rw [smF, if_pos c_41, wtS_at, hwl]))
              | (have hwl : (if h L 2 = 1 then 1 else h (L + 1) l) = 1 := if_pos (Decidable.byContradiction fun e => c_60 (by rw [hal, if_neg e]))
                 exact ih (l + 1) _ _ _ (by omega) (by omega) (by rw [smF, if_pos c_41]) (by rw [smF, if_pos c_41, wtS_at, hwl]))
          · refine r_iconst (v := (1 : Int32)) (by decide) dX4_shareOut_63 ?_
            refine r_goto 74 dX4_shareOut_64 (by decide) ?_
            refine r_iadd dX4_shareOut_74 ?_
            refine r_ist6 rfl (by decide) dX4_shareOut_75 ?_
            first | refine r_incN7 rfl (by decide) dX4_shareOut_77 ?_ | refine r_incP7 rfl (by decide) dX4_shareOut_77 ?_
            refine r_goto 24 dX4_shareOut_80 (by decide) ?_
            first
              | exact ih (l + 1) _ _ _ (by omega) (by omega) (by rw [smF, if_neg c_41]) (by rw [smF, if_neg c_41])
              | (have hwl : (if h L 2 = 1 then 1 else h (L + 1) l) = h (L + 1) l := if_neg (fun e => by rw [hal, if_pos e] at c_60; exact absurd c_60 (by decide))
                 exact ih (l + 1) _ _ _ (by omega) (by omega) (by rw [smF, if_pos c_41]) (by rw [smF, if_pos c_41, wtS_at, hwl]))
              | (have hwl : (if h L 2 = 1 then 1 else h (L + 1) l) = 1 := if_pos (Decidable.byContradiction fun e => c_60 (by rw [hal, if_neg e]))
                 exact ih (l + 1) _ _ _ (by omega) (by omega) (by rw [smF, if_pos c_41]) (by rw [smF, if_pos c_41, wtS_at, hwl]))
  refine r_aload_n rfl dX4_shareOut_0 ?_
  refine r_getI foX4_49 hL.1 rfl dX4_shareOut_1 ?_
  refine r_iconst (v := (1 : Int32)) (by decide) dX4_shareOut_4 ?_
  refine r_icmp_ne 12 dX4_shareOut_5 (by decide) (fun c_5 => ?_) (fun c_5 => ?_)
  · refine r_iconst (v := (0 : Int32)) (by decide) dX4_shareOut_12 ?_
    refine r_ist4 rfl (by decide) dX4_shareOut_13 ?_
    refine r_iconst (v := (0 : Int32)) (by decide) dX4_shareOut_15 ?_
    refine r_ist5 rfl (by decide) dX4_shareOut_16 ?_
    refine r_iconst (v := (0 : Int32)) (by decide) dX4_shareOut_18 ?_
    refine r_ist6 rfl (by decide) dX4_shareOut_19 ?_
    refine r_iconst (v := nI 0) (by decide) dX4_shareOut_21 ?_
    refine r_ist7 rfl (by decide) dX4_shareOut_22 ?_
    first
      | exact loop1 (if_pos c_5).symm (n + 1) 0 _ _ _ (by omega) (by omega) rfl rfl
      | exact loop1 (if_neg c_5).symm (n + 1) 0 _ _ _ (by omega) (by omega) rfl rfl
  · refine r_iconst (v := (1 : Int32)) (by decide) dX4_shareOut_8 ?_
    refine r_goto 13 dX4_shareOut_9 (by decide) ?_
    refine r_ist4 rfl (by decide) dX4_shareOut_13 ?_
    refine r_iconst (v := (0 : Int32)) (by decide) dX4_shareOut_15 ?_
    refine r_ist5 rfl (by decide) dX4_shareOut_16 ?_
    refine r_iconst (v := (0 : Int32)) (by decide) dX4_shareOut_18 ?_
    refine r_ist6 rfl (by decide) dX4_shareOut_19 ?_
    refine r_iconst (v := nI 0) (by decide) dX4_shareOut_21 ?_
    refine r_ist7 rfl (by decide) dX4_shareOut_22 ?_
    first
      | exact loop1 (if_pos c_5).symm (n + 1) 0 _ _ _ (by omega) (by omega) rfl rfl
      | exact loop1 (if_neg c_5).symm (n + 1) 0 _ _ _ (by omega) (by omega) rfl rfl
end
section
/-! all that a market reckons, of a labelling r of the lands E -/
def sS (E : Ec) (r : Nat → Int32) (k : Nat) : Nat := selS E r k (wallS E r k)
def pS (E : Ec) (r : Nat → Int32) (k : Nat) : Int32 := priS E r k (wallS E r k)
def bS (E : Ec) (r : Nat → Int32) (k : Nat) : Int32 := bouS E r k (wallS E r k)
def tkO (E : Ec) (r : Nat → Int32) (k : Nat) : Int32 := if r (sS E r k) = r k then 0 else wallS E r k * bS E r k
def takS (E : Ec) (r : Nat → Int32) (k : Nat) : Int32 := if eSh E = 0 then tkO E r k else shO E (tkO E r) r (r k) k
def gdF (E : Ec) (r : Nat → Int32) (k : Nat) : Nat → Int32
  | 0 => bS E r k * bS E r k + 2 * takS E r k
  | l + 1 => if sS E r l = k then gdF E r k l + 2 * eG E k * bS E r l else gdF E r k l
def goodS (E : Ec) (r : Nat → Int32) (k : Nat) : Int32 := gdF E r k (eN E)
theorem sS_lt {E : Ec} {r : Nat → Int32} {k : Nat} (hk : k < eN E) : sS E r k < eN E := byF_lt hk _ (Nat.le_refl _)
theorem smF_congr {T T' r : Nat → Int32} {u : Int32} : ∀ {n : Nat}, (∀ j, j < n → r j = u → T j = T' j) → smF T r u n = smF T' r u n := by
  intro n
  induction n with
  | zero => intro _; rfl
  | succ n ih =>
    intro h
    rw [smF, smF, ih (fun j a b => h j (by omega) b)]
    by_cases e : r n = u
    · rw [if_pos e, if_pos e, h n (by omega) e]
    · rw [if_neg e, if_neg e]
theorem shO_congr {E : Ec} {tk tk' r : Nat → Int32} {u : Int32} {j : Nat} (hj : r j = u) (h : ∀ j, j < eN E → r j = u → tk j = tk' j) : shO E tk r u j = shO E tk' r u j := by
  have e1 : smF tk r u (eN E) = smF tk' r u (eN E) := smF_congr h
  have e2 : shQ E tk r u = shQ E tk' r u := by funext l; rw [shQ, shQ, e1]
  rw [shO, shO, if_pos hj, if_pos hj, shA, shA, e1, e2]
def KeepM (M : Nat) (h h1 : Hp) : Prop := ∀ q, ¬ (M < q ∧ q ≤ M + 5) → h1 q = h q
theorem eH_keep {h h1 : Hp} {L n : Nat} (hk : ∀ q, L ≤ q → q < L + 5 → h1 q = h q) : eH h1 L n = eH h L n := by
  simp only [eH, hk (L + 1) (by omega) (by omega), hk (L + 2) (by omega) (by omega), hk (L + 3) (by omega) (by omega), hk (L + 4) (by omega) (by omega), hk L (by omega) (by omega)]
/-- the first four rows at land j -/
def I4 (M : Nat) (E : Ec) (r : Nat → Int32) (h1 : Hp) (j : Nat) : Prop := h1 (M + 1) j = wallS E r j ∧ h1 (M + 2) j = pS E r j ∧ h1 (M + 3) j = nI (sS E r j) ∧ h1 (M + 4) j = bS E r j
def I1 (M l : Nat) (E : Ec) (r : Nat → Int32) (h h1 : Hp) : Prop := KeepM M h h1 ∧ ∀ j, j < l → I4 M E r h1 j ∧ h1 (M + 5) j = tkO E r j
theorem I1_mid {M L P l n : Nat} {h h1 : Hp} (hML : M + 7 ≤ L ∨ L + 5 ≤ M) (hMP : M + 7 ≤ P ∨ P + 3 ≤ M) (H : I1 M l (eH h L n) (h (P + 1)) h h1) {h2 : Hp} {w : Int32} (hw : w = wallS (eH h1 L n) (h1 (P + 1)) l)
    (e : h2 = hset (hset (hset (hset h1 (M + 1) l w) (M + 2) l (priS (eH (hset h1 (M + 1) l w) L n) (hset h1 (M + 1) l w (P + 1)) l (hset h1 (M + 1) l w (M + 1) l))) (M + 3) l (nI (selS (eH (hset h1 (M + 1) l w) L n) (hset h1 (M + 1) l w (P + 1)) l (hset h1 (M + 1) l w (M + 1) l)))) (M + 4) l (bouS (eH (hset h1 (M + 1) l w) L n) (hset h1 (M + 1) l w (P + 1)) l (hset h1 (M + 1) l w (M + 1) l))) :
    KeepM M h h2 ∧ (∀ j, j < l → I4 M (eH h L n) (h (P + 1)) h2 j ∧ h2 (M + 5) j = tkO (eH h L n) (h (P + 1)) j) ∧ I4 M (eH h L n) (h (P + 1)) h2 l := by
  have e1 : eH h1 L n = eH h L n := eH_keep (fun q a b => H.1 q (by omega))
  have e2 : h1 (P + 1) = h (P + 1) := H.1 _ (by omega)
  have e3 : eH (hset h1 (M + 1) l w) L n = eH h L n := by
    rw [← e1]
    exact eH_keep (fun q a b => hset_ne (by omega))
  have e4 : hset h1 (M + 1) l w (P + 1) = h (P + 1) := by rw [hset_ne (by omega), e2]
  have e5 : hset h1 (M + 1) l w (M + 1) l = wallS (eH h L n) (h (P + 1)) l := by rw [hset_same, upd_eq, hw, e1, e2]
  rw [e3, e4, e5] at e
  subst e
  refine ⟨fun q a => ?_, fun j hj => ?_, ?_⟩
  · rw [hset_ne (by omega), hset_ne (by omega), hset_ne (by omega), hset_ne (by omega)]; exact H.1 q a
  · obtain ⟨⟨a1, a2, a3, a4⟩, a5⟩ := H.2 j hj
    refine ⟨⟨?_, ?_, ?_, ?_⟩, ?_⟩
    · rw [hset_ne (by omega), hset_ne (by omega), hset_ne (by omega), hset_same, upd_ne (by omega)]; exact a1
    · rw [hset_ne (by omega), hset_ne (by omega), hset_same, upd_ne (by omega), hset_ne (by omega)]; exact a2
    · rw [hset_ne (by omega), hset_same, upd_ne (by omega), hset_ne (by omega), hset_ne (by omega)]; exact a3
    · rw [hset_same, upd_ne (by omega), hset_ne (by omega), hset_ne (by omega), hset_ne (by omega)]; exact a4
    · rw [hset_ne (by omega), hset_ne (by omega), hset_ne (by omega), hset_ne (by omega)]; exact a5
  · refine ⟨?_, ?_, ?_, ?_⟩
    · rw [hset_ne (by omega), hset_ne (by omega), hset_ne (by omega)]; exact e5
    · rw [hset_ne (by omega), hset_ne (by omega), hset_same, upd_eq]; rfl
    · rw [hset_ne (by omega), hset_same, upd_eq]; rfl
    · rw [hset_same, upd_eq]; rfl
theorem I1_step {M l : Nat} {E : Ec} {r : Nat → Int32} {h h2 : Hp} {x : Int32} (H : KeepM M h h2 ∧ (∀ j, j < l → I4 M E r h2 j ∧ h2 (M + 5) j = tkO E r j) ∧ I4 M E r h2 l) (hx : x = tkO E r l) : I1 M (l + 1) E r h (hset h2 (M + 5) l x) := by
  refine ⟨fun q a => by rw [hset_ne (by omega)]; exact H.1 q a, fun j hj => ?_⟩
  by_cases e : j = l
  · subst e
    obtain ⟨a1, a2, a3, a4⟩ := H.2.2
    exact ⟨⟨by rw [hset_ne (by omega)]; exact a1, by rw [hset_ne (by omega)]; exact a2, by rw [hset_ne (by omega)]; exact a3, by rw [hset_ne (by omega)]; exact a4⟩, by rw [hset_same, upd_eq]; exact hx⟩
  · obtain ⟨⟨a1, a2, a3, a4⟩, a5⟩ := H.2.1 j (by omega)
    exact ⟨⟨by rw [hset_ne (by omega)]; exact a1, by rw [hset_ne (by omega)]; exact a2, by rw [hset_ne (by omega)]; exact a3, by rw [hset_ne (by omega)]; exact a4⟩, by rw [hset_same, upd_ne e]; exact a5⟩
/-- takings shared out in the unions below u -/
def I2 (M n u : Nat) (c : Nat → Nat) (E : Ec) (r : Nat → Int32) (h1 h2 : Hp) : Prop := KeepA (M + 5) h1 h2 ∧ ∀ j, j < n → h2 (M + 5) j = if c j < u then shO E (tkO E r) r (r j) j else tkO E r j
theorem I2_step {M n u : Nat} {c : Nat → Nat} {E : Ec} {r : Nat → Int32} {h1 h2 h3 : Hp} (hE : eN E = n) (hr : ∀ j, j < n → r j = nI (c j)) (hc : ∀ j, j < n → c j < 7) (hu : u < 7) (H : I2 M n u c E r h1 h2) (h : KeepA (M + 5) h2 h3) (h' : ∀ j, j < n → h3 (M + 5) j = shO E (h2 (M + 5)) r (nI u) j) : I2 M n (u + 1) c E r h1 h3 := by
  refine ⟨fun q a => by rw [h q a]; exact H.1 q a, fun j hj => ?_⟩
  rw [h' j hj]
  by_cases e : c j = u
  · have er : r j = nI u := by rw [hr j hj, e]
    rw [if_pos (by omega), er]
    refine shO_congr er (fun i hi ei => ?_)
    rw [hE] at hi
    rw [hr i hi] at ei
    have : c i = u := nI_inj (by have := hc i hi; omega) (by omega) ei
    rw [H.2 i hi, if_neg (by omega)]
  · have er : ¬ r j = nI u := fun q => e (nI_inj (by have := hc j hj; omega) (by omega) (by rw [← hr j hj]; exact q))
    rw [shO, if_neg er, H.2 j hj]
    by_cases q : c j < u
    · rw [if_pos q, if_pos (by omega)]
    · rw [if_neg q, if_neg (by omega)]
/-- the goods, the lands that buy of each below l added -/
def I5 (M n l : Nat) (E : Ec) (r : Nat → Int32) (h1 h2 : Hp) : Prop := KeepA (M + 6) h1 h2 ∧ ∀ j, j < n → h2 (M + 6) j = gdF E r j l

set_option maxRecDepth 100000 in
set_option maxHeartbeats 4000000 in
theorem c_reckon {g : GG} {M L P n : Nat} {h : Hp} {c : Nat → Nat} (hM : MarkAt M) (hL : LandAt L) (hP : PartAt P) (hML : M + 7 ≤ L ∨ L + 5 ≤ M) (hMP : M + 7 ≤ P ∨ P + 3 ≤ M) (hn : n ≤ 6) (h0 : h L 0 = nI n) (hc : Can n c) (hs : PS h P n c) (hpos : ∀ u, u < mx c n → 0 < smF (wtS (eH h L n)) (h (P + 1)) (nI u) n) : R g mX4_reckon 0 [some (.ref (ad g M)), some (.ref (ad g L)), some (.ref (ad g P)), none, none] [] h (Rv fun h' => (∀ q, ¬ (M < q ∧ q ≤ M + 6) → h' q = h q) ∧ ∀ j, j < n → I4 M (eH h L n) (h (P + 1)) h' j ∧ h' (M + 5) j = takS (eH h L n) (h (P + 1)) j ∧ h' (M + 6) j = goodS (eH h L n) (h (P + 1)) j) := by
  have hmx := mx_le hc n (Nat.le_refl _)
  have loop4 : ∀ (h1 : Hp), ((∀ q, ¬ (M < q ∧ q ≤ M + 6) → h1 q = h q) ∧ ∀ j, j < n → I4 M (eH h L n) (h (P + 1)) h1 j ∧ h1 (M + 5) j = takS (eH h L n) (h (P + 1)) j) → ∀ (m l : Nat) (h2 : Hp) (z : Option Value), l ≤ n → n < l + m → I5 M n l (eH h L n) (h (P + 1)) h1 h2 → R g mX4_reckon 167 [some (.ref (ad g M)), some (.ref (ad g L)), some (.ref (ad g P)), some (.int (nI l)), z] [] h2 (Rv fun h' => (∀ q, ¬ (M < q ∧ q ≤ M + 6) → h' q = h q) ∧ ∀ j, j < n → I4 M (eH h L n) (h (P + 1)) h' j ∧ h' (M + 5) j = takS (eH h L n) (h (P + 1)) j ∧ h' (M + 6) j = goodS (eH h L n) (h (P + 1)) j) := by
    intro h1 hh m
    induction m with
    | zero => intro l h2 z a b; omega
    | succ m ih =>
      intro l h2 z a b H
      refine r_iload_n rfl dX4_reckon_167 ?_
      refine r_aload_n rfl dX4_reckon_168 ?_
      refine r_getI foX4_30 hL.1 rfl dX4_reckon_169 ?_
      refine r_icmp_ge 215 dX4_reckon_172 (by decide) (fun c_172 => ?_) (fun c_172 => ?_)
      · refine ret_v dX4_reckon_215 rfl ?_
        rw [H.1 L (by omega), hh.1 L (by omega), h0] at c_172
        have e : l = n := by have := ge_y (by omega) (by omega) c_172; omega
        subst e
        refine ⟨fun q a => by rw [H.1 q (by omega)]; exact hh.1 q a, fun j hj => ?_⟩
        obtain ⟨⟨a1, a2, a3, a4⟩, a5⟩ := hh.2 j hj
        exact ⟨⟨by rw [H.1 _ (by omega)]; exact a1, by rw [H.1 _ (by omega)]; exact a2, by rw [H.1 _ (by omega)]; exact a3, by rw [H.1 _ (by omega)]; exact a4⟩, by rw [H.1 _ (by omega)]; exact a5, H.2 j hj⟩
      · rw [H.1 L (by omega), hh.1 L (by omega), h0] at c_172
        have hlk : l < n := ge_n (by omega) c_172
        have hse : sS (eH h L n) (h (P + 1)) l < n := sS_lt hlk
        refine r_aload_n rfl dX4_reckon_175 ?_
        refine r_getR foX4_18 hM.1 rfl dX4_reckon_176 ?_
        refine r_iload_n rfl dX4_reckon_179 ?_
        refine r_ild hM.2.2.2.1 rfl (by omega) (by decide) dX4_reckon_180 ?_
        rw [H.1 (M + 3) (by omega), (hh.2 l hlk).1.2.2.1]
        refine r_ist4 rfl (by decide) dX4_reckon_181 ?_
        refine r_aload_n rfl dX4_reckon_183 ?_
        refine r_getR foX4_27 hM.1 rfl dX4_reckon_184 ?_
        refine r_iload rfl dX4_reckon_187 ?_
        refine r_dup2 rfl rfl dX4_reckon_189 ?_
        refine r_ild hM.2.2.2.2.2.2 rfl (by omega) (by decide) dX4_reckon_190 ?_
        rw [H.2 _ hse]
        refine r_iconst (v := (2 : Int32)) (by decide) dX4_reckon_191 ?_
        refine r_aload_n rfl dX4_reckon_192 ?_
        refine r_getR foX4_58 hL.1 rfl dX4_reckon_193 ?_
        refine r_iload rfl dX4_reckon_196 ?_
        refine r_ild hL.2.2.2.1 rfl (by omega) (by decide) dX4_reckon_198 ?_
        rw [H.1 (L + 3) (by omega), hh.1 (L + 3) (by omega)]
        refine r_imul dX4_reckon_199 ?_
        refine r_aload_n rfl dX4_reckon_200 ?_
        refine r_getR foX4_21 hM.1 rfl dX4_reckon_201 ?_
        refine r_iload_n rfl dX4_reckon_204 ?_
        refine r_ild hM.2.2.2.2.1 rfl (by omega) (by decide) dX4_reckon_205 ?_
        rw [H.1 (M + 4) (by omega), (hh.2 l hlk).1.2.2.2]
        refine r_imul dX4_reckon_206 ?_
        refine r_iadd dX4_reckon_207 ?_
        refine r_ias hM.2.2.2.2.2.2 rfl (by omega) (by decide) dX4_reckon_208 ?_
        first | refine r_incN3 rfl (by decide) dX4_reckon_209 ?_ | refine r_incP3 rfl (by decide) dX4_reckon_209 ?_
        refine r_goto 167 dX4_reckon_212 (by decide) ?_
        refine ih (l + 1) _ _ (by omega) (by omega) ⟨fun q a => by rw [hset_ne a]; exact H.1 q a, fun j hj => ?_⟩
        rw [hset_same, gdF]
        by_cases e : j = sS (eH h L n) (h (P + 1)) l
        · subst e; rw [upd_eq, if_pos rfl]; rfl
        · rw [upd_ne e, if_neg (fun q => e q.symm)]; exact H.2 j hj
  have loop3 : ∀ (h1 : Hp), ((∀ q, ¬ (M < q ∧ q ≤ M + 6) → h1 q = h q) ∧ ∀ j, j < n → I4 M (eH h L n) (h (P + 1)) h1 j ∧ h1 (M + 5) j = takS (eH h L n) (h (P + 1)) j) → ∀ (m l : Nat) (h2 : Hp) (z : Option Value), l ≤ n → n < l + m → S1 (M + 6) l (fun j => bS (eH h L n) (h (P + 1)) j * bS (eH h L n) (h (P + 1)) j + 2 * takS (eH h L n) (h (P + 1)) j) h1 h2 → R g mX4_reckon 123 [some (.ref (ad g M)), some (.ref (ad g L)), some (.ref (ad g P)), some (.int (nI l)), z] [] h2 (Rv fun h' => (∀ q, ¬ (M < q ∧ q ≤ M + 6) → h' q = h q) ∧ ∀ j, j < n → I4 M (eH h L n) (h (P + 1)) h' j ∧ h' (M + 5) j = takS (eH h L n) (h (P + 1)) j ∧ h' (M + 6) j = goodS (eH h L n) (h (P + 1)) j) := by
    intro h1 hh m
    induction m with
    | zero => intro l h2 z a b; omega
    | succ m ih =>
      intro l h2 z a b H
      refine r_iload_n rfl dX4_reckon_123 ?_
      refine r_aload_n rfl dX4_reckon_124 ?_
      refine r_getI foX4_30 hL.1 rfl dX4_reckon_125 ?_
      refine r_icmp_ge 165 dX4_reckon_128 (by decide) (fun c_128 => ?_) (fun c_128 => ?_)
      · rw [H.1 L (by omega), hh.1 L (by omega), h0] at c_128
        have e : l = n := by have := ge_y (by omega) (by omega) c_128; omega
        subst e
        refine r_iconst (v := nI 0) (by decide) dX4_reckon_165 ?_
        refine r_ist3 rfl (by decide) dX4_reckon_166 ?_
        refine loop4 _ ⟨fun q a => by rw [H.1 q (by omega)]; exact hh.1 q a, fun j hj => ?_⟩ (l + 1) 0 _ _ (by omega) (by omega) ⟨fun q a => rfl, fun j hj => H.2.1 j hj⟩
        obtain ⟨⟨a1, a2, a3, a4⟩, a5⟩ := hh.2 j hj
        exact ⟨⟨by rw [H.1 _ (by omega)]; exact a1, by rw [H.1 _ (by omega)]; exact a2, by rw [H.1 _ (by omega)]; exact a3, by rw [H.1 _ (by omega)]; exact a4⟩, by rw [H.1 _ (by omega)]; exact a5⟩
      · rw [H.1 L (by omega), hh.1 L (by omega), h0] at c_128
        have hlk : l < n := ge_n (by omega) c_128
        refine r_aload_n rfl dX4_reckon_131 ?_
        refine r_getR foX4_27 hM.1 rfl dX4_reckon_132 ?_
        refine r_iload_n rfl dX4_reckon_135 ?_
        refine r_aload_n rfl dX4_reckon_136 ?_
        refine r_getR foX4_21 hM.1 rfl dX4_reckon_137 ?_
        refine r_iload_n rfl dX4_reckon_140 ?_
        refine r_ild hM.2.2.2.2.1 rfl (by omega) (by decide) dX4_reckon_141 ?_
        rw [H.1 (M + 4) (by omega), (hh.2 l hlk).1.2.2.2]
        refine r_aload_n rfl dX4_reckon_142 ?_
        refine r_getR foX4_21 hM.1 rfl dX4_reckon_143 ?_
        refine r_iload_n rfl dX4_reckon_146 ?_
        refine r_ild hM.2.2.2.2.1 rfl (by omega) (by decide) dX4_reckon_147 ?_
        rw [H.1 (M + 4) (by omega), (hh.2 l hlk).1.2.2.2]
        refine r_imul dX4_reckon_148 ?_
        refine r_iconst (v := (2 : Int32)) (by decide) dX4_reckon_149 ?_
        refine r_aload_n rfl dX4_reckon_150 ?_
        refine r_getR foX4_24 hM.1 rfl dX4_reckon_151 ?_
        refine r_iload_n rfl dX4_reckon_154 ?_
        refine r_ild hM.2.2.2.2.2.1 rfl (by omega) (by decide) dX4_reckon_155 ?_
        rw [H.1 (M + 5) (by omega), (hh.2 l hlk).2]
        refine r_imul dX4_reckon_156 ?_
        refine r_iadd dX4_reckon_157 ?_
        refine r_ias hM.2.2.2.2.2.2 rfl (by omega) (by decide) dX4_reckon_158 ?_
        first | refine r_incN3 rfl (by decide) dX4_reckon_159 ?_ | refine r_incP3 rfl (by decide) dX4_reckon_159 ?_
        refine r_goto 123 dX4_reckon_162 (by decide) ?_
        exact ih (l + 1) _ _ (by omega) (by omega) (S1_set H rfl)
  have loop2 : ¬ h L 2 = 0 → ∀ (h1 : Hp), I1 M n (eH h L n) (h (P + 1)) h h1 → ∀ (m u : Nat) (h2 : Hp) (z : Option Value), u ≤ mx c n → mx c n < u + m → I2 M n u c (eH h L n) (h (P + 1)) h1 h2 → R g mX4_reckon 100 [some (.ref (ad g M)), some (.ref (ad g L)), some (.ref (ad g P)), some (.int (nI u)), z] [] h2 (Rv fun h' => (∀ q, ¬ (M < q ∧ q ≤ M + 6) → h' q = h q) ∧ ∀ j, j < n → I4 M (eH h L n) (h (P + 1)) h' j ∧ h' (M + 5) j = takS (eH h L n) (h (P + 1)) j ∧ h' (M + 6) j = goodS (eH h L n) (h (P + 1)) j) := by
    intro hsh h1 H1 m
    have eH2 : ∀ {u : Nat} (h2 : Hp), I2 M n u c (eH h L n) (h (P + 1)) h1 h2 → eH h2 L n = (eH h L n) := fun h2 H => eH_keep (fun q a b => by rw [H.1 q (by omega)]; exact H1.1 q (by omega))
    have rH2 : ∀ {u : Nat} (h2 : Hp), I2 M n u c (eH h L n) (h (P + 1)) h1 h2 → h2 (P + 1) = h (P + 1) := fun h2 H => by rw [H.1 _ (by omega)]; exact H1.1 _ (by omega)
    induction m with
    | zero => intro u h2 z a b; omega
    | succ m ih =>
      intro u h2 z a b H
      refine r_iload_n rfl dX4_reckon_100 ?_
      refine r_aload_n rfl dX4_reckon_101 ?_
      refine r_getI foX4_52 hP.1 rfl dX4_reckon_102 ?_
      refine r_icmp_ge 121 dX4_reckon_105 (by decide) (fun c_105 => ?_) (fun c_105 => ?_)
      · rw [H.1 P (by omega), H1.1 P (by omega), hs.2.1] at c_105
        have e : u = mx c n := by have := ge_y (by omega) (by omega) c_105; omega
        refine r_iconst (v := nI 0) (by decide) dX4_reckon_121 ?_
        refine r_ist3 rfl (by decide) dX4_reckon_122 ?_
        refine loop3 _ ⟨fun q a => ?_, fun j hj => ?_⟩ (n + 1) 0 _ _ (by omega) (by omega) S1_0
        · rw [H.1 q (by omega)]; exact H1.1 q (by omega)
        · obtain ⟨⟨a1, a2, a3, a4⟩, a5⟩ := H1.2 j hj
          refine ⟨⟨by rw [H.1 _ (by omega)]; exact a1, by rw [H.1 _ (by omega)]; exact a2, by rw [H.1 _ (by omega)]; exact a3, by rw [H.1 _ (by omega)]; exact a4⟩, ?_⟩
          rw [H.2 j hj, if_pos (by rw [e]; exact mx_lt hj), takS, if_neg (show ¬ eSh (eH h L n) = 0 from hsh)]
      · rw [H.1 P (by omega), H1.1 P (by omega), hs.2.1] at c_105
        have hlk : u < mx c n := ge_n (by omega) c_105
        refine r_aload_n rfl dX4_reckon_108 ?_
        refine r_aload_n rfl dX4_reckon_109 ?_
        refine r_aload_n rfl dX4_reckon_110 ?_
        refine r_iload_n rfl dX4_reckon_111 ?_
        refine r_cV3v (T := TX4) (N := 6) moX4_shareOut lkX4_55 hM.1 rfl (Nat.le_of_ble_eq_true rfl) ⟨by decide, by decide⟩ (Nat.le_of_ble_eq_true rfl) dX4_reckon_112 rfl (c_shareOut (n := n) hM hL hP hML hMP hn (by rw [H.1 L (by omega), H1.1 L (by omega)]; exact h0) (by rw [eH2 _ H, rH2 _ H]; exact hpos u hlk)) (fun h1 q1 => ?_)
        rw [eH2 _ H, rH2 _ H] at q1
        first | refine r_incN3 rfl (by decide) dX4_reckon_115 ?_ | refine r_incP3 rfl (by decide) dX4_reckon_115 ?_
        refine r_goto 100 dX4_reckon_118 (by decide) ?_
        exact ih (u + 1) _ _ (by omega) (by omega) (I2_step rfl hs.2.2 (fun j hj => by have := hc.le hj; omega) (by omega) H q1.1 q1.2)
  have loop1 : ∀ (m l : Nat) (h1 : Hp) (z : Option Value), l ≤ n → n < l + m → I1 M l (eH h L n) (h (P + 1)) h h1 → R g mX4_reckon 2 [some (.ref (ad g M)), some (.ref (ad g L)), some (.ref (ad g P)), some (.int (nI l)), z] [] h1 (Rv fun h' => (∀ q, ¬ (M < q ∧ q ≤ M + 6) → h' q = h q) ∧ ∀ j, j < n → I4 M (eH h L n) (h (P + 1)) h' j ∧ h' (M + 5) j = takS (eH h L n) (h (P + 1)) j ∧ h' (M + 6) j = goodS (eH h L n) (h (P + 1)) j) := by
    intro m
    induction m with
    | zero => intro l h1 z a b; omega
    | succ m ih =>
      intro l h1 z a b H
      refine r_iload_n rfl dX4_reckon_2 ?_
      refine r_aload_n rfl dX4_reckon_3 ?_
      refine r_getI foX4_30 hL.1 rfl dX4_reckon_4 ?_
      refine r_icmp_ge 91 dX4_reckon_7 (by decide) (fun c_7 => ?_) (fun c_7 => ?_)
      · rw [H.1 L (by omega), h0] at c_7
        have e : l = n := by have := ge_y (by omega) (by omega) c_7; omega
        subst e
        refine r_aload_n rfl dX4_reckon_91 ?_
        refine r_getI foX4_49 hL.1 rfl dX4_reckon_92 ?_
        refine r_if_eq 121 dX4_reckon_95 (by decide) (fun c_95 => ?_) (fun c_95 => ?_)
        · refine r_iconst (v := nI 0) (by decide) dX4_reckon_121 ?_
          refine r_ist3 rfl (by decide) dX4_reckon_122 ?_
          refine loop3 _ ⟨fun q a => ?_, fun j hj => ?_⟩ (l + 1) 0 _ _ (by omega) (by omega) S1_0
          · exact H.1 q (by omega)
          · rw [H.1 L (by omega)] at c_95
            exact ⟨(H.2 j hj).1, by rw [(H.2 j hj).2, takS, if_pos (show eSh (eH h L l) = 0 from c_95)]⟩
        · rw [H.1 L (by omega)] at c_95
          refine r_iconst (v := nI 0) (by decide) dX4_reckon_98 ?_
          refine r_ist3 rfl (by decide) dX4_reckon_99 ?_
          exact loop2 c_95 _ H (7 + 1) 0 _ _ (by omega) (by omega) ⟨fun _ _ => rfl, fun j hj => by rw [if_neg (by omega)]; exact (H.2 j hj).2⟩
      · rw [H.1 L (by omega), h0] at c_7
        have hlk : l < n := ge_n (by omega) c_7
        refine r_aload_n rfl dX4_reckon_10 ?_
        refine r_getR foX4_9 hM.1 rfl dX4_reckon_11 ?_
        refine r_iload_n rfl dX4_reckon_14 ?_
        refine r_aload_n rfl dX4_reckon_15 ?_
        refine r_aload_n rfl dX4_reckon_16 ?_
        refine r_aload_n rfl dX4_reckon_17 ?_
        refine r_iload_n rfl dX4_reckon_18 ?_
        refine r_cV3i (T := TX4) (N := 6) moX4_wallAround lkX4_36 hM.1 rfl (Nat.le_of_ble_eq_true rfl) ⟨by decide, by decide⟩ (Nat.le_of_ble_eq_true rfl) dX4_reckon_19 rfl (c_wallAround hL hP hn (by rw [H.1 L (by omega)]; exact h0) hlk) (fun v1 h1 q1 => ?_)
        obtain ⟨e1, e2⟩ := q1
        rw [e1, e2]
        refine r_ias hM.2.1 rfl (by omega) (by decide) dX4_reckon_22 ?_
        refine r_aload_n rfl dX4_reckon_23 ?_
        refine r_aload_n rfl dX4_reckon_24 ?_
        refine r_aload_n rfl dX4_reckon_25 ?_
        refine r_iload_n rfl dX4_reckon_26 ?_
        refine r_cV3v (T := TX4) (N := 6) moX4_buy lkX4_40 hM.1 rfl (Nat.le_of_ble_eq_true rfl) ⟨by decide, by decide⟩ (Nat.le_of_ble_eq_true rfl) dX4_reckon_27 rfl (c_buy hM hL hP hML hn (by rw [hset_ne (by omega), H.1 L (by omega)]; exact h0) hlk) (fun h2 q2 => ?_)
        have H2 := I1_mid hML hMP H rfl q2
        have hse : sS (eH h L n) (h (P + 1)) l < n := sS_lt hlk
        refine r_aload_n rfl dX4_reckon_30 ?_
        refine r_getR foX4_44 hP.1 rfl dX4_reckon_31 ?_
        refine r_aload_n rfl dX4_reckon_34 ?_
        refine r_getR foX4_18 hM.1 rfl dX4_reckon_35 ?_
        refine r_iload_n rfl dX4_reckon_38 ?_
        refine r_ild hM.2.2.2.1 rfl (by omega) (by decide) dX4_reckon_39 ?_
        rw [H2.2.2.2.2.1]
        refine r_ild hP.2.1 rfl (by omega) (by decide) dX4_reckon_40 ?_
        rw [H2.1 (P + 1) (by omega)]
        refine r_aload_n rfl dX4_reckon_41 ?_
        refine r_getR foX4_44 hP.1 rfl dX4_reckon_42 ?_
        refine r_iload_n rfl dX4_reckon_45 ?_
        refine r_ild hP.2.1 rfl (by omega) (by decide) dX4_reckon_46 ?_
        rw [H2.1 (P + 1) (by omega)]
        refine r_icmp_eq 54 dX4_reckon_47 (by decide) (fun c_47 => ?_) (fun c_47 => ?_)
        · refine r_iconst (v := (0 : Int32)) (by decide) dX4_reckon_54 ?_
          refine r_ist4 rfl (by decide) dX4_reckon_55 ?_
          refine r_aload_n rfl dX4_reckon_57 ?_
          refine r_getR foX4_24 hM.1 rfl dX4_reckon_58 ?_
          refine r_iload_n rfl dX4_reckon_61 ?_
          refine r_iload rfl dX4_reckon_62 ?_
          refine r_if_eq 83 dX4_reckon_64 (by decide) (fun c_64 => ?_) (fun c_64 => ?_)
          · refine r_iconst (v := (0 : Int32)) (by decide) dX4_reckon_83 ?_
            refine r_ias hM.2.2.2.2.2.1 rfl (by omega) (by decide) dX4_reckon_84 ?_
            first | refine r_incN3 rfl (by decide) dX4_reckon_85 ?_ | refine r_incP3 rfl (by decide) dX4_reckon_85 ?_
            refine r_goto 2 dX4_reckon_88 (by decide) ?_
            first
              | exact absurd c_64 (by decide)
              | exact ih (l + 1) _ _ (by omega) (by omega) (I1_step H2 (by rw [tkO, if_pos c_47]))
              | exact ih (l + 1) _ _ (by omega) (by omega) (I1_step H2 (by rw [tkO, if_neg c_47]))
          · refine r_aload_n rfl dX4_reckon_67 ?_
            refine r_getR foX4_9 hM.1 rfl dX4_reckon_68 ?_
            refine r_iload_n rfl dX4_reckon_71 ?_
            refine r_ild hM.2.1 rfl (by omega) (by decide) dX4_reckon_72 ?_
            rw [H2.2.2.1]
            refine r_aload_n rfl dX4_reckon_73 ?_
            refine r_getR foX4_21 hM.1 rfl dX4_reckon_74 ?_
            refine r_iload_n rfl dX4_reckon_77 ?_
            refine r_ild hM.2.2.2.2.1 rfl (by omega) (by decide) dX4_reckon_78 ?_
            rw [H2.2.2.2.2.2]
            refine r_imul dX4_reckon_79 ?_
            refine r_goto 84 dX4_reckon_80 (by decide) ?_
            refine r_ias hM.2.2.2.2.2.1 rfl (by omega) (by decide) dX4_reckon_84 ?_
            first | refine r_incN3 rfl (by decide) dX4_reckon_85 ?_ | refine r_incP3 rfl (by decide) dX4_reckon_85 ?_
            refine r_goto 2 dX4_reckon_88 (by decide) ?_
            first
              | exact absurd c_64 (by decide)
              | exact ih (l + 1) _ _ (by omega) (by omega) (I1_step H2 (by rw [tkO, if_pos c_47]))
              | exact ih (l + 1) _ _ (by omega) (by omega) (I1_step H2 (by rw [tkO, if_neg c_47]))
        · refine r_iconst (v := (1 : Int32)) (by decide) dX4_reckon_50 ?_
          refine r_goto 55 dX4_reckon_51 (by decide) ?_
          refine r_ist4 rfl (by decide) dX4_reckon_55 ?_
          refine r_aload_n rfl dX4_reckon_57 ?_
          refine r_getR foX4_24 hM.1 rfl dX4_reckon_58 ?_
          refine r_iload_n rfl dX4_reckon_61 ?_
          refine r_iload rfl dX4_reckon_62 ?_
          refine r_if_eq 83 dX4_reckon_64 (by decide) (fun c_64 => ?_) (fun c_64 => ?_)
          · refine r_iconst (v := (0 : Int32)) (by decide) dX4_reckon_83 ?_
            refine r_ias hM.2.2.2.2.2.1 rfl (by omega) (by decide) dX4_reckon_84 ?_
            first | refine r_incN3 rfl (by decide) dX4_reckon_85 ?_ | refine r_incP3 rfl (by decide) dX4_reckon_85 ?_
            refine r_goto 2 dX4_reckon_88 (by decide) ?_
            first
              | exact absurd c_64 (by decide)
              | exact ih (l + 1) _ _ (by omega) (by omega) (I1_step H2 (by rw [tkO, if_pos c_47]))
              | exact ih (l + 1) _ _ (by omega) (by omega) (I1_step H2 (by rw [tkO, if_neg c_47]))
          · refine r_aload_n rfl dX4_reckon_67 ?_
            refine r_getR foX4_9 hM.1 rfl dX4_reckon_68 ?_
            refine r_iload_n rfl dX4_reckon_71 ?_
            refine r_ild hM.2.1 rfl (by omega) (by decide) dX4_reckon_72 ?_
            rw [H2.2.2.1]
            refine r_aload_n rfl dX4_reckon_73 ?_
            refine r_getR foX4_21 hM.1 rfl dX4_reckon_74 ?_
            refine r_iload_n rfl dX4_reckon_77 ?_
            refine r_ild hM.2.2.2.2.1 rfl (by omega) (by decide) dX4_reckon_78 ?_
            rw [H2.2.2.2.2.2]
            refine r_imul dX4_reckon_79 ?_
            refine r_goto 84 dX4_reckon_80 (by decide) ?_
            refine r_ias hM.2.2.2.2.2.1 rfl (by omega) (by decide) dX4_reckon_84 ?_
            first | refine r_incN3 rfl (by decide) dX4_reckon_85 ?_ | refine r_incP3 rfl (by decide) dX4_reckon_85 ?_
            refine r_goto 2 dX4_reckon_88 (by decide) ?_
            first
              | exact absurd c_64 (by decide)
              | exact ih (l + 1) _ _ (by omega) (by omega) (I1_step H2 (by rw [tkO, if_pos c_47]))
              | exact ih (l + 1) _ _ (by omega) (by omega) (I1_step H2 (by rw [tkO, if_neg c_47]))
  refine r_iconst (v := nI 0) (by decide) dX4_reckon_0 ?_
  refine r_ist3 rfl (by decide) dX4_reckon_1 ?_
  exact loop1 (n + 1) 0 _ _ (by omega) (by omega) ⟨fun _ _ => rfl, fun j hj => by omega⟩
end
section
/-! a parting's place among all: below 203, and no two partings have one place -/
def dW (r m : Nat) : Nat := way (r * 6 + m)
theorem dW_0 : ∀ m, m < 6 → dW 0 m = 1 := by decide
theorem dW_s : ∀ r, r < 5 → ∀ m, m < 6 → r + m ≤ 5 → dW (r + 1) m = m * dW r m + dW r (m + 1) := by decide
theorem dW_pos : ∀ r, r < 6 → ∀ m, m < 6 → 0 < dW r m := by decide
/-- what land l and those behind it add to the place -/
def sfx (n : Nat) (c : Nat → Nat) : Nat → Nat → Nat
  | 0, _ => 0
  | d + 1, l => c l * dW (n - 1 - l) (mx c l) + sfx n c d (l + 1)
theorem plc_sfx (n : Nat) (c : Nat → Nat) : ∀ d l, plc n c (l + d) = plc n c l + sfx n c d l := by
  intro d
  induction d with
  | zero => intro l; rfl
  | succ d ih =>
    intro l
    rw [show l + (d + 1) = (l + 1) + d by omega, ih (l + 1), plc, sfx, dW]
    omega
theorem sfx_lt {n : Nat} {c : Nat → Nat} (hn : n ≤ 6) (hc : Can n c) : ∀ d l, l + d = n → 0 < l → sfx n c d l < dW d (mx c l) := by
  intro d
  induction d with
  | zero =>
    intro l h1 h2
    have hm := mx_le hc l (by omega)
    by_cases q : mx c l < 6
    · exact dW_pos 0 (by omega) _ q
    · have : mx c l = 6 := by omega
      rw [this, sfx]
      decide
  | succ d ih =>
    intro l h1 h2
    have hm := mx_le hc l (by omega)
    have hl := hc l (by omega)
    have hm1 : 0 < mx c l := by have := mx_lt (c := c) h2; omega
    have h3 := ih (l + 1) (by omega) (by omega)
    rw [sfx, show n - 1 - l = d by omega, dW_s d (by omega) _ (by omega) (by omega)]
    rw [mx_can hc (by omega)] at h3
    by_cases e : c l = mx c l
    · rw [if_pos e] at h3
      rw [e]
      omega
    · rw [if_neg e] at h3
      have h4 : (c l + 1) * dW d (mx c l) ≤ mx c l * dW d (mx c l) := Nat.mul_le_mul_right _ (by omega)
      rw [Nat.add_mul, Nat.one_mul] at h4
      omega
theorem can0 {n : Nat} {c : Nat → Nat} (hc : Can n c) (h : 0 < n) : c 0 = 0 := by
  have := hc 0 h
  simp only [mx] at this
  omega
theorem plc_0 {n : Nat} {c : Nat → Nat} (hc : Can n c) : ∀ d, 1 + d = n → plc n c n = sfx n c d 1 := by
  intro d hd
  rw [← hd, plc_sfx (1 + d) c d 1, plc, plc, can0 hc (by omega)]
  omega
theorem dW_6 : ∀ d, d < 6 → dW d 1 ≤ 203 := by decide
theorem plc_lt {n : Nat} {c : Nat → Nat} (hn : n ≤ 6) (hc : Can n c) : plc n c n < 203 := by
  cases n with
  | zero => simp [plc]
  | succ d =>
    rw [plc_0 hc d (by omega)]
    have h1 := sfx_lt hn hc d 1 (by omega) (by omega)
    have h2 : mx c 1 = 1 := by simp only [mx, can0 hc (by omega)]; rfl
    rw [h2] at h1
    have := dW_6 d (by omega)
    omega
theorem sfx_inj {n : Nat} {c c' : Nat → Nat} (hn : n ≤ 6) (hc : Can n c) (hc' : Can n c') : ∀ d l, l + d = n → 0 < l → (∀ j, j < l → c j = c' j) → sfx n c d l = sfx n c' d l → ∀ j, j < n → c j = c' j := by
  intro d
  induction d with
  | zero => intro l h1 _ h _ j hj; exact h j (by omega)
  | succ d ih =>
    intro l h1 h2 h he
    have hm : mx c l = mx c' l := mx_congr h
    have hm1 := mx_le hc l (by omega)
    have hl := hc l (by omega)
    have hl' := hc' l (by omega)
    have s1 := sfx_lt hn hc d (l + 1) (by omega) (by omega)
    have s2 := sfx_lt hn hc' d (l + 1) (by omega) (by omega)
    rw [sfx, sfx, ← hm, show n - 1 - l = d by omega] at he
    have key : ∀ a b x y w : Nat, a < b → x < w → a * w + x = b * w + y → False := by
      intro a b x y w q1 q2 q3
      have : (a + 1) * w ≤ b * w := Nat.mul_le_mul_right _ q1
      rw [Nat.add_mul, Nat.one_mul] at this
      omega
    have hcl : c l = c' l := by
      rcases Nat.lt_trichotomy (c l) (c' l) with q | q | q
      · rw [mx_can hc (by omega), if_neg (by omega)] at s1
        exact (key _ _ _ _ _ q s1 he).elim
      · exact q
      · rw [mx_can hc' (by omega), if_neg (by omega), ← hm] at s2
        exact (key _ _ _ _ _ q s2 he.symm).elim
    refine ih (l + 1) (by omega) (by omega) (fun j hj => ?_) (by rw [hcl] at he; omega)
    by_cases e : j = l
    · subst e; exact hcl
    · exact h j (by omega)
theorem plc_inj {n : Nat} {c c' : Nat → Nat} (hn : n ≤ 6) (hc : Can n c) (hc' : Can n c') (he : plc n c n = plc n c' n) : ∀ j, j < n → c j = c' j := by
  cases n with
  | zero => intro j hj; omega
  | succ d =>
    rw [plc_0 hc d (by omega), plc_0 hc' d (by omega)] at he
    refine sfx_inj hn hc hc' d 1 (by omega) (by omega) (fun j hj => ?_) he
    have : j = 0 := by omega
    subst this
    rw [can0 hc (by omega), can0 hc' (by omega)]
theorem plc_congr {n : Nat} {c c' : Nat → Nat} (h : ∀ j, j < n → c j = c' j) : ∀ l, l ≤ n → plc n c l = plc n c' l := by
  intro l
  induction l with
  | zero => intro _; rfl
  | succ l ih => intro hl; rw [plc, plc, ih (by omega), h l (by omega), mx_congr (fun j hj => h j (by omega))]
end
section
/-! what a market reckons depends on which lands are together alone, and on the lands that are there -/
def Pat (n : Nat) (r r' : Nat → Int32) : Prop := ∀ i j, i < n → j < n → (r i = r j ↔ r' i = r' j)
def EcEq (E E' : Ec) : Prop := eN E = eN E' ∧ (∀ l, l < eN E → eW E l = eW E' l ∧ eC E l = eC E' l ∧ eG E l = eG E' l ∧ eT E l = eT E' l) ∧ eWa E = eWa E' ∧ eSh E = eSh E'
theorem EcEq.refl (E : Ec) : EcEq E E := ⟨rfl, fun _ _ => ⟨rfl, rfl, rfl, rfl⟩, rfl, rfl⟩
theorem EcEq.symm {E E' : Ec} (h : EcEq E E') : EcEq E' E := ⟨h.1.symm, fun l hl => by obtain ⟨a, b, c, d⟩ := h.2.1 l (by rw [h.1]; exact hl); exact ⟨a.symm, b.symm, c.symm, d.symm⟩, h.2.2.1.symm, h.2.2.2.symm⟩
theorem Pat.refl (n : Nat) (r : Nat → Int32) : Pat n r r := fun _ _ _ _ => Iff.rfl
theorem Pat.symm {n : Nat} {r r' : Nat → Int32} (h : Pat n r r') : Pat n r' r := fun i j a b => (h i j a b).symm
theorem Pat.trans {n : Nat} {r r' r'' : Nat → Int32} (h : Pat n r r') (k : Pat n r' r'') : Pat n r r'' := fun i j a b => (h i j a b).trans (k i j a b)
theorem Pat.of_eq {n : Nat} {r r' : Nat → Int32} (h : ∀ j, j < n → r j = r' j) : Pat n r r' := fun i j a b => by rw [h i a, h j b]
theorem mnF_pat {T T' r r' : Nat → Int32} {n k : Nat} {a : Int32} (hk : k < n) (hT : ∀ l, l < n → T l = T' l) (hp : Pat n r r') : ∀ l, l ≤ n → mnF T r k a l = mnF T' r' k a l := by
  intro l
  induction l with
  | zero => intro _; rfl
  | succ l ih =>
    intro hl
    rw [mnF, mnF, ih (by omega), hT l (by omega)]
    by_cases e : r l = r k
    · rw [if_pos e, if_pos ((hp l k (by omega) hk).mp e)]
    · rw [if_neg e, if_neg (fun q => e ((hp l k (by omega) hk).mpr q))]
theorem mxF_pat {T T' r r' : Nat → Int32} {n k : Nat} {a : Int32} (hk : k < n) (hT : ∀ l, l < n → T l = T' l) (hp : Pat n r r') : ∀ l, l ≤ n → mxF T r k a l = mxF T' r' k a l := by
  intro l
  induction l with
  | zero => intro _; rfl
  | succ l ih =>
    intro hl
    rw [mxF, mxF, ih (by omega), hT l (by omega)]
    by_cases e : r l = r k
    · rw [if_pos e, if_pos ((hp l k (by omega) hk).mp e)]
    · rw [if_neg e, if_neg (fun q => e ((hp l k (by omega) hk).mpr q))]
theorem smF_pat {T T' r r' : Nat → Int32} {n k : Nat} (hk : k < n) (hT : ∀ l, l < n → r l = r k → T l = T' l) (hp : Pat n r r') : ∀ l, l ≤ n → smF T r (r k) l = smF T' r' (r' k) l := by
  intro l
  induction l with
  | zero => intro _; rfl
  | succ l ih =>
    intro hl
    rw [smF, smF, ih (by omega)]
    by_cases e : r l = r k
    · rw [if_pos e, if_pos ((hp l k (by omega) hk).mp e), hT l (by omega) e]
    · rw [if_neg e, if_neg (fun q => e ((hp l k (by omega) hk).mpr q))]
theorem ctF_pat {r r' : Nat → Int32} {n k : Nat} (hk : k < n) (hp : Pat n r r') : ∀ l, l ≤ n → ctF r (r k) l = ctF r' (r' k) l := by
  intro l
  induction l with
  | zero => intro _; rfl
  | succ l ih =>
    intro hl
    rw [ctF, ctF, ih (by omega)]
    by_cases e : r l = r k
    · rw [if_pos e, if_pos ((hp l k (by omega) hk).mp e)]
    · rw [if_neg e, if_neg (fun q => e ((hp l k (by omega) hk).mpr q))]
theorem lfF_pat {r r' : Nat → Int32} {n k : Nat} {a : Int32} (hk : k < n) (hp : Pat n r r') : ∀ l, l ≤ n → lfF r (r k) a l = lfF r' (r' k) a l := by
  intro l
  induction l with
  | zero => intro _; rfl
  | succ l ih =>
    intro hl
    rw [lfF, lfF, ih (by omega)]
    by_cases e : r l = r k
    · rw [if_pos e, if_pos ((hp l k (by omega) hk).mp e)]
    · rw [if_neg e, if_neg (fun q => e ((hp l k (by omega) hk).mpr q))]
theorem byF_congr {f f' : Nat → Int32} {k : Nat} : ∀ {n : Nat}, (∀ l, l < n → f l = f' l) → byF f k n = byF f' k n := by
  intro n
  induction n with
  | zero => intro _; rfl
  | succ n ih => intro h; rw [byF, byF, ih (fun l hl => h l (by omega)), h n (by omega)]
section PAT
variable {E E' : Ec} {r r' : Nat → Int32} {k : Nat}
theorem wallS_pat (hE : EcEq E E') (hp : Pat (eN E) r r') (hk : k < eN E) : wallS E r k = wallS E' r' k := by
  obtain ⟨h1, h2, h3, h4⟩ := hE
  have hT : ∀ l, l < eN E → eT E l = eT E' l := fun l hl => (h2 l hl).2.2.2
  rw [wallS, wallS, ← h1, ← h3, ← hT k hk, mnF_pat hk hT hp _ (Nat.le_refl _), mxF_pat hk hT hp _ (Nat.le_refl _), smF_pat hk (fun l a _ => hT l a) hp _ (Nat.le_refl _), ctF_pat hk hp _ (Nat.le_refl _)]
theorem askS_pat (hE : EcEq E E') (hp : Pat (eN E) r r') (hk : k < eN E) {wa : Int32} {l : Nat} (hl : l < eN E) : askS E r k wa l = askS E' r' k wa l := by
  obtain ⟨h1, h2, h3, h4⟩ := hE
  rw [askS, askS, (h2 l hl).2.1, (h2 l hl).2.2.1]
  by_cases e : r l = r k
  · rw [if_pos e, if_pos ((hp l k hl hk).mp e)]
  · rw [if_neg e, if_neg (fun q => e ((hp l k hl hk).mpr q))]
theorem by_pat (hE : EcEq E E') (hp : Pat (eN E) r r') (hk : k < eN E) : byF (askS E r k (wallS E r k)) k (eN E) = byF (askS E' r' k (wallS E' r' k)) k (eN E') := by
  rw [← hE.1, ← wallS_pat hE hp hk]
  exact byF_congr (fun l hl => askS_pat hE hp hk hl)
theorem sS_pat (hE : EcEq E E') (hp : Pat (eN E) r r') (hk : k < eN E) : sS E r k = sS E' r' k := by
  rw [sS, sS, selS, selS, by_pat hE hp hk]
theorem pS_pat (hE : EcEq E E') (hp : Pat (eN E) r r') (hk : k < eN E) : pS E r k = pS E' r' k := by
  rw [pS, pS, priS, priS, by_pat hE hp hk]
theorem bS_pat (hE : EcEq E E') (hp : Pat (eN E) r r') (hk : k < eN E) : bS E r k = bS E' r' k := by
  have h := pS_pat hE hp hk
  rw [pS, pS] at h
  rw [bS, bS, bouS, bouS, h, (hE.2.1 k hk).1]
theorem tkO_pat (hE : EcEq E E') (hp : Pat (eN E) r r') (hk : k < eN E) : tkO E r k = tkO E' r' k := by
  have hs : sS E r k < eN E := sS_lt hk
  have h1 := hp (sS E r k) k hs hk
  rw [tkO, tkO, ← sS_pat hE hp hk, ← bS_pat hE hp hk, ← wallS_pat hE hp hk]
  by_cases e : r (sS E r k) = r k
  · rw [if_pos e, if_pos (h1.mp e)]
  · rw [if_neg e, if_neg (fun q => e (h1.mpr q))]
theorem shO_pat (hE : EcEq E E') (hp : Pat (eN E) r r') (hk : k < eN E) {tk tk' : Nat → Int32} (ht : ∀ l, l < eN E → tk l = tk' l) : shO E tk r (r k) k = shO E' tk' r' (r' k) k := by
  have hw : ∀ l, l < eN E → wtS E l = wtS E' l := fun l hl => by rw [wtS, wtS, ← hE.2.2.2, (hE.2.1 l hl).1]
  have e1 : smF tk r (r k) (eN E) = smF tk' r' (r' k) (eN E') := by rw [← hE.1]; exact smF_pat hk (fun l a _ => ht l a) hp _ (Nat.le_refl _)
  have e2 : smF (wtS E) r (r k) (eN E) = smF (wtS E') r' (r' k) (eN E') := by rw [← hE.1]; exact smF_pat hk (fun l a _ => hw l a) hp _ (Nat.le_refl _)
  have e3 : ∀ l, l < eN E → shQ E tk r (r k) l = shQ E' tk' r' (r' k) l := fun l hl => by rw [shQ, shQ, e1, e2, hw l hl]
  have e4 : shA E tk r (r k) = shA E' tk' r' (r' k) := by
    rw [shA, shA, e1, ← hE.1, smF_pat hk (fun l a _ => e3 l a) hp _ (Nat.le_refl _)]
  rw [shO, shO, if_pos rfl, if_pos rfl, e4, e3 k hk, lfF_pat hk hp k (by omega)]
theorem takS_pat (hE : EcEq E E') (hp : Pat (eN E) r r') (hk : k < eN E) : takS E r k = takS E' r' k := by
  rw [takS, takS, ← hE.2.2.2, tkO_pat hE hp hk, shO_pat hE hp hk (fun l hl => tkO_pat hE hp hl)]
theorem gdF_pat (hE : EcEq E E') (hp : Pat (eN E) r r') (hk : k < eN E) : ∀ l, l ≤ eN E → gdF E r k l = gdF E' r' k l := by
  intro l
  induction l with
  | zero => intro _; rw [gdF, gdF, bS_pat hE hp hk, takS_pat hE hp hk]
  | succ l ih => intro hl; rw [gdF, gdF, ih (by omega), sS_pat hE hp (show l < eN E by omega), (hE.2.1 k hk).2.2.1, bS_pat hE hp (show l < eN E by omega)]
theorem goodS_pat (hE : EcEq E E') (hp : Pat (eN E) r r') (hk : k < eN E) : goodS E r k = goodS E' r' k := by
  rw [goodS, goodS, ← hE.1]
  exact gdF_pat hE hp hk _ (Nat.le_refl _)
end PAT
end
section
def Bd (lo hi : Nat) (x : Int32) : Prop := ∃ a : Nat, x = nI a ∧ lo ≤ a ∧ a ≤ hi
def EOK (E : Ec) : Prop := eN E ≤ 6 ∧ (∀ l, l < eN E → Bd 1 99 (eW E l) ∧ Bd 1 99 (eC E l) ∧ Bd 0 20 (eG E l) ∧ Bd 0 60 (eT E l)) ∧ Bd 0 2 (eWa E) ∧ Bd 0 2 (eSh E)
theorem EOK.wt {E : Ec} (h : EOK E) {l : Nat} (hl : l < eN E) : Bd 1 99 (wtS E l) := by
  rw [wtS]
  split
  · exact ⟨1, by decide, by omega, by omega⟩
  · exact (h.2.1 l hl).1
theorem smF_bd {T r : Nat → Int32} {u : Int32} {n B : Nat} (hT : ∀ l, l < n → Bd 1 B (T l)) : ∀ l, l ≤ n → ∃ z, smF T r u l = nI z ∧ ctF r u l ≤ z ∧ z ≤ B * l := by
  intro l
  induction l with
  | zero => intro _; exact ⟨0, nI_0.symm, by simp [ctF], by omega⟩
  | succ l ih =>
    intro hl
    obtain ⟨z, h1, h2, h3⟩ := ih (by omega)
    obtain ⟨a, e, a1, a2⟩ := hT l (by omega)
    have hB : B * (l + 1) = B * l + B := by rw [Nat.mul_add, Nat.mul_one]
    rw [smF, ctF]
    by_cases q : r l = u
    · rw [if_pos q, if_pos q]
      exact ⟨z + a, by rw [h1, e, nI_add], by omega, by omega⟩
    · rw [if_neg q, if_neg q]
      exact ⟨z, h1, h2, by omega⟩
theorem smF_pos {T r : Nat → Int32} {u : Int32} {n k : Nat} (hn : n ≤ 6) (hT : ∀ l, l < n → Bd 1 99 (T l)) (hk : k < n) (hu : r k = u) : 0 < smF T r u n := by
  obtain ⟨z, h1, h2, h3⟩ := smF_bd (r := r) (u := u) hT n (Nat.le_refl _)
  have h4 := ctF_pos hu n hk
  rw [h1, ← nI_0]
  exact nI_lt (by omega) (by omega)
theorem EOK.pos {E : Ec} {c : Nat → Nat} {r : Nat → Int32} (h : EOK E) (hc : Can (eN E) c) (hr : ∀ j, j < eN E → r j = nI (c j)) : ∀ u, u < mx c (eN E) → 0 < smF (wtS E) r (nI u) (eN E) := by
  intro u hu
  obtain ⟨j, hj, e⟩ := mx_hit hc _ (Nat.le_refl _) u hu
  exact smF_pos h.1 (fun l hl => h.wt hl) hj (by rw [hr j hj, e])
def GoodAt (G : Nat) : Prop := shl[G]? = some (.inr (0, [some (G + 1), some (G + 6), some (G + 13), some (G + 14)])) ∧ LandAt (G + 1) ∧ MarkAt (G + 6) ∧ shl[G + 13]? = some (.inl 203) ∧ shl[G + 14]? = some (.inl 1218)
/-- the goods that are kept are right where they were reckoned at this version -/
def GC (h : Hp) (G n : Nat) : Prop := ∃ ver, h (G + 1) 3 = nI ver ∧ 0 < ver ∧ ver < 2 ^ 30 ∧ (∀ p, p < 203 → ∃ a, h (G + 13) p = nI a ∧ a ≤ ver) ∧ ∀ c, Can n c → h (G + 13) (plc n c n) = nI ver → ∀ l, l < n → h (G + 14) (plc n c n * 6 + l) = goodS (eH h (G + 1) n) (fun j => nI (c j)) l
/-- the goods of this parting are kept -/
def Kn (h : Hp) (G n : Nat) (c : Nat → Nat) : Prop := h (G + 13) (plc n c n) = h (G + 1) 3
theorem GC.val {h : Hp} {G n : Nat} {c : Nat → Nat} (H : GC h G n) (hc : Can n c) (k : Kn h G n c) {l : Nat} (hl : l < n) : h (G + 14) (plc n c n * 6 + l) = goodS (eH h (G + 1) n) (fun j => nI (c j)) l := by
  obtain ⟨ver, h1, h2, h3, h4, h5⟩ := H
  exact h5 c hc (by rw [← h1]; exact k) l hl
def KeepG (G : Nat) (h h' : Hp) : Prop := ∀ q, ¬ (G + 6 < q ∧ q ≤ G + 14) → h' q = h q
theorem KeepG.eH {G n : Nat} {h h' : Hp} (H : KeepG G h h') : eH h' (G + 1) n = eH h (G + 1) n := eH_keep (fun q a b => H q (by omega))
/-- rows copied so far -/
def C1 (G p l : Nat) (f : Nat → Int32) (h1 h2 : Hp) : Prop := KeepA (G + 14) h1 h2 ∧ (∀ j, j < l → h2 (G + 14) (p * 6 + j) = f j) ∧ ∀ i, (i < p * 6 ∨ p * 6 + l ≤ i) → h2 (G + 14) i = h1 (G + 14) i
theorem C1_step {G p l : Nat} {f : Nat → Int32} {h1 h2 : Hp} {x : Int32} (H : C1 G p l f h1 h2) (hx : x = f l) : C1 G p (l + 1) f h1 (hset h2 (G + 14) (p * 6 + l) x) := by
  refine ⟨fun q a => by rw [hset_ne a]; exact H.1 q a, fun j hj => ?_, fun i hi => ?_⟩
  · rw [hset_same]
    by_cases e : j = l
    · subst e; rw [upd_eq, hx]
    · rw [upd_ne (by omega)]; exact H.2.1 j (by omega)
  · rw [hset_same, upd_ne (by omega)]; exact H.2.2 i (by omega)
theorem GC_new {h h1 h2 : Hp} {G n p : Nat} {c : Nat → Nat} {r : Nat → Int32} (hn : n ≤ 6) (hc : Can n c) (hp : p = plc n c n) (hr : ∀ j, j < n → r j = nI (c j)) (H : GC h G n) (k1 : ∀ q, ¬ (G + 6 < q ∧ q ≤ G + 6 + 6) → h1 q = h q) (k2 : C1 G p n (goodS (eH h (G + 1) n) r) h1 h2) :
    KeepG G h (hset h2 (G + 13) p (h2 (G + 1) 3)) ∧ GC (hset h2 (G + 13) p (h2 (G + 1) 3)) G n ∧ Kn (hset h2 (G + 13) p (h2 (G + 1) 3)) G n c ∧ ∀ c', Can n c' → Kn h G n c' → Kn (hset h2 (G + 13) p (h2 (G + 1) 3)) G n c' := by
  subst hp
  have kG : KeepG G h (hset h2 (G + 13) (plc n c n) (h2 (G + 1) 3)) := fun q a => by rw [hset_ne (by omega), k2.1 q (by omega)]; exact k1 q (by omega)
  have hv : h2 (G + 1) 3 = h (G + 1) 3 := by rw [k2.1 _ (by omega), k1 _ (by omega)]
  have hpl := plc_lt hn hc
  have hra : ∀ p', ¬ p' = plc n c n → hset h2 (G + 13) (plc n c n) (h2 (G + 1) 3) (G + 13) p' = h (G + 13) p' := fun p' a => by rw [hset_same, upd_ne a, k2.1 _ (by omega), k1 _ (by omega)]
  have hrs : hset h2 (G + 13) (plc n c n) (h2 (G + 1) 3) (G + 13) (plc n c n) = h (G + 1) 3 := by rw [hset_same, upd_eq, hv]
  have hvv : hset h2 (G + 13) (plc n c n) (h2 (G + 1) 3) (G + 1) 3 = h (G + 1) 3 := by rw [hset_ne (by omega), hv]
  obtain ⟨ver, g1, g2, g3, g4, g5⟩ := H
  refine ⟨kG, ⟨ver, by rw [hvv, g1], g2, g3, fun p' hp' => ?_, fun c' hc' he l hl => ?_⟩, by rw [Kn, hrs, hvv], fun c' hc' k => ?_⟩
  · by_cases e : p' = plc n c n
    · subst e; rw [hrs]; exact ⟨ver, g1, Nat.le_refl _⟩
    · rw [hra p' e]; exact g4 p' hp'
  · rw [kG.eH, hset_ne (by omega)]
    by_cases e : plc n c' n = plc n c n
    · rw [e, k2.2.1 l hl]
      have hcc := plc_inj hn hc' hc e
      exact goodS_pat (EcEq.refl _) (Pat.of_eq (fun j hj => by rw [hr j hj, hcc j hj])) hl
    · rw [hra _ e] at he
      rw [k2.2.2 _ (by omega), k1 _ (by omega)]
      exact g5 c' hc' he l hl
  · rw [Kn, hvv]
    by_cases e : plc n c' n = plc n c n
    · rw [e, hrs]
    · rw [hra _ e]; exact k

set_option maxRecDepth 100000 in
set_option maxHeartbeats 4000000 in
theorem c_rowOf {g : GG} {G P n : Nat} {h : Hp} {c : Nat → Nat} (hG : GoodAt G) (hP : PartAt P) (hGP : G + 15 ≤ P ∨ P + 3 ≤ G) (hro : ROv g) (hn : n ≤ 6) (h0 : h (G + 1) 0 = nI n) (hE : EOK (eH h (G + 1) n)) (hc : Can n c) (hs : PS h P n c) (hgc : GC h G n) : R g mX0_rowOf 0 [some (.ref (ad g G)), some (.ref (ad g P)), none, none, none] [] h (Ri fun v h' => v = nI (plc n c n * 6) ∧ KeepG G h h' ∧ GC h' G n ∧ Kn h' G n c ∧ ∀ c', Can n c' → Kn h G n c' → Kn h' G n c') := by
  have hpl := plc_lt hn hc
  have loop : ∀ (h1 : Hp), ((∀ q, ¬ (G + 6 < q ∧ q ≤ G + 6 + 6) → h1 q = h q) ∧ ∀ j, j < n → I4 (G + 6) (eH h (G + 1) n) (h (P + 1)) h1 j ∧ h1 (G + 6 + 5) j = takS (eH h (G + 1) n) (h (P + 1)) j ∧ h1 (G + 6 + 6) j = goodS (eH h (G + 1) n) (h (P + 1)) j) → ∀ (m l : Nat) (h2 : Hp), l ≤ n → n < l + m → C1 G (plc n c n) l (goodS (eH h (G + 1) n) (h (P + 1))) h1 h2 → R g mX0_rowOf 41 [some (.ref (ad g G)), some (.ref (ad g P)), some (.int (nI (plc n c n))), some (.int (nI (plc n c n * 6))), some (.int (nI l))] [] h2 (Ri fun v h' => v = nI (plc n c n * 6) ∧ KeepG G h h' ∧ GC h' G n ∧ Kn h' G n c ∧ ∀ c', Can n c' → Kn h G n c' → Kn h' G n c') := by
    intro h1 q1 m
    induction m with
    | zero => intro l h2 a b; omega
    | succ m ih =>
      intro l h2 a b H
      refine r_iload rfl dX0_rowOf_41 ?_
      refine r_aload_n rfl dX0_rowOf_43 ?_
      refine r_getR foX0_12 hG.1 rfl dX0_rowOf_44 ?_
      refine r_getI foX0_46 hG.2.1.1 rfl dX0_rowOf_47 ?_
      refine r_icmp_ge 78 dX0_rowOf_50 (by decide) (fun c_50 => ?_) (fun c_50 => ?_)
      · rw [H.1 (G + 1) (by omega), q1.1 (G + 1) (by omega), h0] at c_50
        have e : l = n := by have := ge_y (by omega) (by omega) c_50; omega
        subst e
        refine r_aload_n rfl dX0_rowOf_78 ?_
        refine r_getR foX0_25 hG.1 rfl dX0_rowOf_79 ?_
        refine r_iload_n rfl dX0_rowOf_82 ?_
        refine r_aload_n rfl dX0_rowOf_83 ?_
        refine r_getR foX0_12 hG.1 rfl dX0_rowOf_84 ?_
        refine r_getI foX0_38 hG.2.1.1 rfl dX0_rowOf_87 ?_
        refine r_ias hG.2.2.2.1 rfl hpl (by decide) dX0_rowOf_90 ?_
        refine r_iload_n rfl dX0_rowOf_91 ?_
        refine ret_i dX0_rowOf_92 rfl ?_
        obtain ⟨a1, a2, a3, a4⟩ := GC_new hn hc rfl hs.2.2 hgc q1.1 H
        exact ⟨rfl, a1, a2, a3, a4⟩
      · rw [H.1 (G + 1) (by omega), q1.1 (G + 1) (by omega), h0] at c_50
        have hlk : l < n := ge_n (by omega) c_50
        refine r_aload_n rfl dX0_rowOf_53 ?_
        refine r_getR foX0_29 hG.1 rfl dX0_rowOf_54 ?_
        refine r_iload_n rfl dX0_rowOf_57 ?_
        refine r_iload rfl dX0_rowOf_58 ?_
        refine r_iadd dX0_rowOf_60 ?_
        rw [nI_add]
        refine r_aload_n rfl dX0_rowOf_61 ?_
        refine r_getR foX0_21 hG.1 rfl dX0_rowOf_62 ?_
        refine r_getR foX0_49 hG.2.2.1.1 rfl dX0_rowOf_65 ?_
        refine r_iload rfl dX0_rowOf_68 ?_
        refine r_ild hG.2.2.1.2.2.2.2.2.2 rfl (by omega) (by decide) dX0_rowOf_70 ?_
        rw [H.1 (G + 6 + 6) (by omega), (q1.2 l hlk).2.2]
        refine r_ias hG.2.2.2.2 rfl (by omega) (by decide) dX0_rowOf_71 ?_
        first | refine r_incN4 rfl (by decide) dX0_rowOf_72 ?_ | refine r_incP4 rfl (by decide) dX0_rowOf_72 ?_
        refine r_goto 41 dX0_rowOf_75 (by decide) ?_
        exact ih (l + 1) _ (by omega) (by omega) (C1_step H rfl)
  refine r_aload_n rfl dX0_rowOf_0 ?_
  refine r_cV0i (T := TX6) (N := 4) moX6_place lkX0_32 hP.1 rfl (Nat.le_of_ble_eq_true rfl) ⟨by decide, by decide⟩ (Nat.le_of_ble_eq_true rfl) dX0_rowOf_1 rfl (c_place hP hn hc hs hro) (fun v1 h1 q1 => ?_)
  obtain ⟨e1, e2⟩ := q1
  subst e2
  rw [e1]
  refine r_ist2 rfl (by decide) dX0_rowOf_4 ?_
  refine r_iload_n rfl dX0_rowOf_5 ?_
  refine r_bipush (v := (6 : Int32)) (by decide) dX0_rowOf_6 ?_
  refine r_imul dX0_rowOf_8 ?_
  rw [show (6 : Int32) = nI 6 by decide, nI_mul]
  refine r_ist3 rfl (by decide) dX0_rowOf_9 ?_
  refine r_aload_n rfl dX0_rowOf_10 ?_
  refine r_getR foX0_25 hG.1 rfl dX0_rowOf_11 ?_
  refine r_iload_n rfl dX0_rowOf_14 ?_
  refine r_ild hG.2.2.2.1 rfl hpl (by decide) dX0_rowOf_15 ?_
  refine r_aload_n rfl dX0_rowOf_16 ?_
  refine r_getR foX0_12 hG.1 rfl dX0_rowOf_17 ?_
  refine r_getI foX0_38 hG.2.1.1 rfl dX0_rowOf_20 ?_
  refine r_icmp_eq 91 dX0_rowOf_23 (by decide) (fun c_23 => ?_) (fun c_23 => ?_)
  · refine r_iload_n rfl dX0_rowOf_91 ?_
    refine ret_i dX0_rowOf_92 rfl ?_
    exact ⟨rfl, fun _ _ => rfl, hgc, c_23, fun _ _ k => k⟩
  · refine r_aload_n rfl dX0_rowOf_26 ?_
    refine r_getR foX0_21 hG.1 rfl dX0_rowOf_27 ?_
    refine r_aload_n rfl dX0_rowOf_30 ?_
    refine r_getR foX0_12 hG.1 rfl dX0_rowOf_31 ?_
    refine r_aload_n rfl dX0_rowOf_34 ?_
    refine r_cV2v (T := TX4) (N := 6) moX4_reckon lkX0_42 hG.2.2.1.1 rfl (Nat.le_of_ble_eq_true rfl) ⟨by decide, by decide⟩ (Nat.le_of_ble_eq_true rfl) dX0_rowOf_35 rfl (c_reckon (n := n) (c := c) hG.2.2.1 hG.2.1 hP (Or.inr (by omega)) (by omega) hn h0 hc hs (hE.pos hc hs.2.2)) (fun h2 q2 => ?_)
    refine r_iconst (v := nI 0) (by decide) dX0_rowOf_38 ?_
    refine r_ist4 rfl (by decide) dX0_rowOf_39 ?_
    exact loop _ q2 (n + 1) 0 _ (by omega) (by omega) ⟨fun _ _ => rfl, fun j hj => by omega, fun _ _ => rfl⟩

set_option maxRecDepth 100000 in
set_option maxHeartbeats 4000000 in
theorem c_at {g : GG} {G p l : Nat} {h : Hp} (hG : GoodAt G) (hp : p < 203) (hl : l < 6) : R g mX0_at 0 [some (.ref (ad g G)), some (.int (nI (p * 6))), some (.int (nI l))] [] h (Ri fun v h' => h' = h ∧ v = h (G + 14) (p * 6 + l)) := by
  refine r_aload_n rfl dX0_at_0 ?_
  refine r_getR foX0_29 hG.1 rfl dX0_at_1 ?_
  refine r_iload_n rfl dX0_at_4 ?_
  refine r_iload_n rfl dX0_at_5 ?_
  refine r_iadd dX0_at_6 ?_
  rw [nI_add]
  refine r_ild hG.2.2.2.2 rfl (by omega) (by decide) dX0_at_7 ?_
  refine ret_i dX0_at_8 rfl ?_
  exact ⟨rfl, rfl⟩
end
section
def JudgeAt (J G : Nat) : Prop := shl[J]? = some (.inr (2, [some G, some (G + 1), some (G + 15)])) ∧ GoodAt G ∧ PartAt (G + 15)
def JI (g : GG) (h : Hp) (G n : Nat) : Prop := ROv g ∧ n ≤ 6 ∧ h (G + 1) 0 = nI n ∧ EOK (eH h (G + 1) n) ∧ GC h G n
abbrev lab (c : Nat → Nat) : Nat → Int32 := fun j => nI (c j)
theorem GC.keep {h h' : Hp} {G n : Nat} (H : GC h G n) (hk : ∀ q, G ≤ q → q < G + 15 → h' q = h q) : GC h' G n := by
  obtain ⟨ver, g1, g2, g3, g4, g5⟩ := H
  have e := eH_keep (h := h) (h1 := h') (L := G + 1) (n := n) (fun q a b => hk q (by omega) (by omega))
  refine ⟨ver, by rw [hk (G + 1) (by omega) (by omega)]; exact g1, g2, g3, fun p hp => by rw [hk (G + 13) (by omega) (by omega)]; exact g4 p hp, fun c hc he l hl => ?_⟩
  rw [hk (G + 13) (by omega) (by omega)] at he
  rw [hk (G + 14) (by omega) (by omega), e]
  exact g5 c hc he l hl
theorem JI.keep {g : GG} {h h' : Hp} {G n : Nat} (j : JI g h G n) (hk : ∀ q, G ≤ q → q < G + 15 → h' q = h q) : JI g h' G n := by
  obtain ⟨a, b, c, d, e⟩ := j
  exact ⟨a, b, by rw [hk _ (by omega) (by omega)]; exact c, by rw [eH_keep (h := h) (fun q a b => hk q (by omega) (by omega))]; exact d, e.keep hk⟩
theorem JI.row {g : GG} {h h' : Hp} {G n : Nat} (j : JI g h G n) (hk : KeepG G h h') (hg : GC h' G n) : JI g h' G n := by
  obtain ⟨a, b, c, d, e⟩ := j
  exact ⟨a, b, by rw [hk _ (by omega)]; exact c, by rw [hk.eH]; exact d, hg⟩
theorem PS.keep {h h' : Hp} {P n : Nat} {c : Nat → Nat} (s : PS h P n c) (hk : ∀ q, P ≤ q → q < P + 2 → h' q = h q) : PS h' P n c := by
  obtain ⟨a, b, d⟩ := s
  exact ⟨by rw [hk P (by omega) (by omega)]; exact a, by rw [hk P (by omega) (by omega)]; exact b, fun l hl => by rw [hk (P + 1) (by omega) (by omega)]; exact d l hl⟩
theorem good_can {E : Ec} {r : Nat → Int32} {c : Nat → Nat} {l : Nat} (hn : eN E ≤ 6) (h : CanOf (eN E) r c) (hl : l < eN E) : goodS E (lab c) l = goodS E r l :=
  goodS_pat (EcEq.refl E) (fun i j a b => by rw [← h.2 i j a b]; exact nI_eq (by have := h.1.le a; omega) (by have := h.1.le b; omega)) hl
theorem good_canH {h : Hp} {L n : Nat} {r : Nat → Int32} {c : Nat → Nat} {l : Nat} (hn : n ≤ 6) (hc : CanOf n r c) (hl : l < n) : goodS (eH h L n) (lab c) l = goodS (eH h L n) r l := good_can (E := eH h L n) hn hc hl
def KeepJ (G : Nat) (h h' : Hp) : Prop := ∀ q, ¬ (G + 6 < q ∧ q ≤ G + 17) → h' q = h q
theorem KeepJ.refl {G : Nat} {h : Hp} : KeepJ G h h := fun _ _ => rfl
theorem KeepJ.trans {G : Nat} {h h1 h2 : Hp} (a : KeepJ G h h1) (b : KeepJ G h1 h2) : KeepJ G h h2 := fun q x => (b q x).trans (a q x)
theorem KeepJ.eH {G n : Nat} {h h' : Hp} (H : KeepJ G h h') : eH h' (G + 1) n = eH h (G + 1) n := eH_keep (fun q a b => H q (by omega))
theorem KeepJ.PS {G P n : Nat} {h h' : Hp} {c : Nat → Nat} (H : KeepJ G h h') (hd : G + 18 ≤ P ∨ P + 3 ≤ G) (s : PS h P n c) : PS h' P n c := s.keep (fun q a b => H q (by omega))
theorem KeepJ.JI {g : GG} {G n : Nat} {h h' : Hp} (H : KeepJ G h h') (j : JI g h G n) (k : GC h' G n) : JI g h' G n := ⟨j.1, j.2.1, by rw [H _ (by omega)]; exact j.2.2.1, by rw [H.eH]; exact j.2.2.2.1, k⟩
/-! goods behind a leaving, a going, a gathering -/
def gLv (E : Ec) (r : Nat → Int32) (k : Nat) : Int32 := goodS E (upd r k (-1)) k - goodS E r k
abbrev nLess (E : Ec) (r : Nat → Int32) (k : Nat) (u : Int32) : Prop := ∀ l, l < eN E → r l = u → goodS E r l ≤ goodS E (upd r k u) l
def gJ (E : Ec) (r : Nat → Int32) (k : Nat) (u : Int32) : Int32 := if nLess E r k u then goodS E (upd r k u) k - goodS E r k else 0
abbrev gath (r : Nat → Int32) (s : Int32) : Nat → Int32 := fun j => if bt s j then -1 else r j
abbrev allG (E : Ec) (r : Nat → Int32) (s : Int32) : Prop := ∀ l, l < eN E → bt s l → goodS E r l < goodS E (gath r s) l

theorem upd_lab {f : Nat → Int32} {c : Nat → Nat} {n k i : Nat} {x : Int32} (h : ∀ l, l < n → f l = nI (c l)) (hi : i < n) : upd f k x i = upd (lab c) k x i := by
  by_cases e : i = k
  · subst e; rw [upd_eq, upd_eq]
  · rw [upd_ne e, upd_ne e]; exact h i hi
theorem gath_lab {f : Nat → Int32} {c : Nat → Nat} {n i : Nat} {s : Int32} (h : ∀ l, l < n → f l = nI (c l)) (hi : i < n) : (if bt s i then -1 else f i) = gath (lab c) s i := by
  show _ = if bt s i then -1 else nI (c i)
  rw [h i hi]

set_option maxRecDepth 100000 in
set_option maxHeartbeats 4000000 in
theorem c_gainByLeaving {g : GG} {J G P n k : Nat} {h : Hp} {c : Nat → Nat} (hJ : JudgeAt J G) (hP : PartAt P) (hd : G + 18 ≤ P ∨ P + 3 ≤ G) (j : JI g h G n) (hc : Can n c) (hs : PS h P n c) (hk : k < n) : R g mX2_gainByLeaving 0 [some (.ref (ad g J)), some (.ref (ad g P)), some (.int (nI k))] [] h (Ri fun v h' => v = gLv (eH h (G + 1) n) (lab c) k ∧ KeepJ G h h' ∧ GC h' G n) := by
  refine r_aload_n rfl dX2_gainByLeaving_0 ?_
  refine r_getR foX2_26 hJ.1 rfl dX2_gainByLeaving_1 ?_
  refine r_aload_n rfl dX2_gainByLeaving_4 ?_
  refine r_cV1v (T := TX6) (N := 4) moX6_copy lkX2_30 hJ.2.2.1 rfl (Nat.le_of_ble_eq_true rfl) ⟨by decide, by decide⟩ (Nat.le_of_ble_eq_true rfl) dX2_gainByLeaving_5 rfl (c_copyP (n := n) (c := c) hJ.2.2 hP (by omega) j.2.1 hs) (fun h1 q1 => ?_)
  obtain ⟨k1, s1⟩ := q1
  refine r_aload_n rfl dX2_gainByLeaving_8 ?_
  refine r_getR foX2_26 hJ.1 rfl dX2_gainByLeaving_9 ?_
  refine r_iload_n rfl dX2_gainByLeaving_12 ?_
  refine r_cV1v (T := TX6) (N := 4) moX6_leave lkX2_34 hJ.2.2.1 rfl (Nat.le_of_ble_eq_true rfl) ⟨by decide, by decide⟩ (Nat.le_of_ble_eq_true rfl) dX2_gainByLeaving_13 rfl (c_leave (n := n) hJ.2.2 j.2.1 (by have := j.2.1; omega) s1.1) (fun h2 q2 => ?_)
  obtain ⟨k2, c2, hc2, s2⟩ := q2
  have hc2 : CanOf n (upd (lab c) k (-1)) c2 := hc2.congr (fun i hi => upd_lab s1.2.2 hi)
  have j2 : JI g h2 G n := j.keep (fun q a b => by rw [k2 q (by omega) (by omega) (by omega), k1 q (by omega) (by omega) (by omega)])
  have sp : PS h2 P n c := hs.keep (fun q a b => by rw [k2 q (by omega) (by omega) (by omega), k1 q (by omega) (by omega) (by omega)])
  refine r_aload_n rfl dX2_gainByLeaving_16 ?_
  refine r_getR foX2_12 hJ.1 rfl dX2_gainByLeaving_17 ?_
  refine r_aload_n rfl dX2_gainByLeaving_20 ?_
  refine r_getR foX2_12 hJ.1 rfl dX2_gainByLeaving_21 ?_
  refine r_aload_n rfl dX2_gainByLeaving_24 ?_
  refine r_getR foX2_26 hJ.1 rfl dX2_gainByLeaving_25 ?_
  refine r_cV1i (T := TX0) (N := 4) moX0_rowOf lkX2_38 hJ.2.1.1 rfl (Nat.le_of_ble_eq_true rfl) ⟨by decide, by decide⟩ (Nat.le_of_ble_eq_true rfl) dX2_gainByLeaving_28 rfl (c_rowOf hJ.2.1 hJ.2.2 (Or.inl (by omega)) j2.1 j2.2.1 j2.2.2.1 j2.2.2.2.1 hc2.1 s2 j2.2.2.2.2) (fun v3 h3 q3 => ?_)
  obtain ⟨e3, k3, g3, n3, m3⟩ := q3
  subst e3
  have j3 := j2.row k3 g3
  have sp3 : PS h3 P n c := sp.keep (fun q a b => k3 q (by omega))
  refine r_iload_n rfl dX2_gainByLeaving_31 ?_
  refine r_cV2i (T := TX0) (N := 4) moX0_at lkX2_42 hJ.2.1.1 rfl (Nat.le_of_ble_eq_true rfl) ⟨by decide, by decide⟩ (Nat.le_of_ble_eq_true rfl) dX2_gainByLeaving_32 rfl (c_at hJ.2.1 (plc_lt j.2.1 hc2.1) (by have := j.2.1; omega)) (fun v4 h4 q4 => ?_)
  obtain ⟨e4, f4⟩ := q4
  rw [e4, f4, g3.val hc2.1 n3 hk]
  refine r_aload_n rfl dX2_gainByLeaving_35 ?_
  refine r_getR foX2_12 hJ.1 rfl dX2_gainByLeaving_36 ?_
  refine r_aload_n rfl dX2_gainByLeaving_39 ?_
  refine r_getR foX2_12 hJ.1 rfl dX2_gainByLeaving_40 ?_
  refine r_aload_n rfl dX2_gainByLeaving_43 ?_
  refine r_cV1i (T := TX0) (N := 4) moX0_rowOf lkX2_38 hJ.2.1.1 rfl (Nat.le_of_ble_eq_true rfl) ⟨by decide, by decide⟩ (Nat.le_of_ble_eq_true rfl) dX2_gainByLeaving_44 rfl (c_rowOf hJ.2.1 hP (by omega) j3.1 j3.2.1 j3.2.2.1 j3.2.2.2.1 hc sp3 j3.2.2.2.2) (fun v5 h5 q5 => ?_)
  obtain ⟨e5, k5, g5, n5, m5⟩ := q5
  subst e5
  refine r_iload_n rfl dX2_gainByLeaving_47 ?_
  refine r_cV2i (T := TX0) (N := 4) moX0_at lkX2_42 hJ.2.1.1 rfl (Nat.le_of_ble_eq_true rfl) ⟨by decide, by decide⟩ (Nat.le_of_ble_eq_true rfl) dX2_gainByLeaving_48 rfl (c_at hJ.2.1 (plc_lt j.2.1 hc) (by have := j.2.1; omega)) (fun v6 h6 q6 => ?_)
  obtain ⟨e6, f6⟩ := q6
  rw [e6, f6, g5.val hc n5 hk]
  refine r_isub dX2_gainByLeaving_51 ?_
  refine ret_i dX2_gainByLeaving_52 rfl ?_
  have eE3 : eH h3 (G + 1) n = eH h (G + 1) n := eH_keep (fun q a b => by rw [k3 q (by omega), k2 q (by omega) (by omega) (by omega), k1 q (by omega) (by omega) (by omega)])
  have eE5 : eH h5 (G + 1) n = eH h (G + 1) n := by rw [k5.eH, eE3]
  refine ⟨?_, fun q a => ?_, g5⟩
  · rw [eE3, eE5, gLv, good_canH j.2.1 hc2 hk]
  · rw [k5 q (by omega), k3 q (by omega), k2 q (by omega) (by omega) (by omega), k1 q (by omega) (by omega) (by omega)]

set_option maxRecDepth 100000 in
set_option maxHeartbeats 4000000 in
theorem c_goodGathered {g : GG} {J G P n k : Nat} {s : Int32} {h : Hp} {c : Nat → Nat} (hJ : JudgeAt J G) (hP : PartAt P) (hd : G + 18 ≤ P ∨ P + 3 ≤ G) (j : JI g h G n) (hc : Can n c) (hs : PS h P n c) (hk : k < n) : R g mX2_goodGathered 0 [some (.ref (ad g J)), some (.ref (ad g P)), some (.int s), some (.int (nI k))] [] h (Ri fun v h' => v = goodS (eH h (G + 1) n) (gath (lab c) s) k ∧ KeepJ G h h' ∧ GC h' G n) := by
  refine r_aload_n rfl dX2_goodGathered_0 ?_
  refine r_getR foX2_26 hJ.1 rfl dX2_goodGathered_1 ?_
  refine r_aload_n rfl dX2_goodGathered_4 ?_
  refine r_cV1v (T := TX6) (N := 4) moX6_copy lkX2_30 hJ.2.2.1 rfl (Nat.le_of_ble_eq_true rfl) ⟨by decide, by decide⟩ (Nat.le_of_ble_eq_true rfl) dX2_goodGathered_5 rfl (c_copyP (n := n) (c := c) hJ.2.2 hP (by omega) j.2.1 hs) (fun h1 q1 => ?_)
  obtain ⟨k1, s1⟩ := q1
  refine r_aload_n rfl dX2_goodGathered_8 ?_
  refine r_getR foX2_26 hJ.1 rfl dX2_goodGathered_9 ?_
  refine r_iload_n rfl dX2_goodGathered_12 ?_
  refine r_cV1v (T := TX6) (N := 4) moX6_gather lkX2_60 hJ.2.2.1 rfl (Nat.le_of_ble_eq_true rfl) ⟨by decide, by decide⟩ (Nat.le_of_ble_eq_true rfl) dX2_goodGathered_13 rfl (c_gather (n := n) (s := s) hJ.2.2 j.2.1 s1.1) (fun h2 q2 => ?_)
  obtain ⟨k2, c2, hc2, s2⟩ := q2
  have hc2 : CanOf n (gath (lab c) s) c2 := hc2.congr (fun i hi => gath_lab s1.2.2 hi)
  have j2 : JI g h2 G n := j.keep (fun q a b => by rw [k2 q (by omega) (by omega) (by omega), k1 q (by omega) (by omega) (by omega)])
  have sp : PS h2 P n c := hs.keep (fun q a b => by rw [k2 q (by omega) (by omega) (by omega), k1 q (by omega) (by omega) (by omega)])
  refine r_aload_n rfl dX2_goodGathered_16 ?_
  refine r_getR foX2_12 hJ.1 rfl dX2_goodGathered_17 ?_
  refine r_aload_n rfl dX2_goodGathered_20 ?_
  refine r_getR foX2_12 hJ.1 rfl dX2_goodGathered_21 ?_
  refine r_aload_n rfl dX2_goodGathered_24 ?_
  refine r_getR foX2_26 hJ.1 rfl dX2_goodGathered_25 ?_
  refine r_cV1i (T := TX0) (N := 4) moX0_rowOf lkX2_38 hJ.2.1.1 rfl (Nat.le_of_ble_eq_true rfl) ⟨by decide, by decide⟩ (Nat.le_of_ble_eq_true rfl) dX2_goodGathered_28 rfl (c_rowOf hJ.2.1 hJ.2.2 (Or.inl (by omega)) j2.1 j2.2.1 j2.2.2.1 j2.2.2.2.1 hc2.1 s2 j2.2.2.2.2) (fun v3 h3 q3 => ?_)
  obtain ⟨e3, k3, g3, n3, m3⟩ := q3
  subst e3
  refine r_iload_n rfl dX2_goodGathered_31 ?_
  refine r_cV2i (T := TX0) (N := 4) moX0_at lkX2_42 hJ.2.1.1 rfl (Nat.le_of_ble_eq_true rfl) ⟨by decide, by decide⟩ (Nat.le_of_ble_eq_true rfl) dX2_goodGathered_32 rfl (c_at hJ.2.1 (plc_lt j.2.1 hc2.1) (by have := j.2.1; omega)) (fun v4 h4 q4 => ?_)
  obtain ⟨e4, f4⟩ := q4
  rw [e4, f4, g3.val hc2.1 n3 hk]
  refine ret_i dX2_goodGathered_35 rfl ?_
  have eE3 : eH h3 (G + 1) n = eH h (G + 1) n := eH_keep (fun q a b => by rw [k3 q (by omega), k2 q (by omega) (by omega) (by omega), k1 q (by omega) (by omega) (by omega)])
  refine ⟨?_, fun q a => ?_, g3⟩
  · rw [eE3, good_canH j.2.1 hc2 hk]
  · rw [k3 q (by omega), k2 q (by omega) (by omega) (by omega), k1 q (by omega) (by omega) (by omega)]

set_option maxRecDepth 100000 in
set_option maxHeartbeats 4000000 in
theorem c_wouldAllGain {g : GG} {J G P n : Nat} {s : Int32} {h : Hp} {c : Nat → Nat} (hJ : JudgeAt J G) (hP : PartAt P) (hd : G + 18 ≤ P ∨ P + 3 ≤ G) (j : JI g h G n) (hc : Can n c) (hs : PS h P n c) : R g mX2_wouldAllGain 0 [some (.ref (ad g J)), some (.ref (ad g P)), some (.int s), none, none, none] [] h (Ri fun v h' => v = (if allG (eH h (G + 1) n) (lab c) s then 1 else 0) ∧ KeepJ G h h' ∧ GC h' G n) := by
  have loop : ∀ (h5 : Hp) (c2 : Nat → Nat), CanOf n (gath (lab c) s) c2 → KeepJ G h h5 → GC h5 G n → Kn h5 G n c → Kn h5 G n c2 → ∀ (m l : Nat), l ≤ n → n < l + m → (∀ i, i < l → bt s i → goodS (eH h (G + 1) n) (lab c) i < goodS (eH h (G + 1) n) (gath (lab c) s) i) → R g mX2_wouldAllGain 41 [some (.ref (ad g J)), some (.ref (ad g P)), some (.int s), some (.int (nI (plc n c n * 6))), some (.int (nI (plc n c2 n * 6))), some (.int (nI l))] [] h5 (Ri fun v h' => v = (if allG (eH h (G + 1) n) (lab c) s then 1 else 0) ∧ KeepJ G h h' ∧ GC h' G n) := by
    intro h5 c2 hc2 k5 g5 m5 n5 m
    have hn6 := j.2.1
    induction m with
    | zero => intro l a b; omega
    | succ m ih =>
      intro l a b hinv
      refine r_iload rfl dX2_wouldAllGain_41 ?_
      refine r_aload_n rfl dX2_wouldAllGain_43 ?_
      refine r_getR foX2_22 hJ.1 rfl dX2_wouldAllGain_44 ?_
      refine r_getI foX2_50 hJ.2.1.2.1.1 rfl dX2_wouldAllGain_47 ?_
      refine r_icmp_ge 95 dX2_wouldAllGain_50 (by decide) (fun c_50 => ?_) (fun c_50 => ?_)
      · refine r_iconst (v := (1 : Int32)) (by decide) dX2_wouldAllGain_95 ?_
        refine ret_z dX2_wouldAllGain_96 rfl (by decide) ?_
        rw [k5 (G + 1) (by omega), j.2.2.1] at c_50
        have e : l = n := by have := ge_y (by have := j.2.1; omega) (by have := j.2.1; omega) c_50; omega
        subst e
        exact ⟨(if_pos hinv).symm, k5, g5⟩
      · rw [k5 (G + 1) (by omega), j.2.2.1] at c_50
        have hlk : l < n := ge_n (by have := j.2.1; omega) c_50
        refine r_iload_n rfl dX2_wouldAllGain_53 ?_
        refine r_iload rfl dX2_wouldAllGain_54 ?_
        refine r_ishr dX2_wouldAllGain_56 ?_
        refine r_iconst (v := (1 : Int32)) (by decide) dX2_wouldAllGain_57 ?_
        refine r_iand dX2_wouldAllGain_58 ?_
        refine r_iconst (v := (1 : Int32)) (by decide) dX2_wouldAllGain_59 ?_
        refine r_icmp_ne 89 dX2_wouldAllGain_60 (by decide) (fun c_60 => ?_) (fun c_60 => ?_)
        · first | refine r_incN5 rfl (by decide) dX2_wouldAllGain_89 ?_ | refine r_incP5 rfl (by decide) dX2_wouldAllGain_89 ?_
          refine r_goto 41 dX2_wouldAllGain_92 (by decide) ?_
          refine ih (l + 1) (by omega) (by omega) (fun i hi => ?_)
          by_cases e : i = l
          · subst e
            first
              | (rw [k5.eH, good_canH j.2.1 hc2 hlk] at c_84; exact fun _ => c_84)
              | exact fun q => absurd q c_60
          · exact hinv i (by omega)
        · refine r_aload_n rfl dX2_wouldAllGain_63 ?_
          refine r_getR foX2_12 hJ.1 rfl dX2_wouldAllGain_64 ?_
          refine r_iload rfl dX2_wouldAllGain_67 ?_
          refine r_iload rfl dX2_wouldAllGain_69 ?_
          refine r_cV2i (T := TX0) (N := 4) moX0_at lkX2_42 hJ.2.1.1 rfl (Nat.le_of_ble_eq_true rfl) ⟨by decide, by decide⟩ (Nat.le_of_ble_eq_true rfl) dX2_wouldAllGain_71 rfl (c_at hJ.2.1 (plc_lt j.2.1 hc2.1) (by have := j.2.1; omega)) (fun v1 h1 q1 => ?_)
          obtain ⟨e1, f1⟩ := q1
          rw [e1, f1, g5.val hc2.1 n5 hlk]
          refine r_aload_n rfl dX2_wouldAllGain_74 ?_
          refine r_getR foX2_12 hJ.1 rfl dX2_wouldAllGain_75 ?_
          refine r_iload_n rfl dX2_wouldAllGain_78 ?_
          refine r_iload rfl dX2_wouldAllGain_79 ?_
          refine r_cV2i (T := TX0) (N := 4) moX0_at lkX2_42 hJ.2.1.1 rfl (Nat.le_of_ble_eq_true rfl) ⟨by decide, by decide⟩ (Nat.le_of_ble_eq_true rfl) dX2_wouldAllGain_81 rfl (c_at hJ.2.1 (plc_lt j.2.1 hc) (by have := j.2.1; omega)) (fun v2 h2 q2 => ?_)
          obtain ⟨e2, f2⟩ := q2
          rw [e2, f2, g5.val hc m5 hlk]
          refine r_icmp_gt 89 dX2_wouldAllGain_84 (by decide) (fun c_84 => ?_) (fun c_84 => ?_)
          · first | refine r_incN5 rfl (by decide) dX2_wouldAllGain_89 ?_ | refine r_incP5 rfl (by decide) dX2_wouldAllGain_89 ?_
            refine r_goto 41 dX2_wouldAllGain_92 (by decide) ?_
            refine ih (l + 1) (by omega) (by omega) (fun i hi => ?_)
            by_cases e : i = l
            · subst e
              first
                | (rw [k5.eH, good_canH j.2.1 hc2 hlk] at c_84; exact fun _ => c_84)
                | exact fun q => absurd q c_60
            · exact hinv i (by omega)
          · refine r_iconst (v := (0 : Int32)) (by decide) dX2_wouldAllGain_87 ?_
            refine ret_z dX2_wouldAllGain_88 rfl (by decide) ?_
            refine ⟨(if_neg (fun q => ?_)).symm, k5, g5⟩
            rw [k5.eH, good_canH j.2.1 hc2 hlk] at c_84
            exact c_84 (q l hlk (Decidable.byContradiction fun z => by first | exact z c_60 | exact c_60 z))
  refine r_aload_n rfl dX2_wouldAllGain_0 ?_
  refine r_getR foX2_26 hJ.1 rfl dX2_wouldAllGain_1 ?_
  refine r_aload_n rfl dX2_wouldAllGain_4 ?_
  refine r_cV1v (T := TX6) (N := 4) moX6_copy lkX2_30 hJ.2.2.1 rfl (Nat.le_of_ble_eq_true rfl) ⟨by decide, by decide⟩ (Nat.le_of_ble_eq_true rfl) dX2_wouldAllGain_5 rfl (c_copyP (n := n) (c := c) hJ.2.2 hP (by omega) j.2.1 hs) (fun h1 q1 => ?_)
  obtain ⟨k1, s1⟩ := q1
  refine r_aload_n rfl dX2_wouldAllGain_8 ?_
  refine r_getR foX2_26 hJ.1 rfl dX2_wouldAllGain_9 ?_
  refine r_iload_n rfl dX2_wouldAllGain_12 ?_
  refine r_cV1v (T := TX6) (N := 4) moX6_gather lkX2_60 hJ.2.2.1 rfl (Nat.le_of_ble_eq_true rfl) ⟨by decide, by decide⟩ (Nat.le_of_ble_eq_true rfl) dX2_wouldAllGain_13 rfl (c_gather (n := n) (s := s) hJ.2.2 j.2.1 s1.1) (fun h2 q2 => ?_)
  obtain ⟨k2, c2, hc2, s2⟩ := q2
  have hc2 : CanOf n (gath (lab c) s) c2 := hc2.congr (fun i hi => gath_lab s1.2.2 hi)
  have j2 : JI g h2 G n := j.keep (fun q a b => by rw [k2 q (by omega) (by omega) (by omega), k1 q (by omega) (by omega) (by omega)])
  have sp : PS h2 P n c := hs.keep (fun q a b => by rw [k2 q (by omega) (by omega) (by omega), k1 q (by omega) (by omega) (by omega)])
  refine r_aload_n rfl dX2_wouldAllGain_16 ?_
  refine r_getR foX2_12 hJ.1 rfl dX2_wouldAllGain_17 ?_
  refine r_aload_n rfl dX2_wouldAllGain_20 ?_
  refine r_cV1i (T := TX0) (N := 4) moX0_rowOf lkX2_38 hJ.2.1.1 rfl (Nat.le_of_ble_eq_true rfl) ⟨by decide, by decide⟩ (Nat.le_of_ble_eq_true rfl) dX2_wouldAllGain_21 rfl (c_rowOf hJ.2.1 hP (by omega) j2.1 j2.2.1 j2.2.2.1 j2.2.2.2.1 hc sp j2.2.2.2.2) (fun v3 h3 q3 => ?_)
  obtain ⟨e3, k3, g3, n3, m3⟩ := q3
  subst e3
  have j3 := j2.row k3 g3
  have s3 : PS h3 (G + 15) n c2 := s2.keep (fun q a b => k3 q (by omega))
  refine r_ist3 rfl (by decide) dX2_wouldAllGain_24 ?_
  refine r_aload_n rfl dX2_wouldAllGain_25 ?_
  refine r_getR foX2_12 hJ.1 rfl dX2_wouldAllGain_26 ?_
  refine r_aload_n rfl dX2_wouldAllGain_29 ?_
  refine r_getR foX2_26 hJ.1 rfl dX2_wouldAllGain_30 ?_
  refine r_cV1i (T := TX0) (N := 4) moX0_rowOf lkX2_38 hJ.2.1.1 rfl (Nat.le_of_ble_eq_true rfl) ⟨by decide, by decide⟩ (Nat.le_of_ble_eq_true rfl) dX2_wouldAllGain_33 rfl (c_rowOf hJ.2.1 hJ.2.2 (Or.inl (by omega)) j3.1 j3.2.1 j3.2.2.1 j3.2.2.2.1 hc2.1 s3 j3.2.2.2.2) (fun v4 h4 q4 => ?_)
  obtain ⟨e4, k4, g4, n4, m4⟩ := q4
  subst e4
  refine r_ist4 rfl (by decide) dX2_wouldAllGain_36 ?_
  refine r_iconst (v := nI 0) (by decide) dX2_wouldAllGain_38 ?_
  refine r_ist5 rfl (by decide) dX2_wouldAllGain_39 ?_
  refine loop h4 c2 hc2 (fun q a => ?_) g4 (m4 c hc n3) n4 (n + 1) 0 (by omega) (by omega) (fun i hi => by omega)
  rw [k4 q (by omega), k3 q (by omega), k2 q (by omega) (by omega) (by omega), k1 q (by omega) (by omega) (by omega)]

set_option maxRecDepth 100000 in
set_option maxHeartbeats 4000000 in
theorem c_gainByJoining {g : GG} {J G P n : Nat} {k : Nat} {u : Int32} {h : Hp} {c : Nat → Nat} (hJ : JudgeAt J G) (hP : PartAt P) (hd : G + 18 ≤ P ∨ P + 3 ≤ G) (j : JI g h G n) (hc : Can n c) (hs : PS h P n c) (hk : k < n) : R g mX2_gainByJoining 0 [some (.ref (ad g J)), some (.ref (ad g P)), some (.int (nI k)), some (.int u), none, none, none] [] h (Ri fun v h' => v = gJ (eH h (G + 1) n) (lab c) k u ∧ KeepJ G h h' ∧ GC h' G n) := by
  have loop : ∀ (h5 : Hp) (c2 : Nat → Nat), CanOf n (upd (lab c) k u) c2 → KeepJ G h h5 → GC h5 G n → Kn h5 G n c → Kn h5 G n c2 → ∀ (m l : Nat), l ≤ n → n < l + m → (∀ i, i < l → lab c i = u → goodS (eH h (G + 1) n) (lab c) i ≤ goodS (eH h (G + 1) n) (upd (lab c) k u) i) → R g mX2_gainByJoining 43 [some (.ref (ad g J)), some (.ref (ad g P)), some (.int (nI k)), some (.int u), some (.int (nI (plc n c n * 6))), some (.int (nI (plc n c2 n * 6))), some (.int (nI l))] [] h5 (Ri fun v h' => v = gJ (eH h (G + 1) n) (lab c) k u ∧ KeepJ G h h' ∧ GC h' G n) := by
    intro h5 c2 hc2 k5 g5 m5 n5 m
    have hn6 := j.2.1
    induction m with
    | zero => intro l a b; omega
    | succ m ih =>
      intro l a b hinv
      refine r_iload rfl dX2_gainByJoining_43 ?_
      refine r_aload_n rfl dX2_gainByJoining_45 ?_
      refine r_getR foX2_22 hJ.1 rfl dX2_gainByJoining_46 ?_
      refine r_getI foX2_50 hJ.2.1.2.1.1 rfl dX2_gainByJoining_49 ?_
      refine r_icmp_ge 99 dX2_gainByJoining_52 (by decide) (fun c_52 => ?_) (fun c_52 => ?_)
      · rw [k5 (G + 1) (by omega), j.2.2.1] at c_52
        have e : l = n := by have := ge_y (by have := j.2.1; omega) (by have := j.2.1; omega) c_52; omega
        subst e
        have hlk : k < l := hk
        refine r_aload_n rfl dX2_gainByJoining_99 ?_
        refine r_getR foX2_12 hJ.1 rfl dX2_gainByJoining_100 ?_
        refine r_iload rfl dX2_gainByJoining_103 ?_
        refine r_iload_n rfl dX2_gainByJoining_105 ?_
        refine r_cV2i (T := TX0) (N := 4) moX0_at lkX2_42 hJ.2.1.1 rfl (Nat.le_of_ble_eq_true rfl) ⟨by decide, by decide⟩ (Nat.le_of_ble_eq_true rfl) dX2_gainByJoining_106 rfl (c_at hJ.2.1 (plc_lt j.2.1 hc2.1) (by have := j.2.1; omega)) (fun v1 h1 q1 => ?_)
        obtain ⟨e1, f1⟩ := q1
        rw [e1, f1, g5.val hc2.1 n5 hlk]
        refine r_aload_n rfl dX2_gainByJoining_109 ?_
        refine r_getR foX2_12 hJ.1 rfl dX2_gainByJoining_110 ?_
        refine r_iload rfl dX2_gainByJoining_113 ?_
        refine r_iload_n rfl dX2_gainByJoining_115 ?_
        refine r_cV2i (T := TX0) (N := 4) moX0_at lkX2_42 hJ.2.1.1 rfl (Nat.le_of_ble_eq_true rfl) ⟨by decide, by decide⟩ (Nat.le_of_ble_eq_true rfl) dX2_gainByJoining_116 rfl (c_at hJ.2.1 (plc_lt j.2.1 hc) (by have := j.2.1; omega)) (fun v2 h2 q2 => ?_)
        obtain ⟨e2, f2⟩ := q2
        rw [e2, f2, g5.val hc m5 hlk]
        refine r_isub dX2_gainByJoining_119 ?_
        refine ret_i dX2_gainByJoining_120 rfl ?_
        refine ⟨?_, k5, g5⟩
        rw [k5.eH, good_canH j.2.1 hc2 hlk, gJ, if_pos (show nLess (eH h (G + 1) l) (lab c) k u from hinv)]
      · rw [k5 (G + 1) (by omega), j.2.2.1] at c_52
        have hlk : l < n := ge_n (by have := j.2.1; omega) c_52
        refine r_aload_n rfl dX2_gainByJoining_55 ?_
        refine r_getR foX2_56 hP.1 rfl dX2_gainByJoining_56 ?_
        refine r_iload rfl dX2_gainByJoining_59 ?_
        refine r_ild hP.2.1 rfl (by omega) (by decide) dX2_gainByJoining_61 ?_
        rw [(k5.PS hd hs).2.2 l hlk]
        refine r_iload_n rfl dX2_gainByJoining_62 ?_
        refine r_icmp_ne 93 dX2_gainByJoining_63 (by decide) (fun c_63 => ?_) (fun c_63 => ?_)
        · first | refine r_incN6 rfl (by decide) dX2_gainByJoining_93 ?_ | refine r_incP6 rfl (by decide) dX2_gainByJoining_93 ?_
          refine r_goto 43 dX2_gainByJoining_96 (by decide) ?_
          refine ih (l + 1) (by omega) (by omega) (fun i hi => ?_)
          by_cases e : i = l
          · subst e
            first
              | (rw [k5.eH, good_canH j.2.1 hc2 hlk] at c_88; exact fun _ => c_88)
              | exact fun q => absurd q c_63
          · exact hinv i (by omega)
        · refine r_aload_n rfl dX2_gainByJoining_66 ?_
          refine r_getR foX2_12 hJ.1 rfl dX2_gainByJoining_67 ?_
          refine r_iload rfl dX2_gainByJoining_70 ?_
          refine r_iload rfl dX2_gainByJoining_72 ?_
          refine r_cV2i (T := TX0) (N := 4) moX0_at lkX2_42 hJ.2.1.1 rfl (Nat.le_of_ble_eq_true rfl) ⟨by decide, by decide⟩ (Nat.le_of_ble_eq_true rfl) dX2_gainByJoining_74 rfl (c_at hJ.2.1 (plc_lt j.2.1 hc2.1) (by have := j.2.1; omega)) (fun v3 h3 q3 => ?_)
          obtain ⟨e3, f3⟩ := q3
          rw [e3, f3, g5.val hc2.1 n5 hlk]
          refine r_aload_n rfl dX2_gainByJoining_77 ?_
          refine r_getR foX2_12 hJ.1 rfl dX2_gainByJoining_78 ?_
          refine r_iload rfl dX2_gainByJoining_81 ?_
          refine r_iload rfl dX2_gainByJoining_83 ?_
          refine r_cV2i (T := TX0) (N := 4) moX0_at lkX2_42 hJ.2.1.1 rfl (Nat.le_of_ble_eq_true rfl) ⟨by decide, by decide⟩ (Nat.le_of_ble_eq_true rfl) dX2_gainByJoining_85 rfl (c_at hJ.2.1 (plc_lt j.2.1 hc) (by have := j.2.1; omega)) (fun v4 h4 q4 => ?_)
          obtain ⟨e4, f4⟩ := q4
          rw [e4, f4, g5.val hc m5 hlk]
          refine r_icmp_ge 93 dX2_gainByJoining_88 (by decide) (fun c_88 => ?_) (fun c_88 => ?_)
          · first | refine r_incN6 rfl (by decide) dX2_gainByJoining_93 ?_ | refine r_incP6 rfl (by decide) dX2_gainByJoining_93 ?_
            refine r_goto 43 dX2_gainByJoining_96 (by decide) ?_
            refine ih (l + 1) (by omega) (by omega) (fun i hi => ?_)
            by_cases e : i = l
            · subst e
              first
                | (rw [k5.eH, good_canH j.2.1 hc2 hlk] at c_88; exact fun _ => c_88)
                | exact fun q => absurd q c_63
            · exact hinv i (by omega)
          · refine r_iconst (v := (0 : Int32)) (by decide) dX2_gainByJoining_91 ?_
            refine ret_i dX2_gainByJoining_92 rfl ?_
            refine ⟨(if_neg (fun q => ?_)).symm, k5, g5⟩
            rw [k5.eH, good_canH j.2.1 hc2 hlk] at c_88
            exact c_88 (q l hlk (Decidable.byContradiction fun z => by first | exact z c_63 | exact c_63 z))
  refine r_aload_n rfl dX2_gainByJoining_0 ?_
  refine r_getR foX2_26 hJ.1 rfl dX2_gainByJoining_1 ?_
  refine r_aload_n rfl dX2_gainByJoining_4 ?_
  refine r_cV1v (T := TX6) (N := 4) moX6_copy lkX2_30 hJ.2.2.1 rfl (Nat.le_of_ble_eq_true rfl) ⟨by decide, by decide⟩ (Nat.le_of_ble_eq_true rfl) dX2_gainByJoining_5 rfl (c_copyP (n := n) (c := c) hJ.2.2 hP (by omega) j.2.1 hs) (fun h1 q1 => ?_)
  obtain ⟨k1, s1⟩ := q1
  refine r_aload_n rfl dX2_gainByJoining_8 ?_
  refine r_getR foX2_26 hJ.1 rfl dX2_gainByJoining_9 ?_
  refine r_iload_n rfl dX2_gainByJoining_12 ?_
  refine r_iload_n rfl dX2_gainByJoining_13 ?_
  refine r_cV2v (T := TX6) (N := 4) moX6_move lkX2_46 hJ.2.2.1 rfl (Nat.le_of_ble_eq_true rfl) ⟨by decide, by decide⟩ (Nat.le_of_ble_eq_true rfl) dX2_gainByJoining_14 rfl (c_move (n := n) (u := u) hJ.2.2 j.2.1 (by have := j.2.1; omega) s1.1) (fun h2 q2 => ?_)
  obtain ⟨k2, c2, hc2, s2⟩ := q2
  have hc2 : CanOf n (upd (lab c) k u) c2 := hc2.congr (fun i hi => upd_lab s1.2.2 hi)
  have j2 : JI g h2 G n := j.keep (fun q a b => by rw [k2 q (by omega) (by omega) (by omega), k1 q (by omega) (by omega) (by omega)])
  have sp : PS h2 P n c := hs.keep (fun q a b => by rw [k2 q (by omega) (by omega) (by omega), k1 q (by omega) (by omega) (by omega)])
  refine r_aload_n rfl dX2_gainByJoining_17 ?_
  refine r_getR foX2_12 hJ.1 rfl dX2_gainByJoining_18 ?_
  refine r_aload_n rfl dX2_gainByJoining_21 ?_
  refine r_cV1i (T := TX0) (N := 4) moX0_rowOf lkX2_38 hJ.2.1.1 rfl (Nat.le_of_ble_eq_true rfl) ⟨by decide, by decide⟩ (Nat.le_of_ble_eq_true rfl) dX2_gainByJoining_22 rfl (c_rowOf hJ.2.1 hP (by omega) j2.1 j2.2.1 j2.2.2.1 j2.2.2.2.1 hc sp j2.2.2.2.2) (fun v3 h3 q3 => ?_)
  obtain ⟨e3, k3, g3, n3, m3⟩ := q3
  subst e3
  have j3 := j2.row k3 g3
  have s3 : PS h3 (G + 15) n c2 := s2.keep (fun q a b => k3 q (by omega))
  refine r_ist4 rfl (by decide) dX2_gainByJoining_25 ?_
  refine r_aload_n rfl dX2_gainByJoining_27 ?_
  refine r_getR foX2_12 hJ.1 rfl dX2_gainByJoining_28 ?_
  refine r_aload_n rfl dX2_gainByJoining_31 ?_
  refine r_getR foX2_26 hJ.1 rfl dX2_gainByJoining_32 ?_
  refine r_cV1i (T := TX0) (N := 4) moX0_rowOf lkX2_38 hJ.2.1.1 rfl (Nat.le_of_ble_eq_true rfl) ⟨by decide, by decide⟩ (Nat.le_of_ble_eq_true rfl) dX2_gainByJoining_35 rfl (c_rowOf hJ.2.1 hJ.2.2 (Or.inl (by omega)) j3.1 j3.2.1 j3.2.2.1 j3.2.2.2.1 hc2.1 s3 j3.2.2.2.2) (fun v4 h4 q4 => ?_)
  obtain ⟨e4, k4, g4, n4, m4⟩ := q4
  subst e4
  refine r_ist5 rfl (by decide) dX2_gainByJoining_38 ?_
  refine r_iconst (v := nI 0) (by decide) dX2_gainByJoining_40 ?_
  refine r_ist6 rfl (by decide) dX2_gainByJoining_41 ?_
  refine loop h4 c2 hc2 (fun q a => ?_) g4 (m4 c hc n3) n4 (n + 1) 0 (by omega) (by omega) (fun i hi => by omega)
  rw [k4 q (by omega), k3 q (by omega), k2 q (by omega) (by omega) (by omega), k1 q (by omega) (by omega) (by omega)]
end
section
/-- the first from u on, of e, that p holds of; else the default -/
def inF (p : Nat → Bool) (val : Nat → Int32) (df : Int32) : Nat → Nat → Int32
  | 0, _ => df
  | e + 1, u => if p u = true then val u else inF p val df e (u + 1)
def staV (E : Ec) (r : Nat → Int32) : Int32 := inF (fun l => decide (¬ gLv E r l ≤ 0)) nI (-6) (eN E) 0
def joP (E : Ec) (r : Nat → Int32) (l u : Nat) : Bool := decide (¬ r l = nI u ∧ ¬ gJ E r l (nI u) ≤ 0)
def joF (E : Ec) (r : Nat → Int32) (U : Nat) : Nat → Nat → Int32
  | 0, _ => -6
  | d + 1, l => inF (joP E r l) (fun u => 100 + 10 * nI l + nI u) (joF E r U d (l + 1)) U 0
def joiV (E : Ec) (r : Nat → Int32) (U : Nat) : Int32 := joF E r U (eN E) 0
def corV (E : Ec) (r : Nat → Int32) : Int32 := inF (fun t => decide (allG E r (nI t))) (fun t => 1000 + nI t) (-6) (2 ^ eN E - 1) 1
def bgI (E : Ec) (r : Nat → Int32) (k : Nat) : Int32 × Int32 := if gLv E r k ≤ 0 then (-2, 0) else (-1, gLv E r k)
def bgF (E : Ec) (r : Nat → Int32) (k : Nat) : Nat → Int32 × Int32
  | 0 => bgI E r k
  | u + 1 => if r k = nI u then bgF E r k u else if gJ E r k (nI u) ≤ (bgF E r k u).2 then bgF E r k u else (nI u, gJ E r k (nI u))
theorem shl1 {n : Nat} (hn : n ≤ 6) : (1 : Int32) <<< (nI n &&& 31) = nI (2 ^ n) := by
  rcases small7 hn with rfl | rfl | rfl | rfl | rfl | rfl | rfl <;> decide
theorem pow6 {n : Nat} (hn : n ≤ 6) : 0 < 2 ^ n ∧ 2 ^ n ≤ 64 := by
  rcases small7 hn with rfl | rfl | rfl | rfl | rfl | rfl | rfl <;> decide

set_option maxRecDepth 100000 in
set_option maxHeartbeats 4000000 in
theorem c_stayBreaker {g : GG} {J G P n : Nat} {h : Hp} {c : Nat → Nat} (hJ : JudgeAt J G) (hP : PartAt P) (hd : G + 18 ≤ P ∨ P + 3 ≤ G) (j : JI g h G n) (hc : Can n c) (hs : PS h P n c) : R g mX2_stayBreaker 0 [some (.ref (ad g J)), some (.ref (ad g P)), none] [] h (Ri fun v h' => v = staV (eH h (G + 1) n) (lab c) ∧ KeepJ G h h' ∧ GC h' G n) := by
  have hn6 := j.2.1
  have loop : ∀ (m : Nat) (h1 : Hp) (d l : Nat), l + d = n → d < m → KeepJ G h h1 → GC h1 G n → R g mX2_stayBreaker 2 [some (.ref (ad g J)), some (.ref (ad g P)), some (.int (nI l))] [] h1 (Ri fun v h' => v = inF (fun l => decide (¬ gLv (eH h (G + 1) n) (lab c) l ≤ 0)) nI (-6) d l ∧ KeepJ G h h' ∧ GC h' G n) := by
    intro m
    induction m with
    | zero => intro h1 d l a b; omega
    | succ m ih =>
      intro h1 d l a b k1 g1
      refine r_iload_n rfl dX2_stayBreaker_2 ?_
      refine r_aload_n rfl dX2_stayBreaker_3 ?_
      refine r_getR foX2_22 hJ.1 rfl dX2_stayBreaker_4 ?_
      refine r_getI foX2_50 hJ.2.1.2.1.1 rfl dX2_stayBreaker_7 ?_
      refine r_icmp_ge 30 dX2_stayBreaker_10 (by decide) (fun c_10 => ?_) (fun c_10 => ?_)
      · rw [k1 (G + 1) (by omega), j.2.2.1] at c_10
        have e : l = n := by have := ge_y (by omega) (by omega) c_10; omega
        refine r_bipush (v := (-6 : Int32)) (by decide) dX2_stayBreaker_30 ?_
        refine ret_i dX2_stayBreaker_32 rfl ?_
        have e2 : d = 0 := by omega
        subst e2
        exact ⟨rfl, k1, g1⟩
      · rw [k1 (G + 1) (by omega), j.2.2.1] at c_10
        have hlk : l < n := ge_n (by omega) c_10
        refine r_aload_n rfl dX2_stayBreaker_13 ?_
        refine r_aload_n rfl dX2_stayBreaker_14 ?_
        refine r_iload_n rfl dX2_stayBreaker_15 ?_
        refine r_cV2i (T := TX2) (N := 3) moX2_gainByLeaving lkX2_63 hJ.1 rfl (Nat.le_of_ble_eq_true rfl) ⟨by decide, by decide⟩ (Nat.le_of_ble_eq_true rfl) dX2_stayBreaker_16 rfl (c_gainByLeaving hJ hP hd (k1.JI j g1) hc (k1.PS hd hs) (by omega)) (fun v1 h1 q1 => ?_)
        obtain ⟨e1, kx, gx⟩ := q1
        have kx := k1.trans kx
        rw [k1.eH] at e1
        subst e1
        refine r_if_le 24 dX2_stayBreaker_19 (by decide) (fun c_19 => ?_) (fun c_19 => ?_)
        · first | refine r_incN2 rfl (by decide) dX2_stayBreaker_24 ?_ | refine r_incP2 rfl (by decide) dX2_stayBreaker_24 ?_
          refine r_goto 2 dX2_stayBreaker_27 (by decide) ?_
          obtain ⟨d, rfl⟩ : ∃ d', d = d' + 1 := ⟨d - 1, by omega⟩
          refine Ri.imp (ih _ d (l + 1) (by omega) (by omega) kx gx) (fun v h' q => ⟨?_, q.2⟩)
          rw [q.1, inF, if_neg (by simpa using c_19)]
        · refine r_iload_n rfl dX2_stayBreaker_22 ?_
          refine ret_i dX2_stayBreaker_23 rfl ?_
          obtain ⟨d, rfl⟩ : ∃ d', d = d' + 1 := ⟨d - 1, by omega⟩
          exact ⟨by rw [inF, if_pos (by simpa using c_19)], kx, gx⟩
  refine r_iconst (v := nI 0) (by decide) dX2_stayBreaker_0 ?_
  refine r_ist2 rfl (by decide) dX2_stayBreaker_1 ?_
  exact loop (n + 1) _ n 0 (by omega) (by omega) KeepJ.refl j.2.2.2.2

set_option maxRecDepth 100000 in
set_option maxHeartbeats 4000000 in
theorem c_coreBreaker {g : GG} {J G P n : Nat} {h : Hp} {c : Nat → Nat} (hJ : JudgeAt J G) (hP : PartAt P) (hd : G + 18 ≤ P ∨ P + 3 ≤ G) (j : JI g h G n) (hc : Can n c) (hs : PS h P n c) : R g mX2_coreBreaker 0 [some (.ref (ad g J)), some (.ref (ad g P)), none] [] h (Ri fun v h' => v = corV (eH h (G + 1) n) (lab c) ∧ KeepJ G h h' ∧ GC h' G n) := by
  have hn6 := j.2.1
  have hp6 := pow6 hn6
  have loop : ∀ (m : Nat) (h1 : Hp) (d l : Nat), l + d = 2 ^ n → d < m → KeepJ G h h1 → GC h1 G n → R g mX2_coreBreaker 2 [some (.ref (ad g J)), some (.ref (ad g P)), some (.int (nI l))] [] h1 (Ri fun v h' => v = inF (fun t => decide (allG (eH h (G + 1) n) (lab c) (nI t))) (fun t => 1000 + nI t) (-6) d l ∧ KeepJ G h h' ∧ GC h' G n) := by
    intro m
    induction m with
    | zero => intro h1 d l a b; omega
    | succ m ih =>
      intro h1 d l a b k1 g1
      refine r_iload_n rfl dX2_coreBreaker_2 ?_
      refine r_iconst (v := (1 : Int32)) (by decide) dX2_coreBreaker_3 ?_
      refine r_aload_n rfl dX2_coreBreaker_4 ?_
      refine r_getI foX2_74 hP.1 rfl dX2_coreBreaker_5 ?_
      rw [(k1.PS hd hs).1]
      refine r_ishl dX2_coreBreaker_8 ?_
      rw [shl1 hn6]
      refine r_icmp_ge 33 dX2_coreBreaker_9 (by decide) (fun c_9 => ?_) (fun c_9 => ?_)
      · have e : l = 2 ^ n := by have := ge_y (by omega) (by omega) c_9; omega
        refine r_bipush (v := (-6 : Int32)) (by decide) dX2_coreBreaker_33 ?_
        refine ret_i dX2_coreBreaker_35 rfl ?_
        have e2 : d = 0 := by omega
        subst e2
        exact ⟨rfl, k1, g1⟩
      · have hlk : l < 2 ^ n := ge_n (by omega) c_9
        refine r_aload_n rfl dX2_coreBreaker_12 ?_
        refine r_aload_n rfl dX2_coreBreaker_13 ?_
        refine r_iload_n rfl dX2_coreBreaker_14 ?_
        refine r_cV2i (T := TX2) (N := 3) moX2_wouldAllGain lkX2_75 hJ.1 rfl (Nat.le_of_ble_eq_true rfl) ⟨by decide, by decide⟩ (Nat.le_of_ble_eq_true rfl) dX2_coreBreaker_15 rfl (c_wouldAllGain hJ hP hd (k1.JI j g1) hc (k1.PS hd hs)) (fun v1 h1 q1 => ?_)
        obtain ⟨e1, kx, gx⟩ := q1
        have kx := k1.trans kx
        rw [k1.eH] at e1
        subst e1
        refine r_if_eq 27 dX2_coreBreaker_18 (by decide) (fun c_18 => ?_) (fun c_18 => ?_)
        · first | refine r_incN2 rfl (by decide) dX2_coreBreaker_27 ?_ | refine r_incP2 rfl (by decide) dX2_coreBreaker_27 ?_
          refine r_goto 2 dX2_coreBreaker_30 (by decide) ?_
          obtain ⟨d, rfl⟩ : ∃ d', d = d' + 1 := ⟨d - 1, by omega⟩
          refine Ri.imp (ih _ d (l + 1) (by omega) (by omega) kx gx) (fun v h' q => ⟨?_, q.2⟩)
          have na : ¬ allG (eH h (G + 1) n) (lab c) (nI l) := fun z => by rw [if_pos z] at c_18; exact absurd c_18 (by decide)
          rw [q.1, inF, if_neg (by simpa using na)]
        · refine r_sipush (v := (1000 : Int32)) (by decide) dX2_coreBreaker_21 ?_
          refine r_iload_n rfl dX2_coreBreaker_24 ?_
          refine r_iadd dX2_coreBreaker_25 ?_
          refine ret_i dX2_coreBreaker_26 rfl ?_
          obtain ⟨d, rfl⟩ : ∃ d', d = d' + 1 := ⟨d - 1, by omega⟩
          have na : allG (eH h (G + 1) n) (lab c) (nI l) := Decidable.byContradiction fun z => c_18 (if_neg z)
          exact ⟨by rw [inF, if_pos (by simpa using na)], kx, gx⟩
  refine r_iconst (v := nI 1) (by decide) dX2_coreBreaker_0 ?_
  refine r_ist2 rfl (by decide) dX2_coreBreaker_1 ?_
  exact loop (2 ^ n) _ (2 ^ n - 1) 1 (by omega) (by omega) KeepJ.refl j.2.2.2.2

set_option maxRecDepth 100000 in
set_option maxHeartbeats 4000000 in
theorem c_joinBreaker {g : GG} {J G P n : Nat} {h : Hp} {c : Nat → Nat} (hJ : JudgeAt J G) (hP : PartAt P) (hd : G + 18 ≤ P ∨ P + 3 ≤ G) (j : JI g h G n) (hc : Can n c) (hs : PS h P n c) : R g mX2_joinBreaker 0 [some (.ref (ad g J)), some (.ref (ad g P)), none, none] [] h (Ri fun v h' => v = joiV (eH h (G + 1) n) (lab c) (mx c n) ∧ KeepJ G h h' ∧ GC h' G n) := by
  have hn6 := j.2.1
  have hmx := mx_le hc n (Nat.le_refl _)
  have inner : ∀ (d l : Nat), l + d + 1 = n → (∀ (h1 : Hp) {z : Int32}, KeepJ G h h1 → GC h1 G n → R g mX2_joinBreaker 2 [some (.ref (ad g J)), some (.ref (ad g P)), some (.int (nI (l + 1))), some (.int z)] [] h1 (Ri fun v h' => v = joF (eH h (G + 1) n) (lab c) (mx c n) d (l + 1) ∧ KeepJ G h h' ∧ GC h' G n)) → ∀ (m : Nat) (h1 : Hp) (e u : Nat), u + e = mx c n → e < m → KeepJ G h h1 → GC h1 G n → R g mX2_joinBreaker 15 [some (.ref (ad g J)), some (.ref (ad g P)), some (.int (nI l)), some (.int (nI u))] [] h1 (Ri fun v h' => v = inF (joP (eH h (G + 1) n) (lab c) l) (fun u => 100 + 10 * nI l + nI u) (joF (eH h (G + 1) n) (lab c) (mx c n) d (l + 1)) e u ∧ KeepJ G h h' ∧ GC h' G n) := by
    intro d l hl hout m
    have hln : l < n := by omega
    induction m with
    | zero => intro h1 e u a b; omega
    | succ m ih =>
      intro h1 e u a b k1 g1
      refine r_iload_n rfl dX2_joinBreaker_15 ?_
      refine r_aload_n rfl dX2_joinBreaker_16 ?_
      refine r_getI foX2_67 hP.1 rfl dX2_joinBreaker_17 ?_
      rw [(k1.PS hd hs).2.1]
      refine r_icmp_ge 59 dX2_joinBreaker_20 (by decide) (fun c_20 => ?_) (fun c_20 => ?_)
      · have e9 : u = mx c n := by have := ge_y (by omega) (by omega) c_20; omega
        first | refine r_incN2 rfl (by decide) dX2_joinBreaker_59 ?_ | refine r_incP2 rfl (by decide) dX2_joinBreaker_59 ?_
        refine r_goto 2 dX2_joinBreaker_62 (by decide) ?_
        have e2 : e = 0 := by omega
        subst e2
        exact Ri.imp (hout _ k1 g1) (fun v h' q => q)
      · have hlk : u < mx c n := ge_n (by omega) c_20
        refine r_aload_n rfl dX2_joinBreaker_23 ?_
        refine r_getR foX2_56 hP.1 rfl dX2_joinBreaker_24 ?_
        refine r_iload_n rfl dX2_joinBreaker_27 ?_
        refine r_ild hP.2.1 rfl (by omega) (by decide) dX2_joinBreaker_28 ?_
        rw [(k1.PS hd hs).2.2 l hln]
        refine r_iload_n rfl dX2_joinBreaker_29 ?_
        refine r_icmp_eq 53 dX2_joinBreaker_30 (by decide) (fun c_30 => ?_) (fun c_30 => ?_)
        · first | refine r_incN3 rfl (by decide) dX2_joinBreaker_53 ?_ | refine r_incP3 rfl (by decide) dX2_joinBreaker_53 ?_
          refine r_goto 15 dX2_joinBreaker_56 (by decide) ?_
          obtain ⟨e, rfl⟩ : ∃ e', e = e' + 1 := ⟨e - 1, by omega⟩
          first
            | (refine Ri.imp (ih _ e (u + 1) (by omega) (by omega) k1 g1) (fun v h' q => ⟨?_, q.2⟩)
               rw [q.1, inF, if_neg (by simp [joP, c_30])])
            | (refine Ri.imp (ih _ e (u + 1) (by omega) (by omega) kx gx) (fun v h' q => ⟨?_, q.2⟩)
               rw [q.1, inF, if_neg (by simp [joP, c_40])])
        · refine r_aload_n rfl dX2_joinBreaker_33 ?_
          refine r_aload_n rfl dX2_joinBreaker_34 ?_
          refine r_iload_n rfl dX2_joinBreaker_35 ?_
          refine r_iload_n rfl dX2_joinBreaker_36 ?_
          refine r_cV3i (T := TX2) (N := 3) moX2_gainByJoining lkX2_70 hJ.1 rfl (Nat.le_of_ble_eq_true rfl) ⟨by decide, by decide⟩ (Nat.le_of_ble_eq_true rfl) dX2_joinBreaker_37 rfl (c_gainByJoining hJ hP hd (k1.JI j g1) hc (k1.PS hd hs) (by omega)) (fun v1 h1 q1 => ?_)
          obtain ⟨e1, kx, gx⟩ := q1
          have kx := k1.trans kx
          rw [k1.eH] at e1
          subst e1
          refine r_if_le 53 dX2_joinBreaker_40 (by decide) (fun c_40 => ?_) (fun c_40 => ?_)
          · first | refine r_incN3 rfl (by decide) dX2_joinBreaker_53 ?_ | refine r_incP3 rfl (by decide) dX2_joinBreaker_53 ?_
            refine r_goto 15 dX2_joinBreaker_56 (by decide) ?_
            obtain ⟨e, rfl⟩ : ∃ e', e = e' + 1 := ⟨e - 1, by omega⟩
            first
              | (refine Ri.imp (ih _ e (u + 1) (by omega) (by omega) k1 g1) (fun v h' q => ⟨?_, q.2⟩)
                 rw [q.1, inF, if_neg (by simp [joP, c_30])])
              | (refine Ri.imp (ih _ e (u + 1) (by omega) (by omega) kx gx) (fun v h' q => ⟨?_, q.2⟩)
                 rw [q.1, inF, if_neg (by simp [joP, c_40])])
          · refine r_bipush (v := (100 : Int32)) (by decide) dX2_joinBreaker_43 ?_
            refine r_bipush (v := (10 : Int32)) (by decide) dX2_joinBreaker_45 ?_
            refine r_iload_n rfl dX2_joinBreaker_47 ?_
            refine r_imul dX2_joinBreaker_48 ?_
            refine r_iadd dX2_joinBreaker_49 ?_
            refine r_iload_n rfl dX2_joinBreaker_50 ?_
            refine r_iadd dX2_joinBreaker_51 ?_
            refine ret_i dX2_joinBreaker_52 rfl ?_
            obtain ⟨e, rfl⟩ : ∃ e', e = e' + 1 := ⟨e - 1, by omega⟩
            exact ⟨by rw [inF, if_pos (by simp [joP, c_30, c_40])], kx, gx⟩
  have loop : ∀ (m : Nat) (h1 : Hp) (d l : Nat) {z : Option Value}, l + d = n → d < m → KeepJ G h h1 → GC h1 G n → R g mX2_joinBreaker 2 [some (.ref (ad g J)), some (.ref (ad g P)), some (.int (nI l)), z] [] h1 (Ri fun v h' => v = joF (eH h (G + 1) n) (lab c) (mx c n) d l ∧ KeepJ G h h' ∧ GC h' G n) := by
    intro m
    induction m with
    | zero => intro h1 d l z a b; omega
    | succ m ih =>
      intro h1 d l z a b k1 g1
      refine r_iload_n rfl dX2_joinBreaker_2 ?_
      refine r_aload_n rfl dX2_joinBreaker_3 ?_
      refine r_getR foX2_22 hJ.1 rfl dX2_joinBreaker_4 ?_
      refine r_getI foX2_50 hJ.2.1.2.1.1 rfl dX2_joinBreaker_7 ?_
      refine r_icmp_ge 65 dX2_joinBreaker_10 (by decide) (fun c_10 => ?_) (fun c_10 => ?_)
      · rw [k1 (G + 1) (by omega), j.2.2.1] at c_10
        have e : l = n := by have := ge_y (by omega) (by omega) c_10; omega
        refine r_bipush (v := (-6 : Int32)) (by decide) dX2_joinBreaker_65 ?_
        refine ret_i dX2_joinBreaker_67 rfl ?_
        have e2 : d = 0 := by omega
        subst e2
        exact ⟨rfl, k1, g1⟩
      · rw [k1 (G + 1) (by omega), j.2.2.1] at c_10
        have hlk : l < n := ge_n (by omega) c_10
        refine r_iconst (v := nI 0) (by decide) dX2_joinBreaker_13 ?_
        refine r_ist3 rfl (by decide) dX2_joinBreaker_14 ?_
        obtain ⟨d, rfl⟩ : ∃ d', d = d' + 1 := ⟨d - 1, by omega⟩
        exact inner d l (by omega) (fun h2 _ k2 g2 => ih h2 d (l + 1) (by omega) (by omega) k2 g2) (mx c n + 1) h1 (mx c n) 0 (by omega) (by omega) k1 g1
  refine r_iconst (v := nI 0) (by decide) dX2_joinBreaker_0 ?_
  refine r_ist2 rfl (by decide) dX2_joinBreaker_1 ?_
  exact loop (n + 1) _ n 0 (by omega) (by omega) KeepJ.refl j.2.2.2.2

set_option maxRecDepth 100000 in
set_option maxHeartbeats 4000000 in
theorem c_bestGoal {g : GG} {J G P n k : Nat} {h : Hp} {c : Nat → Nat} (hJ : JudgeAt J G) (hP : PartAt P) (hd : G + 18 ≤ P ∨ P + 3 ≤ G) (j : JI g h G n) (hc : Can n c) (hs : PS h P n c) (hk : k < n) : R g mX2_bestGoal 0 [some (.ref (ad g J)), some (.ref (ad g P)), some (.int (nI k)), none, none, none, none] [] h (Ri fun v h' => v = (bgF (eH h (G + 1) n) (lab c) k (mx c n)).1 ∧ KeepJ G h h' ∧ GC h' G n) := by
  have hn6 := j.2.1
  have hmx := mx_le hc n (Nat.le_refl _)
  have loop : ∀ (m : Nat) (h1 : Hp) (u : Nat) (x3 x4 x5 : Int32), u ≤ mx c n → mx c n < u + m → x3 = (bgF (eH h (G + 1) n) (lab c) k u).1 → x4 = (bgF (eH h (G + 1) n) (lab c) k u).2 → KeepJ G h h1 → GC h1 G n → R g mX2_bestGoal 30 [some (.ref (ad g J)), some (.ref (ad g P)), some (.int (nI k)), some (.int x3), some (.int x4), some (.int x5), some (.int (nI u))] [] h1 (Ri fun v h' => v = (bgF (eH h (G + 1) n) (lab c) k (mx c n)).1 ∧ KeepJ G h h' ∧ GC h' G n) := by
    intro m
    induction m with
    | zero => intro h1 u x3 x4 x5 a b; omega
    | succ m ih =>
      intro h1 u x3 x4 x5 a b e3 e4 k1 g1
      subst e3; subst e4
      refine r_iload rfl dX2_bestGoal_30 ?_
      refine r_aload_n rfl dX2_bestGoal_32 ?_
      refine r_getI foX2_67 hP.1 rfl dX2_bestGoal_33 ?_
      rw [(k1.PS hd hs).2.1]
      refine r_icmp_ge 80 dX2_bestGoal_36 (by decide) (fun c_36 => ?_) (fun c_36 => ?_)
      · refine r_iload_n rfl dX2_bestGoal_80 ?_
        refine ret_i dX2_bestGoal_81 rfl ?_
        have e9 : u = mx c n := by have := ge_y (by omega) (by omega) c_36; omega
        exact ⟨by rw [e9], k1, g1⟩
      · have hlk : u < mx c n := ge_n (by omega) c_36
        refine r_aload_n rfl dX2_bestGoal_39 ?_
        refine r_getR foX2_56 hP.1 rfl dX2_bestGoal_40 ?_
        refine r_iload_n rfl dX2_bestGoal_43 ?_
        refine r_ild hP.2.1 rfl (by omega) (by decide) dX2_bestGoal_44 ?_
        rw [(k1.PS hd hs).2.2 k hk]
        refine r_iload rfl dX2_bestGoal_45 ?_
        refine r_icmp_eq 74 dX2_bestGoal_47 (by decide) (fun c_47 => ?_) (fun c_47 => ?_)
        · first | refine r_incN6 rfl (by decide) dX2_bestGoal_74 ?_ | refine r_incP6 rfl (by decide) dX2_bestGoal_74 ?_
          refine r_goto 30 dX2_bestGoal_77 (by decide) ?_
          first
            | exact ih _ (u + 1) _ _ _ (by omega) (by omega) (by rw [bgF, if_pos c_47]) (by rw [bgF, if_pos c_47]) k1 g1
            | exact ih _ (u + 1) _ _ _ (by omega) (by omega) (by rw [bgF, if_neg c_47, if_pos c_64]) (by rw [bgF, if_neg c_47, if_pos c_64]) kx gx
            | exact ih _ (u + 1) _ _ _ (by omega) (by omega) (by rw [bgF, if_neg c_47, if_neg c_64]) (by rw [bgF, if_neg c_47, if_neg c_64]) kx gx
        · refine r_aload_n rfl dX2_bestGoal_50 ?_
          refine r_aload_n rfl dX2_bestGoal_51 ?_
          refine r_iload_n rfl dX2_bestGoal_52 ?_
          refine r_iload rfl dX2_bestGoal_53 ?_
          refine r_cV3i (T := TX2) (N := 3) moX2_gainByJoining lkX2_70 hJ.1 rfl (Nat.le_of_ble_eq_true rfl) ⟨by decide, by decide⟩ (Nat.le_of_ble_eq_true rfl) dX2_bestGoal_55 rfl (c_gainByJoining hJ hP hd (k1.JI j g1) hc (k1.PS hd hs) (by omega)) (fun v1 h1 q1 => ?_)
          obtain ⟨e1, kx, gx⟩ := q1
          have kx := k1.trans kx
          rw [k1.eH] at e1
          subst e1
          refine r_ist5 rfl (by decide) dX2_bestGoal_58 ?_
          refine r_iload rfl dX2_bestGoal_60 ?_
          refine r_iload rfl dX2_bestGoal_62 ?_
          refine r_icmp_le 74 dX2_bestGoal_64 (by decide) (fun c_64 => ?_) (fun c_64 => ?_)
          · first | refine r_incN6 rfl (by decide) dX2_bestGoal_74 ?_ | refine r_incP6 rfl (by decide) dX2_bestGoal_74 ?_
            refine r_goto 30 dX2_bestGoal_77 (by decide) ?_
            first
              | exact ih _ (u + 1) _ _ _ (by omega) (by omega) (by rw [bgF, if_pos c_47]) (by rw [bgF, if_pos c_47]) k1 g1
              | exact ih _ (u + 1) _ _ _ (by omega) (by omega) (by rw [bgF, if_neg c_47, if_pos c_64]) (by rw [bgF, if_neg c_47, if_pos c_64]) kx gx
              | exact ih _ (u + 1) _ _ _ (by omega) (by omega) (by rw [bgF, if_neg c_47, if_neg c_64]) (by rw [bgF, if_neg c_47, if_neg c_64]) kx gx
          · refine r_iload rfl dX2_bestGoal_67 ?_
            refine r_ist3 rfl (by decide) dX2_bestGoal_69 ?_
            refine r_iload rfl dX2_bestGoal_70 ?_
            refine r_ist4 rfl (by decide) dX2_bestGoal_72 ?_
            first | refine r_incN6 rfl (by decide) dX2_bestGoal_74 ?_ | refine r_incP6 rfl (by decide) dX2_bestGoal_74 ?_
            refine r_goto 30 dX2_bestGoal_77 (by decide) ?_
            first
              | exact ih _ (u + 1) _ _ _ (by omega) (by omega) (by rw [bgF, if_pos c_47]) (by rw [bgF, if_pos c_47]) k1 g1
              | exact ih _ (u + 1) _ _ _ (by omega) (by omega) (by rw [bgF, if_neg c_47, if_pos c_64]) (by rw [bgF, if_neg c_47, if_pos c_64]) kx gx
              | exact ih _ (u + 1) _ _ _ (by omega) (by omega) (by rw [bgF, if_neg c_47, if_neg c_64]) (by rw [bgF, if_neg c_47, if_neg c_64]) kx gx
  refine r_bipush (v := (-2 : Int32)) (by decide) dX2_bestGoal_0 ?_
  refine r_ist3 rfl (by decide) dX2_bestGoal_2 ?_
  refine r_iconst (v := (0 : Int32)) (by decide) dX2_bestGoal_3 ?_
  refine r_ist4 rfl (by decide) dX2_bestGoal_4 ?_
  refine r_aload_n rfl dX2_bestGoal_6 ?_
  refine r_aload_n rfl dX2_bestGoal_7 ?_
  refine r_iload_n rfl dX2_bestGoal_8 ?_
  refine r_cV2i (T := TX2) (N := 3) moX2_gainByLeaving lkX2_63 hJ.1 rfl (Nat.le_of_ble_eq_true rfl) ⟨by decide, by decide⟩ (Nat.le_of_ble_eq_true rfl) dX2_bestGoal_9 rfl (c_gainByLeaving hJ hP hd j hc hs hk) (fun v1 h1 q1 => ?_)
  obtain ⟨e1, kx, gx⟩ := q1
  subst e1
  refine r_ist5 rfl (by decide) dX2_bestGoal_12 ?_
  refine r_iload rfl dX2_bestGoal_14 ?_
  refine r_iload rfl dX2_bestGoal_16 ?_
  refine r_icmp_le 27 dX2_bestGoal_18 (by decide) (fun c_18 => ?_) (fun c_18 => ?_)
  · refine r_iconst (v := nI 0) (by decide) dX2_bestGoal_27 ?_
    refine r_ist6 rfl (by decide) dX2_bestGoal_28 ?_
    first
      | exact loop (mx c n + 1) _ 0 _ _ _ (by omega) (by omega) (by rw [bgF, bgI, if_pos c_18]) (by rw [bgF, bgI, if_pos c_18]) kx gx
      | exact loop (mx c n + 1) _ 0 _ _ _ (by omega) (by omega) (by rw [bgF, bgI, if_neg c_18]) (by rw [bgF, bgI, if_neg c_18]) kx gx
  · refine r_iconst (v := (-1 : Int32)) (by decide) dX2_bestGoal_21 ?_
    refine r_ist3 rfl (by decide) dX2_bestGoal_22 ?_
    refine r_iload rfl dX2_bestGoal_23 ?_
    refine r_ist4 rfl (by decide) dX2_bestGoal_25 ?_
    refine r_iconst (v := nI 0) (by decide) dX2_bestGoal_27 ?_
    refine r_ist6 rfl (by decide) dX2_bestGoal_28 ?_
    first
      | exact loop (mx c n + 1) _ 0 _ _ _ (by omega) (by omega) (by rw [bgF, bgI, if_pos c_18]) (by rw [bgF, bgI, if_pos c_18]) kx gx
      | exact loop (mx c n + 1) _ 0 _ _ _ (by omega) (by omega) (by rw [bgF, bgI, if_neg c_18]) (by rw [bgF, bgI, if_neg c_18]) kx gx
end
section
def EqN (n : Nat) (r r' : Nat → Int32) : Prop := ∀ j, j < n → r j = r' j
section EQN
variable {E E' : Ec} {r r' : Nat → Int32}
theorem EqN.upd {n k : Nat} {x : Int32} (h : EqN n r r') : EqN n (upd r k x) (upd r' k x) := fun i hi => by
  by_cases e : i = k
  · subst e; rw [upd_eq, upd_eq]
  · rw [upd_ne e, upd_ne e]; exact h i hi
theorem EqN.gath {n : Nat} {s : Int32} (h : EqN n r r') : EqN n (gath r s) (gath r' s) := fun i hi => by
  show (if bt s i then -1 else r i) = if bt s i then -1 else r' i
  rw [h i hi]
theorem good_eq (hE : EcEq E E') (h : EqN (eN E) r r') {k : Nat} (hk : k < eN E) : goodS E r k = goodS E' r' k := goodS_pat hE (Pat.of_eq h) hk
theorem gLv_eq (hE : EcEq E E') (h : EqN (eN E) r r') {k : Nat} (hk : k < eN E) : gLv E r k = gLv E' r' k := by rw [gLv, gLv, good_eq hE h hk, good_eq hE h.upd hk]
theorem nLess_eq (hE : EcEq E E') (h : EqN (eN E) r r') {k : Nat} {u : Int32} : nLess E r k u ↔ nLess E' r' k u := by
  constructor
  · intro q l hl e
    rw [← hE.1] at hl
    rw [← good_eq hE h hl, ← good_eq hE h.upd hl]
    exact q l hl (by rw [h l hl]; exact e)
  · intro q l hl e
    rw [good_eq hE h hl, good_eq hE h.upd hl]
    exact q l (by rw [← hE.1]; exact hl) (by rw [← h l hl]; exact e)
theorem gJ_eq (hE : EcEq E E') (h : EqN (eN E) r r') {k : Nat} {u : Int32} (hk : k < eN E) : gJ E r k u = gJ E' r' k u := by
  rw [gJ, gJ, good_eq hE h hk, good_eq hE h.upd hk]
  by_cases q : nLess E r k u
  · rw [if_pos q, if_pos ((nLess_eq hE h).mp q)]
  · rw [if_neg q, if_neg (fun z => q ((nLess_eq hE h).mpr z))]
theorem allG_eq (hE : EcEq E E') (h : EqN (eN E) r r') {s : Int32} : allG E r s ↔ allG E' r' s := by
  constructor
  · intro q l hl e
    rw [← hE.1] at hl
    rw [← good_eq hE h hl, ← good_eq hE h.gath hl]
    exact q l hl e
  · intro q l hl e
    rw [good_eq hE h hl, good_eq hE h.gath hl]
    exact q l (by rw [← hE.1]; exact hl) e
theorem inF_congr {p p' : Nat → Bool} {val val' : Nat → Int32} {df df' : Int32} (hd : df = df') : ∀ e u, (∀ i, u ≤ i → i < u + e → p i = p' i ∧ val i = val' i) → inF p val df e u = inF p' val' df' e u := by
  intro e
  induction e with
  | zero => intro u _; exact hd
  | succ e ih => intro u h; rw [inF, inF, (h u (Nat.le_refl _) (by omega)).1, (h u (Nat.le_refl _) (by omega)).2, ih (u + 1) (fun i a b => h i (by omega) (by omega))]
theorem staV_eq (hE : EcEq E E') (h : EqN (eN E) r r') : staV E r = staV E' r' := by
  rw [staV, staV, ← hE.1]
  exact inF_congr rfl _ _ (fun i _ hi => ⟨by rw [gLv_eq hE h (by omega)], rfl⟩)
theorem corV_eq (hE : EcEq E E') (h : EqN (eN E) r r') : corV E r = corV E' r' := by
  rw [corV, corV, show 2 ^ eN E' - 1 = 2 ^ eN E - 1 by rw [hE.1]]
  exact inF_congr rfl _ _ (fun i _ hi => ⟨decide_eq_decide.mpr (allG_eq hE h), rfl⟩)
theorem joF_eq (hE : EcEq E E') (h : EqN (eN E) r r') {U : Nat} : ∀ d l, l + d ≤ eN E → joF E r U d l = joF E' r' U d l := by
  intro d
  induction d with
  | zero => intro l _; rfl
  | succ d ih =>
    intro l hl
    rw [joF, joF]
    exact inF_congr (ih (l + 1) (by omega)) _ _ (fun i _ hi => ⟨by rw [joP, joP, gJ_eq hE h (by omega), h l (by omega)], rfl⟩)
theorem joiV_eq (hE : EcEq E E') (h : EqN (eN E) r r') {U : Nat} : joiV E r U = joiV E' r' U := by
  rw [joiV, joiV, ← hE.1]
  exact joF_eq hE h _ _ (by omega)
theorem bgF_eq (hE : EcEq E E') (h : EqN (eN E) r r') {k : Nat} (hk : k < eN E) : ∀ u, bgF E r k u = bgF E' r' k u := by
  intro u
  induction u with
  | zero => rw [bgF, bgF, bgI, bgI, gLv_eq hE h hk]
  | succ u ih => rw [bgF, bgF, ih, gJ_eq hE h hk, h k hk]
def brk (E : Ec) (r : Nat → Int32) (U rest : Nat) : Int32 := if rest = 2 then corV E r else if rest = 1 ∧ staV E r = -6 then joiV E r U else staV E r
theorem brk_eq (hE : EcEq E E') (h : EqN (eN E) r r') {U rest : Nat} : brk E r U rest = brk E' r' U rest := by
  rw [brk, brk, corV_eq hE h, staV_eq hE h, joiV_eq hE h]
end EQN
def VerdAt (V : Nat) : Prop := shl[V]? = some (.inr (7, [some (V + 1), some (V + 2)])) ∧ shl[V + 1]? = some (.inl 609) ∧ shl[V + 2]? = some (.inl 609)
def VC (h : Hp) (V G n : Nat) : Prop := ∃ ver, h (G + 1) 3 = nI ver ∧ 0 < ver ∧ ver < 2 ^ 30 ∧ (∀ p, p < 609 → ∃ a, h (V + 1) p = nI a ∧ a ≤ ver) ∧ ∀ c rest, rest < 3 → Can n c → h (V + 1) (rest * 203 + plc n c n) = nI ver → h (V + 2) (rest * 203 + plc n c n) = brk (eH h (G + 1) n) (lab c) (mx c n) rest
theorem VC.keep {h h' : Hp} {V G n : Nat} (H : VC h V G n) (h1 : h' (V + 1) = h (V + 1)) (h2 : h' (V + 2) = h (V + 2)) (h3 : h' (G + 1) 3 = h (G + 1) 3) (h4 : eH h' (G + 1) n = eH h (G + 1) n) : VC h' V G n := by
  obtain ⟨ver, g1, g2, g3, g4, g5⟩ := H
  exact ⟨ver, by rw [h3]; exact g1, g2, g3, fun p hp => by rw [h1]; exact g4 p hp, fun c rest hr hc he => by rw [h1] at he; rw [h2, h4]; exact g5 c rest hr hc he⟩
theorem VC_new {h h1 : Hp} {V G n rest : Nat} {c : Nat → Nat} {x : Int32} (hVG : G + 18 ≤ V ∨ V + 3 ≤ G) (hn : n ≤ 6) (hr : rest < 3) (hc : Can n c) (H : VC h V G n) (k : KeepJ G h h1) (hx : x = brk (eH h (G + 1) n) (lab c) (mx c n) rest) :
    VC (hset (hset h1 (V + 2) (rest * 203 + plc n c n) x) (V + 1) (rest * 203 + plc n c n) (hset h1 (V + 2) (rest * 203 + plc n c n) x (G + 1) 3)) V G n := by
  have hpl := plc_lt hn hc
  generalize hp : rest * 203 + plc n c n = p
  have e1 : hset h1 (V + 2) p x (G + 1) 3 = h (G + 1) 3 := by rw [hset_ne (by omega), k _ (by omega)]
  rw [e1]
  have e2 : ∀ q, ¬ q = V + 1 → ¬ q = V + 2 → hset (hset h1 (V + 2) p x) (V + 1) p (h (G + 1) 3) q = h1 q := fun q a b => by rw [hset_ne a, hset_ne b]
  have eE : eH (hset (hset h1 (V + 2) p x) (V + 1) p (h (G + 1) 3)) (G + 1) n = eH h (G + 1) n := eH_keep (fun q a b => by rw [e2 q (by omega) (by omega)]; exact k q (by omega))
  obtain ⟨ver, g1, g2, g3, g4, g5⟩ := H
  refine ⟨ver, by rw [e2 _ (by omega) (by omega), k _ (by omega)]; exact g1, g2, g3, fun p' hp' => ?_, fun c' rest' hr' hc' he => ?_⟩
  · rw [hset_same]
    by_cases e : p' = p
    · subst e; rw [upd_eq]; exact ⟨ver, g1, Nat.le_refl _⟩
    · rw [upd_ne e, hset_ne (by omega), k _ (by omega)]; exact g4 p' hp'
  · have hpl' := plc_lt hn hc'
    rw [eE, hset_ne (by omega), hset_same]
    by_cases e : rest' * 203 + plc n c' n = p
    · have er : rest' = rest := by omega
      have ec : plc n c' n = plc n c n := by omega
      have hcc := plc_inj hn hc' hc ec
      rw [e, upd_eq, hx, er, mx_congr hcc]
      exact (brk_eq (EcEq.refl _) (fun j hj => by show nI (c' j) = nI (c j); rw [hcc j hj])).symm
    · rw [hset_same, upd_ne e, hset_ne (by omega), k _ (by omega)] at he
      rw [upd_ne e, k _ (by omega)]
      exact g5 c' rest' hr' hc' he
theorem VC.val {h : Hp} {V G n rest : Nat} {c : Nat → Nat} (H : VC h V G n) (hr : rest < 3) (hc : Can n c) (he : h (V + 1) (rest * 203 + plc n c n) = h (G + 1) 3) : h (V + 2) (rest * 203 + plc n c n) = brk (eH h (G + 1) n) (lab c) (mx c n) rest := by
  obtain ⟨ver, g1, g2, g3, g4, g5⟩ := H
  exact g5 c rest hr hc (by rw [he, g1])
theorem is1 {a : Nat} (ha : a < 3) : nI a = 1 ↔ a = 1 := by
  rw [show (1 : Int32) = nI 1 by decide]; exact nI_eq (by omega) (by omega)
theorem is2 {a : Nat} (ha : a < 3) : nI a = 2 ↔ a = 2 := by
  rw [show (2 : Int32) = nI 2 by decide]; exact nI_eq (by omega) (by omega)
theorem nI_is {a b : Nat} (ha : a < 3) (hb : b < 3) {x : Int32} (hx : x = nI b) : nI a = x ↔ a = b := by subst hx; exact nI_eq (by omega) (by omega)
def KeepV (V G : Nat) (h h' : Hp) : Prop := ∀ q, ¬ (G + 6 < q ∧ q ≤ G + 17) → ¬ q = V + 1 → ¬ q = V + 2 → h' q = h q

set_option maxRecDepth 100000 in
set_option maxHeartbeats 4000000 in
theorem c_firstBreaker {g : GG} {V J G P n rest : Nat} {h : Hp} {c : Nat → Nat} (hV : VerdAt V) (hJ : JudgeAt J G) (hP : PartAt P) (hd : G + 18 ≤ P ∨ P + 3 ≤ G) (hVG : G + 18 ≤ V ∨ V + 3 ≤ G) (j : JI g h G n) (hc : Can n c) (hs : PS h P n c) (hr : rest < 3) (hv : VC h V G n) : R g mX7_firstBreaker 0 [some (.ref (ad g V)), some (.ref (ad g J)), some (.int (nI rest)), some (.ref (ad g P)), none, none] [] h (Ri fun v h' => v = brk (eH h (G + 1) n) (lab c) (mx c n) rest ∧ KeepV V G h h' ∧ GC h' G n ∧ VC h' V G n) := by
  have hpl := plc_lt j.2.1 hc
  refine r_iload_n rfl dX7_firstBreaker_0 ?_
  refine r_sipush (v := (203 : Int32)) (by decide) dX7_firstBreaker_1 ?_
  refine r_imul dX7_firstBreaker_4 ?_
  refine r_aload_n rfl dX7_firstBreaker_5 ?_
  refine r_cV0i (T := TX6) (N := 4) moX6_place lkX7_18 hP.1 rfl (Nat.le_of_ble_eq_true rfl) ⟨by decide, by decide⟩ (Nat.le_of_ble_eq_true rfl) dX7_firstBreaker_6 rfl (c_place hP j.2.1 hc hs j.1) (fun v1 h1 q1 => ?_)
  obtain ⟨e1, e2⟩ := q1
  subst e2
  rw [e1, show (203 : Int32) = nI 203 by decide, nI_mul]
  refine r_iadd dX7_firstBreaker_9 ?_
  rw [nI_add]
  refine r_ist4 rfl (by decide) dX7_firstBreaker_10 ?_
  refine r_aload_n rfl dX7_firstBreaker_12 ?_
  refine r_getR foX7_9 hV.1 rfl dX7_firstBreaker_13 ?_
  refine r_iload rfl dX7_firstBreaker_16 ?_
  refine r_ild hV.2.1 rfl (by omega) (by decide) dX7_firstBreaker_18 ?_
  refine r_aload_n rfl dX7_firstBreaker_19 ?_
  refine r_getR foX7_24 hJ.1 rfl dX7_firstBreaker_20 ?_
  refine r_getI foX7_30 hJ.2.1.2.1.1 rfl dX7_firstBreaker_23 ?_
  refine r_icmp_eq 91 dX7_firstBreaker_26 (by decide) (fun c_26 => ?_) (fun c_26 => ?_)
  · refine r_aload_n rfl dX7_firstBreaker_91 ?_
    refine r_getR foX7_15 hV.1 rfl dX7_firstBreaker_92 ?_
    refine r_iload rfl dX7_firstBreaker_95 ?_
    refine r_ild hV.2.2 rfl (by omega) (by decide) dX7_firstBreaker_97 ?_
    refine ret_i dX7_firstBreaker_98 rfl ?_
    first
      | exact ⟨hv.val hr hc c_26, fun _ _ _ _ => rfl, j.2.2.2.2, hv⟩
      | exact absurd ((is1 hr).mp c_51) (by have := (is2 hr).mp c_31; omega)
      | first
        | (have hx : joiV (eH h (G + 1) n) (lab c) (mx c n) = brk (eH h (G + 1) n) (lab c) (mx c n) rest := by rw [brk, if_neg (fun e => c_31 ((is2 hr).mpr e)), if_pos ⟨(is1 hr).mp c_51, c_58⟩]
           exact ⟨by rw [hset_ne (by omega), hset_same, upd_eq]; exact hx, fun q a b d => by rw [hset_ne b, hset_ne d]; exact k3 q a, g3.keep (fun q a b => by rw [hset_ne (by omega), hset_ne (by omega)]), VC_new hVG j.2.1 hr hc hv k3 hx⟩)
        | (have hx : corV (eH h (G + 1) n) (lab c) = brk (eH h (G + 1) n) (lab c) (mx c n) rest := by rw [brk, if_pos ((is2 hr).mp c_31)]
           exact ⟨by rw [hset_ne (by omega), hset_same, upd_eq]; exact hx, fun q a b d => by rw [hset_ne b, hset_ne d]; exact k2 q a, g2.keep (fun q a b => by rw [hset_ne (by omega), hset_ne (by omega)]), VC_new hVG j.2.1 hr hc hv k2 hx⟩)
        | (have hx : staV (eH h (G + 1) n) (lab c) = brk (eH h (G + 1) n) (lab c) (mx c n) rest := by rw [brk, if_neg (fun e => c_31 ((is2 hr).mpr e)), if_neg (fun e => by first | exact c_51 ((is1 hr).mpr e.1) | exact c_58 e.2)]
           exact ⟨by rw [hset_ne (by omega), hset_same, upd_eq]; exact hx, fun q a b d => by rw [hset_ne b, hset_ne d]; exact k2 q a, g2.keep (fun q a b => by rw [hset_ne (by omega), hset_ne (by omega)]), VC_new hVG j.2.1 hr hc hv k2 hx⟩)
  · refine r_iload_n rfl dX7_firstBreaker_29 ?_
    refine r_iconst (v := (2 : Int32)) (by decide) dX7_firstBreaker_30 ?_
    refine r_icmp_ne 42 dX7_firstBreaker_31 (by decide) (fun c_31 => ?_) (fun c_31 => ?_)
    · refine r_aload_n rfl dX7_firstBreaker_42 ?_
      refine r_aload_n rfl dX7_firstBreaker_43 ?_
      refine r_cV1i (T := TX2) (N := 3) moX2_stayBreaker lkX7_40 hJ.1 rfl (Nat.le_of_ble_eq_true rfl) ⟨by decide, by decide⟩ (Nat.le_of_ble_eq_true rfl) dX7_firstBreaker_44 rfl (c_stayBreaker hJ hP hd j hc hs) (fun v2 h2 q2 => ?_)
      obtain ⟨e2, k2, g2⟩ := q2
      subst e2
      refine r_ist5 rfl (by decide) dX7_firstBreaker_47 ?_
      refine r_iload_n rfl dX7_firstBreaker_49 ?_
      refine r_iconst (v := (1 : Int32)) (by decide) dX7_firstBreaker_50 ?_
      refine r_icmp_ne 68 dX7_firstBreaker_51 (by decide) (fun c_51 => ?_) (fun c_51 => ?_)
      · refine r_aload_n rfl dX7_firstBreaker_68 ?_
        refine r_getR foX7_15 hV.1 rfl dX7_firstBreaker_69 ?_
        refine r_iload rfl dX7_firstBreaker_72 ?_
        refine r_iload rfl dX7_firstBreaker_74 ?_
        refine r_ias hV.2.2 rfl (by omega) (by decide) dX7_firstBreaker_76 ?_
        refine r_aload_n rfl dX7_firstBreaker_77 ?_
        refine r_getR foX7_9 hV.1 rfl dX7_firstBreaker_78 ?_
        refine r_iload rfl dX7_firstBreaker_81 ?_
        refine r_aload_n rfl dX7_firstBreaker_83 ?_
        refine r_getR foX7_24 hJ.1 rfl dX7_firstBreaker_84 ?_
        refine r_getI foX7_30 hJ.2.1.2.1.1 rfl dX7_firstBreaker_87 ?_
        refine r_ias hV.2.1 rfl (by omega) (by decide) dX7_firstBreaker_90 ?_
        refine r_aload_n rfl dX7_firstBreaker_91 ?_
        refine r_getR foX7_15 hV.1 rfl dX7_firstBreaker_92 ?_
        refine r_iload rfl dX7_firstBreaker_95 ?_
        refine r_ild hV.2.2 rfl (by omega) (by decide) dX7_firstBreaker_97 ?_
        refine ret_i dX7_firstBreaker_98 rfl ?_
        first
          | exact ⟨hv.val hr hc c_26, fun _ _ _ _ => rfl, j.2.2.2.2, hv⟩
          | exact absurd ((is1 hr).mp c_51) (by have := (is2 hr).mp c_31; omega)
          | first
            | (have hx : joiV (eH h (G + 1) n) (lab c) (mx c n) = brk (eH h (G + 1) n) (lab c) (mx c n) rest := by rw [brk, if_neg (fun e => c_31 ((is2 hr).mpr e)), if_pos ⟨(is1 hr).mp c_51, c_58⟩]
               exact ⟨by rw [hset_ne (by omega), hset_same, upd_eq]; exact hx, fun q a b d => by rw [hset_ne b, hset_ne d]; exact k3 q a, g3.keep (fun q a b => by rw [hset_ne (by omega), hset_ne (by omega)]), VC_new hVG j.2.1 hr hc hv k3 hx⟩)
            | (have hx : corV (eH h (G + 1) n) (lab c) = brk (eH h (G + 1) n) (lab c) (mx c n) rest := by rw [brk, if_pos ((is2 hr).mp c_31)]
               exact ⟨by rw [hset_ne (by omega), hset_same, upd_eq]; exact hx, fun q a b d => by rw [hset_ne b, hset_ne d]; exact k2 q a, g2.keep (fun q a b => by rw [hset_ne (by omega), hset_ne (by omega)]), VC_new hVG j.2.1 hr hc hv k2 hx⟩)
            | (have hx : staV (eH h (G + 1) n) (lab c) = brk (eH h (G + 1) n) (lab c) (mx c n) rest := by rw [brk, if_neg (fun e => c_31 ((is2 hr).mpr e)), if_neg (fun e => by first | exact c_51 ((is1 hr).mpr e.1) | exact c_58 e.2)]
               exact ⟨by rw [hset_ne (by omega), hset_same, upd_eq]; exact hx, fun q a b d => by rw [hset_ne b, hset_ne d]; exact k2 q a, g2.keep (fun q a b => by rw [hset_ne (by omega), hset_ne (by omega)]), VC_new hVG j.2.1 hr hc hv k2 hx⟩)
      · refine r_iload rfl dX7_firstBreaker_54 ?_
        refine r_bipush (v := (-6 : Int32)) (by decide) dX7_firstBreaker_56 ?_
        refine r_icmp_ne 68 dX7_firstBreaker_58 (by decide) (fun c_58 => ?_) (fun c_58 => ?_)
        · refine r_aload_n rfl dX7_firstBreaker_68 ?_
          refine r_getR foX7_15 hV.1 rfl dX7_firstBreaker_69 ?_
          refine r_iload rfl dX7_firstBreaker_72 ?_
          refine r_iload rfl dX7_firstBreaker_74 ?_
          refine r_ias hV.2.2 rfl (by omega) (by decide) dX7_firstBreaker_76 ?_
          refine r_aload_n rfl dX7_firstBreaker_77 ?_
          refine r_getR foX7_9 hV.1 rfl dX7_firstBreaker_78 ?_
          refine r_iload rfl dX7_firstBreaker_81 ?_
          refine r_aload_n rfl dX7_firstBreaker_83 ?_
          refine r_getR foX7_24 hJ.1 rfl dX7_firstBreaker_84 ?_
          refine r_getI foX7_30 hJ.2.1.2.1.1 rfl dX7_firstBreaker_87 ?_
          refine r_ias hV.2.1 rfl (by omega) (by decide) dX7_firstBreaker_90 ?_
          refine r_aload_n rfl dX7_firstBreaker_91 ?_
          refine r_getR foX7_15 hV.1 rfl dX7_firstBreaker_92 ?_
          refine r_iload rfl dX7_firstBreaker_95 ?_
          refine r_ild hV.2.2 rfl (by omega) (by decide) dX7_firstBreaker_97 ?_
          refine ret_i dX7_firstBreaker_98 rfl ?_
          first
            | exact ⟨hv.val hr hc c_26, fun _ _ _ _ => rfl, j.2.2.2.2, hv⟩
            | exact absurd ((is1 hr).mp c_51) (by have := (is2 hr).mp c_31; omega)
            | first
              | (have hx : joiV (eH h (G + 1) n) (lab c) (mx c n) = brk (eH h (G + 1) n) (lab c) (mx c n) rest := by rw [brk, if_neg (fun e => c_31 ((is2 hr).mpr e)), if_pos ⟨(is1 hr).mp c_51, c_58⟩]
                 exact ⟨by rw [hset_ne (by omega), hset_same, upd_eq]; exact hx, fun q a b d => by rw [hset_ne b, hset_ne d]; exact k3 q a, g3.keep (fun q a b => by rw [hset_ne (by omega), hset_ne (by omega)]), VC_new hVG j.2.1 hr hc hv k3 hx⟩)
              | (have hx : corV (eH h (G + 1) n) (lab c) = brk (eH h (G + 1) n) (lab c) (mx c n) rest := by rw [brk, if_pos ((is2 hr).mp c_31)]
                 exact ⟨by rw [hset_ne (by omega), hset_same, upd_eq]; exact hx, fun q a b d => by rw [hset_ne b, hset_ne d]; exact k2 q a, g2.keep (fun q a b => by rw [hset_ne (by omega), hset_ne (by omega)]), VC_new hVG j.2.1 hr hc hv k2 hx⟩)
              | (have hx : staV (eH h (G + 1) n) (lab c) = brk (eH h (G + 1) n) (lab c) (mx c n) rest := by rw [brk, if_neg (fun e => c_31 ((is2 hr).mpr e)), if_neg (fun e => by first | exact c_51 ((is1 hr).mpr e.1) | exact c_58 e.2)]
                 exact ⟨by rw [hset_ne (by omega), hset_same, upd_eq]; exact hx, fun q a b d => by rw [hset_ne b, hset_ne d]; exact k2 q a, g2.keep (fun q a b => by rw [hset_ne (by omega), hset_ne (by omega)]), VC_new hVG j.2.1 hr hc hv k2 hx⟩)
        · refine r_aload_n rfl dX7_firstBreaker_61 ?_
          refine r_aload_n rfl dX7_firstBreaker_62 ?_
          refine r_cV1i (T := TX2) (N := 3) moX2_joinBreaker lkX7_43 hJ.1 rfl (Nat.le_of_ble_eq_true rfl) ⟨by decide, by decide⟩ (Nat.le_of_ble_eq_true rfl) dX7_firstBreaker_63 rfl (c_joinBreaker hJ hP hd (k2.JI j g2) hc (k2.PS hd hs)) (fun v3 h3 q3 => ?_)
          obtain ⟨e3, kz, g3⟩ := q3
          have k3 := k2.trans kz
          rw [k2.eH] at e3
          subst e3
          refine r_ist5 rfl (by decide) dX7_firstBreaker_66 ?_
          refine r_aload_n rfl dX7_firstBreaker_68 ?_
          refine r_getR foX7_15 hV.1 rfl dX7_firstBreaker_69 ?_
          refine r_iload rfl dX7_firstBreaker_72 ?_
          refine r_iload rfl dX7_firstBreaker_74 ?_
          refine r_ias hV.2.2 rfl (by omega) (by decide) dX7_firstBreaker_76 ?_
          refine r_aload_n rfl dX7_firstBreaker_77 ?_
          refine r_getR foX7_9 hV.1 rfl dX7_firstBreaker_78 ?_
          refine r_iload rfl dX7_firstBreaker_81 ?_
          refine r_aload_n rfl dX7_firstBreaker_83 ?_
          refine r_getR foX7_24 hJ.1 rfl dX7_firstBreaker_84 ?_
          refine r_getI foX7_30 hJ.2.1.2.1.1 rfl dX7_firstBreaker_87 ?_
          refine r_ias hV.2.1 rfl (by omega) (by decide) dX7_firstBreaker_90 ?_
          refine r_aload_n rfl dX7_firstBreaker_91 ?_
          refine r_getR foX7_15 hV.1 rfl dX7_firstBreaker_92 ?_
          refine r_iload rfl dX7_firstBreaker_95 ?_
          refine r_ild hV.2.2 rfl (by omega) (by decide) dX7_firstBreaker_97 ?_
          refine ret_i dX7_firstBreaker_98 rfl ?_
          first
            | exact ⟨hv.val hr hc c_26, fun _ _ _ _ => rfl, j.2.2.2.2, hv⟩
            | exact absurd ((is1 hr).mp c_51) (by have := (is2 hr).mp c_31; omega)
            | first
              | (have hx : joiV (eH h (G + 1) n) (lab c) (mx c n) = brk (eH h (G + 1) n) (lab c) (mx c n) rest := by rw [brk, if_neg (fun e => c_31 ((is2 hr).mpr e)), if_pos ⟨(is1 hr).mp c_51, c_58⟩]
                 exact ⟨by rw [hset_ne (by omega), hset_same, upd_eq]; exact hx, fun q a b d => by rw [hset_ne b, hset_ne d]; exact k3 q a, g3.keep (fun q a b => by rw [hset_ne (by omega), hset_ne (by omega)]), VC_new hVG j.2.1 hr hc hv k3 hx⟩)
              | (have hx : corV (eH h (G + 1) n) (lab c) = brk (eH h (G + 1) n) (lab c) (mx c n) rest := by rw [brk, if_pos ((is2 hr).mp c_31)]
                 exact ⟨by rw [hset_ne (by omega), hset_same, upd_eq]; exact hx, fun q a b d => by rw [hset_ne b, hset_ne d]; exact k2 q a, g2.keep (fun q a b => by rw [hset_ne (by omega), hset_ne (by omega)]), VC_new hVG j.2.1 hr hc hv k2 hx⟩)
              | (have hx : staV (eH h (G + 1) n) (lab c) = brk (eH h (G + 1) n) (lab c) (mx c n) rest := by rw [brk, if_neg (fun e => c_31 ((is2 hr).mpr e)), if_neg (fun e => by first | exact c_51 ((is1 hr).mpr e.1) | exact c_58 e.2)]
                 exact ⟨by rw [hset_ne (by omega), hset_same, upd_eq]; exact hx, fun q a b d => by rw [hset_ne b, hset_ne d]; exact k2 q a, g2.keep (fun q a b => by rw [hset_ne (by omega), hset_ne (by omega)]), VC_new hVG j.2.1 hr hc hv k2 hx⟩)
    · refine r_aload_n rfl dX7_firstBreaker_34 ?_
      refine r_aload_n rfl dX7_firstBreaker_35 ?_
      refine r_cV1i (T := TX2) (N := 3) moX2_coreBreaker lkX7_36 hJ.1 rfl (Nat.le_of_ble_eq_true rfl) ⟨by decide, by decide⟩ (Nat.le_of_ble_eq_true rfl) dX7_firstBreaker_36 rfl (c_coreBreaker hJ hP hd j hc hs) (fun v4 h4 q4 => ?_)
      obtain ⟨e2, k2, g2⟩ := q4
      subst e2
      refine r_goto 47 dX7_firstBreaker_39 (by decide) ?_
      refine r_ist5 rfl (by decide) dX7_firstBreaker_47 ?_
      refine r_iload_n rfl dX7_firstBreaker_49 ?_
      refine r_iconst (v := (1 : Int32)) (by decide) dX7_firstBreaker_50 ?_
      refine r_icmp_ne 68 dX7_firstBreaker_51 (by decide) (fun c_51 => ?_) (fun c_51 => ?_)
      · refine r_aload_n rfl dX7_firstBreaker_68 ?_
        refine r_getR foX7_15 hV.1 rfl dX7_firstBreaker_69 ?_
        refine r_iload rfl dX7_firstBreaker_72 ?_
        refine r_iload rfl dX7_firstBreaker_74 ?_
        refine r_ias hV.2.2 rfl (by omega) (by decide) dX7_firstBreaker_76 ?_
        refine r_aload_n rfl dX7_firstBreaker_77 ?_
        refine r_getR foX7_9 hV.1 rfl dX7_firstBreaker_78 ?_
        refine r_iload rfl dX7_firstBreaker_81 ?_
        refine r_aload_n rfl dX7_firstBreaker_83 ?_
        refine r_getR foX7_24 hJ.1 rfl dX7_firstBreaker_84 ?_
        refine r_getI foX7_30 hJ.2.1.2.1.1 rfl dX7_firstBreaker_87 ?_
        refine r_ias hV.2.1 rfl (by omega) (by decide) dX7_firstBreaker_90 ?_
        refine r_aload_n rfl dX7_firstBreaker_91 ?_
        refine r_getR foX7_15 hV.1 rfl dX7_firstBreaker_92 ?_
        refine r_iload rfl dX7_firstBreaker_95 ?_
        refine r_ild hV.2.2 rfl (by omega) (by decide) dX7_firstBreaker_97 ?_
        refine ret_i dX7_firstBreaker_98 rfl ?_
        first
          | exact ⟨hv.val hr hc c_26, fun _ _ _ _ => rfl, j.2.2.2.2, hv⟩
          | exact absurd ((is1 hr).mp c_51) (by have := (is2 hr).mp c_31; omega)
          | first
            | (have hx : joiV (eH h (G + 1) n) (lab c) (mx c n) = brk (eH h (G + 1) n) (lab c) (mx c n) rest := by rw [brk, if_neg (fun e => c_31 ((is2 hr).mpr e)), if_pos ⟨(is1 hr).mp c_51, c_58⟩]
               exact ⟨by rw [hset_ne (by omega), hset_same, upd_eq]; exact hx, fun q a b d => by rw [hset_ne b, hset_ne d]; exact k3 q a, g3.keep (fun q a b => by rw [hset_ne (by omega), hset_ne (by omega)]), VC_new hVG j.2.1 hr hc hv k3 hx⟩)
            | (have hx : corV (eH h (G + 1) n) (lab c) = brk (eH h (G + 1) n) (lab c) (mx c n) rest := by rw [brk, if_pos ((is2 hr).mp c_31)]
               exact ⟨by rw [hset_ne (by omega), hset_same, upd_eq]; exact hx, fun q a b d => by rw [hset_ne b, hset_ne d]; exact k2 q a, g2.keep (fun q a b => by rw [hset_ne (by omega), hset_ne (by omega)]), VC_new hVG j.2.1 hr hc hv k2 hx⟩)
            | (have hx : staV (eH h (G + 1) n) (lab c) = brk (eH h (G + 1) n) (lab c) (mx c n) rest := by rw [brk, if_neg (fun e => c_31 ((is2 hr).mpr e)), if_neg (fun e => by first | exact c_51 ((is1 hr).mpr e.1) | exact c_58 e.2)]
               exact ⟨by rw [hset_ne (by omega), hset_same, upd_eq]; exact hx, fun q a b d => by rw [hset_ne b, hset_ne d]; exact k2 q a, g2.keep (fun q a b => by rw [hset_ne (by omega), hset_ne (by omega)]), VC_new hVG j.2.1 hr hc hv k2 hx⟩)
      · refine r_iload rfl dX7_firstBreaker_54 ?_
        refine r_bipush (v := (-6 : Int32)) (by decide) dX7_firstBreaker_56 ?_
        refine r_icmp_ne 68 dX7_firstBreaker_58 (by decide) (fun c_58 => ?_) (fun c_58 => ?_)
        · refine r_aload_n rfl dX7_firstBreaker_68 ?_
          refine r_getR foX7_15 hV.1 rfl dX7_firstBreaker_69 ?_
          refine r_iload rfl dX7_firstBreaker_72 ?_
          refine r_iload rfl dX7_firstBreaker_74 ?_
          refine r_ias hV.2.2 rfl (by omega) (by decide) dX7_firstBreaker_76 ?_
          refine r_aload_n rfl dX7_firstBreaker_77 ?_
          refine r_getR foX7_9 hV.1 rfl dX7_firstBreaker_78 ?_
          refine r_iload rfl dX7_firstBreaker_81 ?_
          refine r_aload_n rfl dX7_firstBreaker_83 ?_
          refine r_getR foX7_24 hJ.1 rfl dX7_firstBreaker_84 ?_
          refine r_getI foX7_30 hJ.2.1.2.1.1 rfl dX7_firstBreaker_87 ?_
          refine r_ias hV.2.1 rfl (by omega) (by decide) dX7_firstBreaker_90 ?_
          refine r_aload_n rfl dX7_firstBreaker_91 ?_
          refine r_getR foX7_15 hV.1 rfl dX7_firstBreaker_92 ?_
          refine r_iload rfl dX7_firstBreaker_95 ?_
          refine r_ild hV.2.2 rfl (by omega) (by decide) dX7_firstBreaker_97 ?_
          refine ret_i dX7_firstBreaker_98 rfl ?_
          first
            | exact ⟨hv.val hr hc c_26, fun _ _ _ _ => rfl, j.2.2.2.2, hv⟩
            | exact absurd ((is1 hr).mp c_51) (by have := (is2 hr).mp c_31; omega)
            | first
              | (have hx : joiV (eH h (G + 1) n) (lab c) (mx c n) = brk (eH h (G + 1) n) (lab c) (mx c n) rest := by rw [brk, if_neg (fun e => c_31 ((is2 hr).mpr e)), if_pos ⟨(is1 hr).mp c_51, c_58⟩]
                 exact ⟨by rw [hset_ne (by omega), hset_same, upd_eq]; exact hx, fun q a b d => by rw [hset_ne b, hset_ne d]; exact k3 q a, g3.keep (fun q a b => by rw [hset_ne (by omega), hset_ne (by omega)]), VC_new hVG j.2.1 hr hc hv k3 hx⟩)
              | (have hx : corV (eH h (G + 1) n) (lab c) = brk (eH h (G + 1) n) (lab c) (mx c n) rest := by rw [brk, if_pos ((is2 hr).mp c_31)]
                 exact ⟨by rw [hset_ne (by omega), hset_same, upd_eq]; exact hx, fun q a b d => by rw [hset_ne b, hset_ne d]; exact k2 q a, g2.keep (fun q a b => by rw [hset_ne (by omega), hset_ne (by omega)]), VC_new hVG j.2.1 hr hc hv k2 hx⟩)
              | (have hx : staV (eH h (G + 1) n) (lab c) = brk (eH h (G + 1) n) (lab c) (mx c n) rest := by rw [brk, if_neg (fun e => c_31 ((is2 hr).mpr e)), if_neg (fun e => by first | exact c_51 ((is1 hr).mpr e.1) | exact c_58 e.2)]
                 exact ⟨by rw [hset_ne (by omega), hset_same, upd_eq]; exact hx, fun q a b d => by rw [hset_ne b, hset_ne d]; exact k2 q a, g2.keep (fun q a b => by rw [hset_ne (by omega), hset_ne (by omega)]), VC_new hVG j.2.1 hr hc hv k2 hx⟩)
        · refine r_aload_n rfl dX7_firstBreaker_61 ?_
          refine r_aload_n rfl dX7_firstBreaker_62 ?_
          refine r_cV1i (T := TX2) (N := 3) moX2_joinBreaker lkX7_43 hJ.1 rfl (Nat.le_of_ble_eq_true rfl) ⟨by decide, by decide⟩ (Nat.le_of_ble_eq_true rfl) dX7_firstBreaker_63 rfl (c_joinBreaker hJ hP hd (k2.JI j g2) hc (k2.PS hd hs)) (fun v5 h5 q5 => ?_)
          obtain ⟨e3, kz, g3⟩ := q5
          have k3 := k2.trans kz
          rw [k2.eH] at e3
          subst e3
          refine r_ist5 rfl (by decide) dX7_firstBreaker_66 ?_
          refine r_aload_n rfl dX7_firstBreaker_68 ?_
          refine r_getR foX7_15 hV.1 rfl dX7_firstBreaker_69 ?_
          refine r_iload rfl dX7_firstBreaker_72 ?_
          refine r_iload rfl dX7_firstBreaker_74 ?_
          refine r_ias hV.2.2 rfl (by omega) (by decide) dX7_firstBreaker_76 ?_
          refine r_aload_n rfl dX7_firstBreaker_77 ?_
          refine r_getR foX7_9 hV.1 rfl dX7_firstBreaker_78 ?_
          refine r_iload rfl dX7_firstBreaker_81 ?_
          refine r_aload_n rfl dX7_firstBreaker_83 ?_
          refine r_getR foX7_24 hJ.1 rfl dX7_firstBreaker_84 ?_
          refine r_getI foX7_30 hJ.2.1.2.1.1 rfl dX7_firstBreaker_87 ?_
          refine r_ias hV.2.1 rfl (by omega) (by decide) dX7_firstBreaker_90 ?_
          refine r_aload_n rfl dX7_firstBreaker_91 ?_
          refine r_getR foX7_15 hV.1 rfl dX7_firstBreaker_92 ?_
          refine r_iload rfl dX7_firstBreaker_95 ?_
          refine r_ild hV.2.2 rfl (by omega) (by decide) dX7_firstBreaker_97 ?_
          refine ret_i dX7_firstBreaker_98 rfl ?_
          first
            | exact ⟨hv.val hr hc c_26, fun _ _ _ _ => rfl, j.2.2.2.2, hv⟩
            | exact absurd ((is1 hr).mp c_51) (by have := (is2 hr).mp c_31; omega)
            | first
              | (have hx : joiV (eH h (G + 1) n) (lab c) (mx c n) = brk (eH h (G + 1) n) (lab c) (mx c n) rest := by rw [brk, if_neg (fun e => c_31 ((is2 hr).mpr e)), if_pos ⟨(is1 hr).mp c_51, c_58⟩]
                 exact ⟨by rw [hset_ne (by omega), hset_same, upd_eq]; exact hx, fun q a b d => by rw [hset_ne b, hset_ne d]; exact k3 q a, g3.keep (fun q a b => by rw [hset_ne (by omega), hset_ne (by omega)]), VC_new hVG j.2.1 hr hc hv k3 hx⟩)
              | (have hx : corV (eH h (G + 1) n) (lab c) = brk (eH h (G + 1) n) (lab c) (mx c n) rest := by rw [brk, if_pos ((is2 hr).mp c_31)]
                 exact ⟨by rw [hset_ne (by omega), hset_same, upd_eq]; exact hx, fun q a b d => by rw [hset_ne b, hset_ne d]; exact k2 q a, g2.keep (fun q a b => by rw [hset_ne (by omega), hset_ne (by omega)]), VC_new hVG j.2.1 hr hc hv k2 hx⟩)
              | (have hx : staV (eH h (G + 1) n) (lab c) = brk (eH h (G + 1) n) (lab c) (mx c n) rest := by rw [brk, if_neg (fun e => c_31 ((is2 hr).mpr e)), if_neg (fun e => by first | exact c_51 ((is1 hr).mpr e.1) | exact c_58 e.2)]
                 exact ⟨by rw [hset_ne (by omega), hset_same, upd_eq]; exact hx, fun q a b d => by rw [hset_ne b, hset_ne d]; exact k2 q a, g2.keep (fun q a b => by rw [hset_ne (by omega), hset_ne (by omega)]), VC_new hVG j.2.1 hr hc hv k2 hx⟩)
end
section
theorem tsOut {x : Int32} (K : Nat) (hK : K < 100) (h : ∀ i, i ≤ K → ¬ x = nI i) : x.toInt < 0 ∨ (K : Int) < x.toInt := by
  refine Decidable.byContradiction fun q => ?_
  have h0 : ¬ x < 0 := fun z => q (Or.inl (by have := Int32.lt_iff_toInt_lt.mp z; simpa using this))
  obtain ⟨j, hj, e⟩ := nI_of h0
  have hj2 := nI_toInt hj
  refine h j ?_ e
  rw [e, hj2] at q
  omega
def rng (lo hi v : Int32) : Int32 := if v < lo then 0 else if hi < v then 0 else 1
def fitV (w v : Int32) : Int32 := if w = nI 0 then rng 1 99 v else if w = nI 1 then rng 1 99 v else if w = nI 2 then rng 0 20 v else if w = nI 3 then rng 0 60 v else 0

set_option maxRecDepth 100000 in
set_option maxHeartbeats 4000000 in
theorem c_fits {g : GG} {w v : Int32} {h : Hp} : R g mX3_fits 0 [some (.int w), some (.int v)] [] h (Ri fun r h' => h' = h ∧ r = fitV w v) := by
  refine r_iload_n rfl dX3_fits_0 ?_
  by_cases t_0 : w = nI 0
  · refine r_tsIn 32 dX3_fits_1 (by rw [t_0]; decide) (by rw [t_0]; decide) (by rw [t_0]; rfl) (by decide) ?_
    refine r_iload_n rfl dX3_fits_32 ?_
    refine r_iconst (v := (1 : Int32)) (by decide) dX3_fits_33 ?_
    refine r_icmp_lt 47 dX3_fits_34 (by decide) (fun c_34 => ?_) (fun c_34 => ?_)
    · refine r_iconst (v := (0 : Int32)) (by decide) dX3_fits_47 ?_
      refine ret_z dX3_fits_48 rfl (by decide) ?_
      exact ⟨rfl, by first | rw [fitV, if_pos t_0, rng, if_pos c_34] | rw [fitV, if_pos t_0, rng, if_neg c_34, if_pos c_40] | rw [fitV, if_pos t_0, rng, if_neg c_34, if_neg c_40]⟩
    · refine r_iload_n rfl dX3_fits_37 ?_
      refine r_bipush (v := (99 : Int32)) (by decide) dX3_fits_38 ?_
      refine r_icmp_gt 47 dX3_fits_40 (by decide) (fun c_40 => ?_) (fun c_40 => ?_)
      · refine r_iconst (v := (0 : Int32)) (by decide) dX3_fits_47 ?_
        refine ret_z dX3_fits_48 rfl (by decide) ?_
        exact ⟨rfl, by first | rw [fitV, if_pos t_0, rng, if_pos c_34] | rw [fitV, if_pos t_0, rng, if_neg c_34, if_pos c_40] | rw [fitV, if_pos t_0, rng, if_neg c_34, if_neg c_40]⟩
      · refine r_iconst (v := (1 : Int32)) (by decide) dX3_fits_43 ?_
        refine r_goto 48 dX3_fits_44 (by decide) ?_
        refine ret_z dX3_fits_48 rfl (by decide) ?_
        exact ⟨rfl, by first | rw [fitV, if_pos t_0, rng, if_pos c_34] | rw [fitV, if_pos t_0, rng, if_neg c_34, if_pos c_40] | rw [fitV, if_pos t_0, rng, if_neg c_34, if_neg c_40]⟩
  ·
    by_cases t_1 : w = nI 1
    · refine r_tsIn 49 dX3_fits_1 (by rw [t_1]; decide) (by rw [t_1]; decide) (by rw [t_1]; rfl) (by decide) ?_
      refine r_iload_n rfl dX3_fits_49 ?_
      refine r_iconst (v := (1 : Int32)) (by decide) dX3_fits_50 ?_
      refine r_icmp_lt 64 dX3_fits_51 (by decide) (fun c_51 => ?_) (fun c_51 => ?_)
      · refine r_iconst (v := (0 : Int32)) (by decide) dX3_fits_64 ?_
        refine ret_z dX3_fits_65 rfl (by decide) ?_
        exact ⟨rfl, by first | rw [fitV, if_neg t_0, if_pos t_1, rng, if_pos c_51] | rw [fitV, if_neg t_0, if_pos t_1, rng, if_neg c_51, if_pos c_57] | rw [fitV, if_neg t_0, if_pos t_1, rng, if_neg c_51, if_neg c_57]⟩
      · refine r_iload_n rfl dX3_fits_54 ?_
        refine r_bipush (v := (99 : Int32)) (by decide) dX3_fits_55 ?_
        refine r_icmp_gt 64 dX3_fits_57 (by decide) (fun c_57 => ?_) (fun c_57 => ?_)
        · refine r_iconst (v := (0 : Int32)) (by decide) dX3_fits_64 ?_
          refine ret_z dX3_fits_65 rfl (by decide) ?_
          exact ⟨rfl, by first | rw [fitV, if_neg t_0, if_pos t_1, rng, if_pos c_51] | rw [fitV, if_neg t_0, if_pos t_1, rng, if_neg c_51, if_pos c_57] | rw [fitV, if_neg t_0, if_pos t_1, rng, if_neg c_51, if_neg c_57]⟩
        · refine r_iconst (v := (1 : Int32)) (by decide) dX3_fits_60 ?_
          refine r_goto 65 dX3_fits_61 (by decide) ?_
          refine ret_z dX3_fits_65 rfl (by decide) ?_
          exact ⟨rfl, by first | rw [fitV, if_neg t_0, if_pos t_1, rng, if_pos c_51] | rw [fitV, if_neg t_0, if_pos t_1, rng, if_neg c_51, if_pos c_57] | rw [fitV, if_neg t_0, if_pos t_1, rng, if_neg c_51, if_neg c_57]⟩
    ·
      by_cases t_2 : w = nI 2
      · refine r_tsIn 66 dX3_fits_1 (by rw [t_2]; decide) (by rw [t_2]; decide) (by rw [t_2]; rfl) (by decide) ?_
        refine r_iload_n rfl dX3_fits_66 ?_
        refine r_if_lt 80 dX3_fits_67 (by decide) (fun c_67 => ?_) (fun c_67 => ?_)
        · refine r_iconst (v := (0 : Int32)) (by decide) dX3_fits_80 ?_
          refine ret_z dX3_fits_81 rfl (by decide) ?_
          exact ⟨rfl, by first | rw [fitV, if_neg t_0, if_neg t_1, if_pos t_2, rng, if_pos c_67] | rw [fitV, if_neg t_0, if_neg t_1, if_pos t_2, rng, if_neg c_67, if_pos c_73] | rw [fitV, if_neg t_0, if_neg t_1, if_pos t_2, rng, if_neg c_67, if_neg c_73]⟩
        · refine r_iload_n rfl dX3_fits_70 ?_
          refine r_bipush (v := (20 : Int32)) (by decide) dX3_fits_71 ?_
          refine r_icmp_gt 80 dX3_fits_73 (by decide) (fun c_73 => ?_) (fun c_73 => ?_)
          · refine r_iconst (v := (0 : Int32)) (by decide) dX3_fits_80 ?_
            refine ret_z dX3_fits_81 rfl (by decide) ?_
            exact ⟨rfl, by first | rw [fitV, if_neg t_0, if_neg t_1, if_pos t_2, rng, if_pos c_67] | rw [fitV, if_neg t_0, if_neg t_1, if_pos t_2, rng, if_neg c_67, if_pos c_73] | rw [fitV, if_neg t_0, if_neg t_1, if_pos t_2, rng, if_neg c_67, if_neg c_73]⟩
          · refine r_iconst (v := (1 : Int32)) (by decide) dX3_fits_76 ?_
            refine r_goto 81 dX3_fits_77 (by decide) ?_
            refine ret_z dX3_fits_81 rfl (by decide) ?_
            exact ⟨rfl, by first | rw [fitV, if_neg t_0, if_neg t_1, if_pos t_2, rng, if_pos c_67] | rw [fitV, if_neg t_0, if_neg t_1, if_pos t_2, rng, if_neg c_67, if_pos c_73] | rw [fitV, if_neg t_0, if_neg t_1, if_pos t_2, rng, if_neg c_67, if_neg c_73]⟩
      ·
        by_cases t_3 : w = nI 3
        · refine r_tsIn 82 dX3_fits_1 (by rw [t_3]; decide) (by rw [t_3]; decide) (by rw [t_3]; rfl) (by decide) ?_
          refine r_iload_n rfl dX3_fits_82 ?_
          refine r_if_lt 96 dX3_fits_83 (by decide) (fun c_83 => ?_) (fun c_83 => ?_)
          · refine r_iconst (v := (0 : Int32)) (by decide) dX3_fits_96 ?_
            refine ret_z dX3_fits_97 rfl (by decide) ?_
            exact ⟨rfl, by first | rw [fitV, if_neg t_0, if_neg t_1, if_neg t_2, if_pos t_3, rng, if_pos c_83] | rw [fitV, if_neg t_0, if_neg t_1, if_neg t_2, if_pos t_3, rng, if_neg c_83, if_pos c_89] | rw [fitV, if_neg t_0, if_neg t_1, if_neg t_2, if_pos t_3, rng, if_neg c_83, if_neg c_89]⟩
          · refine r_iload_n rfl dX3_fits_86 ?_
            refine r_bipush (v := (60 : Int32)) (by decide) dX3_fits_87 ?_
            refine r_icmp_gt 96 dX3_fits_89 (by decide) (fun c_89 => ?_) (fun c_89 => ?_)
            · refine r_iconst (v := (0 : Int32)) (by decide) dX3_fits_96 ?_
              refine ret_z dX3_fits_97 rfl (by decide) ?_
              exact ⟨rfl, by first | rw [fitV, if_neg t_0, if_neg t_1, if_neg t_2, if_pos t_3, rng, if_pos c_83] | rw [fitV, if_neg t_0, if_neg t_1, if_neg t_2, if_pos t_3, rng, if_neg c_83, if_pos c_89] | rw [fitV, if_neg t_0, if_neg t_1, if_neg t_2, if_pos t_3, rng, if_neg c_83, if_neg c_89]⟩
            · refine r_iconst (v := (1 : Int32)) (by decide) dX3_fits_92 ?_
              refine r_goto 97 dX3_fits_93 (by decide) ?_
              refine ret_z dX3_fits_97 rfl (by decide) ?_
              exact ⟨rfl, by first | rw [fitV, if_neg t_0, if_neg t_1, if_neg t_2, if_pos t_3, rng, if_pos c_83] | rw [fitV, if_neg t_0, if_neg t_1, if_neg t_2, if_pos t_3, rng, if_neg c_83, if_pos c_89] | rw [fitV, if_neg t_0, if_neg t_1, if_neg t_2, if_pos t_3, rng, if_neg c_83, if_neg c_89]⟩
        · refine r_tsOut 98 dX3_fits_1 (by have := tsOut (x := w) 3 (by decide) (fun i hi => by rcases (show i = 0 ∨ i = 1 ∨ i = 2 ∨ i = 3 by omega) with rfl | rfl | rfl | rfl <;> assumption); omega) (by decide) ?_
          refine r_iconst (v := (0 : Int32)) (by decide) dX3_fits_98 ?_
          refine ret_z dX3_fits_99 rfl (by decide) ?_
          exact ⟨rfl, by rw [fitV, if_neg t_0, if_neg t_1, if_neg t_2, if_neg t_3]⟩

set_option maxRecDepth 100000 in
set_option maxHeartbeats 4000000 in
theorem c_rowOfL {g : GG} {L w : Nat} {h : Hp} (hL : LandAt L) (hw : w < 4) : R g mX3_rowOf 0 [some (.ref (ad g L)), some (.int (nI w))] [] h (Ra fun a h' => h' = h ∧ a = ad g (L + (w + 1))) := by
  rcases (show w = 0 ∨ w = 1 ∨ w = 2 ∨ w = 3 by omega) with rfl | rfl | rfl | rfl
  · refine r_iload_n rfl dX3_rowOf_0 ?_
    refine r_tsIn 28 dX3_rowOf_1 (by decide) (by decide) rfl (by decide) ?_
    refine r_aload_n rfl dX3_rowOf_28 ?_
    refine r_getR foX3_15 hL.1 rfl dX3_rowOf_29 ?_
    refine ret_a dX3_rowOf_32 rfl ?_
    exact ⟨rfl, rfl⟩
  · refine r_iload_n rfl dX3_rowOf_0 ?_
    refine r_tsIn 33 dX3_rowOf_1 (by decide) (by decide) rfl (by decide) ?_
    refine r_aload_n rfl dX3_rowOf_33 ?_
    refine r_getR foX3_19 hL.1 rfl dX3_rowOf_34 ?_
    refine ret_a dX3_rowOf_37 rfl ?_
    exact ⟨rfl, rfl⟩
  · refine r_iload_n rfl dX3_rowOf_0 ?_
    refine r_tsIn 38 dX3_rowOf_1 (by decide) (by decide) rfl (by decide) ?_
    refine r_aload_n rfl dX3_rowOf_38 ?_
    refine r_getR foX3_22 hL.1 rfl dX3_rowOf_39 ?_
    refine ret_a dX3_rowOf_42 rfl ?_
    exact ⟨rfl, rfl⟩
  · refine r_iload_n rfl dX3_rowOf_0 ?_
    refine r_tsOut 43 dX3_rowOf_1 (Or.inr (by decide)) (by decide) ?_
    refine r_aload_n rfl dX3_rowOf_43 ?_
    refine r_getR foX3_25 hL.1 rfl dX3_rowOf_44 ?_
    refine ret_a dX3_rowOf_47 rfl ?_
    exact ⟨rfl, rfl⟩


theorem LandAt.arr {L w : Nat} (hL : LandAt L) (hw : w < 4) : shl[L + (w + 1)]? = some (.inl 6) := by
  rcases (show w = 0 ∨ w = 1 ∨ w = 2 ∨ w = 3 by omega) with rfl | rfl | rfl | rfl
  · exact hL.2.1
  · exact hL.2.2.1
  · exact hL.2.2.2.1
  · exact hL.2.2.2.2

set_option maxRecDepth 100000 in
set_option maxHeartbeats 4000000 in
theorem c_put {g : GG} {L w k : Nat} {v : Int32} {h : Hp} (hL : LandAt L) (hw : w < 4) (hk : k < 6) : R g mX3_put 0 [some (.ref (ad g L)), some (.int (nI w)), some (.int (nI k)), some (.int v)] [] h (Rv fun h' => h' = hset (hset h (L + (w + 1)) k v) L 3 (hset h (L + (w + 1)) k v L 3 + 1)) := by
  refine r_aload_n rfl dX3_put_0 ?_
  refine r_iload_n rfl dX3_put_1 ?_
  refine r_cV1a (T := TX3) (N := 8) moX3_rowOf lkX3_31 hL.1 rfl (Nat.le_of_ble_eq_true rfl) ⟨by decide, by decide⟩ (Nat.le_of_ble_eq_true rfl) dX3_put_2 rfl (c_rowOfL hL hw) (fun a1 h1 q1 => ?_)
  obtain ⟨e1, f1⟩ := q1
  subst f1
  rw [e1]
  refine r_iload_n rfl dX3_put_5 ?_
  refine r_iload_n rfl dX3_put_6 ?_
  refine r_ias (hL.arr hw) rfl (by omega) (by decide) dX3_put_7 ?_
  refine r_aload_n rfl dX3_put_8 ?_
  refine r_dup rfl dX3_put_9 ?_
  refine r_getI foX3_9 hL.1 rfl dX3_put_10 ?_
  refine r_iconst (v := (1 : Int32)) (by decide) dX3_put_13 ?_
  refine r_iadd dX3_put_14 ?_
  refine r_putI fpX3_9 hL.1 rfl dX3_put_15 ?_
  refine ret_v dX3_put_18 rfl ?_
  rfl

set_option maxRecDepth 100000 in
set_option maxHeartbeats 4000000 in
theorem c_putWalls {g : GG} {L : Nat} {v : Int32} {h : Hp} (hL : LandAt L) : R g mX3_putWalls 0 [some (.ref (ad g L)), some (.int v)] [] h (Rv fun h' => h' = hset (hset h L 1 v) L 3 (hset h L 1 v L 3 + 1)) := by
  refine r_aload_n rfl dX3_putWalls_0 ?_
  refine r_iload_n rfl dX3_putWalls_1 ?_
  refine r_putI fpX3_35 hL.1 rfl dX3_putWalls_2 ?_
  refine r_aload_n rfl dX3_putWalls_5 ?_
  refine r_dup rfl dX3_putWalls_6 ?_
  refine r_getI foX3_9 hL.1 rfl dX3_putWalls_7 ?_
  refine r_iconst (v := (1 : Int32)) (by decide) dX3_putWalls_10 ?_
  refine r_iadd dX3_putWalls_11 ?_
  refine r_putI fpX3_9 hL.1 rfl dX3_putWalls_12 ?_
  refine ret_v dX3_putWalls_15 rfl ?_
  rfl

set_option maxRecDepth 100000 in
set_option maxHeartbeats 4000000 in
theorem c_putShares {g : GG} {L : Nat} {v : Int32} {h : Hp} (hL : LandAt L) : R g mX3_putShares 0 [some (.ref (ad g L)), some (.int v)] [] h (Rv fun h' => h' = hset (hset h L 2 v) L 3 (hset h L 2 v L 3 + 1)) := by
  refine r_aload_n rfl dX3_putShares_0 ?_
  refine r_iload_n rfl dX3_putShares_1 ?_
  refine r_putI fpX3_38 hL.1 rfl dX3_putShares_2 ?_
  refine r_aload_n rfl dX3_putShares_5 ?_
  refine r_dup rfl dX3_putShares_6 ?_
  refine r_getI foX3_9 hL.1 rfl dX3_putShares_7 ?_
  refine r_iconst (v := (1 : Int32)) (by decide) dX3_putShares_10 ?_
  refine r_iadd dX3_putShares_11 ?_
  refine r_putI fpX3_9 hL.1 rfl dX3_putShares_12 ?_
  refine ret_v dX3_putShares_15 rfl ?_
  rfl

set_option maxRecDepth 100000 in
set_option maxHeartbeats 4000000 in
theorem c_addL {g : GG} {L n : Nat} {a b c d : Int32} {h : Hp} (hL : LandAt L) (hn : n < 6) (h0 : h L 0 = nI n) : R g mX3_add 0 [some (.ref (ad g L)), some (.int a), some (.int b), some (.int c), some (.int d), none] [] h (Ri fun v h' => v = nI n ∧ h' = hset (hset (hset (hset (hset (hset h (L + 1) n a) (L + 2) n b) (L + 3) n c) (L + 4) n d) L 0 ((hset (hset (hset (hset h (L + 1) n a) (L + 2) n b) (L + 3) n c) (L + 4) n d) L 0 + 1)) L 3 (hset (hset (hset (hset (hset h (L + 1) n a) (L + 2) n b) (L + 3) n c) (L + 4) n d) L 0 ((hset (hset (hset (hset h (L + 1) n a) (L + 2) n b) (L + 3) n c) (L + 4) n d) L 0 + 1) L 3 + 1)) := by
  refine r_aload_n rfl dX3_add_0 ?_
  refine r_getI foX3_28 hL.1 rfl dX3_add_1 ?_
  rw [h0]
  refine r_ist5 rfl (by decide) dX3_add_4 ?_
  refine r_aload_n rfl dX3_add_6 ?_
  refine r_getR foX3_15 hL.1 rfl dX3_add_7 ?_
  refine r_iload rfl dX3_add_10 ?_
  refine r_iload_n rfl dX3_add_12 ?_
  refine r_ias hL.2.1 rfl hn (by decide) dX3_add_13 ?_
  refine r_aload_n rfl dX3_add_14 ?_
  refine r_getR foX3_19 hL.1 rfl dX3_add_15 ?_
  refine r_iload rfl dX3_add_18 ?_
  refine r_iload_n rfl dX3_add_20 ?_
  refine r_ias hL.2.2.1 rfl hn (by decide) dX3_add_21 ?_
  refine r_aload_n rfl dX3_add_22 ?_
  refine r_getR foX3_22 hL.1 rfl dX3_add_23 ?_
  refine r_iload rfl dX3_add_26 ?_
  refine r_iload_n rfl dX3_add_28 ?_
  refine r_ias hL.2.2.2.1 rfl hn (by decide) dX3_add_29 ?_
  refine r_aload_n rfl dX3_add_30 ?_
  refine r_getR foX3_25 hL.1 rfl dX3_add_31 ?_
  refine r_iload rfl dX3_add_34 ?_
  refine r_iload rfl dX3_add_36 ?_
  refine r_ias hL.2.2.2.2 rfl hn (by decide) dX3_add_38 ?_
  refine r_aload_n rfl dX3_add_39 ?_
  refine r_dup rfl dX3_add_40 ?_
  refine r_getI foX3_28 hL.1 rfl dX3_add_41 ?_
  refine r_iconst (v := (1 : Int32)) (by decide) dX3_add_44 ?_
  refine r_iadd dX3_add_45 ?_
  refine r_putI fpX3_28 hL.1 rfl dX3_add_46 ?_
  refine r_aload_n rfl dX3_add_49 ?_
  refine r_dup rfl dX3_add_50 ?_
  refine r_getI foX3_9 hL.1 rfl dX3_add_51 ?_
  refine r_iconst (v := (1 : Int32)) (by decide) dX3_add_54 ?_
  refine r_iadd dX3_add_55 ?_
  refine r_putI fpX3_9 hL.1 rfl dX3_add_56 ?_
  refine r_iload rfl dX3_add_59 ?_
  refine ret_i dX3_add_61 rfl ?_
  exact ⟨rfl, rfl⟩

set_option maxRecDepth 100000 in
set_option maxHeartbeats 4000000 in
theorem c_copyL {g : GG} {L S : Nat} {h : Hp} (hL : LandAt L) (hS : LandAt S) (hd : L + 5 ≤ S ∨ S + 5 ≤ L) : R g mX3_copy 0 [some (.ref (ad g L)), some (.ref (ad g S)), none] [] h (Rv fun h1 => (∀ q, ¬ (L ≤ q ∧ q ≤ L + 4) → h1 q = h q) ∧ h1 L 0 = h S 0 ∧ h1 L 1 = h S 1 ∧ h1 L 2 = h S 2 ∧ h1 L 3 = h L 3 + 1 ∧ ∀ j, j < 6 → h1 (L + 1) j = h (S + 1) j ∧ h1 (L + 2) j = h (S + 2) j ∧ h1 (L + 3) j = h (S + 3) j ∧ h1 (L + 4) j = h (S + 4) j) := by
  have loop : ∀ (m l : Nat) (h1 : Hp), l ≤ 6 → 6 < l + m → ((∀ q, ¬ (L ≤ q ∧ q ≤ L + 4) → h1 q = h q) ∧ h1 L 0 = h S 0 ∧ h1 L 1 = h S 1 ∧ h1 L 2 = h S 2 ∧ h1 L 3 = h L 3 ∧ ∀ j, j < l → h1 (L + 1) j = h (S + 1) j ∧ h1 (L + 2) j = h (S + 2) j ∧ h1 (L + 3) j = h (S + 3) j ∧ h1 (L + 4) j = h (S + 4) j) → R g mX3_copy 26 [some (.ref (ad g L)), some (.ref (ad g S)), some (.int (nI l))] [] h1 (Rv fun h1 => (∀ q, ¬ (L ≤ q ∧ q ≤ L + 4) → h1 q = h q) ∧ h1 L 0 = h S 0 ∧ h1 L 1 = h S 1 ∧ h1 L 2 = h S 2 ∧ h1 L 3 = h L 3 + 1 ∧ ∀ j, j < 6 → h1 (L + 1) j = h (S + 1) j ∧ h1 (L + 2) j = h (S + 2) j ∧ h1 (L + 3) j = h (S + 3) j ∧ h1 (L + 4) j = h (S + 4) j) := by
    intro m
    induction m with
    | zero => intro l h1 a b; omega
    | succ m ih =>
      rintro l h1 a b ⟨H1, H2, H3, H4, H5, H6⟩
      refine r_iload_n rfl dX3_copy_26 ?_
      refine r_bipush (v := nI 6) (by decide) dX3_copy_27 ?_
      refine r_icmp_ge 86 dX3_copy_29 (by decide) (fun c_29 => ?_) (fun c_29 => ?_)
      · refine r_aload_n rfl dX3_copy_86 ?_
        refine r_dup rfl dX3_copy_87 ?_
        refine r_getI foX3_9 hL.1 rfl dX3_copy_88 ?_
        refine r_iconst (v := (1 : Int32)) (by decide) dX3_copy_91 ?_
        refine r_iadd dX3_copy_92 ?_
        refine r_putI fpX3_9 hL.1 rfl dX3_copy_93 ?_
        refine ret_v dX3_copy_96 rfl ?_
        have e : l = 6 := by have := ge_y (by omega) (by omega) c_29; omega
        subst e
        refine ⟨fun q x => by rw [hset_ne (by omega)]; exact H1 q x, ?_, ?_, ?_, ?_, fun j hj => ?_⟩
        · rw [hset_same, upd_ne (by omega)]; exact H2
        · rw [hset_same, upd_ne (by omega)]; exact H3
        · rw [hset_same, upd_ne (by omega)]; exact H4
        · rw [hset_same, upd_eq, H5]
        · rw [hset_ne (by omega), hset_ne (by omega), hset_ne (by omega), hset_ne (by omega)]; exact H6 j hj
      · have hlk : l < 6 := ge_n (by omega) c_29
        refine r_aload_n rfl dX3_copy_32 ?_
        refine r_getR foX3_15 hL.1 rfl dX3_copy_33 ?_
        refine r_iload_n rfl dX3_copy_36 ?_
        refine r_aload_n rfl dX3_copy_37 ?_
        refine r_getR foX3_15 hS.1 rfl dX3_copy_38 ?_
        refine r_iload_n rfl dX3_copy_41 ?_
        refine r_ild hS.2.1 rfl (by omega) (by decide) dX3_copy_42 ?_
        refine r_ias hL.2.1 rfl (by omega) (by decide) dX3_copy_43 ?_
        refine r_aload_n rfl dX3_copy_44 ?_
        refine r_getR foX3_19 hL.1 rfl dX3_copy_45 ?_
        refine r_iload_n rfl dX3_copy_48 ?_
        refine r_aload_n rfl dX3_copy_49 ?_
        refine r_getR foX3_19 hS.1 rfl dX3_copy_50 ?_
        refine r_iload_n rfl dX3_copy_53 ?_
        refine r_ild hS.2.2.1 rfl (by omega) (by decide) dX3_copy_54 ?_
        refine r_ias hL.2.2.1 rfl (by omega) (by decide) dX3_copy_55 ?_
        refine r_aload_n rfl dX3_copy_56 ?_
        refine r_getR foX3_22 hL.1 rfl dX3_copy_57 ?_
        refine r_iload_n rfl dX3_copy_60 ?_
        refine r_aload_n rfl dX3_copy_61 ?_
        refine r_getR foX3_22 hS.1 rfl dX3_copy_62 ?_
        refine r_iload_n rfl dX3_copy_65 ?_
        refine r_ild hS.2.2.2.1 rfl (by omega) (by decide) dX3_copy_66 ?_
        refine r_ias hL.2.2.2.1 rfl (by omega) (by decide) dX3_copy_67 ?_
        refine r_aload_n rfl dX3_copy_68 ?_
        refine r_getR foX3_25 hL.1 rfl dX3_copy_69 ?_
        refine r_iload_n rfl dX3_copy_72 ?_
        refine r_aload_n rfl dX3_copy_73 ?_
        refine r_getR foX3_25 hS.1 rfl dX3_copy_74 ?_
        refine r_iload_n rfl dX3_copy_77 ?_
        refine r_ild hS.2.2.2.2 rfl (by omega) (by decide) dX3_copy_78 ?_
        refine r_ias hL.2.2.2.2 rfl (by omega) (by decide) dX3_copy_79 ?_
        first | refine r_incN2 rfl (by decide) dX3_copy_80 ?_ | refine r_incP2 rfl (by decide) dX3_copy_80 ?_
        refine r_goto 26 dX3_copy_83 (by decide) ?_
        refine ih (l + 1) _ (by omega) (by omega) ⟨fun q x => ?_, ?_, ?_, ?_, ?_, fun j hj => ?_⟩
        · rw [hset_ne (by omega), hset_ne (by omega), hset_ne (by omega), hset_ne (by omega)]; exact H1 q x
        · rw [hset_ne (by omega), hset_ne (by omega), hset_ne (by omega), hset_ne (by omega)]; exact H2
        · rw [hset_ne (by omega), hset_ne (by omega), hset_ne (by omega), hset_ne (by omega)]; exact H3
        · rw [hset_ne (by omega), hset_ne (by omega), hset_ne (by omega), hset_ne (by omega)]; exact H4
        · rw [hset_ne (by omega), hset_ne (by omega), hset_ne (by omega), hset_ne (by omega)]; exact H5
        · by_cases e : j = l
          · subst e
            refine ⟨?_, ?_, ?_, ?_⟩
            · rw [hset_ne (by omega), hset_ne (by omega), hset_ne (by omega), hset_same, upd_eq, H1 _ (by omega)]
            · rw [hset_ne (by omega), hset_ne (by omega), hset_same, upd_eq, hset_ne (by omega), H1 _ (by omega)]
            · rw [hset_ne (by omega), hset_same, upd_eq, hset_ne (by omega), hset_ne (by omega), H1 _ (by omega)]
            · rw [hset_same, upd_eq, hset_ne (by omega), hset_ne (by omega), hset_ne (by omega), H1 _ (by omega)]
          · obtain ⟨a1, a2, a3, a4⟩ := H6 j (by omega)
            refine ⟨?_, ?_, ?_, ?_⟩
            · rw [hset_ne (by omega), hset_ne (by omega), hset_ne (by omega), hset_same, upd_ne e]; exact a1
            · rw [hset_ne (by omega), hset_ne (by omega), hset_same, upd_ne e, hset_ne (by omega)]; exact a2
            · rw [hset_ne (by omega), hset_same, upd_ne e, hset_ne (by omega), hset_ne (by omega)]; exact a3
            · rw [hset_same, upd_ne e, hset_ne (by omega), hset_ne (by omega), hset_ne (by omega)]; exact a4
  refine r_aload_n rfl dX3_copy_0 ?_
  refine r_aload_n rfl dX3_copy_1 ?_
  refine r_getI foX3_28 hS.1 rfl dX3_copy_2 ?_
  refine r_putI fpX3_28 hL.1 rfl dX3_copy_5 ?_
  refine r_aload_n rfl dX3_copy_8 ?_
  refine r_aload_n rfl dX3_copy_9 ?_
  refine r_getI foX3_35 hS.1 rfl dX3_copy_10 ?_
  refine r_putI fpX3_35 hL.1 rfl dX3_copy_13 ?_
  refine r_aload_n rfl dX3_copy_16 ?_
  refine r_aload_n rfl dX3_copy_17 ?_
  refine r_getI foX3_38 hS.1 rfl dX3_copy_18 ?_
  refine r_putI fpX3_38 hL.1 rfl dX3_copy_21 ?_
  refine r_iconst (v := nI 0) (by decide) dX3_copy_24 ?_
  refine r_ist2 rfl (by decide) dX3_copy_25 ?_
  refine loop 7 0 _ (by omega) (by omega) ⟨fun q x => by rw [hset_ne (by omega), hset_ne (by omega), hset_ne (by omega)], ?_, ?_, ?_, ?_, fun j hj => by omega⟩
  · rw [hset_same, upd_ne (by omega), hset_same, upd_ne (by omega), hset_same, upd_eq]
  · rw [hset_same, upd_ne (by omega), hset_same, upd_eq, hset_ne (by omega)]
  · rw [hset_same, upd_eq, hset_ne (by omega), hset_ne (by omega)]
  · rw [hset_same, upd_ne (by omega), hset_same, upd_ne (by omega), hset_same, upd_ne (by omega)]
end
section
theorem nI_z {n : Nat} (hn : n < 2 ^ 31) (h : nI n = 0) : n = 0 := nI_inj hn (by decide) (h.trans nI_0.symm)
def PadAt (D : Nat) : Prop := shl[D]? = some (.inr (5, [none, some (D + 1)])) ∧ shl[D + 1]? = some (.inl 20)
/-- the first fault: d signs from i on, with what has been, and whether a letter is just ahead -/
def ffF (s : Nat → Int32) (ln ev : Int32) : Nat → Nat → Int32 → Int32 → Int32
  | 0, i, been, _ => if been = ev then -6 else nI i
  | d + 1, i, been, bh => if s i = 124 then (if bh = 0 then nI i else if been = ev then nI i else ffF s ln ev d (i + 1) been 0)
      else if s i - 97 < 0 then nI i else if ln ≤ s i - 97 then nI i else if (been >>> ((s i - 97) &&& 31)) &&& 1 = 1 then nI i else ffF s ln ev d (i + 1) (been ||| (1 <<< ((s i - 97) &&& 31))) 1
/-- the rows that the signs below i tell, and the union that is being told -/
def pR (s : Nat → Int32) (ln : Int32) (r0 : Nat → Int32) : Nat → (Nat → Int32) × Int32
  | 0 => (r0, 0)
  | i + 1 => if s i = 124 then ((pR s ln r0 i).1, (pR s ln r0 i).2 + 1) else if s i - 97 < 0 then pR s ln r0 i else if ln ≤ s i - 97 then pR s ln r0 i else (upd (pR s ln r0 i).1 (s i - 97).toNatClampNeg (pR s ln r0 i).2, (pR s ln r0 i).2)

set_option maxRecDepth 100000 in
set_option maxHeartbeats 4000000 in
theorem c_addS {g : GG} {D m : Nat} {x : Int32} {h : Hp} (hD : PadAt D) (h0 : h D 0 = nI m) (hm : m < 20) : R g mX5_add 0 [some (.ref (ad g D)), some (.int x)] [] h (Rv fun h' => h' = hset (hset h (D + 1) m x) D 0 (hset h (D + 1) m x D 0 + 1)) := by
  refine r_aload_n rfl dX5_add_0 ?_
  refine r_getR foX5_9 hD.1 rfl dX5_add_1 ?_
  refine r_aload_n rfl dX5_add_4 ?_
  refine r_getI foX5_15 hD.1 rfl dX5_add_5 ?_
  refine r_iload_n rfl dX5_add_8 ?_
  refine r_ias hD.2 h0 hm (by decide) dX5_add_9 ?_
  refine r_aload_n rfl dX5_add_10 ?_
  refine r_dup rfl dX5_add_11 ?_
  refine r_getI foX5_15 hD.1 rfl dX5_add_12 ?_
  refine r_iconst (v := (1 : Int32)) (by decide) dX5_add_15 ?_
  refine r_iadd dX5_add_16 ?_
  refine r_putI fpX5_15 hD.1 rfl dX5_add_17 ?_
  refine ret_v dX5_add_20 rfl ?_
  rfl

set_option maxRecDepth 100000 in
set_option maxHeartbeats 4000000 in
theorem c_firstFault {g : GG} {D n m : Nat} {h : Hp} (hD : PadAt D) (hn : n ≤ 6) (h0 : h D 0 = nI m) (hm : m ≤ 20) : R g mX5_firstFault 0 [some (.ref (ad g D)), some (.int (nI n)), none, none, none, none, none] [] h (Ri fun v h' => h' = h ∧ v = (if n = 0 then 0 else ffF (h (D + 1)) (nI n) (nI (2 ^ n) - 1) m 0 0 0)) := by
  have loop : ∀ (k d i : Nat) (x3 x4 : Int32) {z : Option Value}, i + d = m → d < k → R g mX5_firstFault 20 [some (.ref (ad g D)), some (.int (nI n)), some (.int (nI (2 ^ n) - 1)), some (.int x3), some (.int x4), some (.int (nI i)), z] [] h (Ri fun v h' => h' = h ∧ v = ffF (h (D + 1)) (nI n) (nI (2 ^ n) - 1) d i x3 x4) := by
    intro k
    induction k with
    | zero => intro d i x3 x4 z a b; omega
    | succ k ih =>
      intro d i x3 x4 z a b
      refine r_iload rfl dX5_firstFault_20 ?_
      refine r_aload_n rfl dX5_firstFault_22 ?_
      refine r_getI foX5_15 hD.1 rfl dX5_firstFault_23 ?_
      refine r_icmp_ge 112 dX5_firstFault_26 (by decide) (fun c_26 => ?_) (fun c_26 => ?_)
      · rw [h0] at c_26
        have e : i = m := by have := ge_y (by omega) (by omega) c_26; omega
        obtain rfl : d = 0 := by omega
        refine r_iload_n rfl dX5_firstFault_112 ?_
        refine r_iload_n rfl dX5_firstFault_113 ?_
        refine r_icmp_ne 122 dX5_firstFault_114 (by decide) (fun c_114 => ?_) (fun c_114 => ?_)
        · refine r_aload_n rfl dX5_firstFault_122 ?_
          refine r_getI foX5_15 hD.1 rfl dX5_firstFault_123 ?_
          refine ret_i dX5_firstFault_126 rfl ?_
          exact ⟨rfl, by first | rw [ffF, if_pos c_114] | rw [ffF, if_neg c_114, h0, e]⟩
        · refine r_bipush (v := (-6 : Int32)) (by decide) dX5_firstFault_117 ?_
          refine r_goto 126 dX5_firstFault_119 (by decide) ?_
          refine ret_i dX5_firstFault_126 rfl ?_
          exact ⟨rfl, by first | rw [ffF, if_pos c_114] | rw [ffF, if_neg c_114, h0, e]⟩
      · rw [h0] at c_26
        have hlk : i < m := ge_n (by omega) c_26
        obtain ⟨d, rfl⟩ : ∃ d', d = d' + 1 := ⟨d - 1, by omega⟩
        refine r_aload_n rfl dX5_firstFault_29 ?_
        refine r_getR foX5_9 hD.1 rfl dX5_firstFault_30 ?_
        refine r_iload rfl dX5_firstFault_33 ?_
        refine r_ild hD.2 rfl (by omega) (by decide) dX5_firstFault_35 ?_
        refine r_bipush (v := (124 : Int32)) (by decide) dX5_firstFault_36 ?_
        refine r_icmp_ne 60 dX5_firstFault_38 (by decide) (fun c_38 => ?_) (fun c_38 => ?_)
        · refine r_aload_n rfl dX5_firstFault_60 ?_
          refine r_getR foX5_9 hD.1 rfl dX5_firstFault_61 ?_
          refine r_iload rfl dX5_firstFault_64 ?_
          refine r_ild hD.2 rfl (by omega) (by decide) dX5_firstFault_66 ?_
          refine r_bipush (v := (97 : Int32)) (by decide) dX5_firstFault_67 ?_
          refine r_isub dX5_firstFault_69 ?_
          refine r_ist6 rfl (by decide) dX5_firstFault_70 ?_
          refine r_iload rfl dX5_firstFault_72 ?_
          refine r_if_lt 93 dX5_firstFault_74 (by decide) (fun c_74 => ?_) (fun c_74 => ?_)
          · refine r_iload rfl dX5_firstFault_93 ?_
            refine ret_i dX5_firstFault_95 rfl ?_
            exact ⟨rfl, by first | rw [ffF, if_neg c_38, if_pos c_74] | rw [ffF, if_neg c_38, if_neg c_74, if_pos c_80] | rw [ffF, if_neg c_38, if_neg c_74, if_neg c_80, if_pos c_90]⟩
          · refine r_iload rfl dX5_firstFault_77 ?_
            refine r_iload_n rfl dX5_firstFault_79 ?_
            refine r_icmp_ge 93 dX5_firstFault_80 (by decide) (fun c_80 => ?_) (fun c_80 => ?_)
            · refine r_iload rfl dX5_firstFault_93 ?_
              refine ret_i dX5_firstFault_95 rfl ?_
              exact ⟨rfl, by first | rw [ffF, if_neg c_38, if_pos c_74] | rw [ffF, if_neg c_38, if_neg c_74, if_pos c_80] | rw [ffF, if_neg c_38, if_neg c_74, if_neg c_80, if_pos c_90]⟩
            · refine r_iload_n rfl dX5_firstFault_83 ?_
              refine r_iload rfl dX5_firstFault_84 ?_
              refine r_ishr dX5_firstFault_86 ?_
              refine r_iconst (v := (1 : Int32)) (by decide) dX5_firstFault_87 ?_
              refine r_iand dX5_firstFault_88 ?_
              refine r_iconst (v := (1 : Int32)) (by decide) dX5_firstFault_89 ?_
              refine r_icmp_ne 96 dX5_firstFault_90 (by decide) (fun c_90 => ?_) (fun c_90 => ?_)
              · refine r_iload_n rfl dX5_firstFault_96 ?_
                refine r_iconst (v := (1 : Int32)) (by decide) dX5_firstFault_97 ?_
                refine r_iload rfl dX5_firstFault_98 ?_
                refine r_ishl dX5_firstFault_100 ?_
                refine r_ior dX5_firstFault_101 ?_
                refine r_ist3 rfl (by decide) dX5_firstFault_102 ?_
                refine r_iconst (v := (1 : Int32)) (by decide) dX5_firstFault_103 ?_
                refine r_ist4 rfl (by decide) dX5_firstFault_104 ?_
                first | refine r_incN5 rfl (by decide) dX5_firstFault_106 ?_ | refine r_incP5 rfl (by decide) dX5_firstFault_106 ?_
                refine r_goto 20 dX5_firstFault_109 (by decide) ?_
                refine Ri.imp (ih d (i + 1) _ _ (by omega) (by omega)) (fun v h' q => ⟨q.1, ?_⟩)
                first
                  | rw [q.2, ffF, if_pos c_38, if_neg c_43, if_neg c_48]
                  | rw [q.2, ffF, if_neg c_38, if_neg c_74, if_neg c_80, if_neg c_90]
              · refine r_iload rfl dX5_firstFault_93 ?_
                refine ret_i dX5_firstFault_95 rfl ?_
                exact ⟨rfl, by first | rw [ffF, if_neg c_38, if_pos c_74] | rw [ffF, if_neg c_38, if_neg c_74, if_pos c_80] | rw [ffF, if_neg c_38, if_neg c_74, if_neg c_80, if_pos c_90]⟩
        · refine r_iload rfl dX5_firstFault_41 ?_
          refine r_if_eq 51 dX5_firstFault_43 (by decide) (fun c_43 => ?_) (fun c_43 => ?_)
          · refine r_iload rfl dX5_firstFault_51 ?_
            refine ret_i dX5_firstFault_53 rfl ?_
            exact ⟨rfl, by first | rw [ffF, if_pos c_38, if_pos c_43] | rw [ffF, if_pos c_38, if_neg c_43, if_pos c_48]⟩
          · refine r_iload_n rfl dX5_firstFault_46 ?_
            refine r_iload_n rfl dX5_firstFault_47 ?_
            refine r_icmp_ne 54 dX5_firstFault_48 (by decide) (fun c_48 => ?_) (fun c_48 => ?_)
            · refine r_iconst (v := (0 : Int32)) (by decide) dX5_firstFault_54 ?_
              refine r_ist4 rfl (by decide) dX5_firstFault_55 ?_
              refine r_goto 106 dX5_firstFault_57 (by decide) ?_
              first | refine r_incN5 rfl (by decide) dX5_firstFault_106 ?_ | refine r_incP5 rfl (by decide) dX5_firstFault_106 ?_
              refine r_goto 20 dX5_firstFault_109 (by decide) ?_
              refine Ri.imp (ih d (i + 1) _ _ (by omega) (by omega)) (fun v h' q => ⟨q.1, ?_⟩)
              first
                | rw [q.2, ffF, if_pos c_38, if_neg c_43, if_neg c_48]
                | rw [q.2, ffF, if_neg c_38, if_neg c_74, if_neg c_80, if_neg c_90]
            · refine r_iload rfl dX5_firstFault_51 ?_
              refine ret_i dX5_firstFault_53 rfl ?_
              exact ⟨rfl, by first | rw [ffF, if_pos c_38, if_pos c_43] | rw [ffF, if_pos c_38, if_neg c_43, if_pos c_48]⟩
  refine r_iload_n rfl dX5_firstFault_0 ?_
  refine r_if_ne 6 dX5_firstFault_1 (by decide) (fun c_1 => ?_) (fun c_1 => ?_)
  · refine r_iconst (v := (1 : Int32)) (by decide) dX5_firstFault_6 ?_
    refine r_iload_n rfl dX5_firstFault_7 ?_
    refine r_ishl dX5_firstFault_8 ?_
    rw [shl1 hn]
    refine r_iconst (v := (1 : Int32)) (by decide) dX5_firstFault_9 ?_
    refine r_isub dX5_firstFault_10 ?_
    refine r_ist2 rfl (by decide) dX5_firstFault_11 ?_
    refine r_iconst (v := (0 : Int32)) (by decide) dX5_firstFault_12 ?_
    refine r_ist3 rfl (by decide) dX5_firstFault_13 ?_
    refine r_iconst (v := (0 : Int32)) (by decide) dX5_firstFault_14 ?_
    refine r_ist4 rfl (by decide) dX5_firstFault_15 ?_
    refine r_iconst (v := nI 0) (by decide) dX5_firstFault_17 ?_
    refine r_ist5 rfl (by decide) dX5_firstFault_18 ?_
    refine Ri.imp (loop (m + 1) m 0 _ _ (by omega) (by omega)) (fun v h' q => ⟨q.1, ?_⟩)
    rw [q.2, if_neg (fun e => c_1 (by rw [e]; rfl))]
  · refine r_iconst (v := (0 : Int32)) (by decide) dX5_firstFault_4 ?_
    refine ret_i dX5_firstFault_5 rfl ?_
    exact ⟨rfl, by rw [if_pos (nI_z (by omega) c_1)]⟩

set_option maxRecDepth 100000 in
set_option maxHeartbeats 4000000 in
theorem c_putInto {g : GG} {D P n m : Nat} {h : Hp} (hD : PadAt D) (hP : PartAt P) (hd : D + 2 ≤ P ∨ P + 3 ≤ D) (hn : n ≤ 6) (h0 : h D 0 = nI m) (hm : m ≤ 20) (hp0 : h P 0 = nI n) : R g mX5_putInto 0 [some (.ref (ad g D)), some (.ref (ad g P)), none, none, none] [] h (Rv fun h' => KeepP P h h' ∧ ∃ c', CanOf n (pR (h (D + 1)) (nI n) (h (P + 1)) m).1 c' ∧ PS h' P n c') := by
  have loop : ∀ (k i : Nat) (h1 : Hp) (x2 : Int32) (z : Option Value), i ≤ m → m < i + k → KeepA (P + 1) h h1 → h1 (P + 1) = (pR (h (D + 1)) (nI n) (h (P + 1)) i).1 → x2 = (pR (h (D + 1)) (nI n) (h (P + 1)) i).2 → R g mX5_putInto 4 [some (.ref (ad g D)), some (.ref (ad g P)), some (.int x2), some (.int (nI i)), z] [] h1 (Rv fun h' => KeepP P h h' ∧ ∃ c', CanOf n (pR (h (D + 1)) (nI n) (h (P + 1)) m).1 c' ∧ PS h' P n c') := by
    intro k
    induction k with
    | zero => intro i h1 x2 z a b; omega
    | succ k ih =>
      intro i h1 x2 z a b k1 r1 e2
      refine r_iload_n rfl dX5_putInto_4 ?_
      refine r_aload_n rfl dX5_putInto_5 ?_
      refine r_getI foX5_15 hD.1 rfl dX5_putInto_6 ?_
      refine r_icmp_ge 68 dX5_putInto_9 (by decide) (fun c_9 => ?_) (fun c_9 => ?_)
      · rw [k1 D (by omega), h0] at c_9
        have e : i = m := by have := ge_y (by omega) (by omega) c_9; omega
        subst e
        refine r_aload_n rfl dX5_putInto_68 ?_
        refine r_cV0v (T := TX6) (N := 4) moX6_number lkX5_25 hP.1 rfl (Nat.le_of_ble_eq_true rfl) ⟨by decide, by decide⟩ (Nat.le_of_ble_eq_true rfl) dX5_putInto_69 rfl (c_number hP hn (by rw [k1 P (by omega)]; exact hp0)) (fun h1 q1 => ?_)
        refine ret_v dX5_putInto_72 rfl ?_
        obtain ⟨a, c', b, d⟩ := q1
        rw [r1] at b
        exact ⟨KeepP.trans (fun q x y z => k1 q y) a, c', b, d⟩
      · rw [k1 D (by omega), h0] at c_9
        have hlk : i < m := ge_n (by omega) c_9
        have es : h1 (D + 1) = h (D + 1) := k1 _ (by omega)
        refine r_aload_n rfl dX5_putInto_12 ?_
        refine r_getR foX5_9 hD.1 rfl dX5_putInto_13 ?_
        refine r_iload_n rfl dX5_putInto_16 ?_
        refine r_ild hD.2 rfl (by omega) (by decide) dX5_putInto_17 ?_
        rw [es]
        refine r_bipush (v := (97 : Int32)) (by decide) dX5_putInto_18 ?_
        refine r_isub dX5_putInto_20 ?_
        refine r_ist4 rfl (by decide) dX5_putInto_21 ?_
        refine r_aload_n rfl dX5_putInto_23 ?_
        refine r_getR foX5_9 hD.1 rfl dX5_putInto_24 ?_
        refine r_iload_n rfl dX5_putInto_27 ?_
        refine r_ild hD.2 rfl (by omega) (by decide) dX5_putInto_28 ?_
        rw [es]
        refine r_bipush (v := (124 : Int32)) (by decide) dX5_putInto_29 ?_
        refine r_icmp_ne 40 dX5_putInto_31 (by decide) (fun c_31 => ?_) (fun c_31 => ?_)
        · refine r_iload rfl dX5_putInto_40 ?_
          refine r_if_lt 62 dX5_putInto_42 (by decide) (fun c_42 => ?_) (fun c_42 => ?_)
          · first | refine r_incN3 rfl (by decide) dX5_putInto_62 ?_ | refine r_incP3 rfl (by decide) dX5_putInto_62 ?_
            refine r_goto 4 dX5_putInto_65 (by decide) ?_
            first
              | exact ih (i + 1) _ _ _ (by omega) (by omega) k1 (by rw [pR, if_pos c_31]; exact r1) (by rw [pR, if_pos c_31, e2])
              | exact ih (i + 1) _ _ _ (by omega) (by omega) k1 (by rw [pR, if_neg c_31, if_pos c_42]; exact r1) (by rw [pR, if_neg c_31, if_pos c_42, e2])
              | (rw [k1 P (by omega), hp0] at c_51
                 exact ih (i + 1) _ _ _ (by omega) (by omega) k1 (by rw [pR, if_neg c_31, if_neg c_42, if_pos c_51]; exact r1) (by rw [pR, if_neg c_31, if_neg c_42, if_pos c_51, e2]))
              | exact ih (i + 1) _ _ _ (by omega) (by omega) (fun q a => by rw [hset_ne a]; exact k1 q a) (by rw [hset_same, pR, if_neg c_31, if_neg c_42, if_neg c_51, r1, e2, hj2, nI_clamp hj1]) (by rw [pR, if_neg c_31, if_neg c_42, if_neg c_51, e2])
          · refine r_iload rfl dX5_putInto_45 ?_
            refine r_aload_n rfl dX5_putInto_47 ?_
            refine r_getI foX5_19 hP.1 rfl dX5_putInto_48 ?_
            refine r_icmp_ge 62 dX5_putInto_51 (by decide) (fun c_51 => ?_) (fun c_51 => ?_)
            · first | refine r_incN3 rfl (by decide) dX5_putInto_62 ?_ | refine r_incP3 rfl (by decide) dX5_putInto_62 ?_
              refine r_goto 4 dX5_putInto_65 (by decide) ?_
              first
                | exact ih (i + 1) _ _ _ (by omega) (by omega) k1 (by rw [pR, if_pos c_31]; exact r1) (by rw [pR, if_pos c_31, e2])
                | exact ih (i + 1) _ _ _ (by omega) (by omega) k1 (by rw [pR, if_neg c_31, if_pos c_42]; exact r1) (by rw [pR, if_neg c_31, if_pos c_42, e2])
                | (rw [k1 P (by omega), hp0] at c_51
                   exact ih (i + 1) _ _ _ (by omega) (by omega) k1 (by rw [pR, if_neg c_31, if_neg c_42, if_pos c_51]; exact r1) (by rw [pR, if_neg c_31, if_neg c_42, if_pos c_51, e2]))
                | exact ih (i + 1) _ _ _ (by omega) (by omega) (fun q a => by rw [hset_ne a]; exact k1 q a) (by rw [hset_same, pR, if_neg c_31, if_neg c_42, if_neg c_51, r1, e2, hj2, nI_clamp hj1]) (by rw [pR, if_neg c_31, if_neg c_42, if_neg c_51, e2])
            · rw [k1 P (by omega), hp0] at c_51
              obtain ⟨jj, hj1, hj2⟩ := nI_of c_42
              have hj3 : jj < n := by
                rcases Nat.lt_or_ge jj n with q | q
                · exact q
                · exact absurd (by rw [hj2]; exact nI_le q hj1) c_51
              refine r_aload_n rfl dX5_putInto_54 ?_
              refine r_getR foX5_22 hP.1 rfl dX5_putInto_55 ?_
              refine r_iload rfl dX5_putInto_58 ?_
              refine r_iload_n rfl dX5_putInto_60 ?_
              refine r_ias hP.2.1 hj2 (by omega) (by decide) dX5_putInto_61 ?_
              first | refine r_incN3 rfl (by decide) dX5_putInto_62 ?_ | refine r_incP3 rfl (by decide) dX5_putInto_62 ?_
              refine r_goto 4 dX5_putInto_65 (by decide) ?_
              first
                | exact ih (i + 1) _ _ _ (by omega) (by omega) k1 (by rw [pR, if_pos c_31]; exact r1) (by rw [pR, if_pos c_31, e2])
                | exact ih (i + 1) _ _ _ (by omega) (by omega) k1 (by rw [pR, if_neg c_31, if_pos c_42]; exact r1) (by rw [pR, if_neg c_31, if_pos c_42, e2])
                | (rw [k1 P (by omega), hp0] at c_51
                   exact ih (i + 1) _ _ _ (by omega) (by omega) k1 (by rw [pR, if_neg c_31, if_neg c_42, if_pos c_51]; exact r1) (by rw [pR, if_neg c_31, if_neg c_42, if_pos c_51, e2]))
                | exact ih (i + 1) _ _ _ (by omega) (by omega) (fun q a => by rw [hset_ne a]; exact k1 q a) (by rw [hset_same, pR, if_neg c_31, if_neg c_42, if_neg c_51, r1, e2, hj2, nI_clamp hj1]) (by rw [pR, if_neg c_31, if_neg c_42, if_neg c_51, e2])
        · first | refine r_incN2 rfl (by decide) dX5_putInto_34 ?_ | refine r_incP2 rfl (by decide) dX5_putInto_34 ?_
          refine r_goto 62 dX5_putInto_37 (by decide) ?_
          first | refine r_incN3 rfl (by decide) dX5_putInto_62 ?_ | refine r_incP3 rfl (by decide) dX5_putInto_62 ?_
          refine r_goto 4 dX5_putInto_65 (by decide) ?_
          first
            | exact ih (i + 1) _ _ _ (by omega) (by omega) k1 (by rw [pR, if_pos c_31]; exact r1) (by rw [pR, if_pos c_31, e2])
            | exact ih (i + 1) _ _ _ (by omega) (by omega) k1 (by rw [pR, if_neg c_31, if_pos c_42]; exact r1) (by rw [pR, if_neg c_31, if_pos c_42, e2])
            | (rw [k1 P (by omega), hp0] at c_51
               exact ih (i + 1) _ _ _ (by omega) (by omega) k1 (by rw [pR, if_neg c_31, if_neg c_42, if_pos c_51]; exact r1) (by rw [pR, if_neg c_31, if_neg c_42, if_pos c_51, e2]))
            | exact ih (i + 1) _ _ _ (by omega) (by omega) (fun q a => by rw [hset_ne a]; exact k1 q a) (by rw [hset_same, pR, if_neg c_31, if_neg c_42, if_neg c_51, r1, e2, hj2, nI_clamp hj1]) (by rw [pR, if_neg c_31, if_neg c_42, if_neg c_51, e2])
  refine r_iconst (v := (0 : Int32)) (by decide) dX5_putInto_0 ?_
  refine r_ist2 rfl (by decide) dX5_putInto_1 ?_
  refine r_iconst (v := nI 0) (by decide) dX5_putInto_2 ?_
  refine r_ist3 rfl (by decide) dX5_putInto_3 ?_
  exact loop (m + 1) 0 _ _ _ (by omega) (by omega) (fun _ _ => rfl) rfl rfl
end
