section
-- ===== PART A: goes FIRST, ahead of the names: the tables' words, and 'selects' of the private methods out of them =====
/-- a private method of a class that the tables say can be made, by its rows of tables_1 -/
def lw_okq (q : MethodName × Nat) : Prop := (q.1.cls ≠ "java/lang/invoke/MethodHandle" ∧ q.1.cls ≠ "java/lang/invoke/VarHandle") ∧ Cond.instantiable q.1.cls q.2 ∈ tables_1 ∧ Cond.privateMethod q.1 ∈ tables_1 ∧ Cond.instanceMethod q.1 ∈ tables_1
theorem lw_p0 : lw_okq (⟨"RelationOrder$Strata", "linksUnder", "(I)J"⟩, 4) := ⟨⟨by decide +kernel, by decide +kernel⟩, List.mem_of_getElem? (i := 62) (by decide +kernel), List.mem_of_getElem? (i := 170) (by decide +kernel), List.mem_of_getElem? (i := 171) (by decide +kernel)⟩
theorem lw_p1 : lw_okq (⟨"RelationOrder$Rows", "isPlace", "(I)Z"⟩, 1) := ⟨⟨by decide +kernel, by decide +kernel⟩, List.mem_of_getElem? (i := 70) (by decide +kernel), List.mem_of_getElem? (i := 178) (by decide +kernel), List.mem_of_getElem? (i := 179) (by decide +kernel)⟩
theorem lw_p2 : lw_okq (⟨"java/lang/Throwable", "fillInStackTrace", "(I)Ljava/lang/Throwable;"⟩, 6) := ⟨⟨by decide +kernel, by decide +kernel⟩, List.mem_of_getElem? (i := 242) (by decide +kernel), List.mem_of_getElem? (i := 240) (by decide +kernel), List.mem_of_getElem? (i := 241) (by decide +kernel)⟩
theorem lw_p3 : lw_okq (⟨"RelationOrder", "checkContext", "(I)V"⟩, 6) := ⟨⟨by decide +kernel, by decide +kernel⟩, List.mem_of_getElem? (i := 18) (by decide +kernel), List.mem_of_getElem? (i := 288) (by decide +kernel), List.mem_of_getElem? (i := 289) (by decide +kernel)⟩
theorem lw_p4 : lw_okq (⟨"RelationOrder", "closesRing", "(III)Z"⟩, 6) := ⟨⟨by decide +kernel, by decide +kernel⟩, List.mem_of_getElem? (i := 18) (by decide +kernel), List.mem_of_getElem? (i := 322) (by decide +kernel), List.mem_of_getElem? (i := 323) (by decide +kernel)⟩
theorem lw_p5 : lw_okq (⟨"RelationOrder$Ring", "measure", "(LRelationOrder$Rows;I)I"⟩, 3) := ⟨⟨by decide +kernel, by decide +kernel⟩, List.mem_of_getElem? (i := 98) (by decide +kernel), List.mem_of_getElem? (i := 338) (by decide +kernel), List.mem_of_getElem? (i := 339) (by decide +kernel)⟩
theorem lw_p6 : lw_okq (⟨"RelationOrder$Ring", "write", "(LRelationOrder$Rows;II)V"⟩, 3) := ⟨⟨by decide +kernel, by decide +kernel⟩, List.mem_of_getElem? (i := 98) (by decide +kernel), List.mem_of_getElem? (i := 347) (by decide +kernel), List.mem_of_getElem? (i := 348) (by decide +kernel)⟩
theorem lw_p7 : lw_okq (⟨"RelationOrder$Strata", "join", "(LRelationOrder$Relations;)V"⟩, 4) := ⟨⟨by decide +kernel, by decide +kernel⟩, List.mem_of_getElem? (i := 62) (by decide +kernel), List.mem_of_getElem? (i := 369) (by decide +kernel), List.mem_of_getElem? (i := 370) (by decide +kernel)⟩
theorem lw_p8 : lw_okq (⟨"RelationOrder$Strata", "areJoined", "(II)Z"⟩, 4) := ⟨⟨by decide +kernel, by decide +kernel⟩, List.mem_of_getElem? (i := 62) (by decide +kernel), List.mem_of_getElem? (i := 473) (by decide +kernel), List.mem_of_getElem? (i := 474) (by decide +kernel)⟩
theorem lw_p9 : lw_okq (⟨"RelationOrder$Groups", "compare", "(LRelationOrder$Strata;)V"⟩, 4) := ⟨⟨by decide +kernel, by decide +kernel⟩, List.mem_of_getElem? (i := 116) (by decide +kernel), List.mem_of_getElem? (i := 519) (by decide +kernel), List.mem_of_getElem? (i := 520) (by decide +kernel)⟩
theorem lw_p10 : lw_okq (⟨"RelationOrder", "versionAt", "(I)LRelationOrder$Version;"⟩, 6) := ⟨⟨by decide +kernel, by decide +kernel⟩, List.mem_of_getElem? (i := 18) (by decide +kernel), List.mem_of_getElem? (i := 590) (by decide +kernel), List.mem_of_getElem? (i := 591) (by decide +kernel)⟩
theorem lw_p11 : lw_okq (⟨"RelationOrderModel", "goes", "(ZZ)Z"⟩, 22) := ⟨⟨by decide +kernel, by decide +kernel⟩, List.mem_of_getElem? (i := 622) (by decide +kernel), List.mem_of_getElem? (i := 704) (by decide +kernel), List.mem_of_getElem? (i := 705) (by decide +kernel)⟩
theorem lw_p12 : lw_okq (⟨"RelationOrderModel", "renew", "()V"⟩, 22) := ⟨⟨by decide +kernel, by decide +kernel⟩, List.mem_of_getElem? (i := 622) (by decide +kernel), List.mem_of_getElem? (i := 708) (by decide +kernel), List.mem_of_getElem? (i := 709) (by decide +kernel)⟩
theorem lw_p13 : lw_okq (⟨"RelationOrderModel", "join", "()V"⟩, 22) := ⟨⟨by decide +kernel, by decide +kernel⟩, List.mem_of_getElem? (i := 622) (by decide +kernel), List.mem_of_getElem? (i := 712) (by decide +kernel), List.mem_of_getElem? (i := 713) (by decide +kernel)⟩
theorem lw_p14 : lw_okq (⟨"RelationOrderModel", "isContext", "(I)Z"⟩, 22) := ⟨⟨by decide +kernel, by decide +kernel⟩, List.mem_of_getElem? (i := 622) (by decide +kernel), List.mem_of_getElem? (i := 720) (by decide +kernel), List.mem_of_getElem? (i := 721) (by decide +kernel)⟩
theorem lw_p15 : lw_okq (⟨"RelationOrderModel", "rings", "(III)Z"⟩, 22) := ⟨⟨by decide +kernel, by decide +kernel⟩, List.mem_of_getElem? (i := 622) (by decide +kernel), List.mem_of_getElem? (i := 724) (by decide +kernel), List.mem_of_getElem? (i := 725) (by decide +kernel)⟩
def lw_privs_1 : List (MethodName × Nat) := [(⟨"RelationOrder$Strata", "linksUnder", "(I)J"⟩, 4), (⟨"RelationOrder$Rows", "isPlace", "(I)Z"⟩, 1), (⟨"java/lang/Throwable", "fillInStackTrace", "(I)Ljava/lang/Throwable;"⟩, 6), (⟨"RelationOrder", "checkContext", "(I)V"⟩, 6), (⟨"RelationOrder", "closesRing", "(III)Z"⟩, 6), (⟨"RelationOrder$Ring", "measure", "(LRelationOrder$Rows;I)I"⟩, 3), (⟨"RelationOrder$Ring", "write", "(LRelationOrder$Rows;II)V"⟩, 3), (⟨"RelationOrder$Strata", "join", "(LRelationOrder$Relations;)V"⟩, 4), (⟨"RelationOrder$Strata", "areJoined", "(II)Z"⟩, 4), (⟨"RelationOrder$Groups", "compare", "(LRelationOrder$Strata;)V"⟩, 4), (⟨"RelationOrder", "versionAt", "(I)LRelationOrder$Version;"⟩, 6), (⟨"RelationOrderModel", "goes", "(ZZ)Z"⟩, 22), (⟨"RelationOrderModel", "renew", "()V"⟩, 22), (⟨"RelationOrderModel", "join", "()V"⟩, 22), (⟨"RelationOrderModel", "isContext", "(I)Z"⟩, 22), (⟨"RelationOrderModel", "rings", "(III)Z"⟩, 22)]
theorem lw_r1 : ∀ q ∈ lw_privs_1, lw_okq q := List.forall_mem_cons.mpr ⟨lw_p0, List.forall_mem_cons.mpr ⟨lw_p1, List.forall_mem_cons.mpr ⟨lw_p2, List.forall_mem_cons.mpr ⟨lw_p3, List.forall_mem_cons.mpr ⟨lw_p4, List.forall_mem_cons.mpr ⟨lw_p5, List.forall_mem_cons.mpr ⟨lw_p6, List.forall_mem_cons.mpr ⟨lw_p7, List.forall_mem_cons.mpr ⟨lw_p8, List.forall_mem_cons.mpr ⟨lw_p9, List.forall_mem_cons.mpr ⟨lw_p10, List.forall_mem_cons.mpr ⟨lw_p11, List.forall_mem_cons.mpr ⟨lw_p12, List.forall_mem_cons.mpr ⟨lw_p13, List.forall_mem_cons.mpr ⟨lw_p14, List.forall_mem_cons.mpr ⟨lw_p15, fun _ h => absurd h List.not_mem_nil⟩⟩⟩⟩⟩⟩⟩⟩⟩⟩⟩⟩⟩⟩⟩⟩
theorem lw_p16 : lw_okq (⟨"RelationOrderModel", "walk", "(IIZ)V"⟩, 22) := ⟨⟨by decide +kernel, by decide +kernel⟩, List.mem_of_getElem? (i := 622) (by decide +kernel), List.mem_of_getElem? (i := 728) (by decide +kernel), List.mem_of_getElem? (i := 729) (by decide +kernel)⟩
theorem lw_p17 : lw_okq (⟨"RelationOrderModel", "measure", "(I)V"⟩, 22) := ⟨⟨by decide +kernel, by decide +kernel⟩, List.mem_of_getElem? (i := 622) (by decide +kernel), List.mem_of_getElem? (i := 732) (by decide +kernel), List.mem_of_getElem? (i := 733) (by decide +kernel)⟩
theorem lw_p18 : lw_okq (⟨"RelationOrderModel", "allLinks", "()I"⟩, 22) := ⟨⟨by decide +kernel, by decide +kernel⟩, List.mem_of_getElem? (i := 622) (by decide +kernel), List.mem_of_getElem? (i := 752) (by decide +kernel), List.mem_of_getElem? (i := 753) (by decide +kernel)⟩
theorem lw_p19 : lw_okq (⟨"RelationOrderModel", "isLink", "(II)Z"⟩, 22) := ⟨⟨by decide +kernel, by decide +kernel⟩, List.mem_of_getElem? (i := 622) (by decide +kernel), List.mem_of_getElem? (i := 756) (by decide +kernel), List.mem_of_getElem? (i := 757) (by decide +kernel)⟩
theorem lw_p20 : lw_okq (⟨"RelationOrderModel", "renewGroups", "()V"⟩, 22) := ⟨⟨by decide +kernel, by decide +kernel⟩, List.mem_of_getElem? (i := 622) (by decide +kernel), List.mem_of_getElem? (i := 784) (by decide +kernel), List.mem_of_getElem? (i := 785) (by decide +kernel)⟩
theorem lw_p21 : lw_okq (⟨"RelationOrderModel", "ringOf", "(I)I"⟩, 22) := ⟨⟨by decide +kernel, by decide +kernel⟩, List.mem_of_getElem? (i := 622) (by decide +kernel), List.mem_of_getElem? (i := 788) (by decide +kernel), List.mem_of_getElem? (i := 789) (by decide +kernel)⟩
theorem lw_p22 : lw_okq (⟨"RelationOrderModel", "differ", "(III)Z"⟩, 22) := ⟨⟨by decide +kernel, by decide +kernel⟩, List.mem_of_getElem? (i := 622) (by decide +kernel), List.mem_of_getElem? (i := 808) (by decide +kernel), List.mem_of_getElem? (i := 809) (by decide +kernel)⟩
theorem lw_p23 : lw_okq (⟨"RelationOrderModel", "isOver", "(III)Z"⟩, 22) := ⟨⟨by decide +kernel, by decide +kernel⟩, List.mem_of_getElem? (i := 622) (by decide +kernel), List.mem_of_getElem? (i := 812) (by decide +kernel), List.mem_of_getElem? (i := 813) (by decide +kernel)⟩
theorem lw_p24 : lw_okq (⟨"RelationOrderModel", "isUnder", "(III)Z"⟩, 22) := ⟨⟨by decide +kernel, by decide +kernel⟩, List.mem_of_getElem? (i := 622) (by decide +kernel), List.mem_of_getElem? (i := 816) (by decide +kernel), List.mem_of_getElem? (i := 817) (by decide +kernel)⟩
def lw_privs_2 : List (MethodName × Nat) := [(⟨"RelationOrderModel", "walk", "(IIZ)V"⟩, 22), (⟨"RelationOrderModel", "measure", "(I)V"⟩, 22), (⟨"RelationOrderModel", "allLinks", "()I"⟩, 22), (⟨"RelationOrderModel", "isLink", "(II)Z"⟩, 22), (⟨"RelationOrderModel", "renewGroups", "()V"⟩, 22), (⟨"RelationOrderModel", "ringOf", "(I)I"⟩, 22), (⟨"RelationOrderModel", "differ", "(III)Z"⟩, 22), (⟨"RelationOrderModel", "isOver", "(III)Z"⟩, 22), (⟨"RelationOrderModel", "isUnder", "(III)Z"⟩, 22)]
theorem lw_r2 : ∀ q ∈ lw_privs_2, lw_okq q := List.forall_mem_cons.mpr ⟨lw_p16, List.forall_mem_cons.mpr ⟨lw_p17, List.forall_mem_cons.mpr ⟨lw_p18, List.forall_mem_cons.mpr ⟨lw_p19, List.forall_mem_cons.mpr ⟨lw_p20, List.forall_mem_cons.mpr ⟨lw_p21, List.forall_mem_cons.mpr ⟨lw_p22, List.forall_mem_cons.mpr ⟨lw_p23, List.forall_mem_cons.mpr ⟨lw_p24, fun _ h => absurd h List.not_mem_nil⟩⟩⟩⟩⟩⟩⟩⟩⟩
def lw_privs : List (MethodName × Nat) := lw_privs_1 ++ (lw_privs_2)
def lw_tbl : List Cond := k2_sels lw_privs ++ tables_1
theorem lw_privs_ok : ∀ q ∈ lw_privs, lw_okq q := by
  show ∀ q ∈ lw_privs_1 ++ (lw_privs_2), lw_okq q
  exact List.forall_mem_append.mpr ⟨lw_r1, lw_r2⟩
end
section
/-! names: classes, fields, methods (out of the listing, by a program) -/
abbrev R_Cells : String := "RelationOrder$Cells"
def T_Cells : u_T := fun k => match k with
  | _ => ("RelationOrder$Cells", "cells", "[I", true)
def t_Cells : Nat → FieldType := fun k => match k with
  | _ => .array .int
theorem nm_Cells : ∀ a, a < 1 → ∀ b, b < 1 → a ≠ b → (T_Cells a).2.1 ≠ (T_Cells b).2.1 := by decide +kernel
theorem ty_Cells : ∀ k, k < 1 → parseFieldDescriptor (T_Cells k).2.2.1 = some (t_Cells k) := by decide +kernel
abbrev R_Rows : String := "RelationOrder$Rows"
def T_Rows : u_T := fun k => match k with
  | _ => ("RelationOrder$Rows", "rows", "[J", true)
def t_Rows : Nat → FieldType := fun k => match k with
  | _ => .array .long
theorem nm_Rows : ∀ a, a < 1 → ∀ b, b < 1 → a ≠ b → (T_Rows a).2.1 ≠ (T_Rows b).2.1 := by decide +kernel
theorem ty_Rows : ∀ k, k < 1 → parseFieldDescriptor (T_Rows k).2.2.1 = some (t_Rows k) := by decide +kernel
abbrev R_Relations : String := "RelationOrder$Relations"
def T_Relations : u_T := fun k => match k with
  | 0 => ("RelationOrder$Relations", "uppers", "LRelationOrder$Cells;", true)
  | 1 => ("RelationOrder$Relations", "lowers", "LRelationOrder$Cells;", true)
  | 2 => ("RelationOrder$Relations", "kinds", "LRelationOrder$Cells;", true)
  | 3 => ("RelationOrder$Relations", "made", "I", false)
  | _ => ("RelationOrder$Relations", "standing", "I", false)
def t_Relations : Nat → FieldType := fun k => match k with
  | 0 => .object "RelationOrder$Cells"
  | 1 => .object "RelationOrder$Cells"
  | 2 => .object "RelationOrder$Cells"
  | 3 => .int
  | _ => .int
theorem nm_Relations : ∀ a, a < 5 → ∀ b, b < 5 → a ≠ b → (T_Relations a).2.1 ≠ (T_Relations b).2.1 := by decide +kernel
theorem ty_Relations : ∀ k, k < 5 → parseFieldDescriptor (T_Relations k).2.2.1 = some (t_Relations k) := by decide +kernel
abbrev R_Ring : String := "RelationOrder$Ring"
def T_Ring : u_T := fun k => match k with
  | 0 => ("RelationOrder$Ring", "places", "LRelationOrder$Cells;", true)
  | 1 => ("RelationOrder$Ring", "layers", "[J", true)
  | _ => ("RelationOrder$Ring", "length", "I", false)
def t_Ring : Nat → FieldType := fun k => match k with
  | 0 => .object "RelationOrder$Cells"
  | 1 => .array .long
  | _ => .int
theorem nm_Ring : ∀ a, a < 3 → ∀ b, b < 3 → a ≠ b → (T_Ring a).2.1 ≠ (T_Ring b).2.1 := by decide +kernel
theorem ty_Ring : ∀ k, k < 3 → parseFieldDescriptor (T_Ring k).2.2.1 = some (t_Ring k) := by decide +kernel
abbrev R_Strata : String := "RelationOrder$Strata"
def T_Strata : u_T := fun k => match k with
  | 0 => ("RelationOrder$Strata", "numbers", "LRelationOrder$Cells;", true)
  | 1 => ("RelationOrder$Strata", "steps", "LRelationOrder$Rows;", true)
  | 2 => ("RelationOrder$Strata", "under", "LRelationOrder$Rows;", true)
  | _ => ("RelationOrder$Strata", "contexts", "I", false)
def t_Strata : Nat → FieldType := fun k => match k with
  | 0 => .object "RelationOrder$Cells"
  | 1 => .object "RelationOrder$Rows"
  | 2 => .object "RelationOrder$Rows"
  | _ => .int
theorem nm_Strata : ∀ a, a < 4 → ∀ b, b < 4 → a ≠ b → (T_Strata a).2.1 ≠ (T_Strata b).2.1 := by decide +kernel
theorem ty_Strata : ∀ k, k < 4 → parseFieldDescriptor (T_Strata k).2.2.1 = some (t_Strata k) := by decide +kernel
abbrev R_Groups : String := "RelationOrder$Groups"
def T_Groups : u_T := fun k => match k with
  | 0 => ("RelationOrder$Groups", "homes", "LRelationOrder$Cells;", true)
  | 1 => ("RelationOrder$Groups", "lower", "LRelationOrder$Rows;", true)
  | 2 => ("RelationOrder$Groups", "ring", "LRelationOrder$Ring;", true)
  | _ => ("RelationOrder$Groups", "made", "I", false)
def t_Groups : Nat → FieldType := fun k => match k with
  | 0 => .object "RelationOrder$Cells"
  | 1 => .object "RelationOrder$Rows"
  | 2 => .object "RelationOrder$Ring"
  | _ => .int
theorem nm_Groups : ∀ a, a < 4 → ∀ b, b < 4 → a ≠ b → (T_Groups a).2.1 ≠ (T_Groups b).2.1 := by decide +kernel
theorem ty_Groups : ∀ k, k < 4 → parseFieldDescriptor (T_Groups k).2.2.1 = some (t_Groups k) := by decide +kernel
abbrev R_Version : String := "RelationOrder$Version"
def T_Version : u_T := fun k => match k with
  | 0 => ("RelationOrder$Version", "numbers", "LRelationOrder$Cells;", true)
  | 1 => ("RelationOrder$Version", "under", "LRelationOrder$Rows;", true)
  | _ => ("RelationOrder$Version", "over", "LRelationOrder$Rows;", true)
def t_Version : Nat → FieldType := fun k => match k with
  | 0 => .object "RelationOrder$Cells"
  | 1 => .object "RelationOrder$Rows"
  | _ => .object "RelationOrder$Rows"
theorem nm_Version : ∀ a, a < 3 → ∀ b, b < 3 → a ≠ b → (T_Version a).2.1 ≠ (T_Version b).2.1 := by decide +kernel
theorem ty_Version : ∀ k, k < 3 → parseFieldDescriptor (T_Version k).2.2.1 = some (t_Version k) := by decide +kernel
abbrev R_RO : String := "RelationOrder"
def T_RO : u_T := fun k => match k with
  | 0 => ("RelationOrder", "relations", "LRelationOrder$Relations;", true)
  | 1 => ("RelationOrder", "strata", "LRelationOrder$Strata;", true)
  | 2 => ("RelationOrder", "toldRing", "LRelationOrder$Ring;", true)
  | 3 => ("RelationOrder", "groups", "LRelationOrder$Groups;", true)
  | 4 => ("RelationOrder", "versions", "[LRelationOrder$Version;", true)
  | _ => ("RelationOrder", "versionsMade", "I", false)
def t_RO : Nat → FieldType := fun k => match k with
  | 0 => .object "RelationOrder$Relations"
  | 1 => .object "RelationOrder$Strata"
  | 2 => .object "RelationOrder$Ring"
  | 3 => .object "RelationOrder$Groups"
  | 4 => .array (.object "RelationOrder$Version")
  | _ => .int
theorem nm_RO : ∀ a, a < 6 → ∀ b, b < 6 → a ≠ b → (T_RO a).2.1 ≠ (T_RO b).2.1 := by decide +kernel
theorem ty_RO : ∀ k, k < 6 → parseFieldDescriptor (T_RO k).2.2.1 = some (t_RO k) := by decide +kernel
abbrev R_Md : String := "RelationOrderModel"
def T_Md : u_T := fun k => match k with
  | 0 => ("RelationOrderModel", "thrown", "I", false)
  | 1 => ("RelationOrderModel", "contexts", "I", false)
  | 2 => ("RelationOrderModel", "relations", "I", false)
  | 3 => ("RelationOrderModel", "ones", "[I", true)
  | 4 => ("RelationOrderModel", "others", "[I", true)
  | 5 => ("RelationOrderModel", "kinds", "[I", true)
  | 6 => ("RelationOrderModel", "undone", "[Z", true)
  | 7 => ("RelationOrderModel", "numbers", "[I", true)
  | 8 => ("RelationOrderModel", "above", "[Z", true)
  | 9 => ("RelationOrderModel", "over", "[Z", true)
  | 10 => ("RelationOrderModel", "far", "[I", true)
  | 11 => ("RelationOrderModel", "ringSize", "I", false)
  | 12 => ("RelationOrderModel", "ring", "[I", true)
  | 13 => ("RelationOrderModel", "groups", "I", false)
  | 14 => ("RelationOrderModel", "groupsOf", "[I", true)
  | 15 => ("RelationOrderModel", "groupOver", "[Z", true)
  | 16 => ("RelationOrderModel", "groupRingSize", "I", false)
  | 17 => ("RelationOrderModel", "groupRing", "[I", true)
  | 18 => ("RelationOrderModel", "versions", "I", false)
  | 19 => ("RelationOrderModel", "oldContexts", "[I", true)
  | 20 => ("RelationOrderModel", "oldNumbers", "[I", true)
  | _ => ("RelationOrderModel", "oldOver", "[Z", true)
def t_Md : Nat → FieldType := fun k => match k with
  | 0 => .int
  | 1 => .int
  | 2 => .int
  | 3 => .array .int
  | 4 => .array .int
  | 5 => .array .int
  | 6 => .array .boolean
  | 7 => .array .int
  | 8 => .array .boolean
  | 9 => .array .boolean
  | 10 => .array .int
  | 11 => .int
  | 12 => .array .int
  | 13 => .int
  | 14 => .array .int
  | 15 => .array .boolean
  | 16 => .int
  | 17 => .array .int
  | 18 => .int
  | 19 => .array .int
  | 20 => .array .int
  | _ => .array .boolean
theorem nm_Md : ∀ a, a < 22 → ∀ b, b < 22 → a ≠ b → (T_Md a).2.1 ≠ (T_Md b).2.1 := by decide +kernel
theorem ty_Md : ∀ k, k < 22 → parseFieldDescriptor (T_Md k).2.2.1 = some (t_Md k) := by decide +kernel
abbrev R_Lw : String := "RelationOrderLaw"
abbrev cls9 : List vw_C := [(R_Cells, T_Cells, 1), (R_Rows, T_Rows, 1), (R_Relations, T_Relations, 5), (R_Ring, T_Ring, 3), (R_Strata, T_Strata, 4), (R_Groups, T_Groups, 4), (R_Version, T_Version, 3), (R_RO, T_RO, 6), (R_Md, T_Md, 22)]
abbrev c_Cells_init : ByteArray := prog_2_method_1_code
abbrev y_Cells_init : MethodName := ⟨R_Cells, "<init>", "(I)V"⟩
abbrev c_Cells_at : ByteArray := prog_2_method_2_code
abbrev y_Cells_at : MethodName := ⟨R_Cells, "at", "(I)I"⟩
abbrev c_Cells_put : ByteArray := prog_2_method_3_code
abbrev y_Cells_put : MethodName := ⟨R_Cells, "put", "(II)V"⟩
abbrev c_Cells_replace : ByteArray := prog_2_method_4_code
abbrev y_Cells_replace : MethodName := ⟨R_Cells, "replace", "(II)V"⟩
abbrev c_Rows_init : ByteArray := prog_6_method_1_code
abbrev y_Rows_init : MethodName := ⟨R_Rows, "<init>", "(I)V"⟩
abbrev c_Rows_isPlace : ByteArray := prog_6_method_2_code
abbrev y_Rows_isPlace : MethodName := ⟨R_Rows, "isPlace", "(I)Z"⟩
abbrev c_Rows_row : ByteArray := prog_6_method_3_code
abbrev y_Rows_row : MethodName := ⟨R_Rows, "row", "(I)J"⟩
abbrev c_Rows_put : ByteArray := prog_6_method_4_code
abbrev y_Rows_put : MethodName := ⟨R_Rows, "put", "(IJ)V"⟩
abbrev c_Rows_has : ByteArray := prog_6_method_5_code
abbrev y_Rows_has : MethodName := ⟨R_Rows, "has", "(II)Z"⟩
abbrev c_Rows_mark : ByteArray := prog_6_method_6_code
abbrev y_Rows_mark : MethodName := ⟨R_Rows, "mark", "(II)V"⟩
abbrev c_Rows_clear : ByteArray := prog_6_method_7_code
abbrev y_Rows_clear : MethodName := ⟨R_Rows, "clear", "()V"⟩
abbrev c_Rows_above : ByteArray := prog_6_method_8_code
abbrev y_Rows_above : MethodName := ⟨R_Rows, "above", "(J)J"⟩
abbrev c_Rows_close : ByteArray := prog_6_method_9_code
abbrev y_Rows_close : MethodName := ⟨R_Rows, "close", "(LRelationOrder$Rows;)V"⟩
abbrev c_Relations_init : ByteArray := prog_4_method_1_code
abbrev y_Relations_init : MethodName := ⟨R_Relations, "<init>", "()V"⟩
abbrev c_Relations_made : ByteArray := prog_4_method_2_code
abbrev y_Relations_made : MethodName := ⟨R_Relations, "made", "()I"⟩
abbrev c_Relations_standing : ByteArray := prog_4_method_3_code
abbrev y_Relations_standing : MethodName := ⟨R_Relations, "standing", "()I"⟩
abbrev c_Relations_upperOf : ByteArray := prog_4_method_4_code
abbrev y_Relations_upperOf : MethodName := ⟨R_Relations, "upperOf", "(I)I"⟩
abbrev c_Relations_lowerOf : ByteArray := prog_4_method_5_code
abbrev y_Relations_lowerOf : MethodName := ⟨R_Relations, "lowerOf", "(I)I"⟩
abbrev c_Relations_kindOf : ByteArray := prog_4_method_6_code
abbrev y_Relations_kindOf : MethodName := ⟨R_Relations, "kindOf", "(I)I"⟩
abbrev c_Relations_add : ByteArray := prog_4_method_7_code
abbrev y_Relations_add : MethodName := ⟨R_Relations, "add", "(III)I"⟩
abbrev c_Relations_drop : ByteArray := prog_4_method_8_code
abbrev y_Relations_drop : MethodName := ⟨R_Relations, "drop", "(I)Z"⟩
abbrev c_Ring_init : ByteArray := prog_5_method_1_code
abbrev y_Ring_init : MethodName := ⟨R_Ring, "<init>", "()V"⟩
abbrev c_Ring_place : ByteArray := prog_5_method_2_code
abbrev y_Ring_place : MethodName := ⟨R_Ring, "place", "(I)I"⟩
abbrev c_Ring_tell : ByteArray := prog_5_method_3_code
abbrev y_Ring_tell : MethodName := ⟨R_Ring, "tell", "(LRelationOrder$Rows;I)Z"⟩
abbrev c_Ring_measure : ByteArray := prog_5_method_4_code
abbrev y_Ring_measure : MethodName := ⟨R_Ring, "measure", "(LRelationOrder$Rows;I)I"⟩
abbrev c_Ring_write : ByteArray := prog_5_method_5_code
abbrev y_Ring_write : MethodName := ⟨R_Ring, "write", "(LRelationOrder$Rows;II)V"⟩
abbrev c_Strata_init : ByteArray := prog_7_method_1_code
abbrev y_Strata_init : MethodName := ⟨R_Strata, "<init>", "()V"⟩
abbrev c_Strata_contexts : ByteArray := prog_7_method_2_code
abbrev y_Strata_contexts : MethodName := ⟨R_Strata, "contexts", "()I"⟩
abbrev c_Strata_addContext : ByteArray := prog_7_method_3_code
abbrev y_Strata_addContext : MethodName := ⟨R_Strata, "addContext", "()I"⟩
abbrev c_Strata_numberOf : ByteArray := prog_7_method_4_code
abbrev y_Strata_numberOf : MethodName := ⟨R_Strata, "numberOf", "(I)I"⟩
abbrev c_Strata_isOver : ByteArray := prog_7_method_5_code
abbrev y_Strata_isOver : MethodName := ⟨R_Strata, "isOver", "(II)Z"⟩
abbrev c_Strata_rebuild : ByteArray := prog_7_method_6_code
abbrev y_Strata_rebuild : MethodName := ⟨R_Strata, "rebuild", "(LRelationOrder$Relations;)V"⟩
abbrev c_Strata_join : ByteArray := prog_7_method_7_code
abbrev y_Strata_join : MethodName := ⟨R_Strata, "join", "(LRelationOrder$Relations;)V"⟩
abbrev c_Strata_tellRingWith : ByteArray := prog_7_method_8_code
abbrev y_Strata_tellRingWith : MethodName := ⟨R_Strata, "tellRingWith", "(IIILRelationOrder$Ring;)Z"⟩
abbrev c_Strata_areJoined : ByteArray := prog_7_method_9_code
abbrev y_Strata_areJoined : MethodName := ⟨R_Strata, "areJoined", "(II)Z"⟩
abbrev c_Strata_areContemporary : ByteArray := prog_7_method_10_code
abbrev y_Strata_areContemporary : MethodName := ⟨R_Strata, "areContemporary", "(IILRelationOrder$Relations;)Z"⟩
abbrev c_Strata_linksUnder : ByteArray := prog_7_method_11_code
abbrev y_Strata_linksUnder : MethodName := ⟨R_Strata, "linksUnder", "(I)J"⟩
abbrev c_Strata_linkCount : ByteArray := prog_7_method_12_code
abbrev y_Strata_linkCount : MethodName := ⟨R_Strata, "linkCount", "()I"⟩
abbrev c_Strata_linkEnd : ByteArray := prog_7_method_13_code
abbrev y_Strata_linkEnd : MethodName := ⟨R_Strata, "linkEnd", "(IZ)I"⟩
abbrev c_Strata_chainAbove : ByteArray := prog_7_method_14_code
abbrev y_Strata_chainAbove : MethodName := ⟨R_Strata, "chainAbove", "(I)I"⟩
abbrev c_Strata_joinedCount : ByteArray := prog_7_method_15_code
abbrev y_Strata_joinedCount : MethodName := ⟨R_Strata, "joinedCount", "()I"⟩
abbrev c_Strata_pairCount : ByteArray := prog_7_method_16_code
abbrev y_Strata_pairCount : MethodName := ⟨R_Strata, "pairCount", "()I"⟩
abbrev c_Groups_init : ByteArray := prog_3_method_1_code
abbrev y_Groups_init : MethodName := ⟨R_Groups, "<init>", "()V"⟩
abbrev c_Groups_made : ByteArray := prog_3_method_2_code
abbrev y_Groups_made : MethodName := ⟨R_Groups, "made", "()I"⟩
abbrev c_Groups_add : ByteArray := prog_3_method_3_code
abbrev y_Groups_add : MethodName := ⟨R_Groups, "add", "()I"⟩
abbrev c_Groups_homeOf : ByteArray := prog_3_method_4_code
abbrev y_Groups_homeOf : MethodName := ⟨R_Groups, "homeOf", "(I)I"⟩
abbrev c_Groups_ringPlace : ByteArray := prog_3_method_5_code
abbrev y_Groups_ringPlace : MethodName := ⟨R_Groups, "ringPlace", "(I)I"⟩
abbrev c_Groups_move : ByteArray := prog_3_method_6_code
abbrev y_Groups_move : MethodName := ⟨R_Groups, "move", "(IILRelationOrder$Strata;)Z"⟩
abbrev c_Groups_compare : ByteArray := prog_3_method_7_code
abbrev y_Groups_compare : MethodName := ⟨R_Groups, "compare", "(LRelationOrder$Strata;)V"⟩
abbrev c_Version_init : ByteArray := prog_8_method_1_code
abbrev y_Version_init : MethodName := ⟨R_Version, "<init>", "(LRelationOrder$Strata;)V"⟩
abbrev c_Version_differences : ByteArray := prog_8_method_2_code
abbrev y_Version_differences : MethodName := ⟨R_Version, "differences", "(LRelationOrder$Version;)J"⟩
abbrev c_RO_init : ByteArray := prog_1_method_1_code
abbrev y_RO_init : MethodName := ⟨R_RO, "<init>", "()V"⟩
abbrev c_RO_context : ByteArray := prog_1_method_2_code
abbrev y_RO_context : MethodName := ⟨R_RO, "context", "()I"⟩
abbrev c_RO_relate : ByteArray := prog_1_method_3_code
abbrev y_RO_relate : MethodName := ⟨R_RO, "relate", "(III)I"⟩
abbrev c_RO_ring : ByteArray := prog_1_method_4_code
abbrev y_RO_ring : MethodName := ⟨R_RO, "ring", "(I)I"⟩
abbrev c_RO_undo : ByteArray := prog_1_method_5_code
abbrev y_RO_undo : MethodName := ⟨R_RO, "undo", "(I)Z"⟩
abbrev c_RO_order : ByteArray := prog_1_method_6_code
abbrev y_RO_order : MethodName := ⟨R_RO, "order", "(II)I"⟩
abbrev c_RO_links : ByteArray := prog_1_method_7_code
abbrev y_RO_links : MethodName := ⟨R_RO, "links", "()I"⟩
abbrev c_RO_link : ByteArray := prog_1_method_8_code
abbrev y_RO_link : MethodName := ⟨R_RO, "link", "(II)I"⟩
abbrev c_RO_equal : ByteArray := prog_1_method_9_code
abbrev y_RO_equal : MethodName := ⟨R_RO, "equal", "(I)I"⟩
abbrev c_RO_contemporary : ByteArray := prog_1_method_10_code
abbrev y_RO_contemporary : MethodName := ⟨R_RO, "contemporary", "(II)Z"⟩
abbrev c_RO_longest : ByteArray := prog_1_method_11_code
abbrev y_RO_longest : MethodName := ⟨R_RO, "longest", "(I)I"⟩
abbrev c_RO_group : ByteArray := prog_1_method_12_code
abbrev y_RO_group : MethodName := ⟨R_RO, "group", "()I"⟩
abbrev c_RO_into : ByteArray := prog_1_method_13_code
abbrev y_RO_into : MethodName := ⟨R_RO, "into", "(II)Z"⟩
abbrev c_RO_groupRing : ByteArray := prog_1_method_14_code
abbrev y_RO_groupRing : MethodName := ⟨R_RO, "groupRing", "(I)I"⟩
abbrev c_RO_groupOf : ByteArray := prog_1_method_15_code
abbrev y_RO_groupOf : MethodName := ⟨R_RO, "groupOf", "(I)I"⟩
abbrev c_RO_version : ByteArray := prog_1_method_16_code
abbrev y_RO_version : MethodName := ⟨R_RO, "version", "()I"⟩
abbrev c_RO_differs : ByteArray := prog_1_method_17_code
abbrev y_RO_differs : MethodName := ⟨R_RO, "differs", "(III)I"⟩
abbrev c_RO_count : ByteArray := prog_1_method_18_code
abbrev y_RO_count : MethodName := ⟨R_RO, "count", "(I)I"⟩
abbrev c_RO_checkContext : ByteArray := prog_1_method_19_code
abbrev y_RO_checkContext : MethodName := ⟨R_RO, "checkContext", "(I)V"⟩
abbrev c_RO_checkPlace : ByteArray := prog_1_method_20_code
abbrev y_RO_checkPlace : MethodName := ⟨R_RO, "checkPlace", "(I)V"⟩
abbrev c_RO_versionAt : ByteArray := prog_1_method_21_code
abbrev y_RO_versionAt : MethodName := ⟨R_RO, "versionAt", "(I)LRelationOrder$Version;"⟩
abbrev c_RO_closesRing : ByteArray := prog_1_method_22_code
abbrev y_RO_closesRing : MethodName := ⟨R_RO, "closesRing", "(III)Z"⟩
abbrev c_RO_nthOf : ByteArray := prog_1_method_23_code
abbrev y_RO_nthOf : MethodName := ⟨R_RO, "nthOf", "(JI)I"⟩
abbrev c_Md_init : ByteArray := prog_10_method_1_code
abbrev y_Md_init : MethodName := ⟨R_Md, "<init>", "()V"⟩
abbrev c_Md_thrown : ByteArray := prog_10_method_2_code
abbrev y_Md_thrown : MethodName := ⟨R_Md, "thrown", "()I"⟩
abbrev c_Md_goes : ByteArray := prog_10_method_3_code
abbrev y_Md_goes : MethodName := ⟨R_Md, "goes", "(ZZ)Z"⟩
abbrev c_Md_isContext : ByteArray := prog_10_method_4_code
abbrev y_Md_isContext : MethodName := ⟨R_Md, "isContext", "(I)Z"⟩
abbrev c_Md_join : ByteArray := prog_10_method_5_code
abbrev y_Md_join : MethodName := ⟨R_Md, "join", "()V"⟩
abbrev c_Md_renew : ByteArray := prog_10_method_6_code
abbrev y_Md_renew : MethodName := ⟨R_Md, "renew", "()V"⟩
abbrev c_Md_context : ByteArray := prog_10_method_7_code
abbrev y_Md_context : MethodName := ⟨R_Md, "context", "()I"⟩
abbrev c_Md_measure : ByteArray := prog_10_method_8_code
abbrev y_Md_measure : MethodName := ⟨R_Md, "measure", "(I)V"⟩
abbrev c_Md_walk : ByteArray := prog_10_method_9_code
abbrev y_Md_walk : MethodName := ⟨R_Md, "walk", "(IIZ)V"⟩
abbrev c_Md_rings : ByteArray := prog_10_method_10_code
abbrev y_Md_rings : MethodName := ⟨R_Md, "rings", "(III)Z"⟩
abbrev c_Md_relate : ByteArray := prog_10_method_11_code
abbrev y_Md_relate : MethodName := ⟨R_Md, "relate", "(III)I"⟩
abbrev c_Md_ring : ByteArray := prog_10_method_12_code
abbrev y_Md_ring : MethodName := ⟨R_Md, "ring", "(I)I"⟩
abbrev c_Md_undo : ByteArray := prog_10_method_13_code
abbrev y_Md_undo : MethodName := ⟨R_Md, "undo", "(I)Z"⟩
abbrev c_Md_order : ByteArray := prog_10_method_14_code
abbrev y_Md_order : MethodName := ⟨R_Md, "order", "(II)I"⟩
abbrev c_Md_isLink : ByteArray := prog_10_method_15_code
abbrev y_Md_isLink : MethodName := ⟨R_Md, "isLink", "(II)Z"⟩
abbrev c_Md_allLinks : ByteArray := prog_10_method_16_code
abbrev y_Md_allLinks : MethodName := ⟨R_Md, "allLinks", "()I"⟩
abbrev c_Md_links : ByteArray := prog_10_method_17_code
abbrev y_Md_links : MethodName := ⟨R_Md, "links", "()I"⟩
abbrev c_Md_link : ByteArray := prog_10_method_18_code
abbrev y_Md_link : MethodName := ⟨R_Md, "link", "(II)I"⟩
abbrev c_Md_equal : ByteArray := prog_10_method_19_code
abbrev y_Md_equal : MethodName := ⟨R_Md, "equal", "(I)I"⟩
abbrev c_Md_contemporary : ByteArray := prog_10_method_20_code
abbrev y_Md_contemporary : MethodName := ⟨R_Md, "contemporary", "(II)Z"⟩
abbrev c_Md_longest : ByteArray := prog_10_method_21_code
abbrev y_Md_longest : MethodName := ⟨R_Md, "longest", "(I)I"⟩
abbrev c_Md_group : ByteArray := prog_10_method_22_code
abbrev y_Md_group : MethodName := ⟨R_Md, "group", "()I"⟩
abbrev c_Md_renewGroups : ByteArray := prog_10_method_23_code
abbrev y_Md_renewGroups : MethodName := ⟨R_Md, "renewGroups", "()V"⟩
abbrev c_Md_ringOf : ByteArray := prog_10_method_24_code
abbrev y_Md_ringOf : MethodName := ⟨R_Md, "ringOf", "(I)I"⟩
abbrev c_Md_into : ByteArray := prog_10_method_25_code
abbrev y_Md_into : MethodName := ⟨R_Md, "into", "(II)Z"⟩
abbrev c_Md_groupRing : ByteArray := prog_10_method_26_code
abbrev y_Md_groupRing : MethodName := ⟨R_Md, "groupRing", "(I)I"⟩
abbrev c_Md_groupOf : ByteArray := prog_10_method_27_code
abbrev y_Md_groupOf : MethodName := ⟨R_Md, "groupOf", "(I)I"⟩
abbrev c_Md_version : ByteArray := prog_10_method_28_code
abbrev y_Md_version : MethodName := ⟨R_Md, "version", "()I"⟩
abbrev c_Md_isOver : ByteArray := prog_10_method_29_code
abbrev y_Md_isOver : MethodName := ⟨R_Md, "isOver", "(III)Z"⟩
abbrev c_Md_isUnder : ByteArray := prog_10_method_30_code
abbrev y_Md_isUnder : MethodName := ⟨R_Md, "isUnder", "(III)Z"⟩
abbrev c_Md_differ : ByteArray := prog_10_method_31_code
abbrev y_Md_differ : MethodName := ⟨R_Md, "differ", "(III)Z"⟩
abbrev c_Md_differs : ByteArray := prog_10_method_32_code
abbrev y_Md_differs : MethodName := ⟨R_Md, "differs", "(III)I"⟩
abbrev c_Md_count : ByteArray := prog_10_method_33_code
abbrev y_Md_count : MethodName := ⟨R_Md, "count", "(I)I"⟩
abbrev c_Lw_context : ByteArray := method_3_code
abbrev y_Lw_context : MethodName := ⟨R_Lw, "context", "(LRelationOrder;[J)I"⟩
abbrev c_Lw_relate : ByteArray := method_4_code
abbrev y_Lw_relate : MethodName := ⟨R_Lw, "relate", "(LRelationOrder;III[J)I"⟩
abbrev c_Lw_ring : ByteArray := method_5_code
abbrev y_Lw_ring : MethodName := ⟨R_Lw, "ring", "(LRelationOrder;I[J)I"⟩
abbrev c_Lw_undo : ByteArray := method_6_code
abbrev y_Lw_undo : MethodName := ⟨R_Lw, "undo", "(LRelationOrder;I[J)I"⟩
abbrev c_Lw_order : ByteArray := method_7_code
abbrev y_Lw_order : MethodName := ⟨R_Lw, "order", "(LRelationOrder;II[J)I"⟩
abbrev c_Lw_link : ByteArray := method_8_code
abbrev y_Lw_link : MethodName := ⟨R_Lw, "link", "(LRelationOrder;II[J)I"⟩
abbrev c_Lw_equal : ByteArray := method_9_code
abbrev y_Lw_equal : MethodName := ⟨R_Lw, "equal", "(LRelationOrder;I[J)I"⟩
abbrev c_Lw_contemporary : ByteArray := method_10_code
abbrev y_Lw_contemporary : MethodName := ⟨R_Lw, "contemporary", "(LRelationOrder;II[J)I"⟩
abbrev c_Lw_longest : ByteArray := method_11_code
abbrev y_Lw_longest : MethodName := ⟨R_Lw, "longest", "(LRelationOrder;I[J)I"⟩
abbrev c_Lw_group : ByteArray := method_12_code
abbrev y_Lw_group : MethodName := ⟨R_Lw, "group", "(LRelationOrder;[J)I"⟩
abbrev c_Lw_into : ByteArray := method_13_code
abbrev y_Lw_into : MethodName := ⟨R_Lw, "into", "(LRelationOrder;II[J)I"⟩
abbrev c_Lw_groupRing : ByteArray := method_14_code
abbrev y_Lw_groupRing : MethodName := ⟨R_Lw, "groupRing", "(LRelationOrder;I[J)I"⟩
abbrev c_Lw_groupOf : ByteArray := method_15_code
abbrev y_Lw_groupOf : MethodName := ⟨R_Lw, "groupOf", "(LRelationOrder;I[J)I"⟩
abbrev c_Lw_version : ByteArray := method_16_code
abbrev y_Lw_version : MethodName := ⟨R_Lw, "version", "(LRelationOrder;[J)I"⟩
abbrev c_Lw_differs : ByteArray := method_17_code
abbrev y_Lw_differs : MethodName := ⟨R_Lw, "differs", "(LRelationOrder;III[J)I"⟩
abbrev c_Lw_count : ByteArray := method_18_code
abbrev y_Lw_count : MethodName := ⟨R_Lw, "count", "(LRelationOrder;I[J)I"⟩
abbrev c_Long_bitCount : ByteArray := prog_14_method_50_code
abbrev y_Long_bitCount : MethodName := ⟨"java/lang/Long", "bitCount", "(J)I"⟩
end
section
/-! the words: all good ones of the tables; each by its place -/
def TB : List Cond := lw_tbl.filter goodWord
theorem tb_good {w : Cond} (h : w ∈ TB) : goodWord w = true := (List.mem_filter.mp h).2
theorem tb_1 {w : Cond} (k : Nat) (h : tables_1_1[k]? = some w) (hg : goodWord w = true) : w ∈ TB := List.mem_filter.mpr ⟨List.mem_append_right _ (List.mem_append_left _ (List.mem_of_getElem? h)), hg⟩
theorem tb_2 {w : Cond} (k : Nat) (h : tables_1_2[k]? = some w) (hg : goodWord w = true) : w ∈ TB := List.mem_filter.mpr ⟨List.mem_append_right _ (List.mem_append_right _ (List.mem_append_left _ (List.mem_of_getElem? h))), hg⟩
theorem tb_3 {w : Cond} (k : Nat) (h : tables_1_3[k]? = some w) (hg : goodWord w = true) : w ∈ TB := List.mem_filter.mpr ⟨List.mem_append_right _ (List.mem_append_right _ (List.mem_append_right _ (List.mem_append_left _ (List.mem_of_getElem? h)))), hg⟩
theorem tb_4 {w : Cond} (k : Nat) (h : tables_1_4[k]? = some w) (hg : goodWord w = true) : w ∈ TB := List.mem_filter.mpr ⟨List.mem_append_right _ (List.mem_append_right _ (List.mem_append_right _ (List.mem_append_right _ (List.mem_of_getElem? h)))), hg⟩
theorem tb_s {w : Cond} (k : Nat) (h : (k2_sels lw_privs)[k]? = some w) (hg : goodWord w = true) : w ∈ TB := List.mem_filter.mpr ⟨List.mem_append_left _ (List.mem_of_getElem? h), hg⟩
theorem t1_0 : Cond.initialized "RelationOrderLaw" ∈ TB := tb_1 0 rfl rfl
theorem t1_1 : Cond.initialized "RelationOrder" ∈ TB := tb_1 1 rfl rfl
theorem t1_2 : Cond.initialized "RelationOrder$Relations" ∈ TB := tb_1 2 rfl rfl
theorem t1_3 : Cond.initialized "RelationOrder$Cells" ∈ TB := tb_1 3 rfl rfl
theorem t1_4 : Cond.initialized "java/lang/Math" ∈ TB := tb_1 4 rfl rfl
theorem t1_5 : Cond.initialized "RelationOrder$Strata" ∈ TB := tb_1 5 rfl rfl
theorem t1_6 : Cond.initialized "RelationOrder$Rows" ∈ TB := tb_1 6 rfl rfl
theorem t1_7 : Cond.initialized "RelationOrder$Ring" ∈ TB := tb_1 7 rfl rfl
theorem t1_8 : Cond.initialized "RelationOrder$Groups" ∈ TB := tb_1 8 rfl rfl
theorem t1_9 : Cond.initialized "RelationOrderModel" ∈ TB := tb_1 9 rfl rfl
theorem t1_10 : Cond.initialized "java/lang/Throwable" ∈ TB := tb_1 10 rfl rfl
theorem t1_11 : Cond.initialized "java/lang/Exception" ∈ TB := tb_1 11 rfl rfl
theorem t1_12 : Cond.initialized "java/lang/RuntimeException" ∈ TB := tb_1 12 rfl rfl
theorem t1_13 : Cond.initialized "java/lang/IllegalStateException" ∈ TB := tb_1 13 rfl rfl
theorem t1_14 : Cond.initialized "java/lang/IndexOutOfBoundsException" ∈ TB := tb_1 14 rfl rfl
theorem t1_15 : Cond.initialized "java/lang/Long" ∈ TB := tb_1 15 rfl rfl
theorem t1_16 : Cond.initialized "RelationOrder$Version" ∈ TB := tb_1 16 rfl rfl
theorem t1_17 : Cond.classLink "RelationOrderLaw" 8 "RelationOrder" ∈ TB := tb_1 17 rfl rfl
theorem t1_18 : Cond.instantiable "RelationOrder" 6 ∈ TB := tb_1 18 rfl rfl
theorem t1_19 : Cond.methodLink "RelationOrderLaw" 67 ⟨"RelationOrder", "<init>", "()V"⟩ ∈ TB := tb_1 19 rfl rfl
theorem t1_20 : Cond.instanceMethod ⟨"RelationOrder", "<init>", "()V"⟩ ∈ TB := tb_1 20 rfl rfl
theorem t1_21 : Cond.code ⟨"RelationOrder", "<init>", "()V"⟩ prog_1_method_1_code 1 none ∈ TB := tb_1 21 rfl rfl
theorem t1_22 : Cond.methodLink "RelationOrder" 1 ⟨"java/lang/Object", "<init>", "()V"⟩ ∈ TB := tb_1 22 rfl rfl
theorem t1_23 : Cond.instanceMethod ⟨"java/lang/Object", "<init>", "()V"⟩ ∈ TB := tb_1 23 rfl rfl
theorem t1_24 : Cond.code ⟨"java/lang/Object", "<init>", "()V"⟩ object_method_1_code 1 none ∈ TB := tb_1 24 rfl rfl
theorem t1_25 : Cond.classLink "RelationOrder" 7 "RelationOrder$Relations" ∈ TB := tb_1 25 rfl rfl
theorem t1_26 : Cond.instantiable "RelationOrder$Relations" 5 ∈ TB := tb_1 26 rfl rfl
theorem t1_27 : Cond.methodLink "RelationOrder" 9 ⟨"RelationOrder$Relations", "<init>", "()V"⟩ ∈ TB := tb_1 27 rfl rfl
theorem t1_28 : Cond.instanceMethod ⟨"RelationOrder$Relations", "<init>", "()V"⟩ ∈ TB := tb_1 28 rfl rfl
theorem t1_29 : Cond.code ⟨"RelationOrder$Relations", "<init>", "()V"⟩ prog_4_method_1_code 1 none ∈ TB := tb_1 29 rfl rfl
theorem t1_30 : Cond.methodLink "RelationOrder$Relations" 3 ⟨"java/lang/Object", "<init>", "()V"⟩ ∈ TB := tb_1 30 rfl rfl
theorem t1_31 : Cond.classLink "RelationOrder$Relations" 9 "RelationOrder$Cells" ∈ TB := tb_1 31 rfl rfl
theorem t1_32 : Cond.instantiable "RelationOrder$Cells" 1 ∈ TB := tb_1 32 rfl rfl
theorem t1_33 : Cond.methodLink "RelationOrder$Relations" 11 ⟨"RelationOrder$Cells", "<init>", "(I)V"⟩ ∈ TB := tb_1 33 rfl rfl
theorem t1_34 : Cond.instanceMethod ⟨"RelationOrder$Cells", "<init>", "(I)V"⟩ ∈ TB := tb_1 34 rfl rfl
theorem t1_35 : Cond.code ⟨"RelationOrder$Cells", "<init>", "(I)V"⟩ prog_2_method_1_code 3 none ∈ TB := tb_1 35 rfl rfl
theorem t1_36 : Cond.methodLink "RelationOrder$Cells" 3 ⟨"java/lang/Object", "<init>", "()V"⟩ ∈ TB := tb_1 36 rfl rfl
theorem t1_37 : Cond.methodLink "RelationOrder$Cells" 9 ⟨"java/lang/Math", "max", "(II)I"⟩ ∈ TB := tb_1 37 rfl rfl
theorem t1_38 : Cond.static ⟨"java/lang/Math", "max", "(II)I"⟩ ∈ TB := tb_1 38 rfl rfl
theorem t1_39 : Cond.code ⟨"java/lang/Math", "max", "(II)I"⟩ prog_15_method_65_code 2 (some .int) ∈ TB := tb_1 39 rfl rfl
theorem t1_40 : Cond.fieldLink "RelationOrder$Cells" 15 "RelationOrder$Cells" "cells" "[I" ∈ TB := tb_1 40 rfl rfl
theorem t1_41 : Cond.laysFinal "RelationOrder$Cells" "RelationOrder$Cells" "cells" "[I" ∈ TB := tb_1 41 rfl rfl
theorem t1_44 : Cond.arrayClass FieldType.int ∈ TB := tb_1 44 rfl rfl
theorem t1_45 : Cond.fieldLink "RelationOrder$Relations" 14 "RelationOrder$Relations" "uppers" "LRelationOrder$Cells;" ∈ TB := tb_1 45 rfl rfl
theorem t1_46 : Cond.fieldLink "RelationOrder$Relations" 20 "RelationOrder$Relations" "lowers" "LRelationOrder$Cells;" ∈ TB := tb_1 46 rfl rfl
theorem t1_47 : Cond.fieldLink "RelationOrder$Relations" 23 "RelationOrder$Relations" "kinds" "LRelationOrder$Cells;" ∈ TB := tb_1 47 rfl rfl
theorem t1_48 : Cond.fieldLink "RelationOrder$Relations" 26 "RelationOrder$Relations" "made" "I" ∈ TB := tb_1 48 rfl rfl
theorem t1_49 : Cond.fieldLink "RelationOrder$Relations" 30 "RelationOrder$Relations" "standing" "I" ∈ TB := tb_1 49 rfl rfl
theorem t1_50 : Cond.laysFinal "RelationOrder$Relations" "RelationOrder$Relations" "uppers" "LRelationOrder$Cells;" ∈ TB := tb_1 50 rfl rfl
theorem t1_52 : Cond.laysFinal "RelationOrder$Relations" "RelationOrder$Relations" "lowers" "LRelationOrder$Cells;" ∈ TB := tb_1 52 rfl rfl
theorem t1_54 : Cond.laysFinal "RelationOrder$Relations" "RelationOrder$Relations" "kinds" "LRelationOrder$Cells;" ∈ TB := tb_1 54 rfl rfl
theorem t1_56 : Cond.lays "RelationOrder$Relations" "RelationOrder$Relations" "made" "I" ∈ TB := tb_1 56 rfl rfl
theorem t1_58 : Cond.lays "RelationOrder$Relations" "RelationOrder$Relations" "standing" "I" ∈ TB := tb_1 58 rfl rfl
theorem t1_61 : Cond.classLink "RelationOrder" 16 "RelationOrder$Strata" ∈ TB := tb_1 61 rfl rfl
theorem t1_62 : Cond.instantiable "RelationOrder$Strata" 4 ∈ TB := tb_1 62 rfl rfl
theorem t1_63 : Cond.methodLink "RelationOrder" 18 ⟨"RelationOrder$Strata", "<init>", "()V"⟩ ∈ TB := tb_1 63 rfl rfl
theorem t1_64 : Cond.instanceMethod ⟨"RelationOrder$Strata", "<init>", "()V"⟩ ∈ TB := tb_1 64 rfl rfl
theorem t1_65 : Cond.code ⟨"RelationOrder$Strata", "<init>", "()V"⟩ prog_7_method_1_code 1 none ∈ TB := tb_1 65 rfl rfl
theorem t1_66 : Cond.methodLink "RelationOrder$Strata" 3 ⟨"java/lang/Object", "<init>", "()V"⟩ ∈ TB := tb_1 66 rfl rfl
theorem t1_67 : Cond.classLink "RelationOrder$Strata" 9 "RelationOrder$Cells" ∈ TB := tb_1 67 rfl rfl
theorem t1_68 : Cond.methodLink "RelationOrder$Strata" 11 ⟨"RelationOrder$Cells", "<init>", "(I)V"⟩ ∈ TB := tb_1 68 rfl rfl
theorem t1_69 : Cond.classLink "RelationOrder$Strata" 20 "RelationOrder$Rows" ∈ TB := tb_1 69 rfl rfl
theorem t1_70 : Cond.instantiable "RelationOrder$Rows" 1 ∈ TB := tb_1 70 rfl rfl
theorem t1_71 : Cond.methodLink "RelationOrder$Strata" 22 ⟨"RelationOrder$Rows", "<init>", "(I)V"⟩ ∈ TB := tb_1 71 rfl rfl
theorem t1_72 : Cond.instanceMethod ⟨"RelationOrder$Rows", "<init>", "(I)V"⟩ ∈ TB := tb_1 72 rfl rfl
theorem t1_73 : Cond.code ⟨"RelationOrder$Rows", "<init>", "(I)V"⟩ prog_6_method_1_code 2 none ∈ TB := tb_1 73 rfl rfl
theorem t1_74 : Cond.methodLink "RelationOrder$Rows" 3 ⟨"java/lang/Object", "<init>", "()V"⟩ ∈ TB := tb_1 74 rfl rfl
theorem t1_75 : Cond.methodLink "RelationOrder$Rows" 9 ⟨"java/lang/Math", "max", "(II)I"⟩ ∈ TB := tb_1 75 rfl rfl
theorem t1_76 : Cond.methodLink "RelationOrder$Rows" 15 ⟨"java/lang/Math", "min", "(II)I"⟩ ∈ TB := tb_1 76 rfl rfl
theorem t1_77 : Cond.static ⟨"java/lang/Math", "min", "(II)I"⟩ ∈ TB := tb_1 77 rfl rfl
theorem t1_78 : Cond.code ⟨"java/lang/Math", "min", "(II)I"⟩ prog_15_method_69_code 2 (some .int) ∈ TB := tb_1 78 rfl rfl
theorem t1_79 : Cond.fieldLink "RelationOrder$Rows" 18 "RelationOrder$Rows" "rows" "[J" ∈ TB := tb_1 79 rfl rfl
theorem t1_80 : Cond.laysFinal "RelationOrder$Rows" "RelationOrder$Rows" "rows" "[J" ∈ TB := tb_1 80 rfl rfl
theorem t1_83 : Cond.arrayClass FieldType.long ∈ TB := tb_1 83 rfl rfl
theorem t1_84 : Cond.fieldLink "RelationOrder$Strata" 14 "RelationOrder$Strata" "numbers" "LRelationOrder$Cells;" ∈ TB := tb_1 84 rfl rfl
theorem t1_85 : Cond.fieldLink "RelationOrder$Strata" 23 "RelationOrder$Strata" "steps" "LRelationOrder$Rows;" ∈ TB := tb_1 85 rfl rfl
theorem t1_86 : Cond.fieldLink "RelationOrder$Strata" 27 "RelationOrder$Strata" "under" "LRelationOrder$Rows;" ∈ TB := tb_1 86 rfl rfl
theorem t1_87 : Cond.fieldLink "RelationOrder$Strata" 30 "RelationOrder$Strata" "contexts" "I" ∈ TB := tb_1 87 rfl rfl
theorem t1_88 : Cond.laysFinal "RelationOrder$Strata" "RelationOrder$Strata" "numbers" "LRelationOrder$Cells;" ∈ TB := tb_1 88 rfl rfl
theorem t1_90 : Cond.laysFinal "RelationOrder$Strata" "RelationOrder$Strata" "steps" "LRelationOrder$Rows;" ∈ TB := tb_1 90 rfl rfl
theorem t1_92 : Cond.laysFinal "RelationOrder$Strata" "RelationOrder$Strata" "under" "LRelationOrder$Rows;" ∈ TB := tb_1 92 rfl rfl
theorem t1_94 : Cond.lays "RelationOrder$Strata" "RelationOrder$Strata" "contexts" "I" ∈ TB := tb_1 94 rfl rfl
theorem t1_97 : Cond.classLink "RelationOrder" 23 "RelationOrder$Ring" ∈ TB := tb_1 97 rfl rfl
theorem t1_98 : Cond.instantiable "RelationOrder$Ring" 3 ∈ TB := tb_1 98 rfl rfl
theorem t1_99 : Cond.methodLink "RelationOrder" 25 ⟨"RelationOrder$Ring", "<init>", "()V"⟩ ∈ TB := tb_1 99 rfl rfl
theorem t1_100 : Cond.instanceMethod ⟨"RelationOrder$Ring", "<init>", "()V"⟩ ∈ TB := tb_1 100 rfl rfl
theorem t1_101 : Cond.code ⟨"RelationOrder$Ring", "<init>", "()V"⟩ prog_5_method_1_code 1 none ∈ TB := tb_1 101 rfl rfl
theorem t1_102 : Cond.methodLink "RelationOrder$Ring" 3 ⟨"java/lang/Object", "<init>", "()V"⟩ ∈ TB := tb_1 102 rfl rfl
theorem t1_103 : Cond.classLink "RelationOrder$Ring" 9 "RelationOrder$Cells" ∈ TB := tb_1 103 rfl rfl
theorem t1_104 : Cond.methodLink "RelationOrder$Ring" 11 ⟨"RelationOrder$Cells", "<init>", "(I)V"⟩ ∈ TB := tb_1 104 rfl rfl
theorem t1_105 : Cond.fieldLink "RelationOrder$Ring" 14 "RelationOrder$Ring" "places" "LRelationOrder$Cells;" ∈ TB := tb_1 105 rfl rfl
theorem t1_106 : Cond.fieldLink "RelationOrder$Ring" 20 "RelationOrder$Ring" "layers" "[J" ∈ TB := tb_1 106 rfl rfl
theorem t1_107 : Cond.fieldLink "RelationOrder$Ring" 24 "RelationOrder$Ring" "length" "I" ∈ TB := tb_1 107 rfl rfl
theorem t1_108 : Cond.laysFinal "RelationOrder$Ring" "RelationOrder$Ring" "places" "LRelationOrder$Cells;" ∈ TB := tb_1 108 rfl rfl
theorem t1_110 : Cond.laysFinal "RelationOrder$Ring" "RelationOrder$Ring" "layers" "[J" ∈ TB := tb_1 110 rfl rfl
theorem t1_112 : Cond.lays "RelationOrder$Ring" "RelationOrder$Ring" "length" "I" ∈ TB := tb_1 112 rfl rfl
theorem t1_115 : Cond.classLink "RelationOrder" 30 "RelationOrder$Groups" ∈ TB := tb_1 115 rfl rfl
theorem t1_116 : Cond.instantiable "RelationOrder$Groups" 4 ∈ TB := tb_1 116 rfl rfl
theorem t1_117 : Cond.methodLink "RelationOrder" 32 ⟨"RelationOrder$Groups", "<init>", "()V"⟩ ∈ TB := tb_1 117 rfl rfl
theorem t1_118 : Cond.instanceMethod ⟨"RelationOrder$Groups", "<init>", "()V"⟩ ∈ TB := tb_1 118 rfl rfl
theorem t1_119 : Cond.code ⟨"RelationOrder$Groups", "<init>", "()V"⟩ prog_3_method_1_code 1 none ∈ TB := tb_1 119 rfl rfl
theorem t1_120 : Cond.methodLink "RelationOrder$Groups" 3 ⟨"java/lang/Object", "<init>", "()V"⟩ ∈ TB := tb_1 120 rfl rfl
theorem t1_121 : Cond.classLink "RelationOrder$Groups" 9 "RelationOrder$Cells" ∈ TB := tb_1 121 rfl rfl
theorem t1_122 : Cond.methodLink "RelationOrder$Groups" 11 ⟨"RelationOrder$Cells", "<init>", "(I)V"⟩ ∈ TB := tb_1 122 rfl rfl
theorem t1_123 : Cond.classLink "RelationOrder$Groups" 20 "RelationOrder$Rows" ∈ TB := tb_1 123 rfl rfl
theorem t1_124 : Cond.methodLink "RelationOrder$Groups" 22 ⟨"RelationOrder$Rows", "<init>", "(I)V"⟩ ∈ TB := tb_1 124 rfl rfl
theorem t1_125 : Cond.classLink "RelationOrder$Groups" 27 "RelationOrder$Ring" ∈ TB := tb_1 125 rfl rfl
theorem t1_126 : Cond.methodLink "RelationOrder$Groups" 29 ⟨"RelationOrder$Ring", "<init>", "()V"⟩ ∈ TB := tb_1 126 rfl rfl
theorem t1_127 : Cond.fieldLink "RelationOrder$Groups" 14 "RelationOrder$Groups" "homes" "LRelationOrder$Cells;" ∈ TB := tb_1 127 rfl rfl
theorem t1_128 : Cond.fieldLink "RelationOrder$Groups" 23 "RelationOrder$Groups" "lower" "LRelationOrder$Rows;" ∈ TB := tb_1 128 rfl rfl
theorem t1_129 : Cond.fieldLink "RelationOrder$Groups" 30 "RelationOrder$Groups" "ring" "LRelationOrder$Ring;" ∈ TB := tb_1 129 rfl rfl
theorem t1_130 : Cond.fieldLink "RelationOrder$Groups" 34 "RelationOrder$Groups" "made" "I" ∈ TB := tb_1 130 rfl rfl
theorem t1_131 : Cond.laysFinal "RelationOrder$Groups" "RelationOrder$Groups" "homes" "LRelationOrder$Cells;" ∈ TB := tb_1 131 rfl rfl
theorem t1_133 : Cond.laysFinal "RelationOrder$Groups" "RelationOrder$Groups" "lower" "LRelationOrder$Rows;" ∈ TB := tb_1 133 rfl rfl
theorem t1_135 : Cond.laysFinal "RelationOrder$Groups" "RelationOrder$Groups" "ring" "LRelationOrder$Ring;" ∈ TB := tb_1 135 rfl rfl
theorem t1_137 : Cond.lays "RelationOrder$Groups" "RelationOrder$Groups" "made" "I" ∈ TB := tb_1 137 rfl rfl
theorem t1_140 : Cond.classLink "RelationOrder" 37 "RelationOrder$Version" ∈ TB := tb_1 140 rfl rfl
theorem t1_142 : Cond.fieldLink "RelationOrder" 10 "RelationOrder" "relations" "LRelationOrder$Relations;" ∈ TB := tb_1 142 rfl rfl
theorem t1_143 : Cond.fieldLink "RelationOrder" 19 "RelationOrder" "strata" "LRelationOrder$Strata;" ∈ TB := tb_1 143 rfl rfl
theorem t1_144 : Cond.fieldLink "RelationOrder" 26 "RelationOrder" "toldRing" "LRelationOrder$Ring;" ∈ TB := tb_1 144 rfl rfl
theorem t1_145 : Cond.fieldLink "RelationOrder" 33 "RelationOrder" "groups" "LRelationOrder$Groups;" ∈ TB := tb_1 145 rfl rfl
theorem t1_146 : Cond.fieldLink "RelationOrder" 39 "RelationOrder" "versions" "[LRelationOrder$Version;" ∈ TB := tb_1 146 rfl rfl
theorem t1_147 : Cond.fieldLink "RelationOrder" 43 "RelationOrder" "versionsMade" "I" ∈ TB := tb_1 147 rfl rfl
theorem t1_148 : Cond.laysFinal "RelationOrder" "RelationOrder" "relations" "LRelationOrder$Relations;" ∈ TB := tb_1 148 rfl rfl
theorem t1_150 : Cond.laysFinal "RelationOrder" "RelationOrder" "strata" "LRelationOrder$Strata;" ∈ TB := tb_1 150 rfl rfl
theorem t1_152 : Cond.laysFinal "RelationOrder" "RelationOrder" "toldRing" "LRelationOrder$Ring;" ∈ TB := tb_1 152 rfl rfl
theorem t1_154 : Cond.laysFinal "RelationOrder" "RelationOrder" "groups" "LRelationOrder$Groups;" ∈ TB := tb_1 154 rfl rfl
theorem t1_156 : Cond.laysFinal "RelationOrder" "RelationOrder" "versions" "[LRelationOrder$Version;" ∈ TB := tb_1 156 rfl rfl
theorem t1_158 : Cond.lays "RelationOrder" "RelationOrder" "versionsMade" "I" ∈ TB := tb_1 158 rfl rfl
theorem t1_161 : Cond.methodLink "RelationOrderLaw" 95 ⟨"RelationOrder", "links", "()I"⟩ ∈ TB := tb_1 161 rfl rfl
theorem t1_162 : Cond.instanceMethod ⟨"RelationOrder", "links", "()I"⟩ ∈ TB := tb_1 162 rfl rfl
theorem t1_163 : Cond.selects "RelationOrder" ⟨"RelationOrder", "links", "()I"⟩ ⟨"RelationOrder", "links", "()I"⟩ ∈ TB := tb_1 163 rfl rfl
theorem t1_164 : Cond.code ⟨"RelationOrder", "links", "()I"⟩ prog_1_method_7_code 1 (some .int) ∈ TB := tb_1 164 rfl rfl
theorem t1_165 : Cond.methodLink "RelationOrder" 107 ⟨"RelationOrder$Strata", "linkCount", "()I"⟩ ∈ TB := tb_1 165 rfl rfl
theorem t1_166 : Cond.instanceMethod ⟨"RelationOrder$Strata", "linkCount", "()I"⟩ ∈ TB := tb_1 166 rfl rfl
theorem t1_167 : Cond.selects "RelationOrder$Strata" ⟨"RelationOrder$Strata", "linkCount", "()I"⟩ ⟨"RelationOrder$Strata", "linkCount", "()I"⟩ ∈ TB := tb_1 167 rfl rfl
theorem t1_168 : Cond.code ⟨"RelationOrder$Strata", "linkCount", "()I"⟩ prog_7_method_12_code 3 (some .int) ∈ TB := tb_1 168 rfl rfl
theorem t1_169 : Cond.methodLink "RelationOrder$Strata" 105 ⟨"RelationOrder$Strata", "linksUnder", "(I)J"⟩ ∈ TB := tb_1 169 rfl rfl
theorem t1_171 : Cond.instanceMethod ⟨"RelationOrder$Strata", "linksUnder", "(I)J"⟩ ∈ TB := tb_1 171 rfl rfl
theorem t1_172 : Cond.code ⟨"RelationOrder$Strata", "linksUnder", "(I)J"⟩ prog_7_method_11_code 7 (some .long) ∈ TB := tb_1 172 rfl rfl
theorem t1_173 : Cond.methodLink "RelationOrder$Strata" 87 ⟨"RelationOrder$Rows", "row", "(I)J"⟩ ∈ TB := tb_1 173 rfl rfl
theorem t1_174 : Cond.instanceMethod ⟨"RelationOrder$Rows", "row", "(I)J"⟩ ∈ TB := tb_1 174 rfl rfl
theorem t1_175 : Cond.selects "RelationOrder$Rows" ⟨"RelationOrder$Rows", "row", "(I)J"⟩ ⟨"RelationOrder$Rows", "row", "(I)J"⟩ ∈ TB := tb_1 175 rfl rfl
theorem t1_176 : Cond.code ⟨"RelationOrder$Rows", "row", "(I)J"⟩ prog_6_method_3_code 2 (some .long) ∈ TB := tb_1 176 rfl rfl
theorem t1_177 : Cond.methodLink "RelationOrder$Rows" 24 ⟨"RelationOrder$Rows", "isPlace", "(I)Z"⟩ ∈ TB := tb_1 177 rfl rfl
theorem t1_179 : Cond.instanceMethod ⟨"RelationOrder$Rows", "isPlace", "(I)Z"⟩ ∈ TB := tb_1 179 rfl rfl
theorem t1_180 : Cond.code ⟨"RelationOrder$Rows", "isPlace", "(I)Z"⟩ prog_6_method_2_code 2 (some .boolean) ∈ TB := tb_1 180 rfl rfl
theorem t1_181 : Cond.methodLink "RelationOrder$Strata" 42 ⟨"RelationOrder$Rows", "has", "(II)Z"⟩ ∈ TB := tb_1 181 rfl rfl
theorem t1_182 : Cond.instanceMethod ⟨"RelationOrder$Rows", "has", "(II)Z"⟩ ∈ TB := tb_1 182 rfl rfl
theorem t1_183 : Cond.selects "RelationOrder$Rows" ⟨"RelationOrder$Rows", "has", "(II)Z"⟩ ⟨"RelationOrder$Rows", "has", "(II)Z"⟩ ∈ TB := tb_1 183 rfl rfl
theorem t1_184 : Cond.code ⟨"RelationOrder$Rows", "has", "(II)Z"⟩ prog_6_method_5_code 3 (some .boolean) ∈ TB := tb_1 184 rfl rfl
theorem t1_185 : Cond.constantLong "RelationOrder$Strata" 103 (-1 : Int64) ∈ TB := tb_1 185 rfl rfl
theorem t1_186 : Cond.methodLink "RelationOrder$Strata" 108 ⟨"java/lang/Long", "bitCount", "(J)I"⟩ ∈ TB := tb_1 186 rfl rfl
theorem t1_187 : Cond.static ⟨"java/lang/Long", "bitCount", "(J)I"⟩ ∈ TB := tb_1 187 rfl rfl
theorem t1_188 : Cond.code ⟨"java/lang/Long", "bitCount", "(J)I"⟩ prog_14_method_50_code 2 (some .int) ∈ TB := tb_1 188 rfl rfl
theorem t1_189 : Cond.constantLong "java/lang/Long" 314 (6148914691236517205 : Int64) ∈ TB := tb_1 189 rfl rfl
theorem t1_190 : Cond.constantLong "java/lang/Long" 316 (3689348814741910323 : Int64) ∈ TB := tb_1 190 rfl rfl
theorem t1_191 : Cond.constantLong "java/lang/Long" 318 (1085102592571150095 : Int64) ∈ TB := tb_1 191 rfl rfl
theorem t1_192 : Cond.methodLink "RelationOrderLaw" 71 ⟨"RelationOrderLaw", "context", "(LRelationOrder;[J)I"⟩ ∈ TB := tb_1 192 rfl rfl
theorem t1_193 : Cond.static ⟨"RelationOrderLaw", "context", "(LRelationOrder;[J)I"⟩ ∈ TB := tb_1 193 rfl rfl
theorem t1_195 : Cond.classLink "RelationOrderLaw" 13 "java/lang/IllegalStateException" ∈ TB := tb_1 195 rfl rfl
theorem t1_196 : Cond.methodLink "RelationOrderLaw" 7 ⟨"RelationOrder", "context", "()I"⟩ ∈ TB := tb_1 196 rfl rfl
theorem t1_197 : Cond.instanceMethod ⟨"RelationOrder", "context", "()I"⟩ ∈ TB := tb_1 197 rfl rfl
theorem t1_198 : Cond.selects "RelationOrder" ⟨"RelationOrder", "context", "()I"⟩ ⟨"RelationOrder", "context", "()I"⟩ ∈ TB := tb_1 198 rfl rfl
theorem t1_199 : Cond.code ⟨"RelationOrder", "context", "()I"⟩ prog_1_method_2_code 1 (some .int) ∈ TB := tb_1 199 rfl rfl
theorem t1_200 : Cond.methodLink "RelationOrder" 47 ⟨"RelationOrder$Strata", "contexts", "()I"⟩ ∈ TB := tb_1 200 rfl rfl
theorem t1_201 : Cond.instanceMethod ⟨"RelationOrder$Strata", "contexts", "()I"⟩ ∈ TB := tb_1 201 rfl rfl
theorem t1_202 : Cond.selects "RelationOrder$Strata" ⟨"RelationOrder$Strata", "contexts", "()I"⟩ ⟨"RelationOrder$Strata", "contexts", "()I"⟩ ∈ TB := tb_1 202 rfl rfl
theorem t1_203 : Cond.code ⟨"RelationOrder$Strata", "contexts", "()I"⟩ prog_7_method_2_code 1 (some .int) ∈ TB := tb_1 203 rfl rfl
theorem t1_204 : Cond.classLink "RelationOrder" 51 "java/lang/IllegalStateException" ∈ TB := tb_1 204 rfl rfl
theorem t1_205 : Cond.instantiable "java/lang/IllegalStateException" 6 ∈ TB := tb_1 205 rfl rfl
theorem t1_213 : Cond.selects "java/lang/IllegalStateException" ⟨"java/lang/Throwable", "fillInStackTrace", "(I)Ljava/lang/Throwable;"⟩ ⟨"java/lang/Throwable", "fillInStackTrace", "(I)Ljava/lang/Throwable;"⟩ ∈ TB := tb_1 213 rfl rfl
theorem t1_214 : Cond.selects "java/lang/IllegalStateException" ⟨"java/lang/Throwable", "fillInStackTrace", "()Ljava/lang/Throwable;"⟩ ⟨"java/lang/Throwable", "fillInStackTrace", "()Ljava/lang/Throwable;"⟩ ∈ TB := tb_1 214 rfl rfl
theorem t1_215 : Cond.lays "java/lang/IllegalStateException" "java/lang/Throwable" "cause" "Ljava/lang/Throwable;" ∈ TB := tb_1 215 rfl rfl
theorem t1_216 : Cond.lays "java/lang/Throwable" "java/lang/Throwable" "cause" "Ljava/lang/Throwable;" ∈ TB := tb_1 216 rfl rfl
theorem t1_217 : Cond.lays "java/lang/IllegalStateException" "java/lang/Throwable" "stackTrace" "[Ljava/lang/StackTraceElement;" ∈ TB := tb_1 217 rfl rfl
theorem t1_218 : Cond.lays "java/lang/Throwable" "java/lang/Throwable" "stackTrace" "[Ljava/lang/StackTraceElement;" ∈ TB := tb_1 218 rfl rfl
theorem t1_219 : Cond.lays "java/lang/IllegalStateException" "java/lang/Throwable" "suppressedExceptions" "Ljava/util/List;" ∈ TB := tb_1 219 rfl rfl
theorem t1_220 : Cond.lays "java/lang/Throwable" "java/lang/Throwable" "suppressedExceptions" "Ljava/util/List;" ∈ TB := tb_1 220 rfl rfl
theorem t1_221 : Cond.lays "java/lang/IllegalStateException" "java/lang/Throwable" "detailMessage" "Ljava/lang/String;" ∈ TB := tb_1 221 rfl rfl
theorem t1_222 : Cond.lays "java/lang/Throwable" "java/lang/Throwable" "detailMessage" "Ljava/lang/String;" ∈ TB := tb_1 222 rfl rfl
theorem t1_223 : Cond.lays "java/lang/IllegalStateException" "java/lang/Throwable" "backtrace" "Ljava/lang/Object;" ∈ TB := tb_1 223 rfl rfl
theorem t1_224 : Cond.lays "java/lang/Throwable" "java/lang/Throwable" "backtrace" "Ljava/lang/Object;" ∈ TB := tb_1 224 rfl rfl
theorem t1_225 : Cond.fieldLink "java/lang/Throwable" 198 "java/lang/Throwable" "backtrace" "Ljava/lang/Object;" ∈ TB := tb_1 225 rfl rfl
theorem t1_227 : Cond.instanceMethod ⟨"java/lang/Throwable", "<init>", "()V"⟩ ∈ TB := tb_1 227 rfl rfl
theorem t1_228 : Cond.code ⟨"java/lang/Throwable", "<init>", "()V"⟩ prog_18_method_1_code 1 none ∈ TB := tb_1 228 rfl rfl
theorem t1_229 : Cond.methodLink "java/lang/Throwable" 1 ⟨"java/lang/Object", "<init>", "()V"⟩ ∈ TB := tb_1 229 rfl rfl
theorem t1_230 : Cond.fieldLink "java/lang/Throwable" 13 "java/lang/Throwable" "UNASSIGNED_STACK" "[Ljava/lang/StackTraceElement;" ∈ TB := tb_1 230 rfl rfl
theorem t1_232 : Cond.fieldLink "java/lang/Throwable" 20 "java/lang/Throwable" "SUPPRESSED_SENTINEL" "Ljava/util/List;" ∈ TB := tb_1 232 rfl rfl
theorem t1_234 : Cond.methodLink "java/lang/Throwable" 27 ⟨"java/lang/Throwable", "fillInStackTrace", "()Ljava/lang/Throwable;"⟩ ∈ TB := tb_1 234 rfl rfl
theorem t1_235 : Cond.instanceMethod ⟨"java/lang/Throwable", "fillInStackTrace", "()Ljava/lang/Throwable;"⟩ ∈ TB := tb_1 235 rfl rfl
theorem t1_237 : Cond.selects "java/lang/IndexOutOfBoundsException" ⟨"java/lang/Throwable", "fillInStackTrace", "()Ljava/lang/Throwable;"⟩ ⟨"java/lang/Throwable", "fillInStackTrace", "()Ljava/lang/Throwable;"⟩ ∈ TB := tb_1 237 rfl rfl
theorem t1_239 : Cond.methodLink "java/lang/Throwable" 202 ⟨"java/lang/Throwable", "fillInStackTrace", "(I)Ljava/lang/Throwable;"⟩ ∈ TB := tb_1 239 rfl rfl
theorem t2_1 : Cond.instanceMethod ⟨"java/lang/Throwable", "fillInStackTrace", "(I)Ljava/lang/Throwable;"⟩ ∈ TB := tb_2 1 rfl rfl
theorem t2_2 : Cond.instantiable "java/lang/Throwable" 6 ∈ TB := tb_2 2 rfl rfl
theorem t2_5 : Cond.methodLink "RelationOrder" 55 ⟨"java/lang/IllegalStateException", "<init>", "(Ljava/lang/String;)V"⟩ ∈ TB := tb_2 5 rfl rfl
theorem t2_6 : Cond.instanceMethod ⟨"java/lang/IllegalStateException", "<init>", "(Ljava/lang/String;)V"⟩ ∈ TB := tb_2 6 rfl rfl
theorem t2_7 : Cond.code ⟨"java/lang/IllegalStateException", "<init>", "(Ljava/lang/String;)V"⟩ prog_12_method_2_code 2 none ∈ TB := tb_2 7 rfl rfl
theorem t2_8 : Cond.methodLink "java/lang/IllegalStateException" 7 ⟨"java/lang/RuntimeException", "<init>", "(Ljava/lang/String;)V"⟩ ∈ TB := tb_2 8 rfl rfl
theorem t2_9 : Cond.instanceMethod ⟨"java/lang/RuntimeException", "<init>", "(Ljava/lang/String;)V"⟩ ∈ TB := tb_2 9 rfl rfl
theorem t2_10 : Cond.code ⟨"java/lang/RuntimeException", "<init>", "(Ljava/lang/String;)V"⟩ prog_16_method_2_code 2 none ∈ TB := tb_2 10 rfl rfl
theorem t2_11 : Cond.methodLink "java/lang/RuntimeException" 7 ⟨"java/lang/Exception", "<init>", "(Ljava/lang/String;)V"⟩ ∈ TB := tb_2 11 rfl rfl
theorem t2_12 : Cond.instanceMethod ⟨"java/lang/Exception", "<init>", "(Ljava/lang/String;)V"⟩ ∈ TB := tb_2 12 rfl rfl
theorem t2_13 : Cond.code ⟨"java/lang/Exception", "<init>", "(Ljava/lang/String;)V"⟩ prog_11_method_2_code 2 none ∈ TB := tb_2 13 rfl rfl
theorem t2_14 : Cond.methodLink "java/lang/Exception" 7 ⟨"java/lang/Throwable", "<init>", "(Ljava/lang/String;)V"⟩ ∈ TB := tb_2 14 rfl rfl
theorem t2_15 : Cond.instanceMethod ⟨"java/lang/Throwable", "<init>", "(Ljava/lang/String;)V"⟩ ∈ TB := tb_2 15 rfl rfl
theorem t2_16 : Cond.code ⟨"java/lang/Throwable", "<init>", "(Ljava/lang/String;)V"⟩ prog_18_method_2_code 2 none ∈ TB := tb_2 16 rfl rfl
theorem t2_17 : Cond.fieldLink "java/lang/Throwable" 198 "java/lang/Throwable" "backtrace" "Ljava/lang/Object;" ∈ TB := tb_2 17 rfl rfl
theorem t2_18 : Cond.fieldLink "java/lang/Throwable" 31 "java/lang/Throwable" "detailMessage" "Ljava/lang/String;" ∈ TB := tb_2 18 rfl rfl
theorem t2_19 : Cond.fieldLink "java/lang/Throwable" 7 "java/lang/Throwable" "cause" "Ljava/lang/Throwable;" ∈ TB := tb_2 19 rfl rfl
theorem t2_20 : Cond.fieldLink "java/lang/Throwable" 17 "java/lang/Throwable" "stackTrace" "[Ljava/lang/StackTraceElement;" ∈ TB := tb_2 20 rfl rfl
theorem t2_21 : Cond.fieldLink "java/lang/Throwable" 24 "java/lang/Throwable" "suppressedExceptions" "Ljava/util/List;" ∈ TB := tb_2 21 rfl rfl
theorem t2_26 : Cond.lays "java/lang/IllegalStateException" "java/lang/Throwable" "depth" "I" ∈ TB := tb_2 26 rfl rfl
theorem t2_30 : Cond.arrayClass FieldType.byte ∈ TB := tb_2 30 rfl rfl
theorem t2_31 : Cond.methodLink "RelationOrder" 58 ⟨"RelationOrder$Strata", "addContext", "()I"⟩ ∈ TB := tb_2 31 rfl rfl
theorem t2_32 : Cond.instanceMethod ⟨"RelationOrder$Strata", "addContext", "()I"⟩ ∈ TB := tb_2 32 rfl rfl
theorem t2_33 : Cond.selects "RelationOrder$Strata" ⟨"RelationOrder$Strata", "addContext", "()I"⟩ ⟨"RelationOrder$Strata", "addContext", "()I"⟩ ∈ TB := tb_2 33 rfl rfl
theorem t2_34 : Cond.code ⟨"RelationOrder$Strata", "addContext", "()I"⟩ prog_7_method_3_code 1 (some .int) ∈ TB := tb_2 34 rfl rfl
theorem t2_35 : Cond.methodLink "RelationOrder$Strata" 34 ⟨"RelationOrder$Cells", "put", "(II)V"⟩ ∈ TB := tb_2 35 rfl rfl
theorem t2_36 : Cond.instanceMethod ⟨"RelationOrder$Cells", "put", "(II)V"⟩ ∈ TB := tb_2 36 rfl rfl
theorem t2_37 : Cond.selects "RelationOrder$Cells" ⟨"RelationOrder$Cells", "put", "(II)V"⟩ ⟨"RelationOrder$Cells", "put", "(II)V"⟩ ∈ TB := tb_2 37 rfl rfl
theorem t2_38 : Cond.code ⟨"RelationOrder$Cells", "put", "(II)V"⟩ prog_2_method_3_code 3 none ∈ TB := tb_2 38 rfl rfl
theorem t2_39 : Cond.methodLink "RelationOrderLaw" 80 ⟨"RelationOrderLaw", "relate", "(LRelationOrder;III[J)I"⟩ ∈ TB := tb_2 39 rfl rfl
theorem t2_40 : Cond.static ⟨"RelationOrderLaw", "relate", "(LRelationOrder;III[J)I"⟩ ∈ TB := tb_2 40 rfl rfl
theorem t2_42 : Cond.classLink "RelationOrderLaw" 19 "java/lang/IndexOutOfBoundsException" ∈ TB := tb_2 42 rfl rfl
theorem t2_43 : Cond.methodLink "RelationOrderLaw" 15 ⟨"RelationOrder", "relate", "(III)I"⟩ ∈ TB := tb_2 43 rfl rfl
theorem t2_44 : Cond.instanceMethod ⟨"RelationOrder", "relate", "(III)I"⟩ ∈ TB := tb_2 44 rfl rfl
theorem t2_45 : Cond.selects "RelationOrder" ⟨"RelationOrder", "relate", "(III)I"⟩ ⟨"RelationOrder", "relate", "(III)I"⟩ ∈ TB := tb_2 45 rfl rfl
theorem t2_46 : Cond.code ⟨"RelationOrder", "relate", "(III)I"⟩ prog_1_method_3_code 5 (some .int) ∈ TB := tb_2 46 rfl rfl
theorem t2_47 : Cond.methodLink "RelationOrder" 61 ⟨"RelationOrder", "checkContext", "(I)V"⟩ ∈ TB := tb_2 47 rfl rfl
theorem t2_49 : Cond.instanceMethod ⟨"RelationOrder", "checkContext", "(I)V"⟩ ∈ TB := tb_2 49 rfl rfl
theorem t2_50 : Cond.code ⟨"RelationOrder", "checkContext", "(I)V"⟩ prog_1_method_19_code 2 none ∈ TB := tb_2 50 rfl rfl
theorem t2_51 : Cond.classLink "RelationOrder" 65 "java/lang/IndexOutOfBoundsException" ∈ TB := tb_2 51 rfl rfl
theorem t2_52 : Cond.instantiable "java/lang/IndexOutOfBoundsException" 6 ∈ TB := tb_2 52 rfl rfl
theorem t2_54 : Cond.selects "java/lang/IndexOutOfBoundsException" ⟨"java/lang/Throwable", "fillInStackTrace", "(I)Ljava/lang/Throwable;"⟩ ⟨"java/lang/Throwable", "fillInStackTrace", "(I)Ljava/lang/Throwable;"⟩ ∈ TB := tb_2 54 rfl rfl
theorem t2_55 : Cond.lays "java/lang/IndexOutOfBoundsException" "java/lang/Throwable" "cause" "Ljava/lang/Throwable;" ∈ TB := tb_2 55 rfl rfl
theorem t2_56 : Cond.lays "java/lang/IndexOutOfBoundsException" "java/lang/Throwable" "stackTrace" "[Ljava/lang/StackTraceElement;" ∈ TB := tb_2 56 rfl rfl
theorem t2_57 : Cond.lays "java/lang/IndexOutOfBoundsException" "java/lang/Throwable" "suppressedExceptions" "Ljava/util/List;" ∈ TB := tb_2 57 rfl rfl
theorem t2_58 : Cond.lays "java/lang/IndexOutOfBoundsException" "java/lang/Throwable" "detailMessage" "Ljava/lang/String;" ∈ TB := tb_2 58 rfl rfl
theorem t2_59 : Cond.lays "java/lang/IndexOutOfBoundsException" "java/lang/Throwable" "backtrace" "Ljava/lang/Object;" ∈ TB := tb_2 59 rfl rfl
theorem t2_61 : Cond.methodLink "RelationOrder" 69 ⟨"java/lang/IndexOutOfBoundsException", "<init>", "(Ljava/lang/String;)V"⟩ ∈ TB := tb_2 61 rfl rfl
theorem t2_62 : Cond.instanceMethod ⟨"java/lang/IndexOutOfBoundsException", "<init>", "(Ljava/lang/String;)V"⟩ ∈ TB := tb_2 62 rfl rfl
theorem t2_63 : Cond.code ⟨"java/lang/IndexOutOfBoundsException", "<init>", "(Ljava/lang/String;)V"⟩ prog_13_method_2_code 2 none ∈ TB := tb_2 63 rfl rfl
theorem t2_64 : Cond.methodLink "java/lang/IndexOutOfBoundsException" 7 ⟨"java/lang/RuntimeException", "<init>", "(Ljava/lang/String;)V"⟩ ∈ TB := tb_2 64 rfl rfl
theorem t2_65 : Cond.lays "java/lang/IndexOutOfBoundsException" "java/lang/Throwable" "depth" "I" ∈ TB := tb_2 65 rfl rfl
theorem t2_68 : Cond.methodLink "RelationOrder" 70 ⟨"RelationOrder$Relations", "made", "()I"⟩ ∈ TB := tb_2 68 rfl rfl
theorem t2_69 : Cond.instanceMethod ⟨"RelationOrder$Relations", "made", "()I"⟩ ∈ TB := tb_2 69 rfl rfl
theorem t2_70 : Cond.selects "RelationOrder$Relations" ⟨"RelationOrder$Relations", "made", "()I"⟩ ⟨"RelationOrder$Relations", "made", "()I"⟩ ∈ TB := tb_2 70 rfl rfl
theorem t2_71 : Cond.code ⟨"RelationOrder$Relations", "made", "()I"⟩ prog_4_method_2_code 1 (some .int) ∈ TB := tb_2 71 rfl rfl
theorem t2_73 : Cond.methodLink "RelationOrder" 75 ⟨"RelationOrder$Strata", "numberOf", "(I)I"⟩ ∈ TB := tb_2 73 rfl rfl
theorem t2_74 : Cond.instanceMethod ⟨"RelationOrder$Strata", "numberOf", "(I)I"⟩ ∈ TB := tb_2 74 rfl rfl
theorem t2_75 : Cond.selects "RelationOrder$Strata" ⟨"RelationOrder$Strata", "numberOf", "(I)I"⟩ ⟨"RelationOrder$Strata", "numberOf", "(I)I"⟩ ∈ TB := tb_2 75 rfl rfl
theorem t2_76 : Cond.code ⟨"RelationOrder$Strata", "numberOf", "(I)I"⟩ prog_7_method_4_code 2 (some .int) ∈ TB := tb_2 76 rfl rfl
theorem t2_77 : Cond.methodLink "RelationOrder$Strata" 38 ⟨"RelationOrder$Cells", "at", "(I)I"⟩ ∈ TB := tb_2 77 rfl rfl
theorem t2_78 : Cond.instanceMethod ⟨"RelationOrder$Cells", "at", "(I)I"⟩ ∈ TB := tb_2 78 rfl rfl
theorem t2_79 : Cond.selects "RelationOrder$Cells" ⟨"RelationOrder$Cells", "at", "(I)I"⟩ ⟨"RelationOrder$Cells", "at", "(I)I"⟩ ∈ TB := tb_2 79 rfl rfl
theorem t2_80 : Cond.code ⟨"RelationOrder$Cells", "at", "(I)I"⟩ prog_2_method_2_code 2 (some .int) ∈ TB := tb_2 80 rfl rfl
theorem t2_81 : Cond.methodLink "RelationOrder" 79 ⟨"RelationOrder", "closesRing", "(III)Z"⟩ ∈ TB := tb_2 81 rfl rfl
theorem t2_83 : Cond.instanceMethod ⟨"RelationOrder", "closesRing", "(III)Z"⟩ ∈ TB := tb_2 83 rfl rfl
theorem t2_84 : Cond.code ⟨"RelationOrder", "closesRing", "(III)Z"⟩ prog_1_method_22_code 4 (some .boolean) ∈ TB := tb_2 84 rfl rfl
theorem t2_85 : Cond.methodLink "RelationOrder" 176 ⟨"RelationOrder$Strata", "tellRingWith", "(IIILRelationOrder$Ring;)Z"⟩ ∈ TB := tb_2 85 rfl rfl
theorem t2_86 : Cond.instanceMethod ⟨"RelationOrder$Strata", "tellRingWith", "(IIILRelationOrder$Ring;)Z"⟩ ∈ TB := tb_2 86 rfl rfl
theorem t2_87 : Cond.selects "RelationOrder$Strata" ⟨"RelationOrder$Strata", "tellRingWith", "(IIILRelationOrder$Ring;)Z"⟩ ⟨"RelationOrder$Strata", "tellRingWith", "(IIILRelationOrder$Ring;)Z"⟩ ∈ TB := tb_2 87 rfl rfl
theorem t2_88 : Cond.code ⟨"RelationOrder$Strata", "tellRingWith", "(IIILRelationOrder$Ring;)Z"⟩ prog_7_method_8_code 8 (some .boolean) ∈ TB := tb_2 88 rfl rfl
theorem t2_89 : Cond.methodLink "RelationOrder$Strata" 68 ⟨"RelationOrder$Rows", "mark", "(II)V"⟩ ∈ TB := tb_2 89 rfl rfl
theorem t2_90 : Cond.instanceMethod ⟨"RelationOrder$Rows", "mark", "(II)V"⟩ ∈ TB := tb_2 90 rfl rfl
theorem t2_91 : Cond.selects "RelationOrder$Rows" ⟨"RelationOrder$Rows", "mark", "(II)V"⟩ ⟨"RelationOrder$Rows", "mark", "(II)V"⟩ ∈ TB := tb_2 91 rfl rfl
theorem t2_92 : Cond.code ⟨"RelationOrder$Rows", "mark", "(II)V"⟩ prog_6_method_6_code 3 none ∈ TB := tb_2 92 rfl rfl
theorem t2_93 : Cond.methodLink "RelationOrder$Strata" 91 ⟨"RelationOrder$Ring", "tell", "(LRelationOrder$Rows;I)Z"⟩ ∈ TB := tb_2 93 rfl rfl
theorem t2_94 : Cond.instanceMethod ⟨"RelationOrder$Ring", "tell", "(LRelationOrder$Rows;I)Z"⟩ ∈ TB := tb_2 94 rfl rfl
theorem t2_95 : Cond.selects "RelationOrder$Ring" ⟨"RelationOrder$Ring", "tell", "(LRelationOrder$Rows;I)Z"⟩ ⟨"RelationOrder$Ring", "tell", "(LRelationOrder$Rows;I)Z"⟩ ∈ TB := tb_2 95 rfl rfl
theorem t2_96 : Cond.code ⟨"RelationOrder$Ring", "tell", "(LRelationOrder$Rows;I)Z"⟩ prog_5_method_3_code 4 (some .boolean) ∈ TB := tb_2 96 rfl rfl
theorem t2_97 : Cond.methodLink "RelationOrder$Ring" 32 ⟨"RelationOrder$Ring", "measure", "(LRelationOrder$Rows;I)I"⟩ ∈ TB := tb_2 97 rfl rfl
theorem t2_99 : Cond.instanceMethod ⟨"RelationOrder$Ring", "measure", "(LRelationOrder$Rows;I)I"⟩ ∈ TB := tb_2 99 rfl rfl
theorem t2_100 : Cond.code ⟨"RelationOrder$Ring", "measure", "(LRelationOrder$Rows;I)I"⟩ prog_5_method_4_code 8 (some .int) ∈ TB := tb_2 100 rfl rfl
theorem t2_101 : Cond.methodLink "RelationOrder$Ring" 40 ⟨"RelationOrder$Rows", "above", "(J)J"⟩ ∈ TB := tb_2 101 rfl rfl
theorem t2_102 : Cond.instanceMethod ⟨"RelationOrder$Rows", "above", "(J)J"⟩ ∈ TB := tb_2 102 rfl rfl
theorem t2_103 : Cond.selects "RelationOrder$Rows" ⟨"RelationOrder$Rows", "above", "(J)J"⟩ ⟨"RelationOrder$Rows", "above", "(J)J"⟩ ∈ TB := tb_2 103 rfl rfl
theorem t2_104 : Cond.code ⟨"RelationOrder$Rows", "above", "(J)J"⟩ prog_6_method_8_code 6 (some .long) ∈ TB := tb_2 104 rfl rfl
theorem t2_105 : Cond.constantLong "RelationOrder$Ring" 46 (-1 : Int64) ∈ TB := tb_2 105 rfl rfl
theorem t2_106 : Cond.methodLink "RelationOrder$Ring" 36 ⟨"RelationOrder$Ring", "write", "(LRelationOrder$Rows;II)V"⟩ ∈ TB := tb_2 106 rfl rfl
theorem t2_108 : Cond.instanceMethod ⟨"RelationOrder$Ring", "write", "(LRelationOrder$Rows;II)V"⟩ ∈ TB := tb_2 108 rfl rfl
theorem t2_109 : Cond.code ⟨"RelationOrder$Ring", "write", "(LRelationOrder$Rows;II)V"⟩ prog_5_method_5_code 7 none ∈ TB := tb_2 109 rfl rfl
theorem t2_110 : Cond.methodLink "RelationOrder$Ring" 48 ⟨"RelationOrder$Cells", "put", "(II)V"⟩ ∈ TB := tb_2 110 rfl rfl
theorem t2_111 : Cond.methodLink "RelationOrder$Ring" 52 ⟨"RelationOrder$Rows", "row", "(I)J"⟩ ∈ TB := tb_2 111 rfl rfl
theorem t2_113 : Cond.static ⟨"RelationOrder", "nthOf", "(JI)I"⟩ ∈ TB := tb_2 113 rfl rfl
theorem t2_114 : Cond.code ⟨"RelationOrder", "nthOf", "(JI)I"⟩ prog_1_method_23_code 5 (some .int) ∈ TB := tb_2 114 rfl rfl
theorem t2_115 : Cond.methodLink "RelationOrder$Strata" 97 ⟨"RelationOrder$Rows", "put", "(IJ)V"⟩ ∈ TB := tb_2 115 rfl rfl
theorem t2_116 : Cond.instanceMethod ⟨"RelationOrder$Rows", "put", "(IJ)V"⟩ ∈ TB := tb_2 116 rfl rfl
theorem t2_117 : Cond.selects "RelationOrder$Rows" ⟨"RelationOrder$Rows", "put", "(IJ)V"⟩ ⟨"RelationOrder$Rows", "put", "(IJ)V"⟩ ∈ TB := tb_2 117 rfl rfl
theorem t2_118 : Cond.code ⟨"RelationOrder$Rows", "put", "(IJ)V"⟩ prog_6_method_4_code 4 none ∈ TB := tb_2 118 rfl rfl
theorem t2_119 : Cond.methodLink "RelationOrder" 83 ⟨"RelationOrder$Relations", "add", "(III)I"⟩ ∈ TB := tb_2 119 rfl rfl
theorem t2_120 : Cond.instanceMethod ⟨"RelationOrder$Relations", "add", "(III)I"⟩ ∈ TB := tb_2 120 rfl rfl
theorem t2_121 : Cond.selects "RelationOrder$Relations" ⟨"RelationOrder$Relations", "add", "(III)I"⟩ ⟨"RelationOrder$Relations", "add", "(III)I"⟩ ∈ TB := tb_2 121 rfl rfl
theorem t2_122 : Cond.code ⟨"RelationOrder$Relations", "add", "(III)I"⟩ prog_4_method_7_code 4 (some .int) ∈ TB := tb_2 122 rfl rfl
theorem t2_123 : Cond.methodLink "RelationOrder$Relations" 37 ⟨"RelationOrder$Cells", "put", "(II)V"⟩ ∈ TB := tb_2 123 rfl rfl
theorem t2_124 : Cond.methodLink "RelationOrder" 87 ⟨"RelationOrder$Strata", "rebuild", "(LRelationOrder$Relations;)V"⟩ ∈ TB := tb_2 124 rfl rfl
theorem t2_125 : Cond.instanceMethod ⟨"RelationOrder$Strata", "rebuild", "(LRelationOrder$Relations;)V"⟩ ∈ TB := tb_2 125 rfl rfl
theorem t2_126 : Cond.selects "RelationOrder$Strata" ⟨"RelationOrder$Strata", "rebuild", "(LRelationOrder$Relations;)V"⟩ ⟨"RelationOrder$Strata", "rebuild", "(LRelationOrder$Relations;)V"⟩ ∈ TB := tb_2 126 rfl rfl
theorem t2_127 : Cond.code ⟨"RelationOrder$Strata", "rebuild", "(LRelationOrder$Relations;)V"⟩ prog_7_method_6_code 4 none ∈ TB := tb_2 127 rfl rfl
theorem t2_128 : Cond.methodLink "RelationOrder$Strata" 46 ⟨"RelationOrder$Strata", "join", "(LRelationOrder$Relations;)V"⟩ ∈ TB := tb_2 128 rfl rfl
theorem t2_130 : Cond.instanceMethod ⟨"RelationOrder$Strata", "join", "(LRelationOrder$Relations;)V"⟩ ∈ TB := tb_2 130 rfl rfl
theorem t2_131 : Cond.code ⟨"RelationOrder$Strata", "join", "(LRelationOrder$Relations;)V"⟩ prog_7_method_7_code 5 none ∈ TB := tb_2 131 rfl rfl
theorem t2_132 : Cond.methodLink "RelationOrder$Strata" 53 ⟨"RelationOrder$Relations", "made", "()I"⟩ ∈ TB := tb_2 132 rfl rfl
theorem t2_133 : Cond.methodLink "RelationOrder$Strata" 59 ⟨"RelationOrder$Relations", "kindOf", "(I)I"⟩ ∈ TB := tb_2 133 rfl rfl
theorem t2_134 : Cond.instanceMethod ⟨"RelationOrder$Relations", "kindOf", "(I)I"⟩ ∈ TB := tb_2 134 rfl rfl
theorem t2_135 : Cond.selects "RelationOrder$Relations" ⟨"RelationOrder$Relations", "kindOf", "(I)I"⟩ ⟨"RelationOrder$Relations", "kindOf", "(I)I"⟩ ∈ TB := tb_2 135 rfl rfl
theorem t2_136 : Cond.code ⟨"RelationOrder$Relations", "kindOf", "(I)I"⟩ prog_4_method_6_code 2 (some .int) ∈ TB := tb_2 136 rfl rfl
theorem t2_137 : Cond.methodLink "RelationOrder$Relations" 33 ⟨"RelationOrder$Cells", "at", "(I)I"⟩ ∈ TB := tb_2 137 rfl rfl
theorem t2_138 : Cond.methodLink "RelationOrder$Strata" 62 ⟨"RelationOrder$Relations", "upperOf", "(I)I"⟩ ∈ TB := tb_2 138 rfl rfl
theorem t2_139 : Cond.instanceMethod ⟨"RelationOrder$Relations", "upperOf", "(I)I"⟩ ∈ TB := tb_2 139 rfl rfl
theorem t2_140 : Cond.selects "RelationOrder$Relations" ⟨"RelationOrder$Relations", "upperOf", "(I)I"⟩ ⟨"RelationOrder$Relations", "upperOf", "(I)I"⟩ ∈ TB := tb_2 140 rfl rfl
theorem t2_141 : Cond.code ⟨"RelationOrder$Relations", "upperOf", "(I)I"⟩ prog_4_method_4_code 2 (some .int) ∈ TB := tb_2 141 rfl rfl
theorem t2_142 : Cond.methodLink "RelationOrder$Strata" 65 ⟨"RelationOrder$Relations", "lowerOf", "(I)I"⟩ ∈ TB := tb_2 142 rfl rfl
theorem t2_143 : Cond.instanceMethod ⟨"RelationOrder$Relations", "lowerOf", "(I)I"⟩ ∈ TB := tb_2 143 rfl rfl
theorem t2_144 : Cond.selects "RelationOrder$Relations" ⟨"RelationOrder$Relations", "lowerOf", "(I)I"⟩ ⟨"RelationOrder$Relations", "lowerOf", "(I)I"⟩ ∈ TB := tb_2 144 rfl rfl
theorem t2_145 : Cond.code ⟨"RelationOrder$Relations", "lowerOf", "(I)I"⟩ prog_4_method_5_code 2 (some .int) ∈ TB := tb_2 145 rfl rfl
theorem t2_146 : Cond.methodLink "RelationOrder$Strata" 75 ⟨"java/lang/Math", "max", "(II)I"⟩ ∈ TB := tb_2 146 rfl rfl
theorem t2_147 : Cond.methodLink "RelationOrder$Strata" 81 ⟨"java/lang/Math", "min", "(II)I"⟩ ∈ TB := tb_2 147 rfl rfl
theorem t2_148 : Cond.methodLink "RelationOrder$Strata" 84 ⟨"RelationOrder$Cells", "replace", "(II)V"⟩ ∈ TB := tb_2 148 rfl rfl
theorem t2_149 : Cond.instanceMethod ⟨"RelationOrder$Cells", "replace", "(II)V"⟩ ∈ TB := tb_2 149 rfl rfl
theorem t2_150 : Cond.selects "RelationOrder$Cells" ⟨"RelationOrder$Cells", "replace", "(II)V"⟩ ⟨"RelationOrder$Cells", "replace", "(II)V"⟩ ∈ TB := tb_2 150 rfl rfl
theorem t2_151 : Cond.code ⟨"RelationOrder$Cells", "replace", "(II)V"⟩ prog_2_method_4_code 4 none ∈ TB := tb_2 151 rfl rfl
theorem t2_152 : Cond.methodLink "RelationOrder$Strata" 50 ⟨"RelationOrder$Rows", "clear", "()V"⟩ ∈ TB := tb_2 152 rfl rfl
theorem t2_153 : Cond.instanceMethod ⟨"RelationOrder$Rows", "clear", "()V"⟩ ∈ TB := tb_2 153 rfl rfl
theorem t2_154 : Cond.selects "RelationOrder$Rows" ⟨"RelationOrder$Rows", "clear", "()V"⟩ ⟨"RelationOrder$Rows", "clear", "()V"⟩ ∈ TB := tb_2 154 rfl rfl
theorem t2_155 : Cond.code ⟨"RelationOrder$Rows", "clear", "()V"⟩ prog_6_method_7_code 2 none ∈ TB := tb_2 155 rfl rfl
theorem t2_156 : Cond.methodLink "RelationOrder$Strata" 71 ⟨"RelationOrder$Rows", "close", "(LRelationOrder$Rows;)V"⟩ ∈ TB := tb_2 156 rfl rfl
theorem t2_157 : Cond.instanceMethod ⟨"RelationOrder$Rows", "close", "(LRelationOrder$Rows;)V"⟩ ∈ TB := tb_2 157 rfl rfl
theorem t2_158 : Cond.selects "RelationOrder$Rows" ⟨"RelationOrder$Rows", "close", "(LRelationOrder$Rows;)V"⟩ ⟨"RelationOrder$Rows", "close", "(LRelationOrder$Rows;)V"⟩ ∈ TB := tb_2 158 rfl rfl
theorem t2_159 : Cond.code ⟨"RelationOrder$Rows", "close", "(LRelationOrder$Rows;)V"⟩ prog_6_method_9_code 6 none ∈ TB := tb_2 159 rfl rfl
theorem t2_160 : Cond.methodLink "RelationOrder$Rows" 28 ⟨"RelationOrder$Rows", "row", "(I)J"⟩ ∈ TB := tb_2 160 rfl rfl
theorem t2_161 : Cond.methodLink "RelationOrderLaw" 84 ⟨"RelationOrderLaw", "ring", "(LRelationOrder;I[J)I"⟩ ∈ TB := tb_2 161 rfl rfl
theorem t2_162 : Cond.static ⟨"RelationOrderLaw", "ring", "(LRelationOrder;I[J)I"⟩ ∈ TB := tb_2 162 rfl rfl
theorem t2_164 : Cond.methodLink "RelationOrderLaw" 21 ⟨"RelationOrder", "ring", "(I)I"⟩ ∈ TB := tb_2 164 rfl rfl
theorem t2_165 : Cond.instanceMethod ⟨"RelationOrder", "ring", "(I)I"⟩ ∈ TB := tb_2 165 rfl rfl
theorem t2_166 : Cond.selects "RelationOrder" ⟨"RelationOrder", "ring", "(I)I"⟩ ⟨"RelationOrder", "ring", "(I)I"⟩ ∈ TB := tb_2 166 rfl rfl
theorem t2_167 : Cond.code ⟨"RelationOrder", "ring", "(I)I"⟩ prog_1_method_4_code 2 (some .int) ∈ TB := tb_2 167 rfl rfl
theorem t2_168 : Cond.methodLink "RelationOrder" 91 ⟨"RelationOrder", "checkPlace", "(I)V"⟩ ∈ TB := tb_2 168 rfl rfl
theorem t2_169 : Cond.static ⟨"RelationOrder", "checkPlace", "(I)V"⟩ ∈ TB := tb_2 169 rfl rfl
theorem t2_170 : Cond.code ⟨"RelationOrder", "checkPlace", "(I)V"⟩ prog_1_method_20_code 1 none ∈ TB := tb_2 170 rfl rfl
theorem t2_172 : Cond.methodLink "RelationOrder" 94 ⟨"RelationOrder$Ring", "place", "(I)I"⟩ ∈ TB := tb_2 172 rfl rfl
theorem t2_173 : Cond.instanceMethod ⟨"RelationOrder$Ring", "place", "(I)I"⟩ ∈ TB := tb_2 173 rfl rfl
theorem t2_174 : Cond.selects "RelationOrder$Ring" ⟨"RelationOrder$Ring", "place", "(I)I"⟩ ⟨"RelationOrder$Ring", "place", "(I)I"⟩ ∈ TB := tb_2 174 rfl rfl
theorem t2_175 : Cond.code ⟨"RelationOrder$Ring", "place", "(I)I"⟩ prog_5_method_2_code 2 (some .int) ∈ TB := tb_2 175 rfl rfl
theorem t2_176 : Cond.methodLink "RelationOrder$Ring" 28 ⟨"RelationOrder$Cells", "at", "(I)I"⟩ ∈ TB := tb_2 176 rfl rfl
theorem t2_177 : Cond.methodLink "RelationOrderLaw" 88 ⟨"RelationOrderLaw", "undo", "(LRelationOrder;I[J)I"⟩ ∈ TB := tb_2 177 rfl rfl
theorem t2_178 : Cond.static ⟨"RelationOrderLaw", "undo", "(LRelationOrder;I[J)I"⟩ ∈ TB := tb_2 178 rfl rfl
theorem t2_180 : Cond.methodLink "RelationOrderLaw" 25 ⟨"RelationOrder", "undo", "(I)Z"⟩ ∈ TB := tb_2 180 rfl rfl
theorem t2_181 : Cond.instanceMethod ⟨"RelationOrder", "undo", "(I)Z"⟩ ∈ TB := tb_2 181 rfl rfl
theorem t2_182 : Cond.selects "RelationOrder" ⟨"RelationOrder", "undo", "(I)Z"⟩ ⟨"RelationOrder", "undo", "(I)Z"⟩ ∈ TB := tb_2 182 rfl rfl
theorem t2_183 : Cond.code ⟨"RelationOrder", "undo", "(I)Z"⟩ prog_1_method_5_code 2 (some .boolean) ∈ TB := tb_2 183 rfl rfl
theorem t2_185 : Cond.methodLink "RelationOrder" 99 ⟨"RelationOrder$Relations", "drop", "(I)Z"⟩ ∈ TB := tb_2 185 rfl rfl
theorem t2_186 : Cond.instanceMethod ⟨"RelationOrder$Relations", "drop", "(I)Z"⟩ ∈ TB := tb_2 186 rfl rfl
theorem t2_187 : Cond.selects "RelationOrder$Relations" ⟨"RelationOrder$Relations", "drop", "(I)Z"⟩ ⟨"RelationOrder$Relations", "drop", "(I)Z"⟩ ∈ TB := tb_2 187 rfl rfl
theorem t2_188 : Cond.code ⟨"RelationOrder$Relations", "drop", "(I)Z"⟩ prog_4_method_8_code 2 (some .boolean) ∈ TB := tb_2 188 rfl rfl
theorem t2_189 : Cond.methodLink "RelationOrderLaw" 91 ⟨"RelationOrderLaw", "order", "(LRelationOrder;II[J)I"⟩ ∈ TB := tb_2 189 rfl rfl
theorem t2_190 : Cond.static ⟨"RelationOrderLaw", "order", "(LRelationOrder;II[J)I"⟩ ∈ TB := tb_2 190 rfl rfl
theorem t2_192 : Cond.methodLink "RelationOrderLaw" 29 ⟨"RelationOrder", "order", "(II)I"⟩ ∈ TB := tb_2 192 rfl rfl
theorem t2_193 : Cond.instanceMethod ⟨"RelationOrder", "order", "(II)I"⟩ ∈ TB := tb_2 193 rfl rfl
theorem t2_194 : Cond.selects "RelationOrder" ⟨"RelationOrder", "order", "(II)I"⟩ ⟨"RelationOrder", "order", "(II)I"⟩ ∈ TB := tb_2 194 rfl rfl
theorem t2_195 : Cond.code ⟨"RelationOrder", "order", "(II)I"⟩ prog_1_method_6_code 3 (some .int) ∈ TB := tb_2 195 rfl rfl
theorem t2_196 : Cond.methodLink "RelationOrder" 103 ⟨"RelationOrder$Strata", "isOver", "(II)Z"⟩ ∈ TB := tb_2 196 rfl rfl
theorem t2_197 : Cond.instanceMethod ⟨"RelationOrder$Strata", "isOver", "(II)Z"⟩ ∈ TB := tb_2 197 rfl rfl
theorem t2_198 : Cond.selects "RelationOrder$Strata" ⟨"RelationOrder$Strata", "isOver", "(II)Z"⟩ ⟨"RelationOrder$Strata", "isOver", "(II)Z"⟩ ∈ TB := tb_2 198 rfl rfl
theorem t2_199 : Cond.code ⟨"RelationOrder$Strata", "isOver", "(II)Z"⟩ prog_7_method_5_code 3 (some .boolean) ∈ TB := tb_2 199 rfl rfl
theorem t2_200 : Cond.methodLink "RelationOrderLaw" 99 ⟨"RelationOrderLaw", "link", "(LRelationOrder;II[J)I"⟩ ∈ TB := tb_2 200 rfl rfl
theorem t2_201 : Cond.static ⟨"RelationOrderLaw", "link", "(LRelationOrder;II[J)I"⟩ ∈ TB := tb_2 201 rfl rfl
theorem t2_203 : Cond.methodLink "RelationOrderLaw" 33 ⟨"RelationOrder", "link", "(II)I"⟩ ∈ TB := tb_2 203 rfl rfl
theorem t2_204 : Cond.instanceMethod ⟨"RelationOrder", "link", "(II)I"⟩ ∈ TB := tb_2 204 rfl rfl
theorem t2_205 : Cond.selects "RelationOrder" ⟨"RelationOrder", "link", "(II)I"⟩ ⟨"RelationOrder", "link", "(II)I"⟩ ∈ TB := tb_2 205 rfl rfl
theorem t2_206 : Cond.code ⟨"RelationOrder", "link", "(II)I"⟩ prog_1_method_8_code 3 (some .int) ∈ TB := tb_2 206 rfl rfl
theorem t2_209 : Cond.methodLink "RelationOrder" 114 ⟨"RelationOrder$Strata", "linkEnd", "(IZ)I"⟩ ∈ TB := tb_2 209 rfl rfl
theorem t2_210 : Cond.instanceMethod ⟨"RelationOrder$Strata", "linkEnd", "(IZ)I"⟩ ∈ TB := tb_2 210 rfl rfl
theorem t2_211 : Cond.selects "RelationOrder$Strata" ⟨"RelationOrder$Strata", "linkEnd", "(IZ)I"⟩ ⟨"RelationOrder$Strata", "linkEnd", "(IZ)I"⟩ ∈ TB := tb_2 211 rfl rfl
theorem t2_212 : Cond.code ⟨"RelationOrder$Strata", "linkEnd", "(IZ)I"⟩ prog_7_method_13_code 8 (some .int) ∈ TB := tb_2 212 rfl rfl
theorem t2_214 : Cond.methodLink "RelationOrderLaw" 102 ⟨"RelationOrderLaw", "equal", "(LRelationOrder;I[J)I"⟩ ∈ TB := tb_2 214 rfl rfl
theorem t2_215 : Cond.static ⟨"RelationOrderLaw", "equal", "(LRelationOrder;I[J)I"⟩ ∈ TB := tb_2 215 rfl rfl
theorem t2_217 : Cond.methodLink "RelationOrderLaw" 36 ⟨"RelationOrder", "equal", "(I)I"⟩ ∈ TB := tb_2 217 rfl rfl
theorem t2_218 : Cond.instanceMethod ⟨"RelationOrder", "equal", "(I)I"⟩ ∈ TB := tb_2 218 rfl rfl
theorem t2_219 : Cond.selects "RelationOrder" ⟨"RelationOrder", "equal", "(I)I"⟩ ⟨"RelationOrder", "equal", "(I)I"⟩ ∈ TB := tb_2 219 rfl rfl
theorem t2_220 : Cond.code ⟨"RelationOrder", "equal", "(I)I"⟩ prog_1_method_9_code 2 (some .int) ∈ TB := tb_2 220 rfl rfl
theorem t2_221 : Cond.methodLink "RelationOrderLaw" 105 ⟨"RelationOrderLaw", "contemporary", "(LRelationOrder;II[J)I"⟩ ∈ TB := tb_2 221 rfl rfl
theorem t2_222 : Cond.static ⟨"RelationOrderLaw", "contemporary", "(LRelationOrder;II[J)I"⟩ ∈ TB := tb_2 222 rfl rfl
theorem t2_224 : Cond.methodLink "RelationOrderLaw" 39 ⟨"RelationOrder", "contemporary", "(II)Z"⟩ ∈ TB := tb_2 224 rfl rfl
theorem t2_225 : Cond.instanceMethod ⟨"RelationOrder", "contemporary", "(II)Z"⟩ ∈ TB := tb_2 225 rfl rfl
theorem t2_226 : Cond.selects "RelationOrder" ⟨"RelationOrder", "contemporary", "(II)Z"⟩ ⟨"RelationOrder", "contemporary", "(II)Z"⟩ ∈ TB := tb_2 226 rfl rfl
theorem t2_227 : Cond.code ⟨"RelationOrder", "contemporary", "(II)Z"⟩ prog_1_method_10_code 3 (some .boolean) ∈ TB := tb_2 227 rfl rfl
theorem t2_228 : Cond.methodLink "RelationOrder" 118 ⟨"RelationOrder$Strata", "areContemporary", "(IILRelationOrder$Relations;)Z"⟩ ∈ TB := tb_2 228 rfl rfl
theorem t2_229 : Cond.instanceMethod ⟨"RelationOrder$Strata", "areContemporary", "(IILRelationOrder$Relations;)Z"⟩ ∈ TB := tb_2 229 rfl rfl
theorem t2_230 : Cond.selects "RelationOrder$Strata" ⟨"RelationOrder$Strata", "areContemporary", "(IILRelationOrder$Relations;)Z"⟩ ⟨"RelationOrder$Strata", "areContemporary", "(IILRelationOrder$Relations;)Z"⟩ ∈ TB := tb_2 230 rfl rfl
theorem t2_231 : Cond.code ⟨"RelationOrder$Strata", "areContemporary", "(IILRelationOrder$Relations;)Z"⟩ prog_7_method_10_code 7 (some .boolean) ∈ TB := tb_2 231 rfl rfl
theorem t2_232 : Cond.methodLink "RelationOrder$Strata" 100 ⟨"RelationOrder$Strata", "areJoined", "(II)Z"⟩ ∈ TB := tb_2 232 rfl rfl
theorem t2_234 : Cond.instanceMethod ⟨"RelationOrder$Strata", "areJoined", "(II)Z"⟩ ∈ TB := tb_2 234 rfl rfl
theorem t2_235 : Cond.code ⟨"RelationOrder$Strata", "areJoined", "(II)Z"⟩ prog_7_method_9_code 3 (some .boolean) ∈ TB := tb_2 235 rfl rfl
theorem t2_236 : Cond.methodLink "RelationOrderLaw" 108 ⟨"RelationOrderLaw", "longest", "(LRelationOrder;I[J)I"⟩ ∈ TB := tb_2 236 rfl rfl
theorem t2_237 : Cond.static ⟨"RelationOrderLaw", "longest", "(LRelationOrder;I[J)I"⟩ ∈ TB := tb_2 237 rfl rfl
theorem t2_239 : Cond.methodLink "RelationOrderLaw" 43 ⟨"RelationOrder", "longest", "(I)I"⟩ ∈ TB := tb_2 239 rfl rfl
theorem t3_0 : Cond.instanceMethod ⟨"RelationOrder", "longest", "(I)I"⟩ ∈ TB := tb_3 0 rfl rfl
theorem t3_1 : Cond.selects "RelationOrder" ⟨"RelationOrder", "longest", "(I)I"⟩ ⟨"RelationOrder", "longest", "(I)I"⟩ ∈ TB := tb_3 1 rfl rfl
theorem t3_2 : Cond.code ⟨"RelationOrder", "longest", "(I)I"⟩ prog_1_method_11_code 2 (some .int) ∈ TB := tb_3 2 rfl rfl
theorem t3_3 : Cond.methodLink "RelationOrder" 122 ⟨"RelationOrder$Strata", "chainAbove", "(I)I"⟩ ∈ TB := tb_3 3 rfl rfl
theorem t3_4 : Cond.instanceMethod ⟨"RelationOrder$Strata", "chainAbove", "(I)I"⟩ ∈ TB := tb_3 4 rfl rfl
theorem t3_5 : Cond.selects "RelationOrder$Strata" ⟨"RelationOrder$Strata", "chainAbove", "(I)I"⟩ ⟨"RelationOrder$Strata", "chainAbove", "(I)I"⟩ ∈ TB := tb_3 5 rfl rfl
theorem t3_6 : Cond.code ⟨"RelationOrder$Strata", "chainAbove", "(I)I"⟩ prog_7_method_14_code 5 (some .int) ∈ TB := tb_3 6 rfl rfl
theorem t3_7 : Cond.methodLink "RelationOrder$Strata" 118 ⟨"RelationOrder$Rows", "above", "(J)J"⟩ ∈ TB := tb_3 7 rfl rfl
theorem t3_8 : Cond.methodLink "RelationOrderLaw" 111 ⟨"RelationOrderLaw", "group", "(LRelationOrder;[J)I"⟩ ∈ TB := tb_3 8 rfl rfl
theorem t3_9 : Cond.static ⟨"RelationOrderLaw", "group", "(LRelationOrder;[J)I"⟩ ∈ TB := tb_3 9 rfl rfl
theorem t3_11 : Cond.methodLink "RelationOrderLaw" 46 ⟨"RelationOrder", "group", "()I"⟩ ∈ TB := tb_3 11 rfl rfl
theorem t3_12 : Cond.instanceMethod ⟨"RelationOrder", "group", "()I"⟩ ∈ TB := tb_3 12 rfl rfl
theorem t3_13 : Cond.selects "RelationOrder" ⟨"RelationOrder", "group", "()I"⟩ ⟨"RelationOrder", "group", "()I"⟩ ∈ TB := tb_3 13 rfl rfl
theorem t3_14 : Cond.code ⟨"RelationOrder", "group", "()I"⟩ prog_1_method_12_code 1 (some .int) ∈ TB := tb_3 14 rfl rfl
theorem t3_15 : Cond.methodLink "RelationOrder" 125 ⟨"RelationOrder$Groups", "made", "()I"⟩ ∈ TB := tb_3 15 rfl rfl
theorem t3_16 : Cond.instanceMethod ⟨"RelationOrder$Groups", "made", "()I"⟩ ∈ TB := tb_3 16 rfl rfl
theorem t3_17 : Cond.selects "RelationOrder$Groups" ⟨"RelationOrder$Groups", "made", "()I"⟩ ⟨"RelationOrder$Groups", "made", "()I"⟩ ∈ TB := tb_3 17 rfl rfl
theorem t3_18 : Cond.code ⟨"RelationOrder$Groups", "made", "()I"⟩ prog_3_method_2_code 1 (some .int) ∈ TB := tb_3 18 rfl rfl
theorem t3_20 : Cond.methodLink "RelationOrder" 128 ⟨"RelationOrder$Groups", "add", "()I"⟩ ∈ TB := tb_3 20 rfl rfl
theorem t3_21 : Cond.instanceMethod ⟨"RelationOrder$Groups", "add", "()I"⟩ ∈ TB := tb_3 21 rfl rfl
theorem t3_22 : Cond.selects "RelationOrder$Groups" ⟨"RelationOrder$Groups", "add", "()I"⟩ ⟨"RelationOrder$Groups", "add", "()I"⟩ ∈ TB := tb_3 22 rfl rfl
theorem t3_23 : Cond.code ⟨"RelationOrder$Groups", "add", "()I"⟩ prog_3_method_3_code 1 (some .int) ∈ TB := tb_3 23 rfl rfl
theorem t3_24 : Cond.methodLink "RelationOrderLaw" 114 ⟨"RelationOrderLaw", "into", "(LRelationOrder;II[J)I"⟩ ∈ TB := tb_3 24 rfl rfl
theorem t3_25 : Cond.static ⟨"RelationOrderLaw", "into", "(LRelationOrder;II[J)I"⟩ ∈ TB := tb_3 25 rfl rfl
theorem t3_27 : Cond.methodLink "RelationOrderLaw" 49 ⟨"RelationOrder", "into", "(II)Z"⟩ ∈ TB := tb_3 27 rfl rfl
theorem t3_28 : Cond.instanceMethod ⟨"RelationOrder", "into", "(II)Z"⟩ ∈ TB := tb_3 28 rfl rfl
theorem t3_29 : Cond.selects "RelationOrder" ⟨"RelationOrder", "into", "(II)Z"⟩ ⟨"RelationOrder", "into", "(II)Z"⟩ ∈ TB := tb_3 29 rfl rfl
theorem t3_30 : Cond.code ⟨"RelationOrder", "into", "(II)Z"⟩ prog_1_method_13_code 3 (some .boolean) ∈ TB := tb_3 30 rfl rfl
theorem t3_32 : Cond.methodLink "RelationOrder" 132 ⟨"RelationOrder$Groups", "move", "(IILRelationOrder$Strata;)Z"⟩ ∈ TB := tb_3 32 rfl rfl
theorem t3_33 : Cond.instanceMethod ⟨"RelationOrder$Groups", "move", "(IILRelationOrder$Strata;)Z"⟩ ∈ TB := tb_3 33 rfl rfl
theorem t3_34 : Cond.selects "RelationOrder$Groups" ⟨"RelationOrder$Groups", "move", "(IILRelationOrder$Strata;)Z"⟩ ⟨"RelationOrder$Groups", "move", "(IILRelationOrder$Strata;)Z"⟩ ∈ TB := tb_3 34 rfl rfl
theorem t3_35 : Cond.code ⟨"RelationOrder$Groups", "move", "(IILRelationOrder$Strata;)Z"⟩ prog_3_method_6_code 5 (some .boolean) ∈ TB := tb_3 35 rfl rfl
theorem t3_36 : Cond.methodLink "RelationOrder$Groups" 38 ⟨"RelationOrder$Cells", "at", "(I)I"⟩ ∈ TB := tb_3 36 rfl rfl
theorem t3_37 : Cond.methodLink "RelationOrder$Groups" 45 ⟨"RelationOrder$Cells", "put", "(II)V"⟩ ∈ TB := tb_3 37 rfl rfl
theorem t3_38 : Cond.methodLink "RelationOrder$Groups" 49 ⟨"RelationOrder$Groups", "compare", "(LRelationOrder$Strata;)V"⟩ ∈ TB := tb_3 38 rfl rfl
theorem t3_40 : Cond.instanceMethod ⟨"RelationOrder$Groups", "compare", "(LRelationOrder$Strata;)V"⟩ ∈ TB := tb_3 40 rfl rfl
theorem t3_41 : Cond.code ⟨"RelationOrder$Groups", "compare", "(LRelationOrder$Strata;)V"⟩ prog_3_method_7_code 5 none ∈ TB := tb_3 41 rfl rfl
theorem t3_42 : Cond.methodLink "RelationOrder$Groups" 57 ⟨"RelationOrder$Rows", "clear", "()V"⟩ ∈ TB := tb_3 42 rfl rfl
theorem t3_43 : Cond.methodLink "RelationOrder$Groups" 60 ⟨"RelationOrder$Strata", "contexts", "()I"⟩ ∈ TB := tb_3 43 rfl rfl
theorem t3_44 : Cond.methodLink "RelationOrder$Groups" 66 ⟨"RelationOrder$Strata", "isOver", "(II)Z"⟩ ∈ TB := tb_3 44 rfl rfl
theorem t3_45 : Cond.methodLink "RelationOrder$Groups" 70 ⟨"RelationOrder$Rows", "mark", "(II)V"⟩ ∈ TB := tb_3 45 rfl rfl
theorem t3_46 : Cond.methodLink "RelationOrder$Groups" 53 ⟨"RelationOrder$Ring", "tell", "(LRelationOrder$Rows;I)Z"⟩ ∈ TB := tb_3 46 rfl rfl
theorem t3_47 : Cond.methodLink "RelationOrderLaw" 117 ⟨"RelationOrderLaw", "groupRing", "(LRelationOrder;I[J)I"⟩ ∈ TB := tb_3 47 rfl rfl
theorem t3_48 : Cond.static ⟨"RelationOrderLaw", "groupRing", "(LRelationOrder;I[J)I"⟩ ∈ TB := tb_3 48 rfl rfl
theorem t3_50 : Cond.methodLink "RelationOrderLaw" 52 ⟨"RelationOrder", "groupRing", "(I)I"⟩ ∈ TB := tb_3 50 rfl rfl
theorem t3_51 : Cond.instanceMethod ⟨"RelationOrder", "groupRing", "(I)I"⟩ ∈ TB := tb_3 51 rfl rfl
theorem t3_52 : Cond.selects "RelationOrder" ⟨"RelationOrder", "groupRing", "(I)I"⟩ ⟨"RelationOrder", "groupRing", "(I)I"⟩ ∈ TB := tb_3 52 rfl rfl
theorem t3_53 : Cond.code ⟨"RelationOrder", "groupRing", "(I)I"⟩ prog_1_method_14_code 2 (some .int) ∈ TB := tb_3 53 rfl rfl
theorem t3_54 : Cond.methodLink "RelationOrder" 136 ⟨"RelationOrder$Groups", "ringPlace", "(I)I"⟩ ∈ TB := tb_3 54 rfl rfl
theorem t3_55 : Cond.instanceMethod ⟨"RelationOrder$Groups", "ringPlace", "(I)I"⟩ ∈ TB := tb_3 55 rfl rfl
theorem t3_56 : Cond.selects "RelationOrder$Groups" ⟨"RelationOrder$Groups", "ringPlace", "(I)I"⟩ ⟨"RelationOrder$Groups", "ringPlace", "(I)I"⟩ ∈ TB := tb_3 56 rfl rfl
theorem t3_57 : Cond.code ⟨"RelationOrder$Groups", "ringPlace", "(I)I"⟩ prog_3_method_5_code 2 (some .int) ∈ TB := tb_3 57 rfl rfl
theorem t3_58 : Cond.methodLink "RelationOrder$Groups" 42 ⟨"RelationOrder$Ring", "place", "(I)I"⟩ ∈ TB := tb_3 58 rfl rfl
theorem t3_59 : Cond.methodLink "RelationOrderLaw" 120 ⟨"RelationOrderLaw", "groupOf", "(LRelationOrder;I[J)I"⟩ ∈ TB := tb_3 59 rfl rfl
theorem t3_60 : Cond.static ⟨"RelationOrderLaw", "groupOf", "(LRelationOrder;I[J)I"⟩ ∈ TB := tb_3 60 rfl rfl
theorem t3_62 : Cond.methodLink "RelationOrderLaw" 55 ⟨"RelationOrder", "groupOf", "(I)I"⟩ ∈ TB := tb_3 62 rfl rfl
theorem t3_63 : Cond.instanceMethod ⟨"RelationOrder", "groupOf", "(I)I"⟩ ∈ TB := tb_3 63 rfl rfl
theorem t3_64 : Cond.selects "RelationOrder" ⟨"RelationOrder", "groupOf", "(I)I"⟩ ⟨"RelationOrder", "groupOf", "(I)I"⟩ ∈ TB := tb_3 64 rfl rfl
theorem t3_65 : Cond.code ⟨"RelationOrder", "groupOf", "(I)I"⟩ prog_1_method_15_code 2 (some .int) ∈ TB := tb_3 65 rfl rfl
theorem t3_66 : Cond.methodLink "RelationOrder" 139 ⟨"RelationOrder$Groups", "homeOf", "(I)I"⟩ ∈ TB := tb_3 66 rfl rfl
theorem t3_67 : Cond.instanceMethod ⟨"RelationOrder$Groups", "homeOf", "(I)I"⟩ ∈ TB := tb_3 67 rfl rfl
theorem t3_68 : Cond.selects "RelationOrder$Groups" ⟨"RelationOrder$Groups", "homeOf", "(I)I"⟩ ⟨"RelationOrder$Groups", "homeOf", "(I)I"⟩ ∈ TB := tb_3 68 rfl rfl
theorem t3_69 : Cond.code ⟨"RelationOrder$Groups", "homeOf", "(I)I"⟩ prog_3_method_4_code 2 (some .int) ∈ TB := tb_3 69 rfl rfl
theorem t3_70 : Cond.methodLink "RelationOrderLaw" 123 ⟨"RelationOrderLaw", "version", "(LRelationOrder;[J)I"⟩ ∈ TB := tb_3 70 rfl rfl
theorem t3_71 : Cond.static ⟨"RelationOrderLaw", "version", "(LRelationOrder;[J)I"⟩ ∈ TB := tb_3 71 rfl rfl
theorem t3_73 : Cond.methodLink "RelationOrderLaw" 58 ⟨"RelationOrder", "version", "()I"⟩ ∈ TB := tb_3 73 rfl rfl
theorem t3_74 : Cond.instanceMethod ⟨"RelationOrder", "version", "()I"⟩ ∈ TB := tb_3 74 rfl rfl
theorem t3_75 : Cond.selects "RelationOrder" ⟨"RelationOrder", "version", "()I"⟩ ⟨"RelationOrder", "version", "()I"⟩ ∈ TB := tb_3 75 rfl rfl
theorem t3_76 : Cond.code ⟨"RelationOrder", "version", "()I"⟩ prog_1_method_16_code 1 (some .int) ∈ TB := tb_3 76 rfl rfl
theorem t3_78 : Cond.instantiable "RelationOrder$Version" 3 ∈ TB := tb_3 78 rfl rfl
theorem t3_79 : Cond.methodLink "RelationOrder" 144 ⟨"RelationOrder$Version", "<init>", "(LRelationOrder$Strata;)V"⟩ ∈ TB := tb_3 79 rfl rfl
theorem t3_80 : Cond.instanceMethod ⟨"RelationOrder$Version", "<init>", "(LRelationOrder$Strata;)V"⟩ ∈ TB := tb_3 80 rfl rfl
theorem t3_81 : Cond.code ⟨"RelationOrder$Version", "<init>", "(LRelationOrder$Strata;)V"⟩ prog_8_method_1_code 4 none ∈ TB := tb_3 81 rfl rfl
theorem t3_82 : Cond.methodLink "RelationOrder$Version" 3 ⟨"java/lang/Object", "<init>", "()V"⟩ ∈ TB := tb_3 82 rfl rfl
theorem t3_83 : Cond.classLink "RelationOrder$Version" 9 "RelationOrder$Cells" ∈ TB := tb_3 83 rfl rfl
theorem t3_84 : Cond.methodLink "RelationOrder$Version" 11 ⟨"RelationOrder$Cells", "<init>", "(I)V"⟩ ∈ TB := tb_3 84 rfl rfl
theorem t3_85 : Cond.classLink "RelationOrder$Version" 20 "RelationOrder$Rows" ∈ TB := tb_3 85 rfl rfl
theorem t3_86 : Cond.methodLink "RelationOrder$Version" 22 ⟨"RelationOrder$Rows", "<init>", "(I)V"⟩ ∈ TB := tb_3 86 rfl rfl
theorem t3_87 : Cond.methodLink "RelationOrder$Version" 30 ⟨"RelationOrder$Strata", "contexts", "()I"⟩ ∈ TB := tb_3 87 rfl rfl
theorem t3_88 : Cond.methodLink "RelationOrder$Version" 36 ⟨"RelationOrder$Strata", "numberOf", "(I)I"⟩ ∈ TB := tb_3 88 rfl rfl
theorem t3_89 : Cond.methodLink "RelationOrder$Version" 40 ⟨"RelationOrder$Cells", "put", "(II)V"⟩ ∈ TB := tb_3 89 rfl rfl
theorem t3_90 : Cond.methodLink "RelationOrder$Version" 44 ⟨"RelationOrder$Strata", "isOver", "(II)Z"⟩ ∈ TB := tb_3 90 rfl rfl
theorem t3_91 : Cond.methodLink "RelationOrder$Version" 48 ⟨"RelationOrder$Rows", "mark", "(II)V"⟩ ∈ TB := tb_3 91 rfl rfl
theorem t3_92 : Cond.fieldLink "RelationOrder$Version" 14 "RelationOrder$Version" "numbers" "LRelationOrder$Cells;" ∈ TB := tb_3 92 rfl rfl
theorem t3_93 : Cond.fieldLink "RelationOrder$Version" 23 "RelationOrder$Version" "under" "LRelationOrder$Rows;" ∈ TB := tb_3 93 rfl rfl
theorem t3_94 : Cond.fieldLink "RelationOrder$Version" 27 "RelationOrder$Version" "over" "LRelationOrder$Rows;" ∈ TB := tb_3 94 rfl rfl
theorem t3_95 : Cond.laysFinal "RelationOrder$Version" "RelationOrder$Version" "numbers" "LRelationOrder$Cells;" ∈ TB := tb_3 95 rfl rfl
theorem t3_97 : Cond.laysFinal "RelationOrder$Version" "RelationOrder$Version" "under" "LRelationOrder$Rows;" ∈ TB := tb_3 97 rfl rfl
theorem t3_99 : Cond.laysFinal "RelationOrder$Version" "RelationOrder$Version" "over" "LRelationOrder$Rows;" ∈ TB := tb_3 99 rfl rfl
theorem t3_102 : Cond.methodLink "RelationOrderLaw" 126 ⟨"RelationOrderLaw", "differs", "(LRelationOrder;III[J)I"⟩ ∈ TB := tb_3 102 rfl rfl
theorem t3_103 : Cond.static ⟨"RelationOrderLaw", "differs", "(LRelationOrder;III[J)I"⟩ ∈ TB := tb_3 103 rfl rfl
theorem t3_105 : Cond.methodLink "RelationOrderLaw" 61 ⟨"RelationOrder", "differs", "(III)I"⟩ ∈ TB := tb_3 105 rfl rfl
theorem t3_106 : Cond.instanceMethod ⟨"RelationOrder", "differs", "(III)I"⟩ ∈ TB := tb_3 106 rfl rfl
theorem t3_107 : Cond.selects "RelationOrder" ⟨"RelationOrder", "differs", "(III)I"⟩ ⟨"RelationOrder", "differs", "(III)I"⟩ ∈ TB := tb_3 107 rfl rfl
theorem t3_108 : Cond.code ⟨"RelationOrder", "differs", "(III)I"⟩ prog_1_method_17_code 6 (some .int) ∈ TB := tb_3 108 rfl rfl
theorem t3_109 : Cond.methodLink "RelationOrder" 147 ⟨"RelationOrder", "versionAt", "(I)LRelationOrder$Version;"⟩ ∈ TB := tb_3 109 rfl rfl
theorem t3_111 : Cond.instanceMethod ⟨"RelationOrder", "versionAt", "(I)LRelationOrder$Version;"⟩ ∈ TB := tb_3 111 rfl rfl
theorem t3_112 : Cond.code ⟨"RelationOrder", "versionAt", "(I)LRelationOrder$Version;"⟩ prog_1_method_21_code 2 (Option.some (FieldType.object "RelationOrder$Version")) ∈ TB := tb_3 112 rfl rfl
theorem t3_114 : Cond.methodLink "RelationOrder" 153 ⟨"RelationOrder$Version", "differences", "(LRelationOrder$Version;)J"⟩ ∈ TB := tb_3 114 rfl rfl
theorem t3_115 : Cond.instanceMethod ⟨"RelationOrder$Version", "differences", "(LRelationOrder$Version;)J"⟩ ∈ TB := tb_3 115 rfl rfl
theorem t3_116 : Cond.selects "RelationOrder$Version" ⟨"RelationOrder$Version", "differences", "(LRelationOrder$Version;)J"⟩ ⟨"RelationOrder$Version", "differences", "(LRelationOrder$Version;)J"⟩ ∈ TB := tb_3 116 rfl rfl
theorem t3_117 : Cond.code ⟨"RelationOrder$Version", "differences", "(LRelationOrder$Version;)J"⟩ prog_8_method_2_code 5 (some .long) ∈ TB := tb_3 117 rfl rfl
theorem t3_118 : Cond.methodLink "RelationOrder$Version" 51 ⟨"RelationOrder$Cells", "at", "(I)I"⟩ ∈ TB := tb_3 118 rfl rfl
theorem t3_119 : Cond.methodLink "RelationOrder$Version" 54 ⟨"RelationOrder$Rows", "row", "(I)J"⟩ ∈ TB := tb_3 119 rfl rfl
theorem t3_120 : Cond.methodLink "RelationOrder" 157 ⟨"RelationOrder", "nthOf", "(JI)I"⟩ ∈ TB := tb_3 120 rfl rfl
theorem t3_121 : Cond.methodLink "RelationOrderLaw" 129 ⟨"RelationOrderLaw", "count", "(LRelationOrder;I[J)I"⟩ ∈ TB := tb_3 121 rfl rfl
theorem t3_122 : Cond.static ⟨"RelationOrderLaw", "count", "(LRelationOrder;I[J)I"⟩ ∈ TB := tb_3 122 rfl rfl
theorem t3_124 : Cond.methodLink "RelationOrderLaw" 64 ⟨"RelationOrder", "count", "(I)I"⟩ ∈ TB := tb_3 124 rfl rfl
theorem t3_125 : Cond.instanceMethod ⟨"RelationOrder", "count", "(I)I"⟩ ∈ TB := tb_3 125 rfl rfl
theorem t3_126 : Cond.selects "RelationOrder" ⟨"RelationOrder", "count", "(I)I"⟩ ⟨"RelationOrder", "count", "(I)I"⟩ ∈ TB := tb_3 126 rfl rfl
theorem t3_127 : Cond.code ⟨"RelationOrder", "count", "(I)I"⟩ prog_1_method_18_code 2 (some .int) ∈ TB := tb_3 127 rfl rfl
theorem t3_128 : Cond.methodLink "RelationOrder" 161 ⟨"RelationOrder$Relations", "standing", "()I"⟩ ∈ TB := tb_3 128 rfl rfl
theorem t3_129 : Cond.instanceMethod ⟨"RelationOrder$Relations", "standing", "()I"⟩ ∈ TB := tb_3 129 rfl rfl
theorem t3_130 : Cond.selects "RelationOrder$Relations" ⟨"RelationOrder$Relations", "standing", "()I"⟩ ⟨"RelationOrder$Relations", "standing", "()I"⟩ ∈ TB := tb_3 130 rfl rfl
theorem t3_131 : Cond.code ⟨"RelationOrder$Relations", "standing", "()I"⟩ prog_4_method_3_code 1 (some .int) ∈ TB := tb_3 131 rfl rfl
theorem t3_132 : Cond.methodLink "RelationOrder" 164 ⟨"RelationOrder$Strata", "joinedCount", "()I"⟩ ∈ TB := tb_3 132 rfl rfl
theorem t3_133 : Cond.instanceMethod ⟨"RelationOrder$Strata", "joinedCount", "()I"⟩ ∈ TB := tb_3 133 rfl rfl
theorem t3_134 : Cond.selects "RelationOrder$Strata" ⟨"RelationOrder$Strata", "joinedCount", "()I"⟩ ⟨"RelationOrder$Strata", "joinedCount", "()I"⟩ ∈ TB := tb_3 134 rfl rfl
theorem t3_135 : Cond.code ⟨"RelationOrder$Strata", "joinedCount", "()I"⟩ prog_7_method_15_code 3 (some .int) ∈ TB := tb_3 135 rfl rfl
theorem t3_136 : Cond.methodLink "RelationOrder" 167 ⟨"RelationOrder$Strata", "pairCount", "()I"⟩ ∈ TB := tb_3 136 rfl rfl
theorem t3_137 : Cond.instanceMethod ⟨"RelationOrder$Strata", "pairCount", "()I"⟩ ∈ TB := tb_3 137 rfl rfl
theorem t3_138 : Cond.selects "RelationOrder$Strata" ⟨"RelationOrder$Strata", "pairCount", "()I"⟩ ⟨"RelationOrder$Strata", "pairCount", "()I"⟩ ∈ TB := tb_3 138 rfl rfl
theorem t3_139 : Cond.code ⟨"RelationOrder$Strata", "pairCount", "()I"⟩ prog_7_method_16_code 3 (some .int) ∈ TB := tb_3 139 rfl rfl
theorem t3_141 : Cond.classLink "RelationOrderLaw" 68 "RelationOrderModel" ∈ TB := tb_3 141 rfl rfl
theorem t3_142 : Cond.instantiable "RelationOrderModel" 22 ∈ TB := tb_3 142 rfl rfl
theorem t3_143 : Cond.methodLink "RelationOrderLaw" 70 ⟨"RelationOrderModel", "<init>", "()V"⟩ ∈ TB := tb_3 143 rfl rfl
theorem t3_144 : Cond.instanceMethod ⟨"RelationOrderModel", "<init>", "()V"⟩ ∈ TB := tb_3 144 rfl rfl
theorem t3_145 : Cond.code ⟨"RelationOrderModel", "<init>", "()V"⟩ prog_10_method_1_code 2 none ∈ TB := tb_3 145 rfl rfl
theorem t3_146 : Cond.methodLink "RelationOrderModel" 1 ⟨"java/lang/Object", "<init>", "()V"⟩ ∈ TB := tb_3 146 rfl rfl
theorem t3_147 : Cond.fieldLink "RelationOrderModel" 56 "RelationOrderModel" "thrown" "I" ∈ TB := tb_3 147 rfl rfl
theorem t3_148 : Cond.fieldLink "RelationOrderModel" 60 "RelationOrderModel" "contexts" "I" ∈ TB := tb_3 148 rfl rfl
theorem t3_149 : Cond.fieldLink "RelationOrderModel" 63 "RelationOrderModel" "relations" "I" ∈ TB := tb_3 149 rfl rfl
theorem t3_150 : Cond.fieldLink "RelationOrderModel" 7 "RelationOrderModel" "ones" "[I" ∈ TB := tb_3 150 rfl rfl
theorem t3_151 : Cond.fieldLink "RelationOrderModel" 13 "RelationOrderModel" "others" "[I" ∈ TB := tb_3 151 rfl rfl
theorem t3_152 : Cond.fieldLink "RelationOrderModel" 16 "RelationOrderModel" "kinds" "[I" ∈ TB := tb_3 152 rfl rfl
theorem t3_153 : Cond.fieldLink "RelationOrderModel" 19 "RelationOrderModel" "undone" "[Z" ∈ TB := tb_3 153 rfl rfl
theorem t3_154 : Cond.fieldLink "RelationOrderModel" 23 "RelationOrderModel" "numbers" "[I" ∈ TB := tb_3 154 rfl rfl
theorem t3_155 : Cond.fieldLink "RelationOrderModel" 26 "RelationOrderModel" "above" "[Z" ∈ TB := tb_3 155 rfl rfl
theorem t3_156 : Cond.fieldLink "RelationOrderModel" 29 "RelationOrderModel" "over" "[Z" ∈ TB := tb_3 156 rfl rfl
theorem t3_157 : Cond.fieldLink "RelationOrderModel" 32 "RelationOrderModel" "far" "[I" ∈ TB := tb_3 157 rfl rfl
theorem t3_158 : Cond.fieldLink "RelationOrderModel" 80 "RelationOrderModel" "ringSize" "I" ∈ TB := tb_3 158 rfl rfl
theorem t3_159 : Cond.fieldLink "RelationOrderModel" 35 "RelationOrderModel" "ring" "[I" ∈ TB := tb_3 159 rfl rfl
theorem t3_160 : Cond.fieldLink "RelationOrderModel" 103 "RelationOrderModel" "groups" "I" ∈ TB := tb_3 160 rfl rfl
theorem t3_161 : Cond.fieldLink "RelationOrderModel" 38 "RelationOrderModel" "groupsOf" "[I" ∈ TB := tb_3 161 rfl rfl
theorem t3_162 : Cond.fieldLink "RelationOrderModel" 41 "RelationOrderModel" "groupOver" "[Z" ∈ TB := tb_3 162 rfl rfl
theorem t3_163 : Cond.fieldLink "RelationOrderModel" 113 "RelationOrderModel" "groupRingSize" "I" ∈ TB := tb_3 163 rfl rfl
theorem t3_164 : Cond.fieldLink "RelationOrderModel" 44 "RelationOrderModel" "groupRing" "[I" ∈ TB := tb_3 164 rfl rfl
theorem t3_165 : Cond.fieldLink "RelationOrderModel" 116 "RelationOrderModel" "versions" "I" ∈ TB := tb_3 165 rfl rfl
theorem t3_166 : Cond.fieldLink "RelationOrderModel" 47 "RelationOrderModel" "oldContexts" "[I" ∈ TB := tb_3 166 rfl rfl
theorem t3_167 : Cond.fieldLink "RelationOrderModel" 50 "RelationOrderModel" "oldNumbers" "[I" ∈ TB := tb_3 167 rfl rfl
theorem t3_168 : Cond.fieldLink "RelationOrderModel" 53 "RelationOrderModel" "oldOver" "[Z" ∈ TB := tb_3 168 rfl rfl
theorem t3_169 : Cond.lays "RelationOrderModel" "RelationOrderModel" "thrown" "I" ∈ TB := tb_3 169 rfl rfl
theorem t3_171 : Cond.lays "RelationOrderModel" "RelationOrderModel" "contexts" "I" ∈ TB := tb_3 171 rfl rfl
theorem t3_173 : Cond.lays "RelationOrderModel" "RelationOrderModel" "relations" "I" ∈ TB := tb_3 173 rfl rfl
theorem t3_175 : Cond.laysFinal "RelationOrderModel" "RelationOrderModel" "ones" "[I" ∈ TB := tb_3 175 rfl rfl
theorem t3_177 : Cond.laysFinal "RelationOrderModel" "RelationOrderModel" "others" "[I" ∈ TB := tb_3 177 rfl rfl
theorem t3_179 : Cond.laysFinal "RelationOrderModel" "RelationOrderModel" "kinds" "[I" ∈ TB := tb_3 179 rfl rfl
theorem t3_181 : Cond.laysFinal "RelationOrderModel" "RelationOrderModel" "undone" "[Z" ∈ TB := tb_3 181 rfl rfl
theorem t3_183 : Cond.laysFinal "RelationOrderModel" "RelationOrderModel" "numbers" "[I" ∈ TB := tb_3 183 rfl rfl
theorem t3_185 : Cond.laysFinal "RelationOrderModel" "RelationOrderModel" "above" "[Z" ∈ TB := tb_3 185 rfl rfl
theorem t3_187 : Cond.laysFinal "RelationOrderModel" "RelationOrderModel" "over" "[Z" ∈ TB := tb_3 187 rfl rfl
theorem t3_189 : Cond.laysFinal "RelationOrderModel" "RelationOrderModel" "far" "[I" ∈ TB := tb_3 189 rfl rfl
theorem t3_191 : Cond.lays "RelationOrderModel" "RelationOrderModel" "ringSize" "I" ∈ TB := tb_3 191 rfl rfl
theorem t3_193 : Cond.laysFinal "RelationOrderModel" "RelationOrderModel" "ring" "[I" ∈ TB := tb_3 193 rfl rfl
theorem t3_195 : Cond.lays "RelationOrderModel" "RelationOrderModel" "groups" "I" ∈ TB := tb_3 195 rfl rfl
theorem t3_197 : Cond.laysFinal "RelationOrderModel" "RelationOrderModel" "groupsOf" "[I" ∈ TB := tb_3 197 rfl rfl
theorem t3_199 : Cond.laysFinal "RelationOrderModel" "RelationOrderModel" "groupOver" "[Z" ∈ TB := tb_3 199 rfl rfl
theorem t3_201 : Cond.lays "RelationOrderModel" "RelationOrderModel" "groupRingSize" "I" ∈ TB := tb_3 201 rfl rfl
theorem t3_203 : Cond.laysFinal "RelationOrderModel" "RelationOrderModel" "groupRing" "[I" ∈ TB := tb_3 203 rfl rfl
theorem t3_205 : Cond.lays "RelationOrderModel" "RelationOrderModel" "versions" "I" ∈ TB := tb_3 205 rfl rfl
theorem t3_207 : Cond.laysFinal "RelationOrderModel" "RelationOrderModel" "oldContexts" "[I" ∈ TB := tb_3 207 rfl rfl
theorem t3_209 : Cond.laysFinal "RelationOrderModel" "RelationOrderModel" "oldNumbers" "[I" ∈ TB := tb_3 209 rfl rfl
theorem t3_211 : Cond.laysFinal "RelationOrderModel" "RelationOrderModel" "oldOver" "[Z" ∈ TB := tb_3 211 rfl rfl
theorem t3_214 : Cond.arrayClass FieldType.boolean ∈ TB := tb_3 214 rfl rfl
theorem t3_215 : Cond.methodLink "RelationOrderLaw" 77 ⟨"RelationOrderModel", "thrown", "()I"⟩ ∈ TB := tb_3 215 rfl rfl
theorem t3_216 : Cond.instanceMethod ⟨"RelationOrderModel", "thrown", "()I"⟩ ∈ TB := tb_3 216 rfl rfl
theorem t3_217 : Cond.selects "RelationOrderModel" ⟨"RelationOrderModel", "thrown", "()I"⟩ ⟨"RelationOrderModel", "thrown", "()I"⟩ ∈ TB := tb_3 217 rfl rfl
theorem t3_218 : Cond.code ⟨"RelationOrderModel", "thrown", "()I"⟩ prog_10_method_2_code 1 (some .int) ∈ TB := tb_3 218 rfl rfl
theorem t3_219 : Cond.methodLink "RelationOrderLaw" 76 ⟨"RelationOrderModel", "context", "()I"⟩ ∈ TB := tb_3 219 rfl rfl
theorem t3_220 : Cond.instanceMethod ⟨"RelationOrderModel", "context", "()I"⟩ ∈ TB := tb_3 220 rfl rfl
theorem t3_221 : Cond.selects "RelationOrderModel" ⟨"RelationOrderModel", "context", "()I"⟩ ⟨"RelationOrderModel", "context", "()I"⟩ ∈ TB := tb_3 221 rfl rfl
theorem t3_222 : Cond.code ⟨"RelationOrderModel", "context", "()I"⟩ prog_10_method_7_code 1 (some .int) ∈ TB := tb_3 222 rfl rfl
theorem t3_223 : Cond.methodLink "RelationOrderModel" 69 ⟨"RelationOrderModel", "goes", "(ZZ)Z"⟩ ∈ TB := tb_3 223 rfl rfl
theorem t3_225 : Cond.instanceMethod ⟨"RelationOrderModel", "goes", "(ZZ)Z"⟩ ∈ TB := tb_3 225 rfl rfl
theorem t3_226 : Cond.code ⟨"RelationOrderModel", "goes", "(ZZ)Z"⟩ prog_10_method_3_code 3 (some .boolean) ∈ TB := tb_3 226 rfl rfl
theorem t3_227 : Cond.methodLink "RelationOrderModel" 73 ⟨"RelationOrderModel", "renew", "()V"⟩ ∈ TB := tb_3 227 rfl rfl
theorem t3_229 : Cond.instanceMethod ⟨"RelationOrderModel", "renew", "()V"⟩ ∈ TB := tb_3 229 rfl rfl
theorem t3_230 : Cond.code ⟨"RelationOrderModel", "renew", "()V"⟩ prog_10_method_6_code 4 none ∈ TB := tb_3 230 rfl rfl
theorem t3_231 : Cond.methodLink "RelationOrderModel" 66 ⟨"RelationOrderModel", "join", "()V"⟩ ∈ TB := tb_3 231 rfl rfl
theorem t3_233 : Cond.instanceMethod ⟨"RelationOrderModel", "join", "()V"⟩ ∈ TB := tb_3 233 rfl rfl
theorem t3_234 : Cond.code ⟨"RelationOrderModel", "join", "()V"⟩ prog_10_method_5_code 6 none ∈ TB := tb_3 234 rfl rfl
theorem t3_235 : Cond.methodLink "RelationOrderLaw" 83 ⟨"RelationOrderModel", "relate", "(III)I"⟩ ∈ TB := tb_3 235 rfl rfl
theorem t3_236 : Cond.instanceMethod ⟨"RelationOrderModel", "relate", "(III)I"⟩ ∈ TB := tb_3 236 rfl rfl
theorem t3_237 : Cond.selects "RelationOrderModel" ⟨"RelationOrderModel", "relate", "(III)I"⟩ ⟨"RelationOrderModel", "relate", "(III)I"⟩ ∈ TB := tb_3 237 rfl rfl
theorem t3_238 : Cond.code ⟨"RelationOrderModel", "relate", "(III)I"⟩ prog_10_method_11_code 4 (some .int) ∈ TB := tb_3 238 rfl rfl
theorem t3_239 : Cond.methodLink "RelationOrderModel" 87 ⟨"RelationOrderModel", "isContext", "(I)Z"⟩ ∈ TB := tb_3 239 rfl rfl
theorem t4_1 : Cond.instanceMethod ⟨"RelationOrderModel", "isContext", "(I)Z"⟩ ∈ TB := tb_4 1 rfl rfl
theorem t4_2 : Cond.code ⟨"RelationOrderModel", "isContext", "(I)Z"⟩ prog_10_method_4_code 2 (some .boolean) ∈ TB := tb_4 2 rfl rfl
theorem t4_3 : Cond.methodLink "RelationOrderModel" 91 ⟨"RelationOrderModel", "rings", "(III)Z"⟩ ∈ TB := tb_4 3 rfl rfl
theorem t4_5 : Cond.instanceMethod ⟨"RelationOrderModel", "rings", "(III)Z"⟩ ∈ TB := tb_4 5 rfl rfl
theorem t4_6 : Cond.code ⟨"RelationOrderModel", "rings", "(III)Z"⟩ prog_10_method_10_code 4 (some .boolean) ∈ TB := tb_4 6 rfl rfl
theorem t4_7 : Cond.methodLink "RelationOrderModel" 83 ⟨"RelationOrderModel", "walk", "(IIZ)V"⟩ ∈ TB := tb_4 7 rfl rfl
theorem t4_9 : Cond.instanceMethod ⟨"RelationOrderModel", "walk", "(IIZ)V"⟩ ∈ TB := tb_4 9 rfl rfl
theorem t4_10 : Cond.code ⟨"RelationOrderModel", "walk", "(IIZ)V"⟩ prog_10_method_9_code 7 none ∈ TB := tb_4 10 rfl rfl
theorem t4_11 : Cond.methodLink "RelationOrderModel" 76 ⟨"RelationOrderModel", "measure", "(I)V"⟩ ∈ TB := tb_4 11 rfl rfl
theorem t4_13 : Cond.instanceMethod ⟨"RelationOrderModel", "measure", "(I)V"⟩ ∈ TB := tb_4 13 rfl rfl
theorem t4_14 : Cond.code ⟨"RelationOrderModel", "measure", "(I)V"⟩ prog_10_method_8_code 4 none ∈ TB := tb_4 14 rfl rfl
theorem t4_15 : Cond.methodLink "RelationOrderLaw" 87 ⟨"RelationOrderModel", "ring", "(I)I"⟩ ∈ TB := tb_4 15 rfl rfl
theorem t4_16 : Cond.instanceMethod ⟨"RelationOrderModel", "ring", "(I)I"⟩ ∈ TB := tb_4 16 rfl rfl
theorem t4_17 : Cond.selects "RelationOrderModel" ⟨"RelationOrderModel", "ring", "(I)I"⟩ ⟨"RelationOrderModel", "ring", "(I)I"⟩ ∈ TB := tb_4 17 rfl rfl
theorem t4_18 : Cond.code ⟨"RelationOrderModel", "ring", "(I)I"⟩ prog_10_method_12_code 2 (some .int) ∈ TB := tb_4 18 rfl rfl
theorem t4_19 : Cond.methodLink "RelationOrderLaw" 90 ⟨"RelationOrderModel", "undo", "(I)Z"⟩ ∈ TB := tb_4 19 rfl rfl
theorem t4_20 : Cond.instanceMethod ⟨"RelationOrderModel", "undo", "(I)Z"⟩ ∈ TB := tb_4 20 rfl rfl
theorem t4_21 : Cond.selects "RelationOrderModel" ⟨"RelationOrderModel", "undo", "(I)Z"⟩ ⟨"RelationOrderModel", "undo", "(I)Z"⟩ ∈ TB := tb_4 21 rfl rfl
theorem t4_22 : Cond.code ⟨"RelationOrderModel", "undo", "(I)Z"⟩ prog_10_method_13_code 3 (some .boolean) ∈ TB := tb_4 22 rfl rfl
theorem t4_23 : Cond.methodLink "RelationOrderLaw" 94 ⟨"RelationOrderModel", "order", "(II)I"⟩ ∈ TB := tb_4 23 rfl rfl
theorem t4_24 : Cond.instanceMethod ⟨"RelationOrderModel", "order", "(II)I"⟩ ∈ TB := tb_4 24 rfl rfl
theorem t4_25 : Cond.selects "RelationOrderModel" ⟨"RelationOrderModel", "order", "(II)I"⟩ ⟨"RelationOrderModel", "order", "(II)I"⟩ ∈ TB := tb_4 25 rfl rfl
theorem t4_26 : Cond.code ⟨"RelationOrderModel", "order", "(II)I"⟩ prog_10_method_14_code 3 (some .int) ∈ TB := tb_4 26 rfl rfl
theorem t4_27 : Cond.methodLink "RelationOrderLaw" 98 ⟨"RelationOrderModel", "links", "()I"⟩ ∈ TB := tb_4 27 rfl rfl
theorem t4_28 : Cond.instanceMethod ⟨"RelationOrderModel", "links", "()I"⟩ ∈ TB := tb_4 28 rfl rfl
theorem t4_29 : Cond.selects "RelationOrderModel" ⟨"RelationOrderModel", "links", "()I"⟩ ⟨"RelationOrderModel", "links", "()I"⟩ ∈ TB := tb_4 29 rfl rfl
theorem t4_30 : Cond.code ⟨"RelationOrderModel", "links", "()I"⟩ prog_10_method_17_code 1 (some .int) ∈ TB := tb_4 30 rfl rfl
theorem t4_31 : Cond.methodLink "RelationOrderModel" 99 ⟨"RelationOrderModel", "allLinks", "()I"⟩ ∈ TB := tb_4 31 rfl rfl
theorem t4_33 : Cond.instanceMethod ⟨"RelationOrderModel", "allLinks", "()I"⟩ ∈ TB := tb_4 33 rfl rfl
theorem t4_34 : Cond.code ⟨"RelationOrderModel", "allLinks", "()I"⟩ prog_10_method_16_code 3 (some .int) ∈ TB := tb_4 34 rfl rfl
theorem t4_35 : Cond.methodLink "RelationOrderModel" 95 ⟨"RelationOrderModel", "isLink", "(II)Z"⟩ ∈ TB := tb_4 35 rfl rfl
theorem t4_37 : Cond.instanceMethod ⟨"RelationOrderModel", "isLink", "(II)Z"⟩ ∈ TB := tb_4 37 rfl rfl
theorem t4_38 : Cond.code ⟨"RelationOrderModel", "isLink", "(II)Z"⟩ prog_10_method_15_code 5 (some .boolean) ∈ TB := tb_4 38 rfl rfl
theorem t4_39 : Cond.methodLink "RelationOrderLaw" 101 ⟨"RelationOrderModel", "link", "(II)I"⟩ ∈ TB := tb_4 39 rfl rfl
theorem t4_40 : Cond.instanceMethod ⟨"RelationOrderModel", "link", "(II)I"⟩ ∈ TB := tb_4 40 rfl rfl
theorem t4_41 : Cond.selects "RelationOrderModel" ⟨"RelationOrderModel", "link", "(II)I"⟩ ⟨"RelationOrderModel", "link", "(II)I"⟩ ∈ TB := tb_4 41 rfl rfl
theorem t4_42 : Cond.code ⟨"RelationOrderModel", "link", "(II)I"⟩ prog_10_method_18_code 7 (some .int) ∈ TB := tb_4 42 rfl rfl
theorem t4_43 : Cond.methodLink "RelationOrderLaw" 104 ⟨"RelationOrderModel", "equal", "(I)I"⟩ ∈ TB := tb_4 43 rfl rfl
theorem t4_44 : Cond.instanceMethod ⟨"RelationOrderModel", "equal", "(I)I"⟩ ∈ TB := tb_4 44 rfl rfl
theorem t4_45 : Cond.selects "RelationOrderModel" ⟨"RelationOrderModel", "equal", "(I)I"⟩ ⟨"RelationOrderModel", "equal", "(I)I"⟩ ∈ TB := tb_4 45 rfl rfl
theorem t4_46 : Cond.code ⟨"RelationOrderModel", "equal", "(I)I"⟩ prog_10_method_19_code 2 (some .int) ∈ TB := tb_4 46 rfl rfl
theorem t4_47 : Cond.methodLink "RelationOrderLaw" 107 ⟨"RelationOrderModel", "contemporary", "(II)Z"⟩ ∈ TB := tb_4 47 rfl rfl
theorem t4_48 : Cond.instanceMethod ⟨"RelationOrderModel", "contemporary", "(II)Z"⟩ ∈ TB := tb_4 48 rfl rfl
theorem t4_49 : Cond.selects "RelationOrderModel" ⟨"RelationOrderModel", "contemporary", "(II)Z"⟩ ⟨"RelationOrderModel", "contemporary", "(II)Z"⟩ ∈ TB := tb_4 49 rfl rfl
theorem t4_50 : Cond.code ⟨"RelationOrderModel", "contemporary", "(II)Z"⟩ prog_10_method_20_code 9 (some .boolean) ∈ TB := tb_4 50 rfl rfl
theorem t4_51 : Cond.methodLink "RelationOrderLaw" 110 ⟨"RelationOrderModel", "longest", "(I)I"⟩ ∈ TB := tb_4 51 rfl rfl
theorem t4_52 : Cond.instanceMethod ⟨"RelationOrderModel", "longest", "(I)I"⟩ ∈ TB := tb_4 52 rfl rfl
theorem t4_53 : Cond.selects "RelationOrderModel" ⟨"RelationOrderModel", "longest", "(I)I"⟩ ⟨"RelationOrderModel", "longest", "(I)I"⟩ ∈ TB := tb_4 53 rfl rfl
theorem t4_54 : Cond.code ⟨"RelationOrderModel", "longest", "(I)I"⟩ prog_10_method_21_code 4 (some .int) ∈ TB := tb_4 54 rfl rfl
theorem t4_55 : Cond.methodLink "RelationOrderLaw" 113 ⟨"RelationOrderModel", "group", "()I"⟩ ∈ TB := tb_4 55 rfl rfl
theorem t4_56 : Cond.instanceMethod ⟨"RelationOrderModel", "group", "()I"⟩ ∈ TB := tb_4 56 rfl rfl
theorem t4_57 : Cond.selects "RelationOrderModel" ⟨"RelationOrderModel", "group", "()I"⟩ ⟨"RelationOrderModel", "group", "()I"⟩ ∈ TB := tb_4 57 rfl rfl
theorem t4_58 : Cond.code ⟨"RelationOrderModel", "group", "()I"⟩ prog_10_method_22_code 1 (some .int) ∈ TB := tb_4 58 rfl rfl
theorem t4_59 : Cond.methodLink "RelationOrderLaw" 116 ⟨"RelationOrderModel", "into", "(II)Z"⟩ ∈ TB := tb_4 59 rfl rfl
theorem t4_60 : Cond.instanceMethod ⟨"RelationOrderModel", "into", "(II)Z"⟩ ∈ TB := tb_4 60 rfl rfl
theorem t4_61 : Cond.selects "RelationOrderModel" ⟨"RelationOrderModel", "into", "(II)Z"⟩ ⟨"RelationOrderModel", "into", "(II)Z"⟩ ∈ TB := tb_4 61 rfl rfl
theorem t4_62 : Cond.code ⟨"RelationOrderModel", "into", "(II)Z"⟩ prog_10_method_25_code 5 (some .boolean) ∈ TB := tb_4 62 rfl rfl
theorem t4_63 : Cond.methodLink "RelationOrderModel" 106 ⟨"RelationOrderModel", "renewGroups", "()V"⟩ ∈ TB := tb_4 63 rfl rfl
theorem t4_65 : Cond.instanceMethod ⟨"RelationOrderModel", "renewGroups", "()V"⟩ ∈ TB := tb_4 65 rfl rfl
theorem t4_66 : Cond.code ⟨"RelationOrderModel", "renewGroups", "()V"⟩ prog_10_method_23_code 5 none ∈ TB := tb_4 66 rfl rfl
theorem t4_67 : Cond.methodLink "RelationOrderModel" 109 ⟨"RelationOrderModel", "ringOf", "(I)I"⟩ ∈ TB := tb_4 67 rfl rfl
theorem t4_69 : Cond.instanceMethod ⟨"RelationOrderModel", "ringOf", "(I)I"⟩ ∈ TB := tb_4 69 rfl rfl
theorem t4_70 : Cond.code ⟨"RelationOrderModel", "ringOf", "(I)I"⟩ prog_10_method_24_code 8 (some .int) ∈ TB := tb_4 70 rfl rfl
theorem t4_71 : Cond.methodLink "RelationOrderLaw" 119 ⟨"RelationOrderModel", "groupRing", "(I)I"⟩ ∈ TB := tb_4 71 rfl rfl
theorem t4_72 : Cond.instanceMethod ⟨"RelationOrderModel", "groupRing", "(I)I"⟩ ∈ TB := tb_4 72 rfl rfl
theorem t4_73 : Cond.selects "RelationOrderModel" ⟨"RelationOrderModel", "groupRing", "(I)I"⟩ ⟨"RelationOrderModel", "groupRing", "(I)I"⟩ ∈ TB := tb_4 73 rfl rfl
theorem t4_74 : Cond.code ⟨"RelationOrderModel", "groupRing", "(I)I"⟩ prog_10_method_26_code 2 (some .int) ∈ TB := tb_4 74 rfl rfl
theorem t4_75 : Cond.methodLink "RelationOrderLaw" 122 ⟨"RelationOrderModel", "groupOf", "(I)I"⟩ ∈ TB := tb_4 75 rfl rfl
theorem t4_76 : Cond.instanceMethod ⟨"RelationOrderModel", "groupOf", "(I)I"⟩ ∈ TB := tb_4 76 rfl rfl
theorem t4_77 : Cond.selects "RelationOrderModel" ⟨"RelationOrderModel", "groupOf", "(I)I"⟩ ⟨"RelationOrderModel", "groupOf", "(I)I"⟩ ∈ TB := tb_4 77 rfl rfl
theorem t4_78 : Cond.code ⟨"RelationOrderModel", "groupOf", "(I)I"⟩ prog_10_method_27_code 2 (some .int) ∈ TB := tb_4 78 rfl rfl
theorem t4_79 : Cond.methodLink "RelationOrderLaw" 125 ⟨"RelationOrderModel", "version", "()I"⟩ ∈ TB := tb_4 79 rfl rfl
theorem t4_80 : Cond.instanceMethod ⟨"RelationOrderModel", "version", "()I"⟩ ∈ TB := tb_4 80 rfl rfl
theorem t4_81 : Cond.selects "RelationOrderModel" ⟨"RelationOrderModel", "version", "()I"⟩ ⟨"RelationOrderModel", "version", "()I"⟩ ∈ TB := tb_4 81 rfl rfl
theorem t4_82 : Cond.code ⟨"RelationOrderModel", "version", "()I"⟩ prog_10_method_28_code 2 (some .int) ∈ TB := tb_4 82 rfl rfl
theorem t4_83 : Cond.methodLink "RelationOrderLaw" 128 ⟨"RelationOrderModel", "differs", "(III)I"⟩ ∈ TB := tb_4 83 rfl rfl
theorem t4_84 : Cond.instanceMethod ⟨"RelationOrderModel", "differs", "(III)I"⟩ ∈ TB := tb_4 84 rfl rfl
theorem t4_85 : Cond.selects "RelationOrderModel" ⟨"RelationOrderModel", "differs", "(III)I"⟩ ⟨"RelationOrderModel", "differs", "(III)I"⟩ ∈ TB := tb_4 85 rfl rfl
theorem t4_86 : Cond.code ⟨"RelationOrderModel", "differs", "(III)I"⟩ prog_10_method_32_code 6 (some .int) ∈ TB := tb_4 86 rfl rfl
theorem t4_87 : Cond.methodLink "RelationOrderModel" 125 ⟨"RelationOrderModel", "differ", "(III)Z"⟩ ∈ TB := tb_4 87 rfl rfl
theorem t4_89 : Cond.instanceMethod ⟨"RelationOrderModel", "differ", "(III)Z"⟩ ∈ TB := tb_4 89 rfl rfl
theorem t4_90 : Cond.code ⟨"RelationOrderModel", "differ", "(III)Z"⟩ prog_10_method_31_code 10 (some .boolean) ∈ TB := tb_4 90 rfl rfl
theorem t4_91 : Cond.methodLink "RelationOrderModel" 119 ⟨"RelationOrderModel", "isOver", "(III)Z"⟩ ∈ TB := tb_4 91 rfl rfl
theorem t4_93 : Cond.instanceMethod ⟨"RelationOrderModel", "isOver", "(III)Z"⟩ ∈ TB := tb_4 93 rfl rfl
theorem t4_94 : Cond.code ⟨"RelationOrderModel", "isOver", "(III)Z"⟩ prog_10_method_29_code 4 (some .boolean) ∈ TB := tb_4 94 rfl rfl
theorem t4_95 : Cond.methodLink "RelationOrderModel" 122 ⟨"RelationOrderModel", "isUnder", "(III)Z"⟩ ∈ TB := tb_4 95 rfl rfl
theorem t4_97 : Cond.instanceMethod ⟨"RelationOrderModel", "isUnder", "(III)Z"⟩ ∈ TB := tb_4 97 rfl rfl
theorem t4_98 : Cond.code ⟨"RelationOrderModel", "isUnder", "(III)Z"⟩ prog_10_method_30_code 4 (some .boolean) ∈ TB := tb_4 98 rfl rfl
theorem t4_99 : Cond.methodLink "RelationOrderLaw" 131 ⟨"RelationOrderModel", "count", "(I)I"⟩ ∈ TB := tb_4 99 rfl rfl
theorem t4_100 : Cond.instanceMethod ⟨"RelationOrderModel", "count", "(I)I"⟩ ∈ TB := tb_4 100 rfl rfl
theorem t4_101 : Cond.selects "RelationOrderModel" ⟨"RelationOrderModel", "count", "(I)I"⟩ ⟨"RelationOrderModel", "count", "(I)I"⟩ ∈ TB := tb_4 101 rfl rfl
theorem t4_102 : Cond.code ⟨"RelationOrderModel", "count", "(I)I"⟩ prog_10_method_33_code 4 (some .int) ∈ TB := tb_4 102 rfl rfl
theorem ts_0 : Cond.selects "RelationOrder$Strata" ⟨"RelationOrder$Strata", "linksUnder", "(I)J"⟩ ⟨"RelationOrder$Strata", "linksUnder", "(I)J"⟩ ∈ TB := tb_s 0 rfl rfl
theorem ts_1 : Cond.selects "RelationOrder$Rows" ⟨"RelationOrder$Rows", "isPlace", "(I)Z"⟩ ⟨"RelationOrder$Rows", "isPlace", "(I)Z"⟩ ∈ TB := tb_s 1 rfl rfl
theorem ts_2 : Cond.selects "java/lang/Throwable" ⟨"java/lang/Throwable", "fillInStackTrace", "(I)Ljava/lang/Throwable;"⟩ ⟨"java/lang/Throwable", "fillInStackTrace", "(I)Ljava/lang/Throwable;"⟩ ∈ TB := tb_s 2 rfl rfl
theorem ts_3 : Cond.selects "RelationOrder" ⟨"RelationOrder", "checkContext", "(I)V"⟩ ⟨"RelationOrder", "checkContext", "(I)V"⟩ ∈ TB := tb_s 3 rfl rfl
theorem ts_4 : Cond.selects "RelationOrder" ⟨"RelationOrder", "closesRing", "(III)Z"⟩ ⟨"RelationOrder", "closesRing", "(III)Z"⟩ ∈ TB := tb_s 4 rfl rfl
theorem ts_5 : Cond.selects "RelationOrder$Ring" ⟨"RelationOrder$Ring", "measure", "(LRelationOrder$Rows;I)I"⟩ ⟨"RelationOrder$Ring", "measure", "(LRelationOrder$Rows;I)I"⟩ ∈ TB := tb_s 5 rfl rfl
theorem ts_6 : Cond.selects "RelationOrder$Ring" ⟨"RelationOrder$Ring", "write", "(LRelationOrder$Rows;II)V"⟩ ⟨"RelationOrder$Ring", "write", "(LRelationOrder$Rows;II)V"⟩ ∈ TB := tb_s 6 rfl rfl
theorem ts_7 : Cond.selects "RelationOrder$Strata" ⟨"RelationOrder$Strata", "join", "(LRelationOrder$Relations;)V"⟩ ⟨"RelationOrder$Strata", "join", "(LRelationOrder$Relations;)V"⟩ ∈ TB := tb_s 7 rfl rfl
theorem ts_8 : Cond.selects "RelationOrder$Strata" ⟨"RelationOrder$Strata", "areJoined", "(II)Z"⟩ ⟨"RelationOrder$Strata", "areJoined", "(II)Z"⟩ ∈ TB := tb_s 8 rfl rfl
theorem ts_9 : Cond.selects "RelationOrder$Groups" ⟨"RelationOrder$Groups", "compare", "(LRelationOrder$Strata;)V"⟩ ⟨"RelationOrder$Groups", "compare", "(LRelationOrder$Strata;)V"⟩ ∈ TB := tb_s 9 rfl rfl
theorem ts_10 : Cond.selects "RelationOrder" ⟨"RelationOrder", "versionAt", "(I)LRelationOrder$Version;"⟩ ⟨"RelationOrder", "versionAt", "(I)LRelationOrder$Version;"⟩ ∈ TB := tb_s 10 rfl rfl
theorem ts_11 : Cond.selects "RelationOrderModel" ⟨"RelationOrderModel", "goes", "(ZZ)Z"⟩ ⟨"RelationOrderModel", "goes", "(ZZ)Z"⟩ ∈ TB := tb_s 11 rfl rfl
theorem ts_12 : Cond.selects "RelationOrderModel" ⟨"RelationOrderModel", "renew", "()V"⟩ ⟨"RelationOrderModel", "renew", "()V"⟩ ∈ TB := tb_s 12 rfl rfl
theorem ts_13 : Cond.selects "RelationOrderModel" ⟨"RelationOrderModel", "join", "()V"⟩ ⟨"RelationOrderModel", "join", "()V"⟩ ∈ TB := tb_s 13 rfl rfl
theorem ts_14 : Cond.selects "RelationOrderModel" ⟨"RelationOrderModel", "isContext", "(I)Z"⟩ ⟨"RelationOrderModel", "isContext", "(I)Z"⟩ ∈ TB := tb_s 14 rfl rfl
theorem ts_15 : Cond.selects "RelationOrderModel" ⟨"RelationOrderModel", "rings", "(III)Z"⟩ ⟨"RelationOrderModel", "rings", "(III)Z"⟩ ∈ TB := tb_s 15 rfl rfl
theorem ts_16 : Cond.selects "RelationOrderModel" ⟨"RelationOrderModel", "walk", "(IIZ)V"⟩ ⟨"RelationOrderModel", "walk", "(IIZ)V"⟩ ∈ TB := tb_s 16 rfl rfl
theorem ts_17 : Cond.selects "RelationOrderModel" ⟨"RelationOrderModel", "measure", "(I)V"⟩ ⟨"RelationOrderModel", "measure", "(I)V"⟩ ∈ TB := tb_s 17 rfl rfl
theorem ts_18 : Cond.selects "RelationOrderModel" ⟨"RelationOrderModel", "allLinks", "()I"⟩ ⟨"RelationOrderModel", "allLinks", "()I"⟩ ∈ TB := tb_s 18 rfl rfl
theorem ts_19 : Cond.selects "RelationOrderModel" ⟨"RelationOrderModel", "isLink", "(II)Z"⟩ ⟨"RelationOrderModel", "isLink", "(II)Z"⟩ ∈ TB := tb_s 19 rfl rfl
theorem ts_20 : Cond.selects "RelationOrderModel" ⟨"RelationOrderModel", "renewGroups", "()V"⟩ ⟨"RelationOrderModel", "renewGroups", "()V"⟩ ∈ TB := tb_s 20 rfl rfl
theorem ts_21 : Cond.selects "RelationOrderModel" ⟨"RelationOrderModel", "ringOf", "(I)I"⟩ ⟨"RelationOrderModel", "ringOf", "(I)I"⟩ ∈ TB := tb_s 21 rfl rfl
theorem ts_22 : Cond.selects "RelationOrderModel" ⟨"RelationOrderModel", "differ", "(III)Z"⟩ ⟨"RelationOrderModel", "differ", "(III)Z"⟩ ∈ TB := tb_s 22 rfl rfl
theorem ts_23 : Cond.selects "RelationOrderModel" ⟨"RelationOrderModel", "isOver", "(III)Z"⟩ ⟨"RelationOrderModel", "isOver", "(III)Z"⟩ ∈ TB := tb_s 23 rfl rfl
theorem ts_24 : Cond.selects "RelationOrderModel" ⟨"RelationOrderModel", "isUnder", "(III)Z"⟩ ⟨"RelationOrderModel", "isUnder", "(III)Z"⟩ ∈ TB := tb_s 24 rfl rfl
theorem in_Cells : ∀ w ∈ u_ws R_Cells T_Cells 1, w ∈ TB := by
  intro w h
  obtain ⟨k, hk, rfl⟩ := List.mem_map.mp h
  have hk := List.mem_range.mp hk
  match k, hk with
  | 0, _ => exact t1_41
  | k + 1, hk => exact absurd hk (by omega)
theorem in_Rows : ∀ w ∈ u_ws R_Rows T_Rows 1, w ∈ TB := by
  intro w h
  obtain ⟨k, hk, rfl⟩ := List.mem_map.mp h
  have hk := List.mem_range.mp hk
  match k, hk with
  | 0, _ => exact t1_80
  | k + 1, hk => exact absurd hk (by omega)
theorem in_Relations : ∀ w ∈ u_ws R_Relations T_Relations 5, w ∈ TB := by
  intro w h
  obtain ⟨k, hk, rfl⟩ := List.mem_map.mp h
  have hk := List.mem_range.mp hk
  match k, hk with
  | 0, _ => exact t1_50
  | 1, _ => exact t1_52
  | 2, _ => exact t1_54
  | 3, _ => exact t1_56
  | 4, _ => exact t1_58
  | k + 5, hk => exact absurd hk (by omega)
theorem in_Ring : ∀ w ∈ u_ws R_Ring T_Ring 3, w ∈ TB := by
  intro w h
  obtain ⟨k, hk, rfl⟩ := List.mem_map.mp h
  have hk := List.mem_range.mp hk
  match k, hk with
  | 0, _ => exact t1_108
  | 1, _ => exact t1_110
  | 2, _ => exact t1_112
  | k + 3, hk => exact absurd hk (by omega)
theorem in_Strata : ∀ w ∈ u_ws R_Strata T_Strata 4, w ∈ TB := by
  intro w h
  obtain ⟨k, hk, rfl⟩ := List.mem_map.mp h
  have hk := List.mem_range.mp hk
  match k, hk with
  | 0, _ => exact t1_88
  | 1, _ => exact t1_90
  | 2, _ => exact t1_92
  | 3, _ => exact t1_94
  | k + 4, hk => exact absurd hk (by omega)
theorem in_Groups : ∀ w ∈ u_ws R_Groups T_Groups 4, w ∈ TB := by
  intro w h
  obtain ⟨k, hk, rfl⟩ := List.mem_map.mp h
  have hk := List.mem_range.mp hk
  match k, hk with
  | 0, _ => exact t1_131
  | 1, _ => exact t1_133
  | 2, _ => exact t1_135
  | 3, _ => exact t1_137
  | k + 4, hk => exact absurd hk (by omega)
theorem in_Version : ∀ w ∈ u_ws R_Version T_Version 3, w ∈ TB := by
  intro w h
  obtain ⟨k, hk, rfl⟩ := List.mem_map.mp h
  have hk := List.mem_range.mp hk
  match k, hk with
  | 0, _ => exact t3_95
  | 1, _ => exact t3_97
  | 2, _ => exact t3_99
  | k + 3, hk => exact absurd hk (by omega)
theorem in_RO : ∀ w ∈ u_ws R_RO T_RO 6, w ∈ TB := by
  intro w h
  obtain ⟨k, hk, rfl⟩ := List.mem_map.mp h
  have hk := List.mem_range.mp hk
  match k, hk with
  | 0, _ => exact t1_148
  | 1, _ => exact t1_150
  | 2, _ => exact t1_152
  | 3, _ => exact t1_154
  | 4, _ => exact t1_156
  | 5, _ => exact t1_158
  | k + 6, hk => exact absurd hk (by omega)
theorem in_Md : ∀ w ∈ u_ws R_Md T_Md 22, w ∈ TB := by
  intro w h
  obtain ⟨k, hk, rfl⟩ := List.mem_map.mp h
  have hk := List.mem_range.mp hk
  match k, hk with
  | 0, _ => exact t3_169
  | 1, _ => exact t3_171
  | 2, _ => exact t3_173
  | 3, _ => exact t3_175
  | 4, _ => exact t3_177
  | 5, _ => exact t3_179
  | 6, _ => exact t3_181
  | 7, _ => exact t3_183
  | 8, _ => exact t3_185
  | 9, _ => exact t3_187
  | 10, _ => exact t3_189
  | 11, _ => exact t3_191
  | 12, _ => exact t3_193
  | 13, _ => exact t3_195
  | 14, _ => exact t3_197
  | 15, _ => exact t3_199
  | 16, _ => exact t3_201
  | 17, _ => exact t3_203
  | 18, _ => exact t3_205
  | 19, _ => exact t3_207
  | 20, _ => exact t3_209
  | 21, _ => exact t3_211
  | k + 22, hk => exact absurd hk (by omega)
end
section
theorem d_Cells_init_0 : decode c_Cells_init 0 = .ok (.aload_n 0, 1) := by decide +kernel
theorem d_Cells_init_1 : decode c_Cells_init 1 = .ok (.invokespecial 3, 3) := by decide +kernel
theorem d_Cells_init_4 : decode c_Cells_init 4 = .ok (.aload_n 0, 1) := by decide +kernel
theorem d_Cells_init_5 : decode c_Cells_init 5 = .ok (.iconst 0, 1) := by decide +kernel
theorem d_Cells_init_6 : decode c_Cells_init 6 = .ok (.iload_n 1, 1) := by decide +kernel
theorem d_Cells_init_7 : decode c_Cells_init 7 = .ok (.invokestatic 9, 3) := by decide +kernel
theorem d_Cells_init_10 : decode c_Cells_init 10 = .ok (.newarray .int, 2) := by decide +kernel
theorem d_Cells_init_12 : decode c_Cells_init 12 = .ok (.putfield 15, 3) := by decide +kernel
theorem d_Cells_init_15 : decode c_Cells_init 15 = .ok (.iconst 0, 1) := by decide +kernel
theorem d_Cells_init_16 : decode c_Cells_init 16 = .ok (.istore_n 2, 1) := by decide +kernel
theorem d_Cells_init_17 : decode c_Cells_init 17 = .ok (.iload_n 2, 1) := by decide +kernel
theorem d_Cells_init_18 : decode c_Cells_init 18 = .ok (.aload_n 0, 1) := by decide +kernel
theorem d_Cells_init_19 : decode c_Cells_init 19 = .ok (.getfield 15, 3) := by decide +kernel
theorem d_Cells_init_22 : decode c_Cells_init 22 = .ok (.arraylength, 1) := by decide +kernel
theorem d_Cells_init_23 : decode c_Cells_init 23 = .ok (.if_icmp .ge 16, 3) := by decide +kernel
theorem d_Cells_init_26 : decode c_Cells_init 26 = .ok (.aload_n 0, 1) := by decide +kernel
theorem d_Cells_init_27 : decode c_Cells_init 27 = .ok (.getfield 15, 3) := by decide +kernel
theorem d_Cells_init_30 : decode c_Cells_init 30 = .ok (.iload_n 2, 1) := by decide +kernel
theorem d_Cells_init_31 : decode c_Cells_init 31 = .ok (.iconst (-1), 1) := by decide +kernel
theorem d_Cells_init_32 : decode c_Cells_init 32 = .ok (.iastore, 1) := by decide +kernel
theorem d_Cells_init_33 : decode c_Cells_init 33 = .ok (.iinc 2 1, 3) := by decide +kernel
theorem d_Cells_init_36 : decode c_Cells_init 36 = .ok (.goto (-19), 3) := by decide +kernel
theorem d_Cells_init_39 : decode c_Cells_init 39 = .ok (.return_, 1) := by decide +kernel
theorem d_Cells_at_0 : decode c_Cells_at 0 = .ok (.iload_n 1, 1) := by decide +kernel
theorem d_Cells_at_1 : decode c_Cells_at 1 = .ok (.ifCond .lt 21, 3) := by decide +kernel
theorem d_Cells_at_4 : decode c_Cells_at 4 = .ok (.iload_n 1, 1) := by decide +kernel
theorem d_Cells_at_5 : decode c_Cells_at 5 = .ok (.aload_n 0, 1) := by decide +kernel
theorem d_Cells_at_6 : decode c_Cells_at 6 = .ok (.getfield 15, 3) := by decide +kernel
theorem d_Cells_at_9 : decode c_Cells_at 9 = .ok (.arraylength, 1) := by decide +kernel
theorem d_Cells_at_10 : decode c_Cells_at 10 = .ok (.if_icmp .ge 12, 3) := by decide +kernel
theorem d_Cells_at_13 : decode c_Cells_at 13 = .ok (.aload_n 0, 1) := by decide +kernel
theorem d_Cells_at_14 : decode c_Cells_at 14 = .ok (.getfield 15, 3) := by decide +kernel
theorem d_Cells_at_17 : decode c_Cells_at 17 = .ok (.iload_n 1, 1) := by decide +kernel
theorem d_Cells_at_18 : decode c_Cells_at 18 = .ok (.iaload, 1) := by decide +kernel
theorem d_Cells_at_19 : decode c_Cells_at 19 = .ok (.goto 4, 3) := by decide +kernel
theorem d_Cells_at_22 : decode c_Cells_at 22 = .ok (.iconst (-1), 1) := by decide +kernel
theorem d_Cells_at_23 : decode c_Cells_at 23 = .ok (.ireturn, 1) := by decide +kernel
theorem d_Cells_put_0 : decode c_Cells_put 0 = .ok (.iload_n 1, 1) := by decide +kernel
theorem d_Cells_put_1 : decode c_Cells_put 1 = .ok (.ifCond .lt 19, 3) := by decide +kernel
theorem d_Cells_put_4 : decode c_Cells_put 4 = .ok (.iload_n 1, 1) := by decide +kernel
theorem d_Cells_put_5 : decode c_Cells_put 5 = .ok (.aload_n 0, 1) := by decide +kernel
theorem d_Cells_put_6 : decode c_Cells_put 6 = .ok (.getfield 15, 3) := by decide +kernel
theorem d_Cells_put_9 : decode c_Cells_put 9 = .ok (.arraylength, 1) := by decide +kernel
theorem d_Cells_put_10 : decode c_Cells_put 10 = .ok (.if_icmp .ge 10, 3) := by decide +kernel
theorem d_Cells_put_13 : decode c_Cells_put 13 = .ok (.aload_n 0, 1) := by decide +kernel
theorem d_Cells_put_14 : decode c_Cells_put 14 = .ok (.getfield 15, 3) := by decide +kernel
theorem d_Cells_put_17 : decode c_Cells_put 17 = .ok (.iload_n 1, 1) := by decide +kernel
theorem d_Cells_put_18 : decode c_Cells_put 18 = .ok (.iload_n 2, 1) := by decide +kernel
theorem d_Cells_put_19 : decode c_Cells_put 19 = .ok (.iastore, 1) := by decide +kernel
theorem d_Cells_put_20 : decode c_Cells_put 20 = .ok (.return_, 1) := by decide +kernel
theorem d_Cells_replace_0 : decode c_Cells_replace 0 = .ok (.iconst 0, 1) := by decide +kernel
theorem d_Cells_replace_1 : decode c_Cells_replace 1 = .ok (.istore_n 3, 1) := by decide +kernel
theorem d_Cells_replace_2 : decode c_Cells_replace 2 = .ok (.iload_n 3, 1) := by decide +kernel
theorem d_Cells_replace_3 : decode c_Cells_replace 3 = .ok (.aload_n 0, 1) := by decide +kernel
theorem d_Cells_replace_4 : decode c_Cells_replace 4 = .ok (.getfield 15, 3) := by decide +kernel
theorem d_Cells_replace_7 : decode c_Cells_replace 7 = .ok (.arraylength, 1) := by decide +kernel
theorem d_Cells_replace_8 : decode c_Cells_replace 8 = .ok (.if_icmp .ge 26, 3) := by decide +kernel
theorem d_Cells_replace_11 : decode c_Cells_replace 11 = .ok (.aload_n 0, 1) := by decide +kernel
theorem d_Cells_replace_12 : decode c_Cells_replace 12 = .ok (.getfield 15, 3) := by decide +kernel
theorem d_Cells_replace_15 : decode c_Cells_replace 15 = .ok (.iload_n 3, 1) := by decide +kernel
theorem d_Cells_replace_16 : decode c_Cells_replace 16 = .ok (.iaload, 1) := by decide +kernel
theorem d_Cells_replace_17 : decode c_Cells_replace 17 = .ok (.iload_n 1, 1) := by decide +kernel
theorem d_Cells_replace_18 : decode c_Cells_replace 18 = .ok (.if_icmp .ne 10, 3) := by decide +kernel
theorem d_Cells_replace_21 : decode c_Cells_replace 21 = .ok (.aload_n 0, 1) := by decide +kernel
theorem d_Cells_replace_22 : decode c_Cells_replace 22 = .ok (.getfield 15, 3) := by decide +kernel
theorem d_Cells_replace_25 : decode c_Cells_replace 25 = .ok (.iload_n 3, 1) := by decide +kernel
theorem d_Cells_replace_26 : decode c_Cells_replace 26 = .ok (.iload_n 2, 1) := by decide +kernel
theorem d_Cells_replace_27 : decode c_Cells_replace 27 = .ok (.iastore, 1) := by decide +kernel
theorem d_Cells_replace_28 : decode c_Cells_replace 28 = .ok (.iinc 3 1, 3) := by decide +kernel
theorem d_Cells_replace_31 : decode c_Cells_replace 31 = .ok (.goto (-29), 3) := by decide +kernel
theorem d_Cells_replace_34 : decode c_Cells_replace 34 = .ok (.return_, 1) := by decide +kernel
theorem d_Rows_init_0 : decode c_Rows_init 0 = .ok (.aload_n 0, 1) := by decide +kernel
theorem d_Rows_init_1 : decode c_Rows_init 1 = .ok (.invokespecial 3, 3) := by decide +kernel
theorem d_Rows_init_4 : decode c_Rows_init 4 = .ok (.aload_n 0, 1) := by decide +kernel
theorem d_Rows_init_5 : decode c_Rows_init 5 = .ok (.iconst 0, 1) := by decide +kernel
theorem d_Rows_init_6 : decode c_Rows_init 6 = .ok (.iload_n 1, 1) := by decide +kernel
theorem d_Rows_init_7 : decode c_Rows_init 7 = .ok (.invokestatic 9, 3) := by decide +kernel
theorem d_Rows_init_10 : decode c_Rows_init 10 = .ok (.bipush 48, 2) := by decide +kernel
theorem d_Rows_init_12 : decode c_Rows_init 12 = .ok (.invokestatic 15, 3) := by decide +kernel
theorem d_Rows_init_15 : decode c_Rows_init 15 = .ok (.newarray .long, 2) := by decide +kernel
theorem d_Rows_init_17 : decode c_Rows_init 17 = .ok (.putfield 18, 3) := by decide +kernel
theorem d_Rows_init_20 : decode c_Rows_init 20 = .ok (.return_, 1) := by decide +kernel
theorem d_Rows_isPlace_0 : decode c_Rows_isPlace 0 = .ok (.iload_n 1, 1) := by decide +kernel
theorem d_Rows_isPlace_1 : decode c_Rows_isPlace 1 = .ok (.ifCond .lt 16, 3) := by decide +kernel
theorem d_Rows_isPlace_4 : decode c_Rows_isPlace 4 = .ok (.iload_n 1, 1) := by decide +kernel
theorem d_Rows_isPlace_5 : decode c_Rows_isPlace 5 = .ok (.aload_n 0, 1) := by decide +kernel
theorem d_Rows_isPlace_6 : decode c_Rows_isPlace 6 = .ok (.getfield 18, 3) := by decide +kernel
theorem d_Rows_isPlace_9 : decode c_Rows_isPlace 9 = .ok (.arraylength, 1) := by decide +kernel
theorem d_Rows_isPlace_10 : decode c_Rows_isPlace 10 = .ok (.if_icmp .ge 7, 3) := by decide +kernel
theorem d_Rows_isPlace_13 : decode c_Rows_isPlace 13 = .ok (.iconst 1, 1) := by decide +kernel
theorem d_Rows_isPlace_14 : decode c_Rows_isPlace 14 = .ok (.goto 4, 3) := by decide +kernel
theorem d_Rows_isPlace_17 : decode c_Rows_isPlace 17 = .ok (.iconst 0, 1) := by decide +kernel
theorem d_Rows_isPlace_18 : decode c_Rows_isPlace 18 = .ok (.ireturn, 1) := by decide +kernel
theorem d_Rows_row_0 : decode c_Rows_row 0 = .ok (.aload_n 0, 1) := by decide +kernel
theorem d_Rows_row_1 : decode c_Rows_row 1 = .ok (.iload_n 1, 1) := by decide +kernel
theorem d_Rows_row_2 : decode c_Rows_row 2 = .ok (.invokevirtual 24, 3) := by decide +kernel
theorem d_Rows_row_5 : decode c_Rows_row 5 = .ok (.ifCond .eq 12, 3) := by decide +kernel
theorem d_Rows_row_8 : decode c_Rows_row 8 = .ok (.aload_n 0, 1) := by decide +kernel
theorem d_Rows_row_9 : decode c_Rows_row 9 = .ok (.getfield 18, 3) := by decide +kernel
theorem d_Rows_row_12 : decode c_Rows_row 12 = .ok (.iload_n 1, 1) := by decide +kernel
theorem d_Rows_row_13 : decode c_Rows_row 13 = .ok (.laload, 1) := by decide +kernel
theorem d_Rows_row_14 : decode c_Rows_row 14 = .ok (.goto 4, 3) := by decide +kernel
theorem d_Rows_row_17 : decode c_Rows_row 17 = .ok (.lconst 0, 1) := by decide +kernel
theorem d_Rows_row_18 : decode c_Rows_row 18 = .ok (.lreturn, 1) := by decide +kernel
theorem d_Rows_put_0 : decode c_Rows_put 0 = .ok (.aload_n 0, 1) := by decide +kernel
theorem d_Rows_put_1 : decode c_Rows_put 1 = .ok (.iload_n 1, 1) := by decide +kernel
theorem d_Rows_put_2 : decode c_Rows_put 2 = .ok (.invokevirtual 24, 3) := by decide +kernel
theorem d_Rows_put_5 : decode c_Rows_put 5 = .ok (.ifCond .eq 10, 3) := by decide +kernel
theorem d_Rows_put_8 : decode c_Rows_put 8 = .ok (.aload_n 0, 1) := by decide +kernel
theorem d_Rows_put_9 : decode c_Rows_put 9 = .ok (.getfield 18, 3) := by decide +kernel
theorem d_Rows_put_12 : decode c_Rows_put 12 = .ok (.iload_n 1, 1) := by decide +kernel
theorem d_Rows_put_13 : decode c_Rows_put 13 = .ok (.lload_n 2, 1) := by decide +kernel
theorem d_Rows_put_14 : decode c_Rows_put 14 = .ok (.lastore, 1) := by decide +kernel
theorem d_Rows_put_15 : decode c_Rows_put 15 = .ok (.return_, 1) := by decide +kernel
theorem d_Rows_has_0 : decode c_Rows_has 0 = .ok (.aload_n 0, 1) := by decide +kernel
theorem d_Rows_has_1 : decode c_Rows_has 1 = .ok (.iload_n 1, 1) := by decide +kernel
theorem d_Rows_has_2 : decode c_Rows_has 2 = .ok (.invokevirtual 24, 3) := by decide +kernel
theorem d_Rows_has_5 : decode c_Rows_has 5 = .ok (.ifCond .eq 30, 3) := by decide +kernel
theorem d_Rows_has_8 : decode c_Rows_has 8 = .ok (.aload_n 0, 1) := by decide +kernel
theorem d_Rows_has_9 : decode c_Rows_has 9 = .ok (.iload_n 2, 1) := by decide +kernel
theorem d_Rows_has_10 : decode c_Rows_has 10 = .ok (.invokevirtual 24, 3) := by decide +kernel
theorem d_Rows_has_13 : decode c_Rows_has 13 = .ok (.ifCond .eq 22, 3) := by decide +kernel
theorem d_Rows_has_16 : decode c_Rows_has 16 = .ok (.aload_n 0, 1) := by decide +kernel
theorem d_Rows_has_17 : decode c_Rows_has 17 = .ok (.getfield 18, 3) := by decide +kernel
theorem d_Rows_has_20 : decode c_Rows_has 20 = .ok (.iload_n 1, 1) := by decide +kernel
theorem d_Rows_has_21 : decode c_Rows_has 21 = .ok (.laload, 1) := by decide +kernel
theorem d_Rows_has_22 : decode c_Rows_has 22 = .ok (.iload_n 2, 1) := by decide +kernel
theorem d_Rows_has_23 : decode c_Rows_has 23 = .ok (.lushr, 1) := by decide +kernel
theorem d_Rows_has_24 : decode c_Rows_has 24 = .ok (.lconst 1, 1) := by decide +kernel
theorem d_Rows_has_25 : decode c_Rows_has 25 = .ok (.land, 1) := by decide +kernel
theorem d_Rows_has_26 : decode c_Rows_has 26 = .ok (.lconst 0, 1) := by decide +kernel
theorem d_Rows_has_27 : decode c_Rows_has 27 = .ok (.lcmp, 1) := by decide +kernel
theorem d_Rows_has_28 : decode c_Rows_has 28 = .ok (.ifCond .eq 7, 3) := by decide +kernel
theorem d_Rows_has_31 : decode c_Rows_has 31 = .ok (.iconst 1, 1) := by decide +kernel
theorem d_Rows_has_32 : decode c_Rows_has 32 = .ok (.goto 4, 3) := by decide +kernel
theorem d_Rows_has_35 : decode c_Rows_has 35 = .ok (.iconst 0, 1) := by decide +kernel
theorem d_Rows_has_36 : decode c_Rows_has 36 = .ok (.ireturn, 1) := by decide +kernel
theorem d_Rows_mark_0 : decode c_Rows_mark 0 = .ok (.aload_n 0, 1) := by decide +kernel
theorem d_Rows_mark_1 : decode c_Rows_mark 1 = .ok (.iload_n 1, 1) := by decide +kernel
theorem d_Rows_mark_2 : decode c_Rows_mark 2 = .ok (.invokevirtual 24, 3) := by decide +kernel
theorem d_Rows_mark_5 : decode c_Rows_mark 5 = .ok (.ifCond .eq 23, 3) := by decide +kernel
theorem d_Rows_mark_8 : decode c_Rows_mark 8 = .ok (.aload_n 0, 1) := by decide +kernel
theorem d_Rows_mark_9 : decode c_Rows_mark 9 = .ok (.iload_n 2, 1) := by decide +kernel
theorem d_Rows_mark_10 : decode c_Rows_mark 10 = .ok (.invokevirtual 24, 3) := by decide +kernel
theorem d_Rows_mark_13 : decode c_Rows_mark 13 = .ok (.ifCond .eq 15, 3) := by decide +kernel
theorem d_Rows_mark_16 : decode c_Rows_mark 16 = .ok (.aload_n 0, 1) := by decide +kernel
theorem d_Rows_mark_17 : decode c_Rows_mark 17 = .ok (.getfield 18, 3) := by decide +kernel
theorem d_Rows_mark_20 : decode c_Rows_mark 20 = .ok (.iload_n 1, 1) := by decide +kernel
theorem d_Rows_mark_21 : decode c_Rows_mark 21 = .ok (.dup2, 1) := by decide +kernel
theorem d_Rows_mark_22 : decode c_Rows_mark 22 = .ok (.laload, 1) := by decide +kernel
theorem d_Rows_mark_23 : decode c_Rows_mark 23 = .ok (.lconst 1, 1) := by decide +kernel
theorem d_Rows_mark_24 : decode c_Rows_mark 24 = .ok (.iload_n 2, 1) := by decide +kernel
theorem d_Rows_mark_25 : decode c_Rows_mark 25 = .ok (.lshl, 1) := by decide +kernel
theorem d_Rows_mark_26 : decode c_Rows_mark 26 = .ok (.lor, 1) := by decide +kernel
theorem d_Rows_mark_27 : decode c_Rows_mark 27 = .ok (.lastore, 1) := by decide +kernel
theorem d_Rows_mark_28 : decode c_Rows_mark 28 = .ok (.return_, 1) := by decide +kernel
theorem d_Rows_clear_0 : decode c_Rows_clear 0 = .ok (.iconst 0, 1) := by decide +kernel
theorem d_Rows_clear_1 : decode c_Rows_clear 1 = .ok (.istore_n 1, 1) := by decide +kernel
theorem d_Rows_clear_2 : decode c_Rows_clear 2 = .ok (.iload_n 1, 1) := by decide +kernel
theorem d_Rows_clear_3 : decode c_Rows_clear 3 = .ok (.aload_n 0, 1) := by decide +kernel
theorem d_Rows_clear_4 : decode c_Rows_clear 4 = .ok (.getfield 18, 3) := by decide +kernel
theorem d_Rows_clear_7 : decode c_Rows_clear 7 = .ok (.arraylength, 1) := by decide +kernel
theorem d_Rows_clear_8 : decode c_Rows_clear 8 = .ok (.if_icmp .ge 16, 3) := by decide +kernel
theorem d_Rows_clear_11 : decode c_Rows_clear 11 = .ok (.aload_n 0, 1) := by decide +kernel
theorem d_Rows_clear_12 : decode c_Rows_clear 12 = .ok (.getfield 18, 3) := by decide +kernel
theorem d_Rows_clear_15 : decode c_Rows_clear 15 = .ok (.iload_n 1, 1) := by decide +kernel
theorem d_Rows_clear_16 : decode c_Rows_clear 16 = .ok (.lconst 0, 1) := by decide +kernel
theorem d_Rows_clear_17 : decode c_Rows_clear 17 = .ok (.lastore, 1) := by decide +kernel
theorem d_Rows_clear_18 : decode c_Rows_clear 18 = .ok (.iinc 1 1, 3) := by decide +kernel
theorem d_Rows_clear_21 : decode c_Rows_clear 21 = .ok (.goto (-19), 3) := by decide +kernel
theorem d_Rows_clear_24 : decode c_Rows_clear 24 = .ok (.return_, 1) := by decide +kernel
theorem d_Rows_above_0 : decode c_Rows_above 0 = .ok (.lconst 0, 1) := by decide +kernel
theorem d_Rows_above_1 : decode c_Rows_above 1 = .ok (.lstore_n 3, 1) := by decide +kernel
theorem d_Rows_above_2 : decode c_Rows_above 2 = .ok (.iconst 0, 1) := by decide +kernel
theorem d_Rows_above_3 : decode c_Rows_above 3 = .ok (.istore 5, 2) := by decide +kernel
theorem d_Rows_above_5 : decode c_Rows_above 5 = .ok (.iload 5, 2) := by decide +kernel
theorem d_Rows_above_7 : decode c_Rows_above 7 = .ok (.aload_n 0, 1) := by decide +kernel
theorem d_Rows_above_8 : decode c_Rows_above 8 = .ok (.getfield 18, 3) := by decide +kernel
theorem d_Rows_above_11 : decode c_Rows_above 11 = .ok (.arraylength, 1) := by decide +kernel
theorem d_Rows_above_12 : decode c_Rows_above 12 = .ok (.if_icmp .ge 30, 3) := by decide +kernel
theorem d_Rows_above_15 : decode c_Rows_above 15 = .ok (.aload_n 0, 1) := by decide +kernel
theorem d_Rows_above_16 : decode c_Rows_above 16 = .ok (.getfield 18, 3) := by decide +kernel
theorem d_Rows_above_19 : decode c_Rows_above 19 = .ok (.iload 5, 2) := by decide +kernel
theorem d_Rows_above_21 : decode c_Rows_above 21 = .ok (.laload, 1) := by decide +kernel
theorem d_Rows_above_22 : decode c_Rows_above 22 = .ok (.lload_n 1, 1) := by decide +kernel
theorem d_Rows_above_23 : decode c_Rows_above 23 = .ok (.land, 1) := by decide +kernel
theorem d_Rows_above_24 : decode c_Rows_above 24 = .ok (.lconst 0, 1) := by decide +kernel
theorem d_Rows_above_25 : decode c_Rows_above 25 = .ok (.lcmp, 1) := by decide +kernel
theorem d_Rows_above_26 : decode c_Rows_above 26 = .ok (.ifCond .eq 10, 3) := by decide +kernel
theorem d_Rows_above_29 : decode c_Rows_above 29 = .ok (.lload_n 3, 1) := by decide +kernel
theorem d_Rows_above_30 : decode c_Rows_above 30 = .ok (.lconst 1, 1) := by decide +kernel
theorem d_Rows_above_31 : decode c_Rows_above 31 = .ok (.iload 5, 2) := by decide +kernel
theorem d_Rows_above_33 : decode c_Rows_above 33 = .ok (.lshl, 1) := by decide +kernel
theorem d_Rows_above_34 : decode c_Rows_above 34 = .ok (.lor, 1) := by decide +kernel
theorem d_Rows_above_35 : decode c_Rows_above 35 = .ok (.lstore_n 3, 1) := by decide +kernel
theorem d_Rows_above_36 : decode c_Rows_above 36 = .ok (.iinc 5 1, 3) := by decide +kernel
theorem d_Rows_above_39 : decode c_Rows_above 39 = .ok (.goto (-34), 3) := by decide +kernel
theorem d_Rows_above_42 : decode c_Rows_above 42 = .ok (.lload_n 3, 1) := by decide +kernel
theorem d_Rows_above_43 : decode c_Rows_above 43 = .ok (.lreturn, 1) := by decide +kernel
theorem d_Rows_close_0 : decode c_Rows_close 0 = .ok (.iconst 0, 1) := by decide +kernel
theorem d_Rows_close_1 : decode c_Rows_close 1 = .ok (.istore_n 2, 1) := by decide +kernel
theorem d_Rows_close_2 : decode c_Rows_close 2 = .ok (.iload_n 2, 1) := by decide +kernel
theorem d_Rows_close_3 : decode c_Rows_close 3 = .ok (.aload_n 0, 1) := by decide +kernel
theorem d_Rows_close_4 : decode c_Rows_close 4 = .ok (.getfield 18, 3) := by decide +kernel
theorem d_Rows_close_7 : decode c_Rows_close 7 = .ok (.arraylength, 1) := by decide +kernel
theorem d_Rows_close_8 : decode c_Rows_close 8 = .ok (.if_icmp .ge 20, 3) := by decide +kernel
theorem d_Rows_close_11 : decode c_Rows_close 11 = .ok (.aload_n 0, 1) := by decide +kernel
theorem d_Rows_close_12 : decode c_Rows_close 12 = .ok (.getfield 18, 3) := by decide +kernel
theorem d_Rows_close_15 : decode c_Rows_close 15 = .ok (.iload_n 2, 1) := by decide +kernel
theorem d_Rows_close_16 : decode c_Rows_close 16 = .ok (.aload_n 1, 1) := by decide +kernel
theorem d_Rows_close_17 : decode c_Rows_close 17 = .ok (.iload_n 2, 1) := by decide +kernel
theorem d_Rows_close_18 : decode c_Rows_close 18 = .ok (.invokevirtual 28, 3) := by decide +kernel
theorem d_Rows_close_21 : decode c_Rows_close 21 = .ok (.lastore, 1) := by decide +kernel
theorem d_Rows_close_22 : decode c_Rows_close 22 = .ok (.iinc 2 1, 3) := by decide +kernel
theorem d_Rows_close_25 : decode c_Rows_close 25 = .ok (.goto (-23), 3) := by decide +kernel
theorem d_Rows_close_28 : decode c_Rows_close 28 = .ok (.iconst 0, 1) := by decide +kernel
theorem d_Rows_close_29 : decode c_Rows_close 29 = .ok (.istore_n 2, 1) := by decide +kernel
theorem d_Rows_close_30 : decode c_Rows_close 30 = .ok (.iload_n 2, 1) := by decide +kernel
theorem d_Rows_close_31 : decode c_Rows_close 31 = .ok (.aload_n 0, 1) := by decide +kernel
theorem d_Rows_close_32 : decode c_Rows_close 32 = .ok (.getfield 18, 3) := by decide +kernel
theorem d_Rows_close_35 : decode c_Rows_close 35 = .ok (.arraylength, 1) := by decide +kernel
theorem d_Rows_close_36 : decode c_Rows_close 36 = .ok (.if_icmp .ge 68, 3) := by decide +kernel
theorem d_Rows_close_39 : decode c_Rows_close 39 = .ok (.aload_n 0, 1) := by decide +kernel
theorem d_Rows_close_40 : decode c_Rows_close 40 = .ok (.getfield 18, 3) := by decide +kernel
theorem d_Rows_close_43 : decode c_Rows_close 43 = .ok (.iload_n 2, 1) := by decide +kernel
theorem d_Rows_close_44 : decode c_Rows_close 44 = .ok (.laload, 1) := by decide +kernel
theorem d_Rows_close_45 : decode c_Rows_close 45 = .ok (.lstore_n 3, 1) := by decide +kernel
theorem d_Rows_close_46 : decode c_Rows_close 46 = .ok (.iconst 0, 1) := by decide +kernel
theorem d_Rows_close_47 : decode c_Rows_close 47 = .ok (.istore 5, 2) := by decide +kernel
theorem d_Rows_close_49 : decode c_Rows_close 49 = .ok (.iload 5, 2) := by decide +kernel
theorem d_Rows_close_51 : decode c_Rows_close 51 = .ok (.aload_n 0, 1) := by decide +kernel
theorem d_Rows_close_52 : decode c_Rows_close 52 = .ok (.getfield 18, 3) := by decide +kernel
theorem d_Rows_close_55 : decode c_Rows_close 55 = .ok (.arraylength, 1) := by decide +kernel
theorem d_Rows_close_56 : decode c_Rows_close 56 = .ok (.if_icmp .ge 42, 3) := by decide +kernel
theorem d_Rows_close_59 : decode c_Rows_close 59 = .ok (.lload_n 3, 1) := by decide +kernel
theorem d_Rows_close_60 : decode c_Rows_close 60 = .ok (.lconst 0, 1) := by decide +kernel
theorem d_Rows_close_61 : decode c_Rows_close 61 = .ok (.lcmp, 1) := by decide +kernel
theorem d_Rows_close_62 : decode c_Rows_close 62 = .ok (.ifCond .eq 36, 3) := by decide +kernel
theorem d_Rows_close_65 : decode c_Rows_close 65 = .ok (.aload_n 0, 1) := by decide +kernel
theorem d_Rows_close_66 : decode c_Rows_close 66 = .ok (.getfield 18, 3) := by decide +kernel
theorem d_Rows_close_69 : decode c_Rows_close 69 = .ok (.iload 5, 2) := by decide +kernel
theorem d_Rows_close_71 : decode c_Rows_close 71 = .ok (.laload, 1) := by decide +kernel
theorem d_Rows_close_72 : decode c_Rows_close 72 = .ok (.iload_n 2, 1) := by decide +kernel
theorem d_Rows_close_73 : decode c_Rows_close 73 = .ok (.lushr, 1) := by decide +kernel
theorem d_Rows_close_74 : decode c_Rows_close 74 = .ok (.lconst 1, 1) := by decide +kernel
theorem d_Rows_close_75 : decode c_Rows_close 75 = .ok (.land, 1) := by decide +kernel
theorem d_Rows_close_76 : decode c_Rows_close 76 = .ok (.lconst 0, 1) := by decide +kernel
theorem d_Rows_close_77 : decode c_Rows_close 77 = .ok (.lcmp, 1) := by decide +kernel
theorem d_Rows_close_78 : decode c_Rows_close 78 = .ok (.ifCond .eq 14, 3) := by decide +kernel
theorem d_Rows_close_81 : decode c_Rows_close 81 = .ok (.aload_n 0, 1) := by decide +kernel
theorem d_Rows_close_82 : decode c_Rows_close 82 = .ok (.getfield 18, 3) := by decide +kernel
theorem d_Rows_close_85 : decode c_Rows_close 85 = .ok (.iload 5, 2) := by decide +kernel
theorem d_Rows_close_87 : decode c_Rows_close 87 = .ok (.dup2, 1) := by decide +kernel
theorem d_Rows_close_88 : decode c_Rows_close 88 = .ok (.laload, 1) := by decide +kernel
theorem d_Rows_close_89 : decode c_Rows_close 89 = .ok (.lload_n 3, 1) := by decide +kernel
theorem d_Rows_close_90 : decode c_Rows_close 90 = .ok (.lor, 1) := by decide +kernel
theorem d_Rows_close_91 : decode c_Rows_close 91 = .ok (.lastore, 1) := by decide +kernel
theorem d_Rows_close_92 : decode c_Rows_close 92 = .ok (.iinc 5 1, 3) := by decide +kernel
theorem d_Rows_close_95 : decode c_Rows_close 95 = .ok (.goto (-46), 3) := by decide +kernel
theorem d_Rows_close_98 : decode c_Rows_close 98 = .ok (.iinc 2 1, 3) := by decide +kernel
theorem d_Rows_close_101 : decode c_Rows_close 101 = .ok (.goto (-71), 3) := by decide +kernel
theorem d_Rows_close_104 : decode c_Rows_close 104 = .ok (.return_, 1) := by decide +kernel
theorem d_Relations_init_0 : decode c_Relations_init 0 = .ok (.aload_n 0, 1) := by decide +kernel
theorem d_Relations_init_1 : decode c_Relations_init 1 = .ok (.invokespecial 3, 3) := by decide +kernel
theorem d_Relations_init_4 : decode c_Relations_init 4 = .ok (.aload_n 0, 1) := by decide +kernel
theorem d_Relations_init_5 : decode c_Relations_init 5 = .ok (.new 9, 3) := by decide +kernel
theorem d_Relations_init_8 : decode c_Relations_init 8 = .ok (.dup, 1) := by decide +kernel
theorem d_Relations_init_9 : decode c_Relations_init 9 = .ok (.sipush 200, 3) := by decide +kernel
theorem d_Relations_init_12 : decode c_Relations_init 12 = .ok (.invokespecial 11, 3) := by decide +kernel
theorem d_Relations_init_15 : decode c_Relations_init 15 = .ok (.putfield 14, 3) := by decide +kernel
theorem d_Relations_init_18 : decode c_Relations_init 18 = .ok (.aload_n 0, 1) := by decide +kernel
theorem d_Relations_init_19 : decode c_Relations_init 19 = .ok (.new 9, 3) := by decide +kernel
theorem d_Relations_init_22 : decode c_Relations_init 22 = .ok (.dup, 1) := by decide +kernel
theorem d_Relations_init_23 : decode c_Relations_init 23 = .ok (.sipush 200, 3) := by decide +kernel
theorem d_Relations_init_26 : decode c_Relations_init 26 = .ok (.invokespecial 11, 3) := by decide +kernel
theorem d_Relations_init_29 : decode c_Relations_init 29 = .ok (.putfield 20, 3) := by decide +kernel
theorem d_Relations_init_32 : decode c_Relations_init 32 = .ok (.aload_n 0, 1) := by decide +kernel
theorem d_Relations_init_33 : decode c_Relations_init 33 = .ok (.new 9, 3) := by decide +kernel
theorem d_Relations_init_36 : decode c_Relations_init 36 = .ok (.dup, 1) := by decide +kernel
theorem d_Relations_init_37 : decode c_Relations_init 37 = .ok (.sipush 200, 3) := by decide +kernel
theorem d_Relations_init_40 : decode c_Relations_init 40 = .ok (.invokespecial 11, 3) := by decide +kernel
theorem d_Relations_init_43 : decode c_Relations_init 43 = .ok (.putfield 23, 3) := by decide +kernel
theorem d_Relations_init_46 : decode c_Relations_init 46 = .ok (.aload_n 0, 1) := by decide +kernel
theorem d_Relations_init_47 : decode c_Relations_init 47 = .ok (.iconst 0, 1) := by decide +kernel
theorem d_Relations_init_48 : decode c_Relations_init 48 = .ok (.putfield 26, 3) := by decide +kernel
theorem d_Relations_init_51 : decode c_Relations_init 51 = .ok (.aload_n 0, 1) := by decide +kernel
theorem d_Relations_init_52 : decode c_Relations_init 52 = .ok (.iconst 0, 1) := by decide +kernel
theorem d_Relations_init_53 : decode c_Relations_init 53 = .ok (.putfield 30, 3) := by decide +kernel
theorem d_Relations_init_56 : decode c_Relations_init 56 = .ok (.return_, 1) := by decide +kernel
theorem d_Relations_made_0 : decode c_Relations_made 0 = .ok (.aload_n 0, 1) := by decide +kernel
theorem d_Relations_made_1 : decode c_Relations_made 1 = .ok (.getfield 26, 3) := by decide +kernel
theorem d_Relations_made_4 : decode c_Relations_made 4 = .ok (.ireturn, 1) := by decide +kernel
theorem d_Relations_standing_0 : decode c_Relations_standing 0 = .ok (.aload_n 0, 1) := by decide +kernel
theorem d_Relations_standing_1 : decode c_Relations_standing 1 = .ok (.getfield 30, 3) := by decide +kernel
theorem d_Relations_standing_4 : decode c_Relations_standing 4 = .ok (.ireturn, 1) := by decide +kernel
theorem d_Relations_upperOf_0 : decode c_Relations_upperOf 0 = .ok (.aload_n 0, 1) := by decide +kernel
theorem d_Relations_upperOf_1 : decode c_Relations_upperOf 1 = .ok (.getfield 14, 3) := by decide +kernel
theorem d_Relations_upperOf_4 : decode c_Relations_upperOf 4 = .ok (.iload_n 1, 1) := by decide +kernel
theorem d_Relations_upperOf_5 : decode c_Relations_upperOf 5 = .ok (.invokevirtual 33, 3) := by decide +kernel
theorem d_Relations_upperOf_8 : decode c_Relations_upperOf 8 = .ok (.ireturn, 1) := by decide +kernel
theorem d_Relations_lowerOf_0 : decode c_Relations_lowerOf 0 = .ok (.aload_n 0, 1) := by decide +kernel
theorem d_Relations_lowerOf_1 : decode c_Relations_lowerOf 1 = .ok (.getfield 20, 3) := by decide +kernel
theorem d_Relations_lowerOf_4 : decode c_Relations_lowerOf 4 = .ok (.iload_n 1, 1) := by decide +kernel
theorem d_Relations_lowerOf_5 : decode c_Relations_lowerOf 5 = .ok (.invokevirtual 33, 3) := by decide +kernel
theorem d_Relations_lowerOf_8 : decode c_Relations_lowerOf 8 = .ok (.ireturn, 1) := by decide +kernel
theorem d_Relations_kindOf_0 : decode c_Relations_kindOf 0 = .ok (.aload_n 0, 1) := by decide +kernel
theorem d_Relations_kindOf_1 : decode c_Relations_kindOf 1 = .ok (.getfield 23, 3) := by decide +kernel
theorem d_Relations_kindOf_4 : decode c_Relations_kindOf 4 = .ok (.iload_n 1, 1) := by decide +kernel
theorem d_Relations_kindOf_5 : decode c_Relations_kindOf 5 = .ok (.invokevirtual 33, 3) := by decide +kernel
theorem d_Relations_kindOf_8 : decode c_Relations_kindOf 8 = .ok (.ireturn, 1) := by decide +kernel
theorem d_Relations_add_0 : decode c_Relations_add 0 = .ok (.aload_n 0, 1) := by decide +kernel
theorem d_Relations_add_1 : decode c_Relations_add 1 = .ok (.getfield 14, 3) := by decide +kernel
theorem d_Relations_add_4 : decode c_Relations_add 4 = .ok (.aload_n 0, 1) := by decide +kernel
theorem d_Relations_add_5 : decode c_Relations_add 5 = .ok (.getfield 26, 3) := by decide +kernel
theorem d_Relations_add_8 : decode c_Relations_add 8 = .ok (.iload_n 1, 1) := by decide +kernel
theorem d_Relations_add_9 : decode c_Relations_add 9 = .ok (.invokevirtual 37, 3) := by decide +kernel
theorem d_Relations_add_12 : decode c_Relations_add 12 = .ok (.aload_n 0, 1) := by decide +kernel
theorem d_Relations_add_13 : decode c_Relations_add 13 = .ok (.getfield 20, 3) := by decide +kernel
theorem d_Relations_add_16 : decode c_Relations_add 16 = .ok (.aload_n 0, 1) := by decide +kernel
theorem d_Relations_add_17 : decode c_Relations_add 17 = .ok (.getfield 26, 3) := by decide +kernel
theorem d_Relations_add_20 : decode c_Relations_add 20 = .ok (.iload_n 2, 1) := by decide +kernel
theorem d_Relations_add_21 : decode c_Relations_add 21 = .ok (.invokevirtual 37, 3) := by decide +kernel
theorem d_Relations_add_24 : decode c_Relations_add 24 = .ok (.aload_n 0, 1) := by decide +kernel
theorem d_Relations_add_25 : decode c_Relations_add 25 = .ok (.getfield 23, 3) := by decide +kernel
theorem d_Relations_add_28 : decode c_Relations_add 28 = .ok (.aload_n 0, 1) := by decide +kernel
theorem d_Relations_add_29 : decode c_Relations_add 29 = .ok (.getfield 26, 3) := by decide +kernel
theorem d_Relations_add_32 : decode c_Relations_add 32 = .ok (.iload_n 3, 1) := by decide +kernel
theorem d_Relations_add_33 : decode c_Relations_add 33 = .ok (.invokevirtual 37, 3) := by decide +kernel
theorem d_Relations_add_36 : decode c_Relations_add 36 = .ok (.aload_n 0, 1) := by decide +kernel
theorem d_Relations_add_37 : decode c_Relations_add 37 = .ok (.dup, 1) := by decide +kernel
theorem d_Relations_add_38 : decode c_Relations_add 38 = .ok (.getfield 26, 3) := by decide +kernel
theorem d_Relations_add_41 : decode c_Relations_add 41 = .ok (.iconst 1, 1) := by decide +kernel
theorem d_Relations_add_42 : decode c_Relations_add 42 = .ok (.iadd, 1) := by decide +kernel
theorem d_Relations_add_43 : decode c_Relations_add 43 = .ok (.putfield 26, 3) := by decide +kernel
theorem d_Relations_add_46 : decode c_Relations_add 46 = .ok (.aload_n 0, 1) := by decide +kernel
theorem d_Relations_add_47 : decode c_Relations_add 47 = .ok (.dup, 1) := by decide +kernel
theorem d_Relations_add_48 : decode c_Relations_add 48 = .ok (.getfield 30, 3) := by decide +kernel
theorem d_Relations_add_51 : decode c_Relations_add 51 = .ok (.iconst 1, 1) := by decide +kernel
theorem d_Relations_add_52 : decode c_Relations_add 52 = .ok (.iadd, 1) := by decide +kernel
theorem d_Relations_add_53 : decode c_Relations_add 53 = .ok (.putfield 30, 3) := by decide +kernel
theorem d_Relations_add_56 : decode c_Relations_add 56 = .ok (.aload_n 0, 1) := by decide +kernel
theorem d_Relations_add_57 : decode c_Relations_add 57 = .ok (.getfield 26, 3) := by decide +kernel
theorem d_Relations_add_60 : decode c_Relations_add 60 = .ok (.iconst 1, 1) := by decide +kernel
theorem d_Relations_add_61 : decode c_Relations_add 61 = .ok (.isub, 1) := by decide +kernel
theorem d_Relations_add_62 : decode c_Relations_add 62 = .ok (.ireturn, 1) := by decide +kernel
theorem d_Relations_drop_0 : decode c_Relations_drop 0 = .ok (.aload_n 0, 1) := by decide +kernel
theorem d_Relations_drop_1 : decode c_Relations_drop 1 = .ok (.getfield 23, 3) := by decide +kernel
theorem d_Relations_drop_4 : decode c_Relations_drop 4 = .ok (.iload_n 1, 1) := by decide +kernel
theorem d_Relations_drop_5 : decode c_Relations_drop 5 = .ok (.invokevirtual 33, 3) := by decide +kernel
theorem d_Relations_drop_8 : decode c_Relations_drop 8 = .ok (.iconst (-1), 1) := by decide +kernel
theorem d_Relations_drop_9 : decode c_Relations_drop 9 = .ok (.if_icmp .ne 5, 3) := by decide +kernel
theorem d_Relations_drop_12 : decode c_Relations_drop 12 = .ok (.iconst 0, 1) := by decide +kernel
theorem d_Relations_drop_13 : decode c_Relations_drop 13 = .ok (.ireturn, 1) := by decide +kernel
theorem d_Relations_drop_14 : decode c_Relations_drop 14 = .ok (.aload_n 0, 1) := by decide +kernel
theorem d_Relations_drop_15 : decode c_Relations_drop 15 = .ok (.getfield 23, 3) := by decide +kernel
theorem d_Relations_drop_18 : decode c_Relations_drop 18 = .ok (.iload_n 1, 1) := by decide +kernel
theorem d_Relations_drop_19 : decode c_Relations_drop 19 = .ok (.iconst (-1), 1) := by decide +kernel
theorem d_Relations_drop_20 : decode c_Relations_drop 20 = .ok (.invokevirtual 37, 3) := by decide +kernel
theorem d_Relations_drop_23 : decode c_Relations_drop 23 = .ok (.aload_n 0, 1) := by decide +kernel
theorem d_Relations_drop_24 : decode c_Relations_drop 24 = .ok (.dup, 1) := by decide +kernel
theorem d_Relations_drop_25 : decode c_Relations_drop 25 = .ok (.getfield 30, 3) := by decide +kernel
theorem d_Relations_drop_28 : decode c_Relations_drop 28 = .ok (.iconst 1, 1) := by decide +kernel
theorem d_Relations_drop_29 : decode c_Relations_drop 29 = .ok (.isub, 1) := by decide +kernel
theorem d_Relations_drop_30 : decode c_Relations_drop 30 = .ok (.putfield 30, 3) := by decide +kernel
theorem d_Relations_drop_33 : decode c_Relations_drop 33 = .ok (.iconst 1, 1) := by decide +kernel
theorem d_Relations_drop_34 : decode c_Relations_drop 34 = .ok (.ireturn, 1) := by decide +kernel
theorem d_Ring_init_0 : decode c_Ring_init 0 = .ok (.aload_n 0, 1) := by decide +kernel
theorem d_Ring_init_1 : decode c_Ring_init 1 = .ok (.invokespecial 3, 3) := by decide +kernel
theorem d_Ring_init_4 : decode c_Ring_init 4 = .ok (.aload_n 0, 1) := by decide +kernel
theorem d_Ring_init_5 : decode c_Ring_init 5 = .ok (.new 9, 3) := by decide +kernel
theorem d_Ring_init_8 : decode c_Ring_init 8 = .ok (.dup, 1) := by decide +kernel
theorem d_Ring_init_9 : decode c_Ring_init 9 = .ok (.bipush 48, 2) := by decide +kernel
theorem d_Ring_init_11 : decode c_Ring_init 11 = .ok (.invokespecial 11, 3) := by decide +kernel
theorem d_Ring_init_14 : decode c_Ring_init 14 = .ok (.putfield 14, 3) := by decide +kernel
theorem d_Ring_init_17 : decode c_Ring_init 17 = .ok (.aload_n 0, 1) := by decide +kernel
theorem d_Ring_init_18 : decode c_Ring_init 18 = .ok (.bipush 48, 2) := by decide +kernel
theorem d_Ring_init_20 : decode c_Ring_init 20 = .ok (.newarray .long, 2) := by decide +kernel
theorem d_Ring_init_22 : decode c_Ring_init 22 = .ok (.putfield 20, 3) := by decide +kernel
theorem d_Ring_init_25 : decode c_Ring_init 25 = .ok (.aload_n 0, 1) := by decide +kernel
theorem d_Ring_init_26 : decode c_Ring_init 26 = .ok (.iconst 0, 1) := by decide +kernel
theorem d_Ring_init_27 : decode c_Ring_init 27 = .ok (.putfield 24, 3) := by decide +kernel
theorem d_Ring_init_30 : decode c_Ring_init 30 = .ok (.return_, 1) := by decide +kernel
theorem d_Ring_place_0 : decode c_Ring_place 0 = .ok (.iload_n 1, 1) := by decide +kernel
theorem d_Ring_place_1 : decode c_Ring_place 1 = .ok (.aload_n 0, 1) := by decide +kernel
theorem d_Ring_place_2 : decode c_Ring_place 2 = .ok (.getfield 24, 3) := by decide +kernel
theorem d_Ring_place_5 : decode c_Ring_place 5 = .ok (.if_icmp .ge 14, 3) := by decide +kernel
theorem d_Ring_place_8 : decode c_Ring_place 8 = .ok (.aload_n 0, 1) := by decide +kernel
theorem d_Ring_place_9 : decode c_Ring_place 9 = .ok (.getfield 14, 3) := by decide +kernel
theorem d_Ring_place_12 : decode c_Ring_place 12 = .ok (.iload_n 1, 1) := by decide +kernel
theorem d_Ring_place_13 : decode c_Ring_place 13 = .ok (.invokevirtual 28, 3) := by decide +kernel
theorem d_Ring_place_16 : decode c_Ring_place 16 = .ok (.goto 4, 3) := by decide +kernel
theorem d_Ring_place_19 : decode c_Ring_place 19 = .ok (.iconst (-1), 1) := by decide +kernel
theorem d_Ring_place_20 : decode c_Ring_place 20 = .ok (.ireturn, 1) := by decide +kernel
theorem d_Ring_tell_0 : decode c_Ring_tell 0 = .ok (.aload_n 0, 1) := by decide +kernel
theorem d_Ring_tell_1 : decode c_Ring_tell 1 = .ok (.aload_n 1, 1) := by decide +kernel
theorem d_Ring_tell_2 : decode c_Ring_tell 2 = .ok (.iload_n 2, 1) := by decide +kernel
theorem d_Ring_tell_3 : decode c_Ring_tell 3 = .ok (.invokevirtual 32, 3) := by decide +kernel
theorem d_Ring_tell_6 : decode c_Ring_tell 6 = .ok (.istore_n 3, 1) := by decide +kernel
theorem d_Ring_tell_7 : decode c_Ring_tell 7 = .ok (.iload_n 3, 1) := by decide +kernel
theorem d_Ring_tell_8 : decode c_Ring_tell 8 = .ok (.ifCond .ne 5, 3) := by decide +kernel
theorem d_Ring_tell_11 : decode c_Ring_tell 11 = .ok (.iconst 0, 1) := by decide +kernel
theorem d_Ring_tell_12 : decode c_Ring_tell 12 = .ok (.ireturn, 1) := by decide +kernel
theorem d_Ring_tell_13 : decode c_Ring_tell 13 = .ok (.aload_n 0, 1) := by decide +kernel
theorem d_Ring_tell_14 : decode c_Ring_tell 14 = .ok (.aload_n 1, 1) := by decide +kernel
theorem d_Ring_tell_15 : decode c_Ring_tell 15 = .ok (.iload_n 2, 1) := by decide +kernel
theorem d_Ring_tell_16 : decode c_Ring_tell 16 = .ok (.iload_n 3, 1) := by decide +kernel
theorem d_Ring_tell_17 : decode c_Ring_tell 17 = .ok (.invokevirtual 36, 3) := by decide +kernel
theorem d_Ring_tell_20 : decode c_Ring_tell 20 = .ok (.iconst 1, 1) := by decide +kernel
theorem d_Ring_tell_21 : decode c_Ring_tell 21 = .ok (.ireturn, 1) := by decide +kernel
theorem d_Ring_measure_0 : decode c_Ring_measure 0 = .ok (.lconst 1, 1) := by decide +kernel
theorem d_Ring_measure_1 : decode c_Ring_measure 1 = .ok (.iload_n 2, 1) := by decide +kernel
theorem d_Ring_measure_2 : decode c_Ring_measure 2 = .ok (.lshl, 1) := by decide +kernel
theorem d_Ring_measure_3 : decode c_Ring_measure 3 = .ok (.lstore_n 3, 1) := by decide +kernel
theorem d_Ring_measure_4 : decode c_Ring_measure 4 = .ok (.lconst 0, 1) := by decide +kernel
theorem d_Ring_measure_5 : decode c_Ring_measure 5 = .ok (.lstore 5, 2) := by decide +kernel
theorem d_Ring_measure_7 : decode c_Ring_measure 7 = .ok (.iconst 0, 1) := by decide +kernel
theorem d_Ring_measure_8 : decode c_Ring_measure 8 = .ok (.istore 7, 2) := by decide +kernel
theorem d_Ring_measure_10 : decode c_Ring_measure 10 = .ok (.iload 7, 2) := by decide +kernel
theorem d_Ring_measure_12 : decode c_Ring_measure 12 = .ok (.aload_n 0, 1) := by decide +kernel
theorem d_Ring_measure_13 : decode c_Ring_measure 13 = .ok (.getfield 20, 3) := by decide +kernel
theorem d_Ring_measure_16 : decode c_Ring_measure 16 = .ok (.arraylength, 1) := by decide +kernel
theorem d_Ring_measure_17 : decode c_Ring_measure 17 = .ok (.if_icmp .ge 57, 3) := by decide +kernel
theorem d_Ring_measure_20 : decode c_Ring_measure 20 = .ok (.lload_n 3, 1) := by decide +kernel
theorem d_Ring_measure_21 : decode c_Ring_measure 21 = .ok (.lconst 0, 1) := by decide +kernel
theorem d_Ring_measure_22 : decode c_Ring_measure 22 = .ok (.lcmp, 1) := by decide +kernel
theorem d_Ring_measure_23 : decode c_Ring_measure 23 = .ok (.ifCond .eq 51, 3) := by decide +kernel
theorem d_Ring_measure_26 : decode c_Ring_measure 26 = .ok (.aload_n 1, 1) := by decide +kernel
theorem d_Ring_measure_27 : decode c_Ring_measure 27 = .ok (.lload_n 3, 1) := by decide +kernel
theorem d_Ring_measure_28 : decode c_Ring_measure 28 = .ok (.invokevirtual 40, 3) := by decide +kernel
theorem d_Ring_measure_31 : decode c_Ring_measure 31 = .ok (.lload 5, 2) := by decide +kernel
theorem d_Ring_measure_33 : decode c_Ring_measure 33 = .ok (.ldc2_w 46, 3) := by decide +kernel
theorem d_Ring_measure_36 : decode c_Ring_measure 36 = .ok (.lxor, 1) := by decide +kernel
theorem d_Ring_measure_37 : decode c_Ring_measure 37 = .ok (.land, 1) := by decide +kernel
theorem d_Ring_measure_38 : decode c_Ring_measure 38 = .ok (.lstore_n 3, 1) := by decide +kernel
theorem d_Ring_measure_39 : decode c_Ring_measure 39 = .ok (.aload_n 0, 1) := by decide +kernel
theorem d_Ring_measure_40 : decode c_Ring_measure 40 = .ok (.getfield 20, 3) := by decide +kernel
theorem d_Ring_measure_43 : decode c_Ring_measure 43 = .ok (.iload 7, 2) := by decide +kernel
theorem d_Ring_measure_45 : decode c_Ring_measure 45 = .ok (.lload_n 3, 1) := by decide +kernel
theorem d_Ring_measure_46 : decode c_Ring_measure 46 = .ok (.lastore, 1) := by decide +kernel
theorem d_Ring_measure_47 : decode c_Ring_measure 47 = .ok (.lload 5, 2) := by decide +kernel
theorem d_Ring_measure_49 : decode c_Ring_measure 49 = .ok (.lload_n 3, 1) := by decide +kernel
theorem d_Ring_measure_50 : decode c_Ring_measure 50 = .ok (.lor, 1) := by decide +kernel
theorem d_Ring_measure_51 : decode c_Ring_measure 51 = .ok (.lstore 5, 2) := by decide +kernel
theorem d_Ring_measure_53 : decode c_Ring_measure 53 = .ok (.lload_n 3, 1) := by decide +kernel
theorem d_Ring_measure_54 : decode c_Ring_measure 54 = .ok (.iload_n 2, 1) := by decide +kernel
theorem d_Ring_measure_55 : decode c_Ring_measure 55 = .ok (.lushr, 1) := by decide +kernel
theorem d_Ring_measure_56 : decode c_Ring_measure 56 = .ok (.lconst 1, 1) := by decide +kernel
theorem d_Ring_measure_57 : decode c_Ring_measure 57 = .ok (.land, 1) := by decide +kernel
theorem d_Ring_measure_58 : decode c_Ring_measure 58 = .ok (.lconst 0, 1) := by decide +kernel
theorem d_Ring_measure_59 : decode c_Ring_measure 59 = .ok (.lcmp, 1) := by decide +kernel
theorem d_Ring_measure_60 : decode c_Ring_measure 60 = .ok (.ifCond .eq 8, 3) := by decide +kernel
theorem d_Ring_measure_63 : decode c_Ring_measure 63 = .ok (.iload 7, 2) := by decide +kernel
theorem d_Ring_measure_65 : decode c_Ring_measure 65 = .ok (.iconst 1, 1) := by decide +kernel
theorem d_Ring_measure_66 : decode c_Ring_measure 66 = .ok (.iadd, 1) := by decide +kernel
theorem d_Ring_measure_67 : decode c_Ring_measure 67 = .ok (.ireturn, 1) := by decide +kernel
theorem d_Ring_measure_68 : decode c_Ring_measure 68 = .ok (.iinc 7 1, 3) := by decide +kernel
theorem d_Ring_measure_71 : decode c_Ring_measure 71 = .ok (.goto (-61), 3) := by decide +kernel
theorem d_Ring_measure_74 : decode c_Ring_measure 74 = .ok (.iconst 0, 1) := by decide +kernel
theorem d_Ring_measure_75 : decode c_Ring_measure 75 = .ok (.ireturn, 1) := by decide +kernel
theorem d_Ring_write_0 : decode c_Ring_write 0 = .ok (.iload_n 2, 1) := by decide +kernel
theorem d_Ring_write_1 : decode c_Ring_write 1 = .ok (.istore 4, 2) := by decide +kernel
theorem d_Ring_write_3 : decode c_Ring_write 3 = .ok (.iconst 0, 1) := by decide +kernel
theorem d_Ring_write_4 : decode c_Ring_write 4 = .ok (.istore 5, 2) := by decide +kernel
theorem d_Ring_write_6 : decode c_Ring_write 6 = .ok (.iload 5, 2) := by decide +kernel
theorem d_Ring_write_8 : decode c_Ring_write 8 = .ok (.iload_n 3, 1) := by decide +kernel
theorem d_Ring_write_9 : decode c_Ring_write 9 = .ok (.if_icmp .ge 63, 3) := by decide +kernel
theorem d_Ring_write_12 : decode c_Ring_write 12 = .ok (.aload_n 0, 1) := by decide +kernel
theorem d_Ring_write_13 : decode c_Ring_write 13 = .ok (.getfield 14, 3) := by decide +kernel
theorem d_Ring_write_16 : decode c_Ring_write 16 = .ok (.iload 5, 2) := by decide +kernel
theorem d_Ring_write_18 : decode c_Ring_write 18 = .ok (.iload 4, 2) := by decide +kernel
theorem d_Ring_write_20 : decode c_Ring_write 20 = .ok (.invokevirtual 48, 3) := by decide +kernel
theorem d_Ring_write_23 : decode c_Ring_write 23 = .ok (.iload_n 3, 1) := by decide +kernel
theorem d_Ring_write_24 : decode c_Ring_write 24 = .ok (.iconst 2, 1) := by decide +kernel
theorem d_Ring_write_25 : decode c_Ring_write 25 = .ok (.isub, 1) := by decide +kernel
theorem d_Ring_write_26 : decode c_Ring_write 26 = .ok (.iload 5, 2) := by decide +kernel
theorem d_Ring_write_28 : decode c_Ring_write 28 = .ok (.isub, 1) := by decide +kernel
theorem d_Ring_write_29 : decode c_Ring_write 29 = .ok (.istore 6, 2) := by decide +kernel
theorem d_Ring_write_31 : decode c_Ring_write 31 = .ok (.iload 6, 2) := by decide +kernel
theorem d_Ring_write_33 : decode c_Ring_write 33 = .ok (.ifCond .lt 33, 3) := by decide +kernel
theorem d_Ring_write_36 : decode c_Ring_write 36 = .ok (.iload 6, 2) := by decide +kernel
theorem d_Ring_write_38 : decode c_Ring_write 38 = .ok (.aload_n 0, 1) := by decide +kernel
theorem d_Ring_write_39 : decode c_Ring_write 39 = .ok (.getfield 20, 3) := by decide +kernel
theorem d_Ring_write_42 : decode c_Ring_write 42 = .ok (.arraylength, 1) := by decide +kernel
theorem d_Ring_write_43 : decode c_Ring_write 43 = .ok (.if_icmp .ge 23, 3) := by decide +kernel
theorem d_Ring_write_46 : decode c_Ring_write 46 = .ok (.aload_n 1, 1) := by decide +kernel
theorem d_Ring_write_47 : decode c_Ring_write 47 = .ok (.iload 4, 2) := by decide +kernel
theorem d_Ring_write_49 : decode c_Ring_write 49 = .ok (.invokevirtual 52, 3) := by decide +kernel
theorem d_Ring_write_52 : decode c_Ring_write 52 = .ok (.aload_n 0, 1) := by decide +kernel
theorem d_Ring_write_53 : decode c_Ring_write 53 = .ok (.getfield 20, 3) := by decide +kernel
theorem d_Ring_write_56 : decode c_Ring_write 56 = .ok (.iload 6, 2) := by decide +kernel
theorem d_Ring_write_58 : decode c_Ring_write 58 = .ok (.laload, 1) := by decide +kernel
theorem d_Ring_write_59 : decode c_Ring_write 59 = .ok (.land, 1) := by decide +kernel
theorem d_Ring_write_60 : decode c_Ring_write 60 = .ok (.iconst 0, 1) := by decide +kernel
theorem d_Ring_write_61 : decode c_Ring_write 61 = .ok (.invokestatic 56, 3) := by decide +kernel
theorem d_Ring_write_64 : decode c_Ring_write 64 = .ok (.istore 4, 2) := by decide +kernel
theorem d_Ring_write_66 : decode c_Ring_write 66 = .ok (.iinc 5 1, 3) := by decide +kernel
theorem d_Ring_write_69 : decode c_Ring_write 69 = .ok (.goto (-63), 3) := by decide +kernel
theorem d_Ring_write_72 : decode c_Ring_write 72 = .ok (.aload_n 0, 1) := by decide +kernel
theorem d_Ring_write_73 : decode c_Ring_write 73 = .ok (.iload_n 3, 1) := by decide +kernel
theorem d_Ring_write_74 : decode c_Ring_write 74 = .ok (.putfield 24, 3) := by decide +kernel
theorem d_Ring_write_77 : decode c_Ring_write 77 = .ok (.return_, 1) := by decide +kernel
theorem d_Strata_init_0 : decode c_Strata_init 0 = .ok (.aload_n 0, 1) := by decide +kernel
theorem d_Strata_init_1 : decode c_Strata_init 1 = .ok (.invokespecial 3, 3) := by decide +kernel
theorem d_Strata_init_4 : decode c_Strata_init 4 = .ok (.aload_n 0, 1) := by decide +kernel
theorem d_Strata_init_5 : decode c_Strata_init 5 = .ok (.new 9, 3) := by decide +kernel
theorem d_Strata_init_8 : decode c_Strata_init 8 = .ok (.dup, 1) := by decide +kernel
theorem d_Strata_init_9 : decode c_Strata_init 9 = .ok (.bipush 48, 2) := by decide +kernel
theorem d_Strata_init_11 : decode c_Strata_init 11 = .ok (.invokespecial 11, 3) := by decide +kernel
theorem d_Strata_init_14 : decode c_Strata_init 14 = .ok (.putfield 14, 3) := by decide +kernel
theorem d_Strata_init_17 : decode c_Strata_init 17 = .ok (.aload_n 0, 1) := by decide +kernel
theorem d_Strata_init_18 : decode c_Strata_init 18 = .ok (.new 20, 3) := by decide +kernel
theorem d_Strata_init_21 : decode c_Strata_init 21 = .ok (.dup, 1) := by decide +kernel
theorem d_Strata_init_22 : decode c_Strata_init 22 = .ok (.bipush 48, 2) := by decide +kernel
theorem d_Strata_init_24 : decode c_Strata_init 24 = .ok (.invokespecial 22, 3) := by decide +kernel
theorem d_Strata_init_27 : decode c_Strata_init 27 = .ok (.putfield 23, 3) := by decide +kernel
theorem d_Strata_init_30 : decode c_Strata_init 30 = .ok (.aload_n 0, 1) := by decide +kernel
theorem d_Strata_init_31 : decode c_Strata_init 31 = .ok (.new 20, 3) := by decide +kernel
theorem d_Strata_init_34 : decode c_Strata_init 34 = .ok (.dup, 1) := by decide +kernel
theorem d_Strata_init_35 : decode c_Strata_init 35 = .ok (.bipush 48, 2) := by decide +kernel
theorem d_Strata_init_37 : decode c_Strata_init 37 = .ok (.invokespecial 22, 3) := by decide +kernel
theorem d_Strata_init_40 : decode c_Strata_init 40 = .ok (.putfield 27, 3) := by decide +kernel
theorem d_Strata_init_43 : decode c_Strata_init 43 = .ok (.aload_n 0, 1) := by decide +kernel
theorem d_Strata_init_44 : decode c_Strata_init 44 = .ok (.iconst 0, 1) := by decide +kernel
theorem d_Strata_init_45 : decode c_Strata_init 45 = .ok (.putfield 30, 3) := by decide +kernel
theorem d_Strata_init_48 : decode c_Strata_init 48 = .ok (.return_, 1) := by decide +kernel
theorem d_Strata_contexts_0 : decode c_Strata_contexts 0 = .ok (.aload_n 0, 1) := by decide +kernel
theorem d_Strata_contexts_1 : decode c_Strata_contexts 1 = .ok (.getfield 30, 3) := by decide +kernel
theorem d_Strata_contexts_4 : decode c_Strata_contexts 4 = .ok (.ireturn, 1) := by decide +kernel
theorem d_Strata_addContext_0 : decode c_Strata_addContext 0 = .ok (.aload_n 0, 1) := by decide +kernel
theorem d_Strata_addContext_1 : decode c_Strata_addContext 1 = .ok (.getfield 14, 3) := by decide +kernel
theorem d_Strata_addContext_4 : decode c_Strata_addContext 4 = .ok (.aload_n 0, 1) := by decide +kernel
theorem d_Strata_addContext_5 : decode c_Strata_addContext 5 = .ok (.getfield 30, 3) := by decide +kernel
theorem d_Strata_addContext_8 : decode c_Strata_addContext 8 = .ok (.aload_n 0, 1) := by decide +kernel
theorem d_Strata_addContext_9 : decode c_Strata_addContext 9 = .ok (.getfield 30, 3) := by decide +kernel
theorem d_Strata_addContext_12 : decode c_Strata_addContext 12 = .ok (.invokevirtual 34, 3) := by decide +kernel
theorem d_Strata_addContext_15 : decode c_Strata_addContext 15 = .ok (.aload_n 0, 1) := by decide +kernel
theorem d_Strata_addContext_16 : decode c_Strata_addContext 16 = .ok (.dup, 1) := by decide +kernel
theorem d_Strata_addContext_17 : decode c_Strata_addContext 17 = .ok (.getfield 30, 3) := by decide +kernel
theorem d_Strata_addContext_20 : decode c_Strata_addContext 20 = .ok (.iconst 1, 1) := by decide +kernel
theorem d_Strata_addContext_21 : decode c_Strata_addContext 21 = .ok (.iadd, 1) := by decide +kernel
theorem d_Strata_addContext_22 : decode c_Strata_addContext 22 = .ok (.putfield 30, 3) := by decide +kernel
theorem d_Strata_addContext_25 : decode c_Strata_addContext 25 = .ok (.aload_n 0, 1) := by decide +kernel
theorem d_Strata_addContext_26 : decode c_Strata_addContext 26 = .ok (.getfield 30, 3) := by decide +kernel
theorem d_Strata_addContext_29 : decode c_Strata_addContext 29 = .ok (.iconst 1, 1) := by decide +kernel
theorem d_Strata_addContext_30 : decode c_Strata_addContext 30 = .ok (.isub, 1) := by decide +kernel
theorem d_Strata_addContext_31 : decode c_Strata_addContext 31 = .ok (.ireturn, 1) := by decide +kernel
theorem d_Strata_numberOf_0 : decode c_Strata_numberOf 0 = .ok (.aload_n 0, 1) := by decide +kernel
theorem d_Strata_numberOf_1 : decode c_Strata_numberOf 1 = .ok (.getfield 14, 3) := by decide +kernel
theorem d_Strata_numberOf_4 : decode c_Strata_numberOf 4 = .ok (.iload_n 1, 1) := by decide +kernel
theorem d_Strata_numberOf_5 : decode c_Strata_numberOf 5 = .ok (.invokevirtual 38, 3) := by decide +kernel
theorem d_Strata_numberOf_8 : decode c_Strata_numberOf 8 = .ok (.ireturn, 1) := by decide +kernel
theorem d_Strata_isOver_0 : decode c_Strata_isOver 0 = .ok (.aload_n 0, 1) := by decide +kernel
theorem d_Strata_isOver_1 : decode c_Strata_isOver 1 = .ok (.getfield 27, 3) := by decide +kernel
theorem d_Strata_isOver_4 : decode c_Strata_isOver 4 = .ok (.aload_n 0, 1) := by decide +kernel
theorem d_Strata_isOver_5 : decode c_Strata_isOver 5 = .ok (.getfield 14, 3) := by decide +kernel
theorem d_Strata_isOver_8 : decode c_Strata_isOver 8 = .ok (.iload_n 1, 1) := by decide +kernel
theorem d_Strata_isOver_9 : decode c_Strata_isOver 9 = .ok (.invokevirtual 38, 3) := by decide +kernel
theorem d_Strata_isOver_12 : decode c_Strata_isOver 12 = .ok (.aload_n 0, 1) := by decide +kernel
theorem d_Strata_isOver_13 : decode c_Strata_isOver 13 = .ok (.getfield 14, 3) := by decide +kernel
theorem d_Strata_isOver_16 : decode c_Strata_isOver 16 = .ok (.iload_n 2, 1) := by decide +kernel
theorem d_Strata_isOver_17 : decode c_Strata_isOver 17 = .ok (.invokevirtual 38, 3) := by decide +kernel
theorem d_Strata_isOver_20 : decode c_Strata_isOver 20 = .ok (.invokevirtual 42, 3) := by decide +kernel
theorem d_Strata_isOver_23 : decode c_Strata_isOver 23 = .ok (.ireturn, 1) := by decide +kernel
theorem d_Strata_rebuild_0 : decode c_Strata_rebuild 0 = .ok (.aload_n 0, 1) := by decide +kernel
theorem d_Strata_rebuild_1 : decode c_Strata_rebuild 1 = .ok (.aload_n 1, 1) := by decide +kernel
theorem d_Strata_rebuild_2 : decode c_Strata_rebuild 2 = .ok (.invokevirtual 46, 3) := by decide +kernel
theorem d_Strata_rebuild_5 : decode c_Strata_rebuild 5 = .ok (.aload_n 0, 1) := by decide +kernel
theorem d_Strata_rebuild_6 : decode c_Strata_rebuild 6 = .ok (.getfield 23, 3) := by decide +kernel
theorem d_Strata_rebuild_9 : decode c_Strata_rebuild 9 = .ok (.invokevirtual 50, 3) := by decide +kernel
theorem d_Strata_rebuild_12 : decode c_Strata_rebuild 12 = .ok (.iconst 0, 1) := by decide +kernel
theorem d_Strata_rebuild_13 : decode c_Strata_rebuild 13 = .ok (.istore_n 2, 1) := by decide +kernel
theorem d_Strata_rebuild_14 : decode c_Strata_rebuild 14 = .ok (.iload_n 2, 1) := by decide +kernel
theorem d_Strata_rebuild_15 : decode c_Strata_rebuild 15 = .ok (.aload_n 1, 1) := by decide +kernel
theorem d_Strata_rebuild_16 : decode c_Strata_rebuild 16 = .ok (.invokevirtual 53, 3) := by decide +kernel
theorem d_Strata_rebuild_19 : decode c_Strata_rebuild 19 = .ok (.if_icmp .ge 55, 3) := by decide +kernel
theorem d_Strata_rebuild_22 : decode c_Strata_rebuild 22 = .ok (.aload_n 1, 1) := by decide +kernel
theorem d_Strata_rebuild_23 : decode c_Strata_rebuild 23 = .ok (.iload_n 2, 1) := by decide +kernel
theorem d_Strata_rebuild_24 : decode c_Strata_rebuild 24 = .ok (.invokevirtual 59, 3) := by decide +kernel
theorem d_Strata_rebuild_27 : decode c_Strata_rebuild 27 = .ok (.istore_n 3, 1) := by decide +kernel
theorem d_Strata_rebuild_28 : decode c_Strata_rebuild 28 = .ok (.iload_n 3, 1) := by decide +kernel
theorem d_Strata_rebuild_29 : decode c_Strata_rebuild 29 = .ok (.ifCond .lt 39, 3) := by decide +kernel
theorem d_Strata_rebuild_32 : decode c_Strata_rebuild 32 = .ok (.iload_n 3, 1) := by decide +kernel
theorem d_Strata_rebuild_33 : decode c_Strata_rebuild 33 = .ok (.iconst 3, 1) := by decide +kernel
theorem d_Strata_rebuild_34 : decode c_Strata_rebuild 34 = .ok (.if_icmp .ge 34, 3) := by decide +kernel
theorem d_Strata_rebuild_37 : decode c_Strata_rebuild 37 = .ok (.aload_n 0, 1) := by decide +kernel
theorem d_Strata_rebuild_38 : decode c_Strata_rebuild 38 = .ok (.getfield 23, 3) := by decide +kernel
theorem d_Strata_rebuild_41 : decode c_Strata_rebuild 41 = .ok (.aload_n 0, 1) := by decide +kernel
theorem d_Strata_rebuild_42 : decode c_Strata_rebuild 42 = .ok (.getfield 14, 3) := by decide +kernel
theorem d_Strata_rebuild_45 : decode c_Strata_rebuild 45 = .ok (.aload_n 1, 1) := by decide +kernel
theorem d_Strata_rebuild_46 : decode c_Strata_rebuild 46 = .ok (.iload_n 2, 1) := by decide +kernel
theorem d_Strata_rebuild_47 : decode c_Strata_rebuild 47 = .ok (.invokevirtual 62, 3) := by decide +kernel
theorem d_Strata_rebuild_50 : decode c_Strata_rebuild 50 = .ok (.invokevirtual 38, 3) := by decide +kernel
theorem d_Strata_rebuild_53 : decode c_Strata_rebuild 53 = .ok (.aload_n 0, 1) := by decide +kernel
theorem d_Strata_rebuild_54 : decode c_Strata_rebuild 54 = .ok (.getfield 14, 3) := by decide +kernel
theorem d_Strata_rebuild_57 : decode c_Strata_rebuild 57 = .ok (.aload_n 1, 1) := by decide +kernel
theorem d_Strata_rebuild_58 : decode c_Strata_rebuild 58 = .ok (.iload_n 2, 1) := by decide +kernel
theorem d_Strata_rebuild_59 : decode c_Strata_rebuild 59 = .ok (.invokevirtual 65, 3) := by decide +kernel
theorem d_Strata_rebuild_62 : decode c_Strata_rebuild 62 = .ok (.invokevirtual 38, 3) := by decide +kernel
theorem d_Strata_rebuild_65 : decode c_Strata_rebuild 65 = .ok (.invokevirtual 68, 3) := by decide +kernel
theorem d_Strata_rebuild_68 : decode c_Strata_rebuild 68 = .ok (.iinc 2 1, 3) := by decide +kernel
theorem d_Strata_rebuild_71 : decode c_Strata_rebuild 71 = .ok (.goto (-57), 3) := by decide +kernel
theorem d_Strata_rebuild_74 : decode c_Strata_rebuild 74 = .ok (.aload_n 0, 1) := by decide +kernel
theorem d_Strata_rebuild_75 : decode c_Strata_rebuild 75 = .ok (.getfield 27, 3) := by decide +kernel
theorem d_Strata_rebuild_78 : decode c_Strata_rebuild 78 = .ok (.aload_n 0, 1) := by decide +kernel
theorem d_Strata_rebuild_79 : decode c_Strata_rebuild 79 = .ok (.getfield 23, 3) := by decide +kernel
theorem d_Strata_rebuild_82 : decode c_Strata_rebuild 82 = .ok (.invokevirtual 71, 3) := by decide +kernel
theorem d_Strata_rebuild_85 : decode c_Strata_rebuild 85 = .ok (.return_, 1) := by decide +kernel
theorem d_Strata_join_0 : decode c_Strata_join 0 = .ok (.iconst 0, 1) := by decide +kernel
theorem d_Strata_join_1 : decode c_Strata_join 1 = .ok (.istore_n 2, 1) := by decide +kernel
theorem d_Strata_join_2 : decode c_Strata_join 2 = .ok (.iload_n 2, 1) := by decide +kernel
theorem d_Strata_join_3 : decode c_Strata_join 3 = .ok (.aload_n 0, 1) := by decide +kernel
theorem d_Strata_join_4 : decode c_Strata_join 4 = .ok (.getfield 30, 3) := by decide +kernel
theorem d_Strata_join_7 : decode c_Strata_join 7 = .ok (.if_icmp .ge 18, 3) := by decide +kernel
theorem d_Strata_join_10 : decode c_Strata_join 10 = .ok (.aload_n 0, 1) := by decide +kernel
theorem d_Strata_join_11 : decode c_Strata_join 11 = .ok (.getfield 14, 3) := by decide +kernel
theorem d_Strata_join_14 : decode c_Strata_join 14 = .ok (.iload_n 2, 1) := by decide +kernel
theorem d_Strata_join_15 : decode c_Strata_join 15 = .ok (.iload_n 2, 1) := by decide +kernel
theorem d_Strata_join_16 : decode c_Strata_join 16 = .ok (.invokevirtual 34, 3) := by decide +kernel
theorem d_Strata_join_19 : decode c_Strata_join 19 = .ok (.iinc 2 1, 3) := by decide +kernel
theorem d_Strata_join_22 : decode c_Strata_join 22 = .ok (.goto (-20), 3) := by decide +kernel
theorem d_Strata_join_25 : decode c_Strata_join 25 = .ok (.iconst 0, 1) := by decide +kernel
theorem d_Strata_join_26 : decode c_Strata_join 26 = .ok (.istore_n 2, 1) := by decide +kernel
theorem d_Strata_join_27 : decode c_Strata_join 27 = .ok (.iload_n 2, 1) := by decide +kernel
theorem d_Strata_join_28 : decode c_Strata_join 28 = .ok (.aload_n 1, 1) := by decide +kernel
theorem d_Strata_join_29 : decode c_Strata_join 29 = .ok (.invokevirtual 53, 3) := by decide +kernel
theorem d_Strata_join_32 : decode c_Strata_join 32 = .ok (.if_icmp .ge 64, 3) := by decide +kernel
theorem d_Strata_join_35 : decode c_Strata_join 35 = .ok (.aload_n 1, 1) := by decide +kernel
theorem d_Strata_join_36 : decode c_Strata_join 36 = .ok (.iload_n 2, 1) := by decide +kernel
theorem d_Strata_join_37 : decode c_Strata_join 37 = .ok (.invokevirtual 59, 3) := by decide +kernel
theorem d_Strata_join_40 : decode c_Strata_join 40 = .ok (.iconst 3, 1) := by decide +kernel
theorem d_Strata_join_41 : decode c_Strata_join 41 = .ok (.if_icmp .ne 49, 3) := by decide +kernel
theorem d_Strata_join_44 : decode c_Strata_join 44 = .ok (.aload_n 0, 1) := by decide +kernel
theorem d_Strata_join_45 : decode c_Strata_join 45 = .ok (.getfield 14, 3) := by decide +kernel
theorem d_Strata_join_48 : decode c_Strata_join 48 = .ok (.aload_n 1, 1) := by decide +kernel
theorem d_Strata_join_49 : decode c_Strata_join 49 = .ok (.iload_n 2, 1) := by decide +kernel
theorem d_Strata_join_50 : decode c_Strata_join 50 = .ok (.invokevirtual 62, 3) := by decide +kernel
theorem d_Strata_join_53 : decode c_Strata_join 53 = .ok (.invokevirtual 38, 3) := by decide +kernel
theorem d_Strata_join_56 : decode c_Strata_join 56 = .ok (.istore_n 3, 1) := by decide +kernel
theorem d_Strata_join_57 : decode c_Strata_join 57 = .ok (.aload_n 0, 1) := by decide +kernel
theorem d_Strata_join_58 : decode c_Strata_join 58 = .ok (.getfield 14, 3) := by decide +kernel
theorem d_Strata_join_61 : decode c_Strata_join 61 = .ok (.aload_n 1, 1) := by decide +kernel
theorem d_Strata_join_62 : decode c_Strata_join 62 = .ok (.iload_n 2, 1) := by decide +kernel
theorem d_Strata_join_63 : decode c_Strata_join 63 = .ok (.invokevirtual 65, 3) := by decide +kernel
theorem d_Strata_join_66 : decode c_Strata_join 66 = .ok (.invokevirtual 38, 3) := by decide +kernel
theorem d_Strata_join_69 : decode c_Strata_join 69 = .ok (.istore 4, 2) := by decide +kernel
theorem d_Strata_join_71 : decode c_Strata_join 71 = .ok (.aload_n 0, 1) := by decide +kernel
theorem d_Strata_join_72 : decode c_Strata_join 72 = .ok (.getfield 14, 3) := by decide +kernel
theorem d_Strata_join_75 : decode c_Strata_join 75 = .ok (.iload_n 3, 1) := by decide +kernel
theorem d_Strata_join_76 : decode c_Strata_join 76 = .ok (.iload 4, 2) := by decide +kernel
theorem d_Strata_join_78 : decode c_Strata_join 78 = .ok (.invokestatic 75, 3) := by decide +kernel
theorem d_Strata_join_81 : decode c_Strata_join 81 = .ok (.iload_n 3, 1) := by decide +kernel
theorem d_Strata_join_82 : decode c_Strata_join 82 = .ok (.iload 4, 2) := by decide +kernel
theorem d_Strata_join_84 : decode c_Strata_join 84 = .ok (.invokestatic 81, 3) := by decide +kernel
theorem d_Strata_join_87 : decode c_Strata_join 87 = .ok (.invokevirtual 84, 3) := by decide +kernel
theorem d_Strata_join_90 : decode c_Strata_join 90 = .ok (.iinc 2 1, 3) := by decide +kernel
theorem d_Strata_join_93 : decode c_Strata_join 93 = .ok (.goto (-66), 3) := by decide +kernel
theorem d_Strata_join_96 : decode c_Strata_join 96 = .ok (.return_, 1) := by decide +kernel
theorem d_Strata_tellRingWith_0 : decode c_Strata_tellRingWith 0 = .ok (.aload_n 0, 1) := by decide +kernel
theorem d_Strata_tellRingWith_1 : decode c_Strata_tellRingWith 1 = .ok (.getfield 23, 3) := by decide +kernel
theorem d_Strata_tellRingWith_4 : decode c_Strata_tellRingWith 4 = .ok (.iload_n 1, 1) := by decide +kernel
theorem d_Strata_tellRingWith_5 : decode c_Strata_tellRingWith 5 = .ok (.invokevirtual 87, 3) := by decide +kernel
theorem d_Strata_tellRingWith_8 : decode c_Strata_tellRingWith 8 = .ok (.lstore 5, 2) := by decide +kernel
theorem d_Strata_tellRingWith_10 : decode c_Strata_tellRingWith 10 = .ok (.aload_n 0, 1) := by decide +kernel
theorem d_Strata_tellRingWith_11 : decode c_Strata_tellRingWith 11 = .ok (.getfield 23, 3) := by decide +kernel
theorem d_Strata_tellRingWith_14 : decode c_Strata_tellRingWith 14 = .ok (.iload_n 1, 1) := by decide +kernel
theorem d_Strata_tellRingWith_15 : decode c_Strata_tellRingWith 15 = .ok (.iload_n 2, 1) := by decide +kernel
theorem d_Strata_tellRingWith_16 : decode c_Strata_tellRingWith 16 = .ok (.invokevirtual 68, 3) := by decide +kernel
theorem d_Strata_tellRingWith_19 : decode c_Strata_tellRingWith 19 = .ok (.aload 4, 2) := by decide +kernel
theorem d_Strata_tellRingWith_21 : decode c_Strata_tellRingWith 21 = .ok (.aload_n 0, 1) := by decide +kernel
theorem d_Strata_tellRingWith_22 : decode c_Strata_tellRingWith 22 = .ok (.getfield 23, 3) := by decide +kernel
theorem d_Strata_tellRingWith_25 : decode c_Strata_tellRingWith 25 = .ok (.iload_n 3, 1) := by decide +kernel
theorem d_Strata_tellRingWith_26 : decode c_Strata_tellRingWith 26 = .ok (.invokevirtual 91, 3) := by decide +kernel
theorem d_Strata_tellRingWith_29 : decode c_Strata_tellRingWith 29 = .ok (.istore 7, 2) := by decide +kernel
theorem d_Strata_tellRingWith_31 : decode c_Strata_tellRingWith 31 = .ok (.aload_n 0, 1) := by decide +kernel
theorem d_Strata_tellRingWith_32 : decode c_Strata_tellRingWith 32 = .ok (.getfield 23, 3) := by decide +kernel
theorem d_Strata_tellRingWith_35 : decode c_Strata_tellRingWith 35 = .ok (.iload_n 1, 1) := by decide +kernel
theorem d_Strata_tellRingWith_36 : decode c_Strata_tellRingWith 36 = .ok (.lload 5, 2) := by decide +kernel
theorem d_Strata_tellRingWith_38 : decode c_Strata_tellRingWith 38 = .ok (.invokevirtual 97, 3) := by decide +kernel
theorem d_Strata_tellRingWith_41 : decode c_Strata_tellRingWith 41 = .ok (.iload 7, 2) := by decide +kernel
theorem d_Strata_tellRingWith_43 : decode c_Strata_tellRingWith 43 = .ok (.ireturn, 1) := by decide +kernel
theorem d_Strata_areJoined_0 : decode c_Strata_areJoined 0 = .ok (.aload_n 0, 1) := by decide +kernel
theorem d_Strata_areJoined_1 : decode c_Strata_areJoined 1 = .ok (.getfield 14, 3) := by decide +kernel
theorem d_Strata_areJoined_4 : decode c_Strata_areJoined 4 = .ok (.iload_n 1, 1) := by decide +kernel
theorem d_Strata_areJoined_5 : decode c_Strata_areJoined 5 = .ok (.invokevirtual 38, 3) := by decide +kernel
theorem d_Strata_areJoined_8 : decode c_Strata_areJoined 8 = .ok (.aload_n 0, 1) := by decide +kernel
theorem d_Strata_areJoined_9 : decode c_Strata_areJoined 9 = .ok (.getfield 14, 3) := by decide +kernel
theorem d_Strata_areJoined_12 : decode c_Strata_areJoined 12 = .ok (.iload_n 2, 1) := by decide +kernel
theorem d_Strata_areJoined_13 : decode c_Strata_areJoined 13 = .ok (.invokevirtual 38, 3) := by decide +kernel
theorem d_Strata_areJoined_16 : decode c_Strata_areJoined 16 = .ok (.if_icmp .ne 7, 3) := by decide +kernel
theorem d_Strata_areJoined_19 : decode c_Strata_areJoined 19 = .ok (.iconst 1, 1) := by decide +kernel
theorem d_Strata_areJoined_20 : decode c_Strata_areJoined 20 = .ok (.goto 4, 3) := by decide +kernel
theorem d_Strata_areJoined_23 : decode c_Strata_areJoined 23 = .ok (.iconst 0, 1) := by decide +kernel
theorem d_Strata_areJoined_24 : decode c_Strata_areJoined 24 = .ok (.ireturn, 1) := by decide +kernel
theorem d_Strata_areContemporary_0 : decode c_Strata_areContemporary 0 = .ok (.aload_n 0, 1) := by decide +kernel
theorem d_Strata_areContemporary_1 : decode c_Strata_areContemporary 1 = .ok (.iload_n 1, 1) := by decide +kernel
theorem d_Strata_areContemporary_2 : decode c_Strata_areContemporary 2 = .ok (.iload_n 2, 1) := by decide +kernel
theorem d_Strata_areContemporary_3 : decode c_Strata_areContemporary 3 = .ok (.invokevirtual 100, 3) := by decide +kernel
theorem d_Strata_areContemporary_6 : decode c_Strata_areContemporary 6 = .ok (.ifCond .eq 5, 3) := by decide +kernel
theorem d_Strata_areContemporary_9 : decode c_Strata_areContemporary 9 = .ok (.iconst 1, 1) := by decide +kernel
theorem d_Strata_areContemporary_10 : decode c_Strata_areContemporary 10 = .ok (.ireturn, 1) := by decide +kernel
theorem d_Strata_areContemporary_11 : decode c_Strata_areContemporary 11 = .ok (.iconst 0, 1) := by decide +kernel
theorem d_Strata_areContemporary_12 : decode c_Strata_areContemporary 12 = .ok (.istore 4, 2) := by decide +kernel
theorem d_Strata_areContemporary_14 : decode c_Strata_areContemporary 14 = .ok (.iload 4, 2) := by decide +kernel
theorem d_Strata_areContemporary_16 : decode c_Strata_areContemporary 16 = .ok (.aload_n 3, 1) := by decide +kernel
theorem d_Strata_areContemporary_17 : decode c_Strata_areContemporary 17 = .ok (.invokevirtual 53, 3) := by decide +kernel
theorem d_Strata_areContemporary_20 : decode c_Strata_areContemporary 20 = .ok (.if_icmp .ge 77, 3) := by decide +kernel
theorem d_Strata_areContemporary_23 : decode c_Strata_areContemporary 23 = .ok (.aload_n 3, 1) := by decide +kernel
theorem d_Strata_areContemporary_24 : decode c_Strata_areContemporary 24 = .ok (.iload 4, 2) := by decide +kernel
theorem d_Strata_areContemporary_26 : decode c_Strata_areContemporary 26 = .ok (.invokevirtual 59, 3) := by decide +kernel
theorem d_Strata_areContemporary_29 : decode c_Strata_areContemporary 29 = .ok (.iconst 4, 1) := by decide +kernel
theorem d_Strata_areContemporary_30 : decode c_Strata_areContemporary 30 = .ok (.if_icmp .ne 61, 3) := by decide +kernel
theorem d_Strata_areContemporary_33 : decode c_Strata_areContemporary 33 = .ok (.aload_n 3, 1) := by decide +kernel
theorem d_Strata_areContemporary_34 : decode c_Strata_areContemporary 34 = .ok (.iload 4, 2) := by decide +kernel
theorem d_Strata_areContemporary_36 : decode c_Strata_areContemporary 36 = .ok (.invokevirtual 62, 3) := by decide +kernel
theorem d_Strata_areContemporary_39 : decode c_Strata_areContemporary 39 = .ok (.istore 5, 2) := by decide +kernel
theorem d_Strata_areContemporary_41 : decode c_Strata_areContemporary 41 = .ok (.aload_n 3, 1) := by decide +kernel
theorem d_Strata_areContemporary_42 : decode c_Strata_areContemporary 42 = .ok (.iload 4, 2) := by decide +kernel
theorem d_Strata_areContemporary_44 : decode c_Strata_areContemporary 44 = .ok (.invokevirtual 65, 3) := by decide +kernel
theorem d_Strata_areContemporary_47 : decode c_Strata_areContemporary 47 = .ok (.istore 6, 2) := by decide +kernel
theorem d_Strata_areContemporary_49 : decode c_Strata_areContemporary 49 = .ok (.aload_n 0, 1) := by decide +kernel
theorem d_Strata_areContemporary_50 : decode c_Strata_areContemporary 50 = .ok (.iload_n 1, 1) := by decide +kernel
theorem d_Strata_areContemporary_51 : decode c_Strata_areContemporary 51 = .ok (.iload 5, 2) := by decide +kernel
theorem d_Strata_areContemporary_53 : decode c_Strata_areContemporary 53 = .ok (.invokevirtual 100, 3) := by decide +kernel
theorem d_Strata_areContemporary_56 : decode c_Strata_areContemporary 56 = .ok (.ifCond .eq 13, 3) := by decide +kernel
theorem d_Strata_areContemporary_59 : decode c_Strata_areContemporary 59 = .ok (.aload_n 0, 1) := by decide +kernel
theorem d_Strata_areContemporary_60 : decode c_Strata_areContemporary 60 = .ok (.iload_n 2, 1) := by decide +kernel
theorem d_Strata_areContemporary_61 : decode c_Strata_areContemporary 61 = .ok (.iload 6, 2) := by decide +kernel
theorem d_Strata_areContemporary_63 : decode c_Strata_areContemporary 63 = .ok (.invokevirtual 100, 3) := by decide +kernel
theorem d_Strata_areContemporary_66 : decode c_Strata_areContemporary 66 = .ok (.ifCond .ne 23, 3) := by decide +kernel
theorem d_Strata_areContemporary_69 : decode c_Strata_areContemporary 69 = .ok (.aload_n 0, 1) := by decide +kernel
theorem d_Strata_areContemporary_70 : decode c_Strata_areContemporary 70 = .ok (.iload_n 1, 1) := by decide +kernel
theorem d_Strata_areContemporary_71 : decode c_Strata_areContemporary 71 = .ok (.iload 6, 2) := by decide +kernel
theorem d_Strata_areContemporary_73 : decode c_Strata_areContemporary 73 = .ok (.invokevirtual 100, 3) := by decide +kernel
theorem d_Strata_areContemporary_76 : decode c_Strata_areContemporary 76 = .ok (.ifCond .eq 15, 3) := by decide +kernel
theorem d_Strata_areContemporary_79 : decode c_Strata_areContemporary 79 = .ok (.aload_n 0, 1) := by decide +kernel
theorem d_Strata_areContemporary_80 : decode c_Strata_areContemporary 80 = .ok (.iload_n 2, 1) := by decide +kernel
theorem d_Strata_areContemporary_81 : decode c_Strata_areContemporary 81 = .ok (.iload 5, 2) := by decide +kernel
theorem d_Strata_areContemporary_83 : decode c_Strata_areContemporary 83 = .ok (.invokevirtual 100, 3) := by decide +kernel
theorem d_Strata_areContemporary_86 : decode c_Strata_areContemporary 86 = .ok (.ifCond .eq 5, 3) := by decide +kernel
theorem d_Strata_areContemporary_89 : decode c_Strata_areContemporary 89 = .ok (.iconst 1, 1) := by decide +kernel
theorem d_Strata_areContemporary_90 : decode c_Strata_areContemporary 90 = .ok (.ireturn, 1) := by decide +kernel
theorem d_Strata_areContemporary_91 : decode c_Strata_areContemporary 91 = .ok (.iinc 4 1, 3) := by decide +kernel
theorem d_Strata_areContemporary_94 : decode c_Strata_areContemporary 94 = .ok (.goto (-80), 3) := by decide +kernel
theorem d_Strata_areContemporary_97 : decode c_Strata_areContemporary 97 = .ok (.iconst 0, 1) := by decide +kernel
theorem d_Strata_areContemporary_98 : decode c_Strata_areContemporary 98 = .ok (.ireturn, 1) := by decide +kernel
theorem d_Strata_linksUnder_0 : decode c_Strata_linksUnder 0 = .ok (.aload_n 0, 1) := by decide +kernel
theorem d_Strata_linksUnder_1 : decode c_Strata_linksUnder 1 = .ok (.getfield 27, 3) := by decide +kernel
theorem d_Strata_linksUnder_4 : decode c_Strata_linksUnder 4 = .ok (.iload_n 1, 1) := by decide +kernel
theorem d_Strata_linksUnder_5 : decode c_Strata_linksUnder 5 = .ok (.invokevirtual 87, 3) := by decide +kernel
theorem d_Strata_linksUnder_8 : decode c_Strata_linksUnder 8 = .ok (.lstore_n 2, 1) := by decide +kernel
theorem d_Strata_linksUnder_9 : decode c_Strata_linksUnder 9 = .ok (.lconst 0, 1) := by decide +kernel
theorem d_Strata_linksUnder_10 : decode c_Strata_linksUnder 10 = .ok (.lstore 4, 2) := by decide +kernel
theorem d_Strata_linksUnder_12 : decode c_Strata_linksUnder 12 = .ok (.iconst 0, 1) := by decide +kernel
theorem d_Strata_linksUnder_13 : decode c_Strata_linksUnder 13 = .ok (.istore 6, 2) := by decide +kernel
theorem d_Strata_linksUnder_15 : decode c_Strata_linksUnder 15 = .ok (.iload 6, 2) := by decide +kernel
theorem d_Strata_linksUnder_17 : decode c_Strata_linksUnder 17 = .ok (.aload_n 0, 1) := by decide +kernel
theorem d_Strata_linksUnder_18 : decode c_Strata_linksUnder 18 = .ok (.getfield 30, 3) := by decide +kernel
theorem d_Strata_linksUnder_21 : decode c_Strata_linksUnder 21 = .ok (.if_icmp .ge 36, 3) := by decide +kernel
theorem d_Strata_linksUnder_24 : decode c_Strata_linksUnder 24 = .ok (.aload_n 0, 1) := by decide +kernel
theorem d_Strata_linksUnder_25 : decode c_Strata_linksUnder 25 = .ok (.getfield 27, 3) := by decide +kernel
theorem d_Strata_linksUnder_28 : decode c_Strata_linksUnder 28 = .ok (.iload_n 1, 1) := by decide +kernel
theorem d_Strata_linksUnder_29 : decode c_Strata_linksUnder 29 = .ok (.iload 6, 2) := by decide +kernel
theorem d_Strata_linksUnder_31 : decode c_Strata_linksUnder 31 = .ok (.invokevirtual 42, 3) := by decide +kernel
theorem d_Strata_linksUnder_34 : decode c_Strata_linksUnder 34 = .ok (.ifCond .eq 17, 3) := by decide +kernel
theorem d_Strata_linksUnder_37 : decode c_Strata_linksUnder 37 = .ok (.lload 4, 2) := by decide +kernel
theorem d_Strata_linksUnder_39 : decode c_Strata_linksUnder 39 = .ok (.aload_n 0, 1) := by decide +kernel
theorem d_Strata_linksUnder_40 : decode c_Strata_linksUnder 40 = .ok (.getfield 27, 3) := by decide +kernel
theorem d_Strata_linksUnder_43 : decode c_Strata_linksUnder 43 = .ok (.iload 6, 2) := by decide +kernel
theorem d_Strata_linksUnder_45 : decode c_Strata_linksUnder 45 = .ok (.invokevirtual 87, 3) := by decide +kernel
theorem d_Strata_linksUnder_48 : decode c_Strata_linksUnder 48 = .ok (.lor, 1) := by decide +kernel
theorem d_Strata_linksUnder_49 : decode c_Strata_linksUnder 49 = .ok (.lstore 4, 2) := by decide +kernel
theorem d_Strata_linksUnder_51 : decode c_Strata_linksUnder 51 = .ok (.iinc 6 1, 3) := by decide +kernel
theorem d_Strata_linksUnder_54 : decode c_Strata_linksUnder 54 = .ok (.goto (-39), 3) := by decide +kernel
theorem d_Strata_linksUnder_57 : decode c_Strata_linksUnder 57 = .ok (.lload_n 2, 1) := by decide +kernel
theorem d_Strata_linksUnder_58 : decode c_Strata_linksUnder 58 = .ok (.lload 4, 2) := by decide +kernel
theorem d_Strata_linksUnder_60 : decode c_Strata_linksUnder 60 = .ok (.ldc2_w 103, 3) := by decide +kernel
theorem d_Strata_linksUnder_63 : decode c_Strata_linksUnder 63 = .ok (.lxor, 1) := by decide +kernel
theorem d_Strata_linksUnder_64 : decode c_Strata_linksUnder 64 = .ok (.land, 1) := by decide +kernel
theorem d_Strata_linksUnder_65 : decode c_Strata_linksUnder 65 = .ok (.lreturn, 1) := by decide +kernel
theorem d_Strata_linkCount_0 : decode c_Strata_linkCount 0 = .ok (.iconst 0, 1) := by decide +kernel
theorem d_Strata_linkCount_1 : decode c_Strata_linkCount 1 = .ok (.istore_n 1, 1) := by decide +kernel
theorem d_Strata_linkCount_2 : decode c_Strata_linkCount 2 = .ok (.iconst 0, 1) := by decide +kernel
theorem d_Strata_linkCount_3 : decode c_Strata_linkCount 3 = .ok (.istore_n 2, 1) := by decide +kernel
theorem d_Strata_linkCount_4 : decode c_Strata_linkCount 4 = .ok (.iload_n 2, 1) := by decide +kernel
theorem d_Strata_linkCount_5 : decode c_Strata_linkCount 5 = .ok (.aload_n 0, 1) := by decide +kernel
theorem d_Strata_linkCount_6 : decode c_Strata_linkCount 6 = .ok (.getfield 30, 3) := by decide +kernel
theorem d_Strata_linkCount_9 : decode c_Strata_linkCount 9 = .ok (.if_icmp .ge 20, 3) := by decide +kernel
theorem d_Strata_linkCount_12 : decode c_Strata_linkCount 12 = .ok (.iload_n 1, 1) := by decide +kernel
theorem d_Strata_linkCount_13 : decode c_Strata_linkCount 13 = .ok (.aload_n 0, 1) := by decide +kernel
theorem d_Strata_linkCount_14 : decode c_Strata_linkCount 14 = .ok (.iload_n 2, 1) := by decide +kernel
theorem d_Strata_linkCount_15 : decode c_Strata_linkCount 15 = .ok (.invokevirtual 105, 3) := by decide +kernel
theorem d_Strata_linkCount_18 : decode c_Strata_linkCount 18 = .ok (.invokestatic 108, 3) := by decide +kernel
theorem d_Strata_linkCount_21 : decode c_Strata_linkCount 21 = .ok (.iadd, 1) := by decide +kernel
theorem d_Strata_linkCount_22 : decode c_Strata_linkCount 22 = .ok (.istore_n 1, 1) := by decide +kernel
theorem d_Strata_linkCount_23 : decode c_Strata_linkCount 23 = .ok (.iinc 2 1, 3) := by decide +kernel
theorem d_Strata_linkCount_26 : decode c_Strata_linkCount 26 = .ok (.goto (-22), 3) := by decide +kernel
theorem d_Strata_linkCount_29 : decode c_Strata_linkCount 29 = .ok (.iload_n 1, 1) := by decide +kernel
theorem d_Strata_linkCount_30 : decode c_Strata_linkCount 30 = .ok (.ireturn, 1) := by decide +kernel
theorem d_Strata_linkEnd_0 : decode c_Strata_linkEnd 0 = .ok (.iload_n 1, 1) := by decide +kernel
theorem d_Strata_linkEnd_1 : decode c_Strata_linkEnd 1 = .ok (.istore_n 3, 1) := by decide +kernel
theorem d_Strata_linkEnd_2 : decode c_Strata_linkEnd 2 = .ok (.iconst 0, 1) := by decide +kernel
theorem d_Strata_linkEnd_3 : decode c_Strata_linkEnd 3 = .ok (.istore 4, 2) := by decide +kernel
theorem d_Strata_linkEnd_5 : decode c_Strata_linkEnd 5 = .ok (.iload 4, 2) := by decide +kernel
theorem d_Strata_linkEnd_7 : decode c_Strata_linkEnd 7 = .ok (.aload_n 0, 1) := by decide +kernel
theorem d_Strata_linkEnd_8 : decode c_Strata_linkEnd 8 = .ok (.getfield 30, 3) := by decide +kernel
theorem d_Strata_linkEnd_11 : decode c_Strata_linkEnd 11 = .ok (.if_icmp .ge 51, 3) := by decide +kernel
theorem d_Strata_linkEnd_14 : decode c_Strata_linkEnd 14 = .ok (.aload_n 0, 1) := by decide +kernel
theorem d_Strata_linkEnd_15 : decode c_Strata_linkEnd 15 = .ok (.iload 4, 2) := by decide +kernel
theorem d_Strata_linkEnd_17 : decode c_Strata_linkEnd 17 = .ok (.invokevirtual 105, 3) := by decide +kernel
theorem d_Strata_linkEnd_20 : decode c_Strata_linkEnd 20 = .ok (.lstore 5, 2) := by decide +kernel
theorem d_Strata_linkEnd_22 : decode c_Strata_linkEnd 22 = .ok (.lload 5, 2) := by decide +kernel
theorem d_Strata_linkEnd_24 : decode c_Strata_linkEnd 24 = .ok (.invokestatic 108, 3) := by decide +kernel
theorem d_Strata_linkEnd_27 : decode c_Strata_linkEnd 27 = .ok (.istore 7, 2) := by decide +kernel
theorem d_Strata_linkEnd_29 : decode c_Strata_linkEnd 29 = .ok (.iload_n 3, 1) := by decide +kernel
theorem d_Strata_linkEnd_30 : decode c_Strata_linkEnd 30 = .ok (.iload 7, 2) := by decide +kernel
theorem d_Strata_linkEnd_32 : decode c_Strata_linkEnd 32 = .ok (.if_icmp .ge 19, 3) := by decide +kernel
theorem d_Strata_linkEnd_35 : decode c_Strata_linkEnd 35 = .ok (.iload_n 2, 1) := by decide +kernel
theorem d_Strata_linkEnd_36 : decode c_Strata_linkEnd 36 = .ok (.ifCond .eq 8, 3) := by decide +kernel
theorem d_Strata_linkEnd_39 : decode c_Strata_linkEnd 39 = .ok (.iload 4, 2) := by decide +kernel
theorem d_Strata_linkEnd_41 : decode c_Strata_linkEnd 41 = .ok (.goto 9, 3) := by decide +kernel
theorem d_Strata_linkEnd_44 : decode c_Strata_linkEnd 44 = .ok (.lload 5, 2) := by decide +kernel
theorem d_Strata_linkEnd_46 : decode c_Strata_linkEnd 46 = .ok (.iload_n 3, 1) := by decide +kernel
theorem d_Strata_linkEnd_47 : decode c_Strata_linkEnd 47 = .ok (.invokestatic 114, 3) := by decide +kernel
theorem d_Strata_linkEnd_50 : decode c_Strata_linkEnd 50 = .ok (.ireturn, 1) := by decide +kernel
theorem d_Strata_linkEnd_51 : decode c_Strata_linkEnd 51 = .ok (.iload_n 3, 1) := by decide +kernel
theorem d_Strata_linkEnd_52 : decode c_Strata_linkEnd 52 = .ok (.iload 7, 2) := by decide +kernel
theorem d_Strata_linkEnd_54 : decode c_Strata_linkEnd 54 = .ok (.isub, 1) := by decide +kernel
theorem d_Strata_linkEnd_55 : decode c_Strata_linkEnd 55 = .ok (.istore_n 3, 1) := by decide +kernel
theorem d_Strata_linkEnd_56 : decode c_Strata_linkEnd 56 = .ok (.iinc 4 1, 3) := by decide +kernel
theorem d_Strata_linkEnd_59 : decode c_Strata_linkEnd 59 = .ok (.goto (-54), 3) := by decide +kernel
theorem d_Strata_linkEnd_62 : decode c_Strata_linkEnd 62 = .ok (.iconst (-1), 1) := by decide +kernel
theorem d_Strata_linkEnd_63 : decode c_Strata_linkEnd 63 = .ok (.ireturn, 1) := by decide +kernel
theorem d_Strata_chainAbove_0 : decode c_Strata_chainAbove 0 = .ok (.aload_n 0, 1) := by decide +kernel
theorem d_Strata_chainAbove_1 : decode c_Strata_chainAbove 1 = .ok (.getfield 27, 3) := by decide +kernel
theorem d_Strata_chainAbove_4 : decode c_Strata_chainAbove 4 = .ok (.lconst 1, 1) := by decide +kernel
theorem d_Strata_chainAbove_5 : decode c_Strata_chainAbove 5 = .ok (.aload_n 0, 1) := by decide +kernel
theorem d_Strata_chainAbove_6 : decode c_Strata_chainAbove 6 = .ok (.getfield 14, 3) := by decide +kernel
theorem d_Strata_chainAbove_9 : decode c_Strata_chainAbove 9 = .ok (.iload_n 1, 1) := by decide +kernel
theorem d_Strata_chainAbove_10 : decode c_Strata_chainAbove 10 = .ok (.invokevirtual 38, 3) := by decide +kernel
theorem d_Strata_chainAbove_13 : decode c_Strata_chainAbove 13 = .ok (.lshl, 1) := by decide +kernel
theorem d_Strata_chainAbove_14 : decode c_Strata_chainAbove 14 = .ok (.invokevirtual 118, 3) := by decide +kernel
theorem d_Strata_chainAbove_17 : decode c_Strata_chainAbove 17 = .ok (.lstore_n 2, 1) := by decide +kernel
theorem d_Strata_chainAbove_18 : decode c_Strata_chainAbove 18 = .ok (.iconst 0, 1) := by decide +kernel
theorem d_Strata_chainAbove_19 : decode c_Strata_chainAbove 19 = .ok (.istore 4, 2) := by decide +kernel
theorem d_Strata_chainAbove_21 : decode c_Strata_chainAbove 21 = .ok (.iload 4, 2) := by decide +kernel
theorem d_Strata_chainAbove_23 : decode c_Strata_chainAbove 23 = .ok (.bipush 48, 2) := by decide +kernel
theorem d_Strata_chainAbove_25 : decode c_Strata_chainAbove 25 = .ok (.if_icmp .ge 26, 3) := by decide +kernel
theorem d_Strata_chainAbove_28 : decode c_Strata_chainAbove 28 = .ok (.lload_n 2, 1) := by decide +kernel
theorem d_Strata_chainAbove_29 : decode c_Strata_chainAbove 29 = .ok (.lconst 0, 1) := by decide +kernel
theorem d_Strata_chainAbove_30 : decode c_Strata_chainAbove 30 = .ok (.lcmp, 1) := by decide +kernel
theorem d_Strata_chainAbove_31 : decode c_Strata_chainAbove 31 = .ok (.ifCond .eq 20, 3) := by decide +kernel
theorem d_Strata_chainAbove_34 : decode c_Strata_chainAbove 34 = .ok (.lload_n 2, 1) := by decide +kernel
theorem d_Strata_chainAbove_35 : decode c_Strata_chainAbove 35 = .ok (.aload_n 0, 1) := by decide +kernel
theorem d_Strata_chainAbove_36 : decode c_Strata_chainAbove 36 = .ok (.getfield 27, 3) := by decide +kernel
theorem d_Strata_chainAbove_39 : decode c_Strata_chainAbove 39 = .ok (.lload_n 2, 1) := by decide +kernel
theorem d_Strata_chainAbove_40 : decode c_Strata_chainAbove 40 = .ok (.invokevirtual 118, 3) := by decide +kernel
theorem d_Strata_chainAbove_43 : decode c_Strata_chainAbove 43 = .ok (.land, 1) := by decide +kernel
theorem d_Strata_chainAbove_44 : decode c_Strata_chainAbove 44 = .ok (.lstore_n 2, 1) := by decide +kernel
theorem d_Strata_chainAbove_45 : decode c_Strata_chainAbove 45 = .ok (.iinc 4 1, 3) := by decide +kernel
theorem d_Strata_chainAbove_48 : decode c_Strata_chainAbove 48 = .ok (.goto (-27), 3) := by decide +kernel
theorem d_Strata_chainAbove_51 : decode c_Strata_chainAbove 51 = .ok (.iload 4, 2) := by decide +kernel
theorem d_Strata_chainAbove_53 : decode c_Strata_chainAbove 53 = .ok (.ireturn, 1) := by decide +kernel
theorem d_Strata_joinedCount_0 : decode c_Strata_joinedCount 0 = .ok (.iconst 0, 1) := by decide +kernel
theorem d_Strata_joinedCount_1 : decode c_Strata_joinedCount 1 = .ok (.istore_n 1, 1) := by decide +kernel
theorem d_Strata_joinedCount_2 : decode c_Strata_joinedCount 2 = .ok (.iconst 0, 1) := by decide +kernel
theorem d_Strata_joinedCount_3 : decode c_Strata_joinedCount 3 = .ok (.istore_n 2, 1) := by decide +kernel
theorem d_Strata_joinedCount_4 : decode c_Strata_joinedCount 4 = .ok (.iload_n 2, 1) := by decide +kernel
theorem d_Strata_joinedCount_5 : decode c_Strata_joinedCount 5 = .ok (.aload_n 0, 1) := by decide +kernel
theorem d_Strata_joinedCount_6 : decode c_Strata_joinedCount 6 = .ok (.getfield 30, 3) := by decide +kernel
theorem d_Strata_joinedCount_9 : decode c_Strata_joinedCount 9 = .ok (.if_icmp .ge 24, 3) := by decide +kernel
theorem d_Strata_joinedCount_12 : decode c_Strata_joinedCount 12 = .ok (.aload_n 0, 1) := by decide +kernel
theorem d_Strata_joinedCount_13 : decode c_Strata_joinedCount 13 = .ok (.getfield 14, 3) := by decide +kernel
theorem d_Strata_joinedCount_16 : decode c_Strata_joinedCount 16 = .ok (.iload_n 2, 1) := by decide +kernel
theorem d_Strata_joinedCount_17 : decode c_Strata_joinedCount 17 = .ok (.invokevirtual 38, 3) := by decide +kernel
theorem d_Strata_joinedCount_20 : decode c_Strata_joinedCount 20 = .ok (.iload_n 2, 1) := by decide +kernel
theorem d_Strata_joinedCount_21 : decode c_Strata_joinedCount 21 = .ok (.if_icmp .ne 6, 3) := by decide +kernel
theorem d_Strata_joinedCount_24 : decode c_Strata_joinedCount 24 = .ok (.iinc 1 1, 3) := by decide +kernel
theorem d_Strata_joinedCount_27 : decode c_Strata_joinedCount 27 = .ok (.iinc 2 1, 3) := by decide +kernel
theorem d_Strata_joinedCount_30 : decode c_Strata_joinedCount 30 = .ok (.goto (-26), 3) := by decide +kernel
theorem d_Strata_joinedCount_33 : decode c_Strata_joinedCount 33 = .ok (.iload_n 1, 1) := by decide +kernel
theorem d_Strata_joinedCount_34 : decode c_Strata_joinedCount 34 = .ok (.ireturn, 1) := by decide +kernel
theorem d_Strata_pairCount_0 : decode c_Strata_pairCount 0 = .ok (.iconst 0, 1) := by decide +kernel
theorem d_Strata_pairCount_1 : decode c_Strata_pairCount 1 = .ok (.istore_n 1, 1) := by decide +kernel
theorem d_Strata_pairCount_2 : decode c_Strata_pairCount 2 = .ok (.iconst 0, 1) := by decide +kernel
theorem d_Strata_pairCount_3 : decode c_Strata_pairCount 3 = .ok (.istore_n 2, 1) := by decide +kernel
theorem d_Strata_pairCount_4 : decode c_Strata_pairCount 4 = .ok (.iload_n 2, 1) := by decide +kernel
theorem d_Strata_pairCount_5 : decode c_Strata_pairCount 5 = .ok (.aload_n 0, 1) := by decide +kernel
theorem d_Strata_pairCount_6 : decode c_Strata_pairCount 6 = .ok (.getfield 30, 3) := by decide +kernel
theorem d_Strata_pairCount_9 : decode c_Strata_pairCount 9 = .ok (.if_icmp .ge 23, 3) := by decide +kernel
theorem d_Strata_pairCount_12 : decode c_Strata_pairCount 12 = .ok (.iload_n 1, 1) := by decide +kernel
theorem d_Strata_pairCount_13 : decode c_Strata_pairCount 13 = .ok (.aload_n 0, 1) := by decide +kernel
theorem d_Strata_pairCount_14 : decode c_Strata_pairCount 14 = .ok (.getfield 27, 3) := by decide +kernel
theorem d_Strata_pairCount_17 : decode c_Strata_pairCount 17 = .ok (.iload_n 2, 1) := by decide +kernel
theorem d_Strata_pairCount_18 : decode c_Strata_pairCount 18 = .ok (.invokevirtual 87, 3) := by decide +kernel
theorem d_Strata_pairCount_21 : decode c_Strata_pairCount 21 = .ok (.invokestatic 108, 3) := by decide +kernel
theorem d_Strata_pairCount_24 : decode c_Strata_pairCount 24 = .ok (.iadd, 1) := by decide +kernel
theorem d_Strata_pairCount_25 : decode c_Strata_pairCount 25 = .ok (.istore_n 1, 1) := by decide +kernel
theorem d_Strata_pairCount_26 : decode c_Strata_pairCount 26 = .ok (.iinc 2 1, 3) := by decide +kernel
theorem d_Strata_pairCount_29 : decode c_Strata_pairCount 29 = .ok (.goto (-25), 3) := by decide +kernel
theorem d_Strata_pairCount_32 : decode c_Strata_pairCount 32 = .ok (.iload_n 1, 1) := by decide +kernel
theorem d_Strata_pairCount_33 : decode c_Strata_pairCount 33 = .ok (.ireturn, 1) := by decide +kernel
theorem d_Groups_init_0 : decode c_Groups_init 0 = .ok (.aload_n 0, 1) := by decide +kernel
theorem d_Groups_init_1 : decode c_Groups_init 1 = .ok (.invokespecial 3, 3) := by decide +kernel
theorem d_Groups_init_4 : decode c_Groups_init 4 = .ok (.aload_n 0, 1) := by decide +kernel
theorem d_Groups_init_5 : decode c_Groups_init 5 = .ok (.new 9, 3) := by decide +kernel
theorem d_Groups_init_8 : decode c_Groups_init 8 = .ok (.dup, 1) := by decide +kernel
theorem d_Groups_init_9 : decode c_Groups_init 9 = .ok (.bipush 48, 2) := by decide +kernel
theorem d_Groups_init_11 : decode c_Groups_init 11 = .ok (.invokespecial 11, 3) := by decide +kernel
theorem d_Groups_init_14 : decode c_Groups_init 14 = .ok (.putfield 14, 3) := by decide +kernel
theorem d_Groups_init_17 : decode c_Groups_init 17 = .ok (.aload_n 0, 1) := by decide +kernel
theorem d_Groups_init_18 : decode c_Groups_init 18 = .ok (.new 20, 3) := by decide +kernel
theorem d_Groups_init_21 : decode c_Groups_init 21 = .ok (.dup, 1) := by decide +kernel
theorem d_Groups_init_22 : decode c_Groups_init 22 = .ok (.bipush 12, 2) := by decide +kernel
theorem d_Groups_init_24 : decode c_Groups_init 24 = .ok (.invokespecial 22, 3) := by decide +kernel
theorem d_Groups_init_27 : decode c_Groups_init 27 = .ok (.putfield 23, 3) := by decide +kernel
theorem d_Groups_init_30 : decode c_Groups_init 30 = .ok (.aload_n 0, 1) := by decide +kernel
theorem d_Groups_init_31 : decode c_Groups_init 31 = .ok (.new 27, 3) := by decide +kernel
theorem d_Groups_init_34 : decode c_Groups_init 34 = .ok (.dup, 1) := by decide +kernel
theorem d_Groups_init_35 : decode c_Groups_init 35 = .ok (.invokespecial 29, 3) := by decide +kernel
theorem d_Groups_init_38 : decode c_Groups_init 38 = .ok (.putfield 30, 3) := by decide +kernel
theorem d_Groups_init_41 : decode c_Groups_init 41 = .ok (.aload_n 0, 1) := by decide +kernel
theorem d_Groups_init_42 : decode c_Groups_init 42 = .ok (.iconst 0, 1) := by decide +kernel
theorem d_Groups_init_43 : decode c_Groups_init 43 = .ok (.putfield 34, 3) := by decide +kernel
theorem d_Groups_init_46 : decode c_Groups_init 46 = .ok (.return_, 1) := by decide +kernel
theorem d_Groups_made_0 : decode c_Groups_made 0 = .ok (.aload_n 0, 1) := by decide +kernel
theorem d_Groups_made_1 : decode c_Groups_made 1 = .ok (.getfield 34, 3) := by decide +kernel
theorem d_Groups_made_4 : decode c_Groups_made 4 = .ok (.ireturn, 1) := by decide +kernel
theorem d_Groups_add_0 : decode c_Groups_add 0 = .ok (.aload_n 0, 1) := by decide +kernel
theorem d_Groups_add_1 : decode c_Groups_add 1 = .ok (.dup, 1) := by decide +kernel
theorem d_Groups_add_2 : decode c_Groups_add 2 = .ok (.getfield 34, 3) := by decide +kernel
theorem d_Groups_add_5 : decode c_Groups_add 5 = .ok (.iconst 1, 1) := by decide +kernel
theorem d_Groups_add_6 : decode c_Groups_add 6 = .ok (.iadd, 1) := by decide +kernel
theorem d_Groups_add_7 : decode c_Groups_add 7 = .ok (.putfield 34, 3) := by decide +kernel
theorem d_Groups_add_10 : decode c_Groups_add 10 = .ok (.aload_n 0, 1) := by decide +kernel
theorem d_Groups_add_11 : decode c_Groups_add 11 = .ok (.getfield 34, 3) := by decide +kernel
theorem d_Groups_add_14 : decode c_Groups_add 14 = .ok (.iconst 1, 1) := by decide +kernel
theorem d_Groups_add_15 : decode c_Groups_add 15 = .ok (.isub, 1) := by decide +kernel
theorem d_Groups_add_16 : decode c_Groups_add 16 = .ok (.ireturn, 1) := by decide +kernel
theorem d_Groups_homeOf_0 : decode c_Groups_homeOf 0 = .ok (.aload_n 0, 1) := by decide +kernel
theorem d_Groups_homeOf_1 : decode c_Groups_homeOf 1 = .ok (.getfield 14, 3) := by decide +kernel
theorem d_Groups_homeOf_4 : decode c_Groups_homeOf 4 = .ok (.iload_n 1, 1) := by decide +kernel
theorem d_Groups_homeOf_5 : decode c_Groups_homeOf 5 = .ok (.invokevirtual 38, 3) := by decide +kernel
theorem d_Groups_homeOf_8 : decode c_Groups_homeOf 8 = .ok (.ireturn, 1) := by decide +kernel
theorem d_Groups_ringPlace_0 : decode c_Groups_ringPlace 0 = .ok (.aload_n 0, 1) := by decide +kernel
theorem d_Groups_ringPlace_1 : decode c_Groups_ringPlace 1 = .ok (.getfield 30, 3) := by decide +kernel
theorem d_Groups_ringPlace_4 : decode c_Groups_ringPlace 4 = .ok (.iload_n 1, 1) := by decide +kernel
theorem d_Groups_ringPlace_5 : decode c_Groups_ringPlace 5 = .ok (.invokevirtual 42, 3) := by decide +kernel
theorem d_Groups_ringPlace_8 : decode c_Groups_ringPlace 8 = .ok (.ireturn, 1) := by decide +kernel
theorem d_Groups_move_0 : decode c_Groups_move 0 = .ok (.aload_n 0, 1) := by decide +kernel
theorem d_Groups_move_1 : decode c_Groups_move 1 = .ok (.getfield 14, 3) := by decide +kernel
theorem d_Groups_move_4 : decode c_Groups_move 4 = .ok (.iload_n 2, 1) := by decide +kernel
theorem d_Groups_move_5 : decode c_Groups_move 5 = .ok (.invokevirtual 38, 3) := by decide +kernel
theorem d_Groups_move_8 : decode c_Groups_move 8 = .ok (.istore 4, 2) := by decide +kernel
theorem d_Groups_move_10 : decode c_Groups_move 10 = .ok (.aload_n 0, 1) := by decide +kernel
theorem d_Groups_move_11 : decode c_Groups_move 11 = .ok (.getfield 14, 3) := by decide +kernel
theorem d_Groups_move_14 : decode c_Groups_move 14 = .ok (.iload_n 2, 1) := by decide +kernel
theorem d_Groups_move_15 : decode c_Groups_move 15 = .ok (.iload_n 1, 1) := by decide +kernel
theorem d_Groups_move_16 : decode c_Groups_move 16 = .ok (.invokevirtual 45, 3) := by decide +kernel
theorem d_Groups_move_19 : decode c_Groups_move 19 = .ok (.aload_n 0, 1) := by decide +kernel
theorem d_Groups_move_20 : decode c_Groups_move 20 = .ok (.aload_n 3, 1) := by decide +kernel
theorem d_Groups_move_21 : decode c_Groups_move 21 = .ok (.invokevirtual 49, 3) := by decide +kernel
theorem d_Groups_move_24 : decode c_Groups_move 24 = .ok (.aload_n 0, 1) := by decide +kernel
theorem d_Groups_move_25 : decode c_Groups_move 25 = .ok (.getfield 30, 3) := by decide +kernel
theorem d_Groups_move_28 : decode c_Groups_move 28 = .ok (.aload_n 0, 1) := by decide +kernel
theorem d_Groups_move_29 : decode c_Groups_move 29 = .ok (.getfield 23, 3) := by decide +kernel
theorem d_Groups_move_32 : decode c_Groups_move 32 = .ok (.iload_n 1, 1) := by decide +kernel
theorem d_Groups_move_33 : decode c_Groups_move 33 = .ok (.invokevirtual 53, 3) := by decide +kernel
theorem d_Groups_move_36 : decode c_Groups_move 36 = .ok (.ifCond .eq 15, 3) := by decide +kernel
theorem d_Groups_move_39 : decode c_Groups_move 39 = .ok (.aload_n 0, 1) := by decide +kernel
theorem d_Groups_move_40 : decode c_Groups_move 40 = .ok (.getfield 14, 3) := by decide +kernel
theorem d_Groups_move_43 : decode c_Groups_move 43 = .ok (.iload_n 2, 1) := by decide +kernel
theorem d_Groups_move_44 : decode c_Groups_move 44 = .ok (.iload 4, 2) := by decide +kernel
theorem d_Groups_move_46 : decode c_Groups_move 46 = .ok (.invokevirtual 45, 3) := by decide +kernel
theorem d_Groups_move_49 : decode c_Groups_move 49 = .ok (.iconst 0, 1) := by decide +kernel
theorem d_Groups_move_50 : decode c_Groups_move 50 = .ok (.ireturn, 1) := by decide +kernel
theorem d_Groups_move_51 : decode c_Groups_move 51 = .ok (.iconst 1, 1) := by decide +kernel
theorem d_Groups_move_52 : decode c_Groups_move 52 = .ok (.ireturn, 1) := by decide +kernel
theorem d_Groups_compare_0 : decode c_Groups_compare 0 = .ok (.aload_n 0, 1) := by decide +kernel
theorem d_Groups_compare_1 : decode c_Groups_compare 1 = .ok (.getfield 23, 3) := by decide +kernel
theorem d_Groups_compare_4 : decode c_Groups_compare 4 = .ok (.invokevirtual 57, 3) := by decide +kernel
theorem d_Groups_compare_7 : decode c_Groups_compare 7 = .ok (.iconst 0, 1) := by decide +kernel
theorem d_Groups_compare_8 : decode c_Groups_compare 8 = .ok (.istore_n 2, 1) := by decide +kernel
theorem d_Groups_compare_9 : decode c_Groups_compare 9 = .ok (.iload_n 2, 1) := by decide +kernel
theorem d_Groups_compare_10 : decode c_Groups_compare 10 = .ok (.aload_n 1, 1) := by decide +kernel
theorem d_Groups_compare_11 : decode c_Groups_compare 11 = .ok (.invokevirtual 60, 3) := by decide +kernel
theorem d_Groups_compare_14 : decode c_Groups_compare 14 = .ok (.if_icmp .ge 81, 3) := by decide +kernel
theorem d_Groups_compare_17 : decode c_Groups_compare 17 = .ok (.aload_n 0, 1) := by decide +kernel
theorem d_Groups_compare_18 : decode c_Groups_compare 18 = .ok (.getfield 14, 3) := by decide +kernel
theorem d_Groups_compare_21 : decode c_Groups_compare 21 = .ok (.iload_n 2, 1) := by decide +kernel
theorem d_Groups_compare_22 : decode c_Groups_compare 22 = .ok (.invokevirtual 38, 3) := by decide +kernel
theorem d_Groups_compare_25 : decode c_Groups_compare 25 = .ok (.istore_n 3, 1) := by decide +kernel
theorem d_Groups_compare_26 : decode c_Groups_compare 26 = .ok (.iconst 0, 1) := by decide +kernel
theorem d_Groups_compare_27 : decode c_Groups_compare 27 = .ok (.istore 4, 2) := by decide +kernel
theorem d_Groups_compare_29 : decode c_Groups_compare 29 = .ok (.iload 4, 2) := by decide +kernel
theorem d_Groups_compare_31 : decode c_Groups_compare 31 = .ok (.aload_n 1, 1) := by decide +kernel
theorem d_Groups_compare_32 : decode c_Groups_compare 32 = .ok (.invokevirtual 60, 3) := by decide +kernel
theorem d_Groups_compare_35 : decode c_Groups_compare 35 = .ok (.if_icmp .ge 54, 3) := by decide +kernel
theorem d_Groups_compare_38 : decode c_Groups_compare 38 = .ok (.iload_n 3, 1) := by decide +kernel
theorem d_Groups_compare_39 : decode c_Groups_compare 39 = .ok (.iconst (-1), 1) := by decide +kernel
theorem d_Groups_compare_40 : decode c_Groups_compare 40 = .ok (.if_icmp .eq 49, 3) := by decide +kernel
theorem d_Groups_compare_43 : decode c_Groups_compare 43 = .ok (.aload_n 0, 1) := by decide +kernel
theorem d_Groups_compare_44 : decode c_Groups_compare 44 = .ok (.getfield 14, 3) := by decide +kernel
theorem d_Groups_compare_47 : decode c_Groups_compare 47 = .ok (.iload 4, 2) := by decide +kernel
theorem d_Groups_compare_49 : decode c_Groups_compare 49 = .ok (.invokevirtual 38, 3) := by decide +kernel
theorem d_Groups_compare_52 : decode c_Groups_compare 52 = .ok (.iload_n 3, 1) := by decide +kernel
theorem d_Groups_compare_53 : decode c_Groups_compare 53 = .ok (.if_icmp .eq 30, 3) := by decide +kernel
theorem d_Groups_compare_56 : decode c_Groups_compare 56 = .ok (.aload_n 1, 1) := by decide +kernel
theorem d_Groups_compare_57 : decode c_Groups_compare 57 = .ok (.iload_n 2, 1) := by decide +kernel
theorem d_Groups_compare_58 : decode c_Groups_compare 58 = .ok (.iload 4, 2) := by decide +kernel
theorem d_Groups_compare_60 : decode c_Groups_compare 60 = .ok (.invokevirtual 66, 3) := by decide +kernel
theorem d_Groups_compare_63 : decode c_Groups_compare 63 = .ok (.ifCond .eq 20, 3) := by decide +kernel
theorem d_Groups_compare_66 : decode c_Groups_compare 66 = .ok (.aload_n 0, 1) := by decide +kernel
theorem d_Groups_compare_67 : decode c_Groups_compare 67 = .ok (.getfield 23, 3) := by decide +kernel
theorem d_Groups_compare_70 : decode c_Groups_compare 70 = .ok (.iload_n 3, 1) := by decide +kernel
theorem d_Groups_compare_71 : decode c_Groups_compare 71 = .ok (.aload_n 0, 1) := by decide +kernel
theorem d_Groups_compare_72 : decode c_Groups_compare 72 = .ok (.getfield 14, 3) := by decide +kernel
theorem d_Groups_compare_75 : decode c_Groups_compare 75 = .ok (.iload 4, 2) := by decide +kernel
theorem d_Groups_compare_77 : decode c_Groups_compare 77 = .ok (.invokevirtual 38, 3) := by decide +kernel
theorem d_Groups_compare_80 : decode c_Groups_compare 80 = .ok (.invokevirtual 70, 3) := by decide +kernel
theorem d_Groups_compare_83 : decode c_Groups_compare 83 = .ok (.iinc 4 1, 3) := by decide +kernel
theorem d_Groups_compare_86 : decode c_Groups_compare 86 = .ok (.goto (-57), 3) := by decide +kernel
theorem d_Groups_compare_89 : decode c_Groups_compare 89 = .ok (.iinc 2 1, 3) := by decide +kernel
theorem d_Groups_compare_92 : decode c_Groups_compare 92 = .ok (.goto (-83), 3) := by decide +kernel
theorem d_Groups_compare_95 : decode c_Groups_compare 95 = .ok (.return_, 1) := by decide +kernel
theorem d_Version_init_0 : decode c_Version_init 0 = .ok (.aload_n 0, 1) := by decide +kernel
theorem d_Version_init_1 : decode c_Version_init 1 = .ok (.invokespecial 3, 3) := by decide +kernel
theorem d_Version_init_4 : decode c_Version_init 4 = .ok (.aload_n 0, 1) := by decide +kernel
theorem d_Version_init_5 : decode c_Version_init 5 = .ok (.new 9, 3) := by decide +kernel
theorem d_Version_init_8 : decode c_Version_init 8 = .ok (.dup, 1) := by decide +kernel
theorem d_Version_init_9 : decode c_Version_init 9 = .ok (.bipush 48, 2) := by decide +kernel
theorem d_Version_init_11 : decode c_Version_init 11 = .ok (.invokespecial 11, 3) := by decide +kernel
theorem d_Version_init_14 : decode c_Version_init 14 = .ok (.putfield 14, 3) := by decide +kernel
theorem d_Version_init_17 : decode c_Version_init 17 = .ok (.aload_n 0, 1) := by decide +kernel
theorem d_Version_init_18 : decode c_Version_init 18 = .ok (.new 20, 3) := by decide +kernel
theorem d_Version_init_21 : decode c_Version_init 21 = .ok (.dup, 1) := by decide +kernel
theorem d_Version_init_22 : decode c_Version_init 22 = .ok (.bipush 48, 2) := by decide +kernel
theorem d_Version_init_24 : decode c_Version_init 24 = .ok (.invokespecial 22, 3) := by decide +kernel
theorem d_Version_init_27 : decode c_Version_init 27 = .ok (.putfield 23, 3) := by decide +kernel
theorem d_Version_init_30 : decode c_Version_init 30 = .ok (.aload_n 0, 1) := by decide +kernel
theorem d_Version_init_31 : decode c_Version_init 31 = .ok (.new 20, 3) := by decide +kernel
theorem d_Version_init_34 : decode c_Version_init 34 = .ok (.dup, 1) := by decide +kernel
theorem d_Version_init_35 : decode c_Version_init 35 = .ok (.bipush 48, 2) := by decide +kernel
theorem d_Version_init_37 : decode c_Version_init 37 = .ok (.invokespecial 22, 3) := by decide +kernel
theorem d_Version_init_40 : decode c_Version_init 40 = .ok (.putfield 27, 3) := by decide +kernel
theorem d_Version_init_43 : decode c_Version_init 43 = .ok (.iconst 0, 1) := by decide +kernel
theorem d_Version_init_44 : decode c_Version_init 44 = .ok (.istore_n 2, 1) := by decide +kernel
theorem d_Version_init_45 : decode c_Version_init 45 = .ok (.iload_n 2, 1) := by decide +kernel
theorem d_Version_init_46 : decode c_Version_init 46 = .ok (.aload_n 1, 1) := by decide +kernel
theorem d_Version_init_47 : decode c_Version_init 47 = .ok (.invokevirtual 30, 3) := by decide +kernel
theorem d_Version_init_50 : decode c_Version_init 50 = .ok (.if_icmp .ge 65, 3) := by decide +kernel
theorem d_Version_init_53 : decode c_Version_init 53 = .ok (.aload_n 0, 1) := by decide +kernel
theorem d_Version_init_54 : decode c_Version_init 54 = .ok (.getfield 14, 3) := by decide +kernel
theorem d_Version_init_57 : decode c_Version_init 57 = .ok (.iload_n 2, 1) := by decide +kernel
theorem d_Version_init_58 : decode c_Version_init 58 = .ok (.aload_n 1, 1) := by decide +kernel
theorem d_Version_init_59 : decode c_Version_init 59 = .ok (.iload_n 2, 1) := by decide +kernel
theorem d_Version_init_60 : decode c_Version_init 60 = .ok (.invokevirtual 36, 3) := by decide +kernel
theorem d_Version_init_63 : decode c_Version_init 63 = .ok (.invokevirtual 40, 3) := by decide +kernel
theorem d_Version_init_66 : decode c_Version_init 66 = .ok (.iconst 0, 1) := by decide +kernel
theorem d_Version_init_67 : decode c_Version_init 67 = .ok (.istore_n 3, 1) := by decide +kernel
theorem d_Version_init_68 : decode c_Version_init 68 = .ok (.iload_n 3, 1) := by decide +kernel
theorem d_Version_init_69 : decode c_Version_init 69 = .ok (.aload_n 1, 1) := by decide +kernel
theorem d_Version_init_70 : decode c_Version_init 70 = .ok (.invokevirtual 30, 3) := by decide +kernel
theorem d_Version_init_73 : decode c_Version_init 73 = .ok (.if_icmp .ge 36, 3) := by decide +kernel
theorem d_Version_init_76 : decode c_Version_init 76 = .ok (.aload_n 1, 1) := by decide +kernel
theorem d_Version_init_77 : decode c_Version_init 77 = .ok (.iload_n 2, 1) := by decide +kernel
theorem d_Version_init_78 : decode c_Version_init 78 = .ok (.iload_n 3, 1) := by decide +kernel
theorem d_Version_init_79 : decode c_Version_init 79 = .ok (.invokevirtual 44, 3) := by decide +kernel
theorem d_Version_init_82 : decode c_Version_init 82 = .ok (.ifCond .eq 21, 3) := by decide +kernel
theorem d_Version_init_85 : decode c_Version_init 85 = .ok (.aload_n 0, 1) := by decide +kernel
theorem d_Version_init_86 : decode c_Version_init 86 = .ok (.getfield 23, 3) := by decide +kernel
theorem d_Version_init_89 : decode c_Version_init 89 = .ok (.iload_n 2, 1) := by decide +kernel
theorem d_Version_init_90 : decode c_Version_init 90 = .ok (.iload_n 3, 1) := by decide +kernel
theorem d_Version_init_91 : decode c_Version_init 91 = .ok (.invokevirtual 48, 3) := by decide +kernel
theorem d_Version_init_94 : decode c_Version_init 94 = .ok (.aload_n 0, 1) := by decide +kernel
theorem d_Version_init_95 : decode c_Version_init 95 = .ok (.getfield 27, 3) := by decide +kernel
theorem d_Version_init_98 : decode c_Version_init 98 = .ok (.iload_n 3, 1) := by decide +kernel
theorem d_Version_init_99 : decode c_Version_init 99 = .ok (.iload_n 2, 1) := by decide +kernel
theorem d_Version_init_100 : decode c_Version_init 100 = .ok (.invokevirtual 48, 3) := by decide +kernel
theorem d_Version_init_103 : decode c_Version_init 103 = .ok (.iinc 3 1, 3) := by decide +kernel
theorem d_Version_init_106 : decode c_Version_init 106 = .ok (.goto (-38), 3) := by decide +kernel
theorem d_Version_init_109 : decode c_Version_init 109 = .ok (.iinc 2 1, 3) := by decide +kernel
theorem d_Version_init_112 : decode c_Version_init 112 = .ok (.goto (-67), 3) := by decide +kernel
theorem d_Version_init_115 : decode c_Version_init 115 = .ok (.return_, 1) := by decide +kernel
theorem d_Version_differences_0 : decode c_Version_differences 0 = .ok (.lconst 0, 1) := by decide +kernel
theorem d_Version_differences_1 : decode c_Version_differences 1 = .ok (.lstore_n 2, 1) := by decide +kernel
theorem d_Version_differences_2 : decode c_Version_differences 2 = .ok (.iconst 0, 1) := by decide +kernel
theorem d_Version_differences_3 : decode c_Version_differences 3 = .ok (.istore 4, 2) := by decide +kernel
theorem d_Version_differences_5 : decode c_Version_differences 5 = .ok (.iload 4, 2) := by decide +kernel
theorem d_Version_differences_7 : decode c_Version_differences 7 = .ok (.bipush 48, 2) := by decide +kernel
theorem d_Version_differences_9 : decode c_Version_differences 9 = .ok (.if_icmp .ge 81, 3) := by decide +kernel
theorem d_Version_differences_12 : decode c_Version_differences 12 = .ok (.aload_n 0, 1) := by decide +kernel
theorem d_Version_differences_13 : decode c_Version_differences 13 = .ok (.getfield 14, 3) := by decide +kernel
theorem d_Version_differences_16 : decode c_Version_differences 16 = .ok (.iload 4, 2) := by decide +kernel
theorem d_Version_differences_18 : decode c_Version_differences 18 = .ok (.invokevirtual 51, 3) := by decide +kernel
theorem d_Version_differences_21 : decode c_Version_differences 21 = .ok (.aload_n 1, 1) := by decide +kernel
theorem d_Version_differences_22 : decode c_Version_differences 22 = .ok (.getfield 14, 3) := by decide +kernel
theorem d_Version_differences_25 : decode c_Version_differences 25 = .ok (.iload 4, 2) := by decide +kernel
theorem d_Version_differences_27 : decode c_Version_differences 27 = .ok (.invokevirtual 51, 3) := by decide +kernel
theorem d_Version_differences_30 : decode c_Version_differences 30 = .ok (.if_icmp .ne 47, 3) := by decide +kernel
theorem d_Version_differences_33 : decode c_Version_differences 33 = .ok (.aload_n 0, 1) := by decide +kernel
theorem d_Version_differences_34 : decode c_Version_differences 34 = .ok (.getfield 23, 3) := by decide +kernel
theorem d_Version_differences_37 : decode c_Version_differences 37 = .ok (.iload 4, 2) := by decide +kernel
theorem d_Version_differences_39 : decode c_Version_differences 39 = .ok (.invokevirtual 54, 3) := by decide +kernel
theorem d_Version_differences_42 : decode c_Version_differences 42 = .ok (.aload_n 1, 1) := by decide +kernel
theorem d_Version_differences_43 : decode c_Version_differences 43 = .ok (.getfield 23, 3) := by decide +kernel
theorem d_Version_differences_46 : decode c_Version_differences 46 = .ok (.iload 4, 2) := by decide +kernel
theorem d_Version_differences_48 : decode c_Version_differences 48 = .ok (.invokevirtual 54, 3) := by decide +kernel
theorem d_Version_differences_51 : decode c_Version_differences 51 = .ok (.lcmp, 1) := by decide +kernel
theorem d_Version_differences_52 : decode c_Version_differences 52 = .ok (.ifCond .ne 25, 3) := by decide +kernel
theorem d_Version_differences_55 : decode c_Version_differences 55 = .ok (.aload_n 0, 1) := by decide +kernel
theorem d_Version_differences_56 : decode c_Version_differences 56 = .ok (.getfield 27, 3) := by decide +kernel
theorem d_Version_differences_59 : decode c_Version_differences 59 = .ok (.iload 4, 2) := by decide +kernel
theorem d_Version_differences_61 : decode c_Version_differences 61 = .ok (.invokevirtual 54, 3) := by decide +kernel
theorem d_Version_differences_64 : decode c_Version_differences 64 = .ok (.aload_n 1, 1) := by decide +kernel
theorem d_Version_differences_65 : decode c_Version_differences 65 = .ok (.getfield 27, 3) := by decide +kernel
theorem d_Version_differences_68 : decode c_Version_differences 68 = .ok (.iload 4, 2) := by decide +kernel
theorem d_Version_differences_70 : decode c_Version_differences 70 = .ok (.invokevirtual 54, 3) := by decide +kernel
theorem d_Version_differences_73 : decode c_Version_differences 73 = .ok (.lcmp, 1) := by decide +kernel
theorem d_Version_differences_74 : decode c_Version_differences 74 = .ok (.ifCond .eq 10, 3) := by decide +kernel
theorem d_Version_differences_77 : decode c_Version_differences 77 = .ok (.lload_n 2, 1) := by decide +kernel
theorem d_Version_differences_78 : decode c_Version_differences 78 = .ok (.lconst 1, 1) := by decide +kernel
theorem d_Version_differences_79 : decode c_Version_differences 79 = .ok (.iload 4, 2) := by decide +kernel
theorem d_Version_differences_81 : decode c_Version_differences 81 = .ok (.lshl, 1) := by decide +kernel
theorem d_Version_differences_82 : decode c_Version_differences 82 = .ok (.lor, 1) := by decide +kernel
theorem d_Version_differences_83 : decode c_Version_differences 83 = .ok (.lstore_n 2, 1) := by decide +kernel
theorem d_Version_differences_84 : decode c_Version_differences 84 = .ok (.iinc 4 1, 3) := by decide +kernel
theorem d_Version_differences_87 : decode c_Version_differences 87 = .ok (.goto (-82), 3) := by decide +kernel
theorem d_Version_differences_90 : decode c_Version_differences 90 = .ok (.lload_n 2, 1) := by decide +kernel
theorem d_Version_differences_91 : decode c_Version_differences 91 = .ok (.lreturn, 1) := by decide +kernel
theorem d_RO_init_0 : decode c_RO_init 0 = .ok (.aload_n 0, 1) := by decide +kernel
theorem d_RO_init_1 : decode c_RO_init 1 = .ok (.invokespecial 1, 3) := by decide +kernel
theorem d_RO_init_4 : decode c_RO_init 4 = .ok (.aload_n 0, 1) := by decide +kernel
theorem d_RO_init_5 : decode c_RO_init 5 = .ok (.new 7, 3) := by decide +kernel
theorem d_RO_init_8 : decode c_RO_init 8 = .ok (.dup, 1) := by decide +kernel
theorem d_RO_init_9 : decode c_RO_init 9 = .ok (.invokespecial 9, 3) := by decide +kernel
theorem d_RO_init_12 : decode c_RO_init 12 = .ok (.putfield 10, 3) := by decide +kernel
theorem d_RO_init_15 : decode c_RO_init 15 = .ok (.aload_n 0, 1) := by decide +kernel
theorem d_RO_init_16 : decode c_RO_init 16 = .ok (.new 16, 3) := by decide +kernel
theorem d_RO_init_19 : decode c_RO_init 19 = .ok (.dup, 1) := by decide +kernel
theorem d_RO_init_20 : decode c_RO_init 20 = .ok (.invokespecial 18, 3) := by decide +kernel
theorem d_RO_init_23 : decode c_RO_init 23 = .ok (.putfield 19, 3) := by decide +kernel
theorem d_RO_init_26 : decode c_RO_init 26 = .ok (.aload_n 0, 1) := by decide +kernel
theorem d_RO_init_27 : decode c_RO_init 27 = .ok (.new 23, 3) := by decide +kernel
theorem d_RO_init_30 : decode c_RO_init 30 = .ok (.dup, 1) := by decide +kernel
theorem d_RO_init_31 : decode c_RO_init 31 = .ok (.invokespecial 25, 3) := by decide +kernel
theorem d_RO_init_34 : decode c_RO_init 34 = .ok (.putfield 26, 3) := by decide +kernel
theorem d_RO_init_37 : decode c_RO_init 37 = .ok (.aload_n 0, 1) := by decide +kernel
theorem d_RO_init_38 : decode c_RO_init 38 = .ok (.new 30, 3) := by decide +kernel
theorem d_RO_init_41 : decode c_RO_init 41 = .ok (.dup, 1) := by decide +kernel
theorem d_RO_init_42 : decode c_RO_init 42 = .ok (.invokespecial 32, 3) := by decide +kernel
theorem d_RO_init_45 : decode c_RO_init 45 = .ok (.putfield 33, 3) := by decide +kernel
theorem d_RO_init_48 : decode c_RO_init 48 = .ok (.aload_n 0, 1) := by decide +kernel
theorem d_RO_init_49 : decode c_RO_init 49 = .ok (.bipush 8, 2) := by decide +kernel
theorem d_RO_init_51 : decode c_RO_init 51 = .ok (.anewarray 37, 3) := by decide +kernel
theorem d_RO_init_54 : decode c_RO_init 54 = .ok (.putfield 39, 3) := by decide +kernel
theorem d_RO_init_57 : decode c_RO_init 57 = .ok (.aload_n 0, 1) := by decide +kernel
theorem d_RO_init_58 : decode c_RO_init 58 = .ok (.iconst 0, 1) := by decide +kernel
theorem d_RO_init_59 : decode c_RO_init 59 = .ok (.putfield 43, 3) := by decide +kernel
theorem d_RO_init_62 : decode c_RO_init 62 = .ok (.return_, 1) := by decide +kernel
theorem d_RO_context_0 : decode c_RO_context 0 = .ok (.aload_n 0, 1) := by decide +kernel
theorem d_RO_context_1 : decode c_RO_context 1 = .ok (.getfield 19, 3) := by decide +kernel
theorem d_RO_context_4 : decode c_RO_context 4 = .ok (.invokevirtual 47, 3) := by decide +kernel
theorem d_RO_context_7 : decode c_RO_context 7 = .ok (.bipush 48, 2) := by decide +kernel
theorem d_RO_context_9 : decode c_RO_context 9 = .ok (.if_icmp .lt 13, 3) := by decide +kernel
theorem d_RO_context_12 : decode c_RO_context 12 = .ok (.new 51, 3) := by decide +kernel
theorem d_RO_context_15 : decode c_RO_context 15 = .ok (.dup, 1) := by decide +kernel
theorem d_RO_context_16 : decode c_RO_context 16 = .ok (.ldc 53, 2) := by decide +kernel
theorem d_RO_context_18 : decode c_RO_context 18 = .ok (.invokespecial 55, 3) := by decide +kernel
theorem d_RO_context_21 : decode c_RO_context 21 = .ok (.athrow, 1) := by decide +kernel
theorem d_RO_context_22 : decode c_RO_context 22 = .ok (.aload_n 0, 1) := by decide +kernel
theorem d_RO_context_23 : decode c_RO_context 23 = .ok (.getfield 19, 3) := by decide +kernel
theorem d_RO_context_26 : decode c_RO_context 26 = .ok (.invokevirtual 58, 3) := by decide +kernel
theorem d_RO_context_29 : decode c_RO_context 29 = .ok (.ireturn, 1) := by decide +kernel
theorem d_RO_relate_0 : decode c_RO_relate 0 = .ok (.aload_n 0, 1) := by decide +kernel
theorem d_RO_relate_1 : decode c_RO_relate 1 = .ok (.iload_n 1, 1) := by decide +kernel
theorem d_RO_relate_2 : decode c_RO_relate 2 = .ok (.invokevirtual 61, 3) := by decide +kernel
theorem d_RO_relate_5 : decode c_RO_relate 5 = .ok (.aload_n 0, 1) := by decide +kernel
theorem d_RO_relate_6 : decode c_RO_relate 6 = .ok (.iload_n 2, 1) := by decide +kernel
theorem d_RO_relate_7 : decode c_RO_relate 7 = .ok (.invokevirtual 61, 3) := by decide +kernel
theorem d_RO_relate_10 : decode c_RO_relate 10 = .ok (.iload_n 3, 1) := by decide +kernel
theorem d_RO_relate_11 : decode c_RO_relate 11 = .ok (.ifCond .lt 8, 3) := by decide +kernel
theorem d_RO_relate_14 : decode c_RO_relate 14 = .ok (.iload_n 3, 1) := by decide +kernel
theorem d_RO_relate_15 : decode c_RO_relate 15 = .ok (.iconst 4, 1) := by decide +kernel
theorem d_RO_relate_16 : decode c_RO_relate 16 = .ok (.if_icmp .le 13, 3) := by decide +kernel
theorem d_RO_relate_19 : decode c_RO_relate 19 = .ok (.new 65, 3) := by decide +kernel
theorem d_RO_relate_22 : decode c_RO_relate 22 = .ok (.dup, 1) := by decide +kernel
theorem d_RO_relate_23 : decode c_RO_relate 23 = .ok (.ldc 67, 2) := by decide +kernel
theorem d_RO_relate_25 : decode c_RO_relate 25 = .ok (.invokespecial 69, 3) := by decide +kernel
theorem d_RO_relate_28 : decode c_RO_relate 28 = .ok (.athrow, 1) := by decide +kernel
theorem d_RO_relate_29 : decode c_RO_relate 29 = .ok (.aload_n 0, 1) := by decide +kernel
theorem d_RO_relate_30 : decode c_RO_relate 30 = .ok (.getfield 10, 3) := by decide +kernel
theorem d_RO_relate_33 : decode c_RO_relate 33 = .ok (.invokevirtual 70, 3) := by decide +kernel
theorem d_RO_relate_36 : decode c_RO_relate 36 = .ok (.sipush 200, 3) := by decide +kernel
theorem d_RO_relate_39 : decode c_RO_relate 39 = .ok (.if_icmp .lt 13, 3) := by decide +kernel
theorem d_RO_relate_42 : decode c_RO_relate 42 = .ok (.new 51, 3) := by decide +kernel
theorem d_RO_relate_45 : decode c_RO_relate 45 = .ok (.dup, 1) := by decide +kernel
theorem d_RO_relate_46 : decode c_RO_relate 46 = .ok (.ldc 73, 2) := by decide +kernel
theorem d_RO_relate_48 : decode c_RO_relate 48 = .ok (.invokespecial 55, 3) := by decide +kernel
theorem d_RO_relate_51 : decode c_RO_relate 51 = .ok (.athrow, 1) := by decide +kernel
theorem d_RO_relate_52 : decode c_RO_relate 52 = .ok (.aload_n 0, 1) := by decide +kernel
theorem d_RO_relate_53 : decode c_RO_relate 53 = .ok (.aload_n 0, 1) := by decide +kernel
theorem d_RO_relate_54 : decode c_RO_relate 54 = .ok (.getfield 19, 3) := by decide +kernel
theorem d_RO_relate_57 : decode c_RO_relate 57 = .ok (.iload_n 1, 1) := by decide +kernel
theorem d_RO_relate_58 : decode c_RO_relate 58 = .ok (.invokevirtual 75, 3) := by decide +kernel
theorem d_RO_relate_61 : decode c_RO_relate 61 = .ok (.aload_n 0, 1) := by decide +kernel
theorem d_RO_relate_62 : decode c_RO_relate 62 = .ok (.getfield 19, 3) := by decide +kernel
theorem d_RO_relate_65 : decode c_RO_relate 65 = .ok (.iload_n 2, 1) := by decide +kernel
theorem d_RO_relate_66 : decode c_RO_relate 66 = .ok (.invokevirtual 75, 3) := by decide +kernel
theorem d_RO_relate_69 : decode c_RO_relate 69 = .ok (.iload_n 3, 1) := by decide +kernel
theorem d_RO_relate_70 : decode c_RO_relate 70 = .ok (.invokevirtual 79, 3) := by decide +kernel
theorem d_RO_relate_73 : decode c_RO_relate 73 = .ok (.ifCond .eq 5, 3) := by decide +kernel
theorem d_RO_relate_76 : decode c_RO_relate 76 = .ok (.iconst (-1), 1) := by decide +kernel
theorem d_RO_relate_77 : decode c_RO_relate 77 = .ok (.ireturn, 1) := by decide +kernel
theorem d_RO_relate_78 : decode c_RO_relate 78 = .ok (.aload_n 0, 1) := by decide +kernel
theorem d_RO_relate_79 : decode c_RO_relate 79 = .ok (.getfield 10, 3) := by decide +kernel
theorem d_RO_relate_82 : decode c_RO_relate 82 = .ok (.iload_n 1, 1) := by decide +kernel
theorem d_RO_relate_83 : decode c_RO_relate 83 = .ok (.iload_n 2, 1) := by decide +kernel
theorem d_RO_relate_84 : decode c_RO_relate 84 = .ok (.iload_n 3, 1) := by decide +kernel
theorem d_RO_relate_85 : decode c_RO_relate 85 = .ok (.invokevirtual 83, 3) := by decide +kernel
theorem d_RO_relate_88 : decode c_RO_relate 88 = .ok (.istore 4, 2) := by decide +kernel
theorem d_RO_relate_90 : decode c_RO_relate 90 = .ok (.iload_n 3, 1) := by decide +kernel
theorem d_RO_relate_91 : decode c_RO_relate 91 = .ok (.iconst 4, 1) := by decide +kernel
theorem d_RO_relate_92 : decode c_RO_relate 92 = .ok (.if_icmp .eq 14, 3) := by decide +kernel
theorem d_RO_relate_95 : decode c_RO_relate 95 = .ok (.aload_n 0, 1) := by decide +kernel
theorem d_RO_relate_96 : decode c_RO_relate 96 = .ok (.getfield 19, 3) := by decide +kernel
theorem d_RO_relate_99 : decode c_RO_relate 99 = .ok (.aload_n 0, 1) := by decide +kernel
theorem d_RO_relate_100 : decode c_RO_relate 100 = .ok (.getfield 10, 3) := by decide +kernel
theorem d_RO_relate_103 : decode c_RO_relate 103 = .ok (.invokevirtual 87, 3) := by decide +kernel
theorem d_RO_relate_106 : decode c_RO_relate 106 = .ok (.iload 4, 2) := by decide +kernel
theorem d_RO_relate_108 : decode c_RO_relate 108 = .ok (.ireturn, 1) := by decide +kernel
theorem d_RO_ring_0 : decode c_RO_ring 0 = .ok (.iload_n 1, 1) := by decide +kernel
theorem d_RO_ring_1 : decode c_RO_ring 1 = .ok (.invokestatic 91, 3) := by decide +kernel
theorem d_RO_ring_4 : decode c_RO_ring 4 = .ok (.aload_n 0, 1) := by decide +kernel
theorem d_RO_ring_5 : decode c_RO_ring 5 = .ok (.getfield 26, 3) := by decide +kernel
theorem d_RO_ring_8 : decode c_RO_ring 8 = .ok (.iload_n 1, 1) := by decide +kernel
theorem d_RO_ring_9 : decode c_RO_ring 9 = .ok (.invokevirtual 94, 3) := by decide +kernel
theorem d_RO_ring_12 : decode c_RO_ring 12 = .ok (.ireturn, 1) := by decide +kernel
theorem d_RO_undo_0 : decode c_RO_undo 0 = .ok (.iload_n 1, 1) := by decide +kernel
theorem d_RO_undo_1 : decode c_RO_undo 1 = .ok (.ifCond .lt 14, 3) := by decide +kernel
theorem d_RO_undo_4 : decode c_RO_undo 4 = .ok (.iload_n 1, 1) := by decide +kernel
theorem d_RO_undo_5 : decode c_RO_undo 5 = .ok (.aload_n 0, 1) := by decide +kernel
theorem d_RO_undo_6 : decode c_RO_undo 6 = .ok (.getfield 10, 3) := by decide +kernel
theorem d_RO_undo_9 : decode c_RO_undo 9 = .ok (.invokevirtual 70, 3) := by decide +kernel
theorem d_RO_undo_12 : decode c_RO_undo 12 = .ok (.if_icmp .lt 13, 3) := by decide +kernel
theorem d_RO_undo_15 : decode c_RO_undo 15 = .ok (.new 65, 3) := by decide +kernel
theorem d_RO_undo_18 : decode c_RO_undo 18 = .ok (.dup, 1) := by decide +kernel
theorem d_RO_undo_19 : decode c_RO_undo 19 = .ok (.ldc 97, 2) := by decide +kernel
theorem d_RO_undo_21 : decode c_RO_undo 21 = .ok (.invokespecial 69, 3) := by decide +kernel
theorem d_RO_undo_24 : decode c_RO_undo 24 = .ok (.athrow, 1) := by decide +kernel
theorem d_RO_undo_25 : decode c_RO_undo 25 = .ok (.aload_n 0, 1) := by decide +kernel
theorem d_RO_undo_26 : decode c_RO_undo 26 = .ok (.getfield 10, 3) := by decide +kernel
theorem d_RO_undo_29 : decode c_RO_undo 29 = .ok (.iload_n 1, 1) := by decide +kernel
theorem d_RO_undo_30 : decode c_RO_undo 30 = .ok (.invokevirtual 99, 3) := by decide +kernel
theorem d_RO_undo_33 : decode c_RO_undo 33 = .ok (.ifCond .ne 5, 3) := by decide +kernel
theorem d_RO_undo_36 : decode c_RO_undo 36 = .ok (.iconst 0, 1) := by decide +kernel
theorem d_RO_undo_37 : decode c_RO_undo 37 = .ok (.ireturn, 1) := by decide +kernel
theorem d_RO_undo_38 : decode c_RO_undo 38 = .ok (.aload_n 0, 1) := by decide +kernel
theorem d_RO_undo_39 : decode c_RO_undo 39 = .ok (.getfield 19, 3) := by decide +kernel
theorem d_RO_undo_42 : decode c_RO_undo 42 = .ok (.aload_n 0, 1) := by decide +kernel
theorem d_RO_undo_43 : decode c_RO_undo 43 = .ok (.getfield 10, 3) := by decide +kernel
theorem d_RO_undo_46 : decode c_RO_undo 46 = .ok (.invokevirtual 87, 3) := by decide +kernel
theorem d_RO_undo_49 : decode c_RO_undo 49 = .ok (.iconst 1, 1) := by decide +kernel
theorem d_RO_undo_50 : decode c_RO_undo 50 = .ok (.ireturn, 1) := by decide +kernel
theorem d_RO_order_0 : decode c_RO_order 0 = .ok (.aload_n 0, 1) := by decide +kernel
theorem d_RO_order_1 : decode c_RO_order 1 = .ok (.iload_n 1, 1) := by decide +kernel
theorem d_RO_order_2 : decode c_RO_order 2 = .ok (.invokevirtual 61, 3) := by decide +kernel
theorem d_RO_order_5 : decode c_RO_order 5 = .ok (.aload_n 0, 1) := by decide +kernel
theorem d_RO_order_6 : decode c_RO_order 6 = .ok (.iload_n 2, 1) := by decide +kernel
theorem d_RO_order_7 : decode c_RO_order 7 = .ok (.invokevirtual 61, 3) := by decide +kernel
theorem d_RO_order_10 : decode c_RO_order 10 = .ok (.aload_n 0, 1) := by decide +kernel
theorem d_RO_order_11 : decode c_RO_order 11 = .ok (.getfield 19, 3) := by decide +kernel
theorem d_RO_order_14 : decode c_RO_order 14 = .ok (.iload_n 1, 1) := by decide +kernel
theorem d_RO_order_15 : decode c_RO_order 15 = .ok (.iload_n 2, 1) := by decide +kernel
theorem d_RO_order_16 : decode c_RO_order 16 = .ok (.invokevirtual 103, 3) := by decide +kernel
theorem d_RO_order_19 : decode c_RO_order 19 = .ok (.ifCond .eq 5, 3) := by decide +kernel
theorem d_RO_order_22 : decode c_RO_order 22 = .ok (.iconst 1, 1) := by decide +kernel
theorem d_RO_order_23 : decode c_RO_order 23 = .ok (.ireturn, 1) := by decide +kernel
theorem d_RO_order_24 : decode c_RO_order 24 = .ok (.aload_n 0, 1) := by decide +kernel
theorem d_RO_order_25 : decode c_RO_order 25 = .ok (.getfield 19, 3) := by decide +kernel
theorem d_RO_order_28 : decode c_RO_order 28 = .ok (.iload_n 2, 1) := by decide +kernel
theorem d_RO_order_29 : decode c_RO_order 29 = .ok (.iload_n 1, 1) := by decide +kernel
theorem d_RO_order_30 : decode c_RO_order 30 = .ok (.invokevirtual 103, 3) := by decide +kernel
theorem d_RO_order_33 : decode c_RO_order 33 = .ok (.ifCond .eq 7, 3) := by decide +kernel
theorem d_RO_order_36 : decode c_RO_order 36 = .ok (.iconst (-1), 1) := by decide +kernel
theorem d_RO_order_37 : decode c_RO_order 37 = .ok (.goto 4, 3) := by decide +kernel
theorem d_RO_order_40 : decode c_RO_order 40 = .ok (.iconst 0, 1) := by decide +kernel
theorem d_RO_order_41 : decode c_RO_order 41 = .ok (.ireturn, 1) := by decide +kernel
theorem d_RO_links_0 : decode c_RO_links 0 = .ok (.aload_n 0, 1) := by decide +kernel
theorem d_RO_links_1 : decode c_RO_links 1 = .ok (.getfield 19, 3) := by decide +kernel
theorem d_RO_links_4 : decode c_RO_links 4 = .ok (.invokevirtual 107, 3) := by decide +kernel
theorem d_RO_links_7 : decode c_RO_links 7 = .ok (.ireturn, 1) := by decide +kernel
theorem d_RO_link_0 : decode c_RO_link 0 = .ok (.iload_n 2, 1) := by decide +kernel
theorem d_RO_link_1 : decode c_RO_link 1 = .ok (.ifCond .lt 8, 3) := by decide +kernel
theorem d_RO_link_4 : decode c_RO_link 4 = .ok (.iload_n 2, 1) := by decide +kernel
theorem d_RO_link_5 : decode c_RO_link 5 = .ok (.iconst 1, 1) := by decide +kernel
theorem d_RO_link_6 : decode c_RO_link 6 = .ok (.if_icmp .le 13, 3) := by decide +kernel
theorem d_RO_link_9 : decode c_RO_link 9 = .ok (.new 65, 3) := by decide +kernel
theorem d_RO_link_12 : decode c_RO_link 12 = .ok (.dup, 1) := by decide +kernel
theorem d_RO_link_13 : decode c_RO_link 13 = .ok (.ldc 110, 2) := by decide +kernel
theorem d_RO_link_15 : decode c_RO_link 15 = .ok (.invokespecial 69, 3) := by decide +kernel
theorem d_RO_link_18 : decode c_RO_link 18 = .ok (.athrow, 1) := by decide +kernel
theorem d_RO_link_19 : decode c_RO_link 19 = .ok (.iload_n 1, 1) := by decide +kernel
theorem d_RO_link_20 : decode c_RO_link 20 = .ok (.ifCond .lt 14, 3) := by decide +kernel
theorem d_RO_link_23 : decode c_RO_link 23 = .ok (.iload_n 1, 1) := by decide +kernel
theorem d_RO_link_24 : decode c_RO_link 24 = .ok (.aload_n 0, 1) := by decide +kernel
theorem d_RO_link_25 : decode c_RO_link 25 = .ok (.getfield 19, 3) := by decide +kernel
theorem d_RO_link_28 : decode c_RO_link 28 = .ok (.invokevirtual 107, 3) := by decide +kernel
theorem d_RO_link_31 : decode c_RO_link 31 = .ok (.if_icmp .lt 13, 3) := by decide +kernel
theorem d_RO_link_34 : decode c_RO_link 34 = .ok (.new 65, 3) := by decide +kernel
theorem d_RO_link_37 : decode c_RO_link 37 = .ok (.dup, 1) := by decide +kernel
theorem d_RO_link_38 : decode c_RO_link 38 = .ok (.ldc 112, 2) := by decide +kernel
theorem d_RO_link_40 : decode c_RO_link 40 = .ok (.invokespecial 69, 3) := by decide +kernel
theorem d_RO_link_43 : decode c_RO_link 43 = .ok (.athrow, 1) := by decide +kernel
theorem d_RO_link_44 : decode c_RO_link 44 = .ok (.aload_n 0, 1) := by decide +kernel
theorem d_RO_link_45 : decode c_RO_link 45 = .ok (.getfield 19, 3) := by decide +kernel
theorem d_RO_link_48 : decode c_RO_link 48 = .ok (.iload_n 1, 1) := by decide +kernel
theorem d_RO_link_49 : decode c_RO_link 49 = .ok (.iload_n 2, 1) := by decide +kernel
theorem d_RO_link_50 : decode c_RO_link 50 = .ok (.ifCond .ne 7, 3) := by decide +kernel
theorem d_RO_link_53 : decode c_RO_link 53 = .ok (.iconst 1, 1) := by decide +kernel
theorem d_RO_link_54 : decode c_RO_link 54 = .ok (.goto 4, 3) := by decide +kernel
theorem d_RO_link_57 : decode c_RO_link 57 = .ok (.iconst 0, 1) := by decide +kernel
theorem d_RO_link_58 : decode c_RO_link 58 = .ok (.invokevirtual 114, 3) := by decide +kernel
theorem d_RO_link_61 : decode c_RO_link 61 = .ok (.ireturn, 1) := by decide +kernel
theorem d_RO_equal_0 : decode c_RO_equal 0 = .ok (.aload_n 0, 1) := by decide +kernel
theorem d_RO_equal_1 : decode c_RO_equal 1 = .ok (.iload_n 1, 1) := by decide +kernel
theorem d_RO_equal_2 : decode c_RO_equal 2 = .ok (.invokevirtual 61, 3) := by decide +kernel
theorem d_RO_equal_5 : decode c_RO_equal 5 = .ok (.aload_n 0, 1) := by decide +kernel
theorem d_RO_equal_6 : decode c_RO_equal 6 = .ok (.getfield 19, 3) := by decide +kernel
theorem d_RO_equal_9 : decode c_RO_equal 9 = .ok (.iload_n 1, 1) := by decide +kernel
theorem d_RO_equal_10 : decode c_RO_equal 10 = .ok (.invokevirtual 75, 3) := by decide +kernel
theorem d_RO_equal_13 : decode c_RO_equal 13 = .ok (.ireturn, 1) := by decide +kernel
theorem d_RO_contemporary_0 : decode c_RO_contemporary 0 = .ok (.aload_n 0, 1) := by decide +kernel
theorem d_RO_contemporary_1 : decode c_RO_contemporary 1 = .ok (.iload_n 1, 1) := by decide +kernel
theorem d_RO_contemporary_2 : decode c_RO_contemporary 2 = .ok (.invokevirtual 61, 3) := by decide +kernel
theorem d_RO_contemporary_5 : decode c_RO_contemporary 5 = .ok (.aload_n 0, 1) := by decide +kernel
theorem d_RO_contemporary_6 : decode c_RO_contemporary 6 = .ok (.iload_n 2, 1) := by decide +kernel
theorem d_RO_contemporary_7 : decode c_RO_contemporary 7 = .ok (.invokevirtual 61, 3) := by decide +kernel
theorem d_RO_contemporary_10 : decode c_RO_contemporary 10 = .ok (.aload_n 0, 1) := by decide +kernel
theorem d_RO_contemporary_11 : decode c_RO_contemporary 11 = .ok (.getfield 19, 3) := by decide +kernel
theorem d_RO_contemporary_14 : decode c_RO_contemporary 14 = .ok (.iload_n 1, 1) := by decide +kernel
theorem d_RO_contemporary_15 : decode c_RO_contemporary 15 = .ok (.iload_n 2, 1) := by decide +kernel
theorem d_RO_contemporary_16 : decode c_RO_contemporary 16 = .ok (.aload_n 0, 1) := by decide +kernel
theorem d_RO_contemporary_17 : decode c_RO_contemporary 17 = .ok (.getfield 10, 3) := by decide +kernel
theorem d_RO_contemporary_20 : decode c_RO_contemporary 20 = .ok (.invokevirtual 118, 3) := by decide +kernel
theorem d_RO_contemporary_23 : decode c_RO_contemporary 23 = .ok (.ireturn, 1) := by decide +kernel
theorem d_RO_longest_0 : decode c_RO_longest 0 = .ok (.aload_n 0, 1) := by decide +kernel
theorem d_RO_longest_1 : decode c_RO_longest 1 = .ok (.iload_n 1, 1) := by decide +kernel
theorem d_RO_longest_2 : decode c_RO_longest 2 = .ok (.invokevirtual 61, 3) := by decide +kernel
theorem d_RO_longest_5 : decode c_RO_longest 5 = .ok (.aload_n 0, 1) := by decide +kernel
theorem d_RO_longest_6 : decode c_RO_longest 6 = .ok (.getfield 19, 3) := by decide +kernel
theorem d_RO_longest_9 : decode c_RO_longest 9 = .ok (.iload_n 1, 1) := by decide +kernel
theorem d_RO_longest_10 : decode c_RO_longest 10 = .ok (.invokevirtual 122, 3) := by decide +kernel
theorem d_RO_longest_13 : decode c_RO_longest 13 = .ok (.ireturn, 1) := by decide +kernel
theorem d_RO_group_0 : decode c_RO_group 0 = .ok (.aload_n 0, 1) := by decide +kernel
theorem d_RO_group_1 : decode c_RO_group 1 = .ok (.getfield 33, 3) := by decide +kernel
theorem d_RO_group_4 : decode c_RO_group 4 = .ok (.invokevirtual 125, 3) := by decide +kernel
theorem d_RO_group_7 : decode c_RO_group 7 = .ok (.bipush 12, 2) := by decide +kernel
theorem d_RO_group_9 : decode c_RO_group 9 = .ok (.if_icmp .lt 13, 3) := by decide +kernel
theorem d_RO_group_12 : decode c_RO_group 12 = .ok (.new 51, 3) := by decide +kernel
theorem d_RO_group_15 : decode c_RO_group 15 = .ok (.dup, 1) := by decide +kernel
theorem d_RO_group_16 : decode c_RO_group 16 = .ok (.ldc 126, 2) := by decide +kernel
theorem d_RO_group_18 : decode c_RO_group 18 = .ok (.invokespecial 55, 3) := by decide +kernel
theorem d_RO_group_21 : decode c_RO_group 21 = .ok (.athrow, 1) := by decide +kernel
theorem d_RO_group_22 : decode c_RO_group 22 = .ok (.aload_n 0, 1) := by decide +kernel
theorem d_RO_group_23 : decode c_RO_group 23 = .ok (.getfield 33, 3) := by decide +kernel
theorem d_RO_group_26 : decode c_RO_group 26 = .ok (.invokevirtual 128, 3) := by decide +kernel
theorem d_RO_group_29 : decode c_RO_group 29 = .ok (.ireturn, 1) := by decide +kernel
theorem d_RO_into_0 : decode c_RO_into 0 = .ok (.iload_n 1, 1) := by decide +kernel
theorem d_RO_into_1 : decode c_RO_into 1 = .ok (.ifCond .lt 14, 3) := by decide +kernel
theorem d_RO_into_4 : decode c_RO_into 4 = .ok (.iload_n 1, 1) := by decide +kernel
theorem d_RO_into_5 : decode c_RO_into 5 = .ok (.aload_n 0, 1) := by decide +kernel
theorem d_RO_into_6 : decode c_RO_into 6 = .ok (.getfield 33, 3) := by decide +kernel
theorem d_RO_into_9 : decode c_RO_into 9 = .ok (.invokevirtual 125, 3) := by decide +kernel
theorem d_RO_into_12 : decode c_RO_into 12 = .ok (.if_icmp .lt 13, 3) := by decide +kernel
theorem d_RO_into_15 : decode c_RO_into 15 = .ok (.new 65, 3) := by decide +kernel
theorem d_RO_into_18 : decode c_RO_into 18 = .ok (.dup, 1) := by decide +kernel
theorem d_RO_into_19 : decode c_RO_into 19 = .ok (.ldc 130, 2) := by decide +kernel
theorem d_RO_into_21 : decode c_RO_into 21 = .ok (.invokespecial 69, 3) := by decide +kernel
theorem d_RO_into_24 : decode c_RO_into 24 = .ok (.athrow, 1) := by decide +kernel
theorem d_RO_into_25 : decode c_RO_into 25 = .ok (.aload_n 0, 1) := by decide +kernel
theorem d_RO_into_26 : decode c_RO_into 26 = .ok (.iload_n 2, 1) := by decide +kernel
theorem d_RO_into_27 : decode c_RO_into 27 = .ok (.invokevirtual 61, 3) := by decide +kernel
theorem d_RO_into_30 : decode c_RO_into 30 = .ok (.aload_n 0, 1) := by decide +kernel
theorem d_RO_into_31 : decode c_RO_into 31 = .ok (.getfield 33, 3) := by decide +kernel
theorem d_RO_into_34 : decode c_RO_into 34 = .ok (.iload_n 1, 1) := by decide +kernel
theorem d_RO_into_35 : decode c_RO_into 35 = .ok (.iload_n 2, 1) := by decide +kernel
theorem d_RO_into_36 : decode c_RO_into 36 = .ok (.aload_n 0, 1) := by decide +kernel
theorem d_RO_into_37 : decode c_RO_into 37 = .ok (.getfield 19, 3) := by decide +kernel
theorem d_RO_into_40 : decode c_RO_into 40 = .ok (.invokevirtual 132, 3) := by decide +kernel
theorem d_RO_into_43 : decode c_RO_into 43 = .ok (.ireturn, 1) := by decide +kernel
theorem d_RO_groupRing_0 : decode c_RO_groupRing 0 = .ok (.iload_n 1, 1) := by decide +kernel
theorem d_RO_groupRing_1 : decode c_RO_groupRing 1 = .ok (.invokestatic 91, 3) := by decide +kernel
theorem d_RO_groupRing_4 : decode c_RO_groupRing 4 = .ok (.aload_n 0, 1) := by decide +kernel
theorem d_RO_groupRing_5 : decode c_RO_groupRing 5 = .ok (.getfield 33, 3) := by decide +kernel
theorem d_RO_groupRing_8 : decode c_RO_groupRing 8 = .ok (.iload_n 1, 1) := by decide +kernel
theorem d_RO_groupRing_9 : decode c_RO_groupRing 9 = .ok (.invokevirtual 136, 3) := by decide +kernel
theorem d_RO_groupRing_12 : decode c_RO_groupRing 12 = .ok (.ireturn, 1) := by decide +kernel
theorem d_RO_groupOf_0 : decode c_RO_groupOf 0 = .ok (.aload_n 0, 1) := by decide +kernel
theorem d_RO_groupOf_1 : decode c_RO_groupOf 1 = .ok (.iload_n 1, 1) := by decide +kernel
theorem d_RO_groupOf_2 : decode c_RO_groupOf 2 = .ok (.invokevirtual 61, 3) := by decide +kernel
theorem d_RO_groupOf_5 : decode c_RO_groupOf 5 = .ok (.aload_n 0, 1) := by decide +kernel
theorem d_RO_groupOf_6 : decode c_RO_groupOf 6 = .ok (.getfield 33, 3) := by decide +kernel
theorem d_RO_groupOf_9 : decode c_RO_groupOf 9 = .ok (.iload_n 1, 1) := by decide +kernel
theorem d_RO_groupOf_10 : decode c_RO_groupOf 10 = .ok (.invokevirtual 139, 3) := by decide +kernel
theorem d_RO_groupOf_13 : decode c_RO_groupOf 13 = .ok (.ireturn, 1) := by decide +kernel
theorem d_RO_version_0 : decode c_RO_version 0 = .ok (.aload_n 0, 1) := by decide +kernel
theorem d_RO_version_1 : decode c_RO_version 1 = .ok (.getfield 43, 3) := by decide +kernel
theorem d_RO_version_4 : decode c_RO_version 4 = .ok (.ifCond .lt 15, 3) := by decide +kernel
theorem d_RO_version_7 : decode c_RO_version 7 = .ok (.aload_n 0, 1) := by decide +kernel
theorem d_RO_version_8 : decode c_RO_version 8 = .ok (.getfield 43, 3) := by decide +kernel
theorem d_RO_version_11 : decode c_RO_version 11 = .ok (.aload_n 0, 1) := by decide +kernel
theorem d_RO_version_12 : decode c_RO_version 12 = .ok (.getfield 39, 3) := by decide +kernel
theorem d_RO_version_15 : decode c_RO_version 15 = .ok (.arraylength, 1) := by decide +kernel
theorem d_RO_version_16 : decode c_RO_version 16 = .ok (.if_icmp .lt 13, 3) := by decide +kernel
theorem d_RO_version_19 : decode c_RO_version 19 = .ok (.new 51, 3) := by decide +kernel
theorem d_RO_version_22 : decode c_RO_version 22 = .ok (.dup, 1) := by decide +kernel
theorem d_RO_version_23 : decode c_RO_version 23 = .ok (.ldc 142, 2) := by decide +kernel
theorem d_RO_version_25 : decode c_RO_version 25 = .ok (.invokespecial 55, 3) := by decide +kernel
theorem d_RO_version_28 : decode c_RO_version 28 = .ok (.athrow, 1) := by decide +kernel
theorem d_RO_version_29 : decode c_RO_version 29 = .ok (.aload_n 0, 1) := by decide +kernel
theorem d_RO_version_30 : decode c_RO_version 30 = .ok (.getfield 39, 3) := by decide +kernel
theorem d_RO_version_33 : decode c_RO_version 33 = .ok (.aload_n 0, 1) := by decide +kernel
theorem d_RO_version_34 : decode c_RO_version 34 = .ok (.getfield 43, 3) := by decide +kernel
theorem d_RO_version_37 : decode c_RO_version 37 = .ok (.new 37, 3) := by decide +kernel
theorem d_RO_version_40 : decode c_RO_version 40 = .ok (.dup, 1) := by decide +kernel
theorem d_RO_version_41 : decode c_RO_version 41 = .ok (.aload_n 0, 1) := by decide +kernel
theorem d_RO_version_42 : decode c_RO_version 42 = .ok (.getfield 19, 3) := by decide +kernel
theorem d_RO_version_45 : decode c_RO_version 45 = .ok (.invokespecial 144, 3) := by decide +kernel
theorem d_RO_version_48 : decode c_RO_version 48 = .ok (.aastore, 1) := by decide +kernel
theorem d_RO_version_49 : decode c_RO_version 49 = .ok (.aload_n 0, 1) := by decide +kernel
theorem d_RO_version_50 : decode c_RO_version 50 = .ok (.dup, 1) := by decide +kernel
theorem d_RO_version_51 : decode c_RO_version 51 = .ok (.getfield 43, 3) := by decide +kernel
theorem d_RO_version_54 : decode c_RO_version 54 = .ok (.iconst 1, 1) := by decide +kernel
theorem d_RO_version_55 : decode c_RO_version 55 = .ok (.iadd, 1) := by decide +kernel
theorem d_RO_version_56 : decode c_RO_version 56 = .ok (.putfield 43, 3) := by decide +kernel
theorem d_RO_version_59 : decode c_RO_version 59 = .ok (.aload_n 0, 1) := by decide +kernel
theorem d_RO_version_60 : decode c_RO_version 60 = .ok (.getfield 43, 3) := by decide +kernel
theorem d_RO_version_63 : decode c_RO_version 63 = .ok (.iconst 1, 1) := by decide +kernel
theorem d_RO_version_64 : decode c_RO_version 64 = .ok (.isub, 1) := by decide +kernel
theorem d_RO_version_65 : decode c_RO_version 65 = .ok (.ireturn, 1) := by decide +kernel
theorem d_RO_differs_0 : decode c_RO_differs 0 = .ok (.aload_n 0, 1) := by decide +kernel
theorem d_RO_differs_1 : decode c_RO_differs 1 = .ok (.iload_n 1, 1) := by decide +kernel
theorem d_RO_differs_2 : decode c_RO_differs 2 = .ok (.invokevirtual 147, 3) := by decide +kernel
theorem d_RO_differs_5 : decode c_RO_differs 5 = .ok (.astore 4, 2) := by decide +kernel
theorem d_RO_differs_7 : decode c_RO_differs 7 = .ok (.aload_n 0, 1) := by decide +kernel
theorem d_RO_differs_8 : decode c_RO_differs 8 = .ok (.iload_n 2, 1) := by decide +kernel
theorem d_RO_differs_9 : decode c_RO_differs 9 = .ok (.invokevirtual 147, 3) := by decide +kernel
theorem d_RO_differs_12 : decode c_RO_differs 12 = .ok (.astore 5, 2) := by decide +kernel
theorem d_RO_differs_14 : decode c_RO_differs 14 = .ok (.aload 4, 2) := by decide +kernel
theorem d_RO_differs_16 : decode c_RO_differs 16 = .ok (.ifnull 8, 3) := by decide +kernel
theorem d_RO_differs_19 : decode c_RO_differs 19 = .ok (.aload 5, 2) := by decide +kernel
theorem d_RO_differs_21 : decode c_RO_differs 21 = .ok (.ifnonnull 13, 3) := by decide +kernel
theorem d_RO_differs_24 : decode c_RO_differs 24 = .ok (.new 65, 3) := by decide +kernel
theorem d_RO_differs_27 : decode c_RO_differs 27 = .ok (.dup, 1) := by decide +kernel
theorem d_RO_differs_28 : decode c_RO_differs 28 = .ok (.ldc 151, 2) := by decide +kernel
theorem d_RO_differs_30 : decode c_RO_differs 30 = .ok (.invokespecial 69, 3) := by decide +kernel
theorem d_RO_differs_33 : decode c_RO_differs 33 = .ok (.athrow, 1) := by decide +kernel
theorem d_RO_differs_34 : decode c_RO_differs 34 = .ok (.iload_n 3, 1) := by decide +kernel
theorem d_RO_differs_35 : decode c_RO_differs 35 = .ok (.invokestatic 91, 3) := by decide +kernel
theorem d_RO_differs_38 : decode c_RO_differs 38 = .ok (.aload 4, 2) := by decide +kernel
theorem d_RO_differs_40 : decode c_RO_differs 40 = .ok (.aload 5, 2) := by decide +kernel
theorem d_RO_differs_42 : decode c_RO_differs 42 = .ok (.invokevirtual 153, 3) := by decide +kernel
theorem d_RO_differs_45 : decode c_RO_differs 45 = .ok (.iload_n 3, 1) := by decide +kernel
theorem d_RO_differs_46 : decode c_RO_differs 46 = .ok (.invokestatic 157, 3) := by decide +kernel
theorem d_RO_differs_49 : decode c_RO_differs 49 = .ok (.ireturn, 1) := by decide +kernel
theorem d_RO_count_0 : decode c_RO_count 0 = .ok (.iload_n 1, 1) := by decide +kernel
theorem d_RO_count_1 : decode c_RO_count 1 = .ok (.tableswitch 75 0 4 #[35, 43, 51, 59, 67], 35) := by decide +kernel
theorem d_RO_count_36 : decode c_RO_count 36 = .ok (.aload_n 0, 1) := by decide +kernel
theorem d_RO_count_37 : decode c_RO_count 37 = .ok (.getfield 19, 3) := by decide +kernel
theorem d_RO_count_40 : decode c_RO_count 40 = .ok (.invokevirtual 47, 3) := by decide +kernel
theorem d_RO_count_43 : decode c_RO_count 43 = .ok (.ireturn, 1) := by decide +kernel
theorem d_RO_count_44 : decode c_RO_count 44 = .ok (.aload_n 0, 1) := by decide +kernel
theorem d_RO_count_45 : decode c_RO_count 45 = .ok (.getfield 10, 3) := by decide +kernel
theorem d_RO_count_48 : decode c_RO_count 48 = .ok (.invokevirtual 161, 3) := by decide +kernel
theorem d_RO_count_51 : decode c_RO_count 51 = .ok (.ireturn, 1) := by decide +kernel
theorem d_RO_count_52 : decode c_RO_count 52 = .ok (.aload_n 0, 1) := by decide +kernel
theorem d_RO_count_53 : decode c_RO_count 53 = .ok (.getfield 19, 3) := by decide +kernel
theorem d_RO_count_56 : decode c_RO_count 56 = .ok (.invokevirtual 164, 3) := by decide +kernel
theorem d_RO_count_59 : decode c_RO_count 59 = .ok (.ireturn, 1) := by decide +kernel
theorem d_RO_count_60 : decode c_RO_count 60 = .ok (.aload_n 0, 1) := by decide +kernel
theorem d_RO_count_61 : decode c_RO_count 61 = .ok (.getfield 19, 3) := by decide +kernel
theorem d_RO_count_64 : decode c_RO_count 64 = .ok (.invokevirtual 167, 3) := by decide +kernel
theorem d_RO_count_67 : decode c_RO_count 67 = .ok (.ireturn, 1) := by decide +kernel
theorem d_RO_count_68 : decode c_RO_count 68 = .ok (.aload_n 0, 1) := by decide +kernel
theorem d_RO_count_69 : decode c_RO_count 69 = .ok (.getfield 33, 3) := by decide +kernel
theorem d_RO_count_72 : decode c_RO_count 72 = .ok (.invokevirtual 125, 3) := by decide +kernel
theorem d_RO_count_75 : decode c_RO_count 75 = .ok (.ireturn, 1) := by decide +kernel
theorem d_RO_count_76 : decode c_RO_count 76 = .ok (.new 65, 3) := by decide +kernel
theorem d_RO_count_79 : decode c_RO_count 79 = .ok (.dup, 1) := by decide +kernel
theorem d_RO_count_80 : decode c_RO_count 80 = .ok (.ldc 170, 2) := by decide +kernel
theorem d_RO_count_82 : decode c_RO_count 82 = .ok (.invokespecial 69, 3) := by decide +kernel
theorem d_RO_count_85 : decode c_RO_count 85 = .ok (.athrow, 1) := by decide +kernel
theorem d_RO_checkContext_0 : decode c_RO_checkContext 0 = .ok (.iload_n 1, 1) := by decide +kernel
theorem d_RO_checkContext_1 : decode c_RO_checkContext 1 = .ok (.ifCond .lt 14, 3) := by decide +kernel
theorem d_RO_checkContext_4 : decode c_RO_checkContext 4 = .ok (.iload_n 1, 1) := by decide +kernel
theorem d_RO_checkContext_5 : decode c_RO_checkContext 5 = .ok (.aload_n 0, 1) := by decide +kernel
theorem d_RO_checkContext_6 : decode c_RO_checkContext 6 = .ok (.getfield 19, 3) := by decide +kernel
theorem d_RO_checkContext_9 : decode c_RO_checkContext 9 = .ok (.invokevirtual 47, 3) := by decide +kernel
theorem d_RO_checkContext_12 : decode c_RO_checkContext 12 = .ok (.if_icmp .lt 13, 3) := by decide +kernel
theorem d_RO_checkContext_15 : decode c_RO_checkContext 15 = .ok (.new 65, 3) := by decide +kernel
theorem d_RO_checkContext_18 : decode c_RO_checkContext 18 = .ok (.dup, 1) := by decide +kernel
theorem d_RO_checkContext_19 : decode c_RO_checkContext 19 = .ok (.ldc 172, 2) := by decide +kernel
theorem d_RO_checkContext_21 : decode c_RO_checkContext 21 = .ok (.invokespecial 69, 3) := by decide +kernel
theorem d_RO_checkContext_24 : decode c_RO_checkContext 24 = .ok (.athrow, 1) := by decide +kernel
theorem d_RO_checkContext_25 : decode c_RO_checkContext 25 = .ok (.return_, 1) := by decide +kernel
theorem d_RO_checkPlace_0 : decode c_RO_checkPlace 0 = .ok (.iload_n 0, 1) := by decide +kernel
theorem d_RO_checkPlace_1 : decode c_RO_checkPlace 1 = .ok (.ifCond .ge 13, 3) := by decide +kernel
theorem d_RO_checkPlace_4 : decode c_RO_checkPlace 4 = .ok (.new 65, 3) := by decide +kernel
theorem d_RO_checkPlace_7 : decode c_RO_checkPlace 7 = .ok (.dup, 1) := by decide +kernel
theorem d_RO_checkPlace_8 : decode c_RO_checkPlace 8 = .ok (.ldc 174, 2) := by decide +kernel
theorem d_RO_checkPlace_10 : decode c_RO_checkPlace 10 = .ok (.invokespecial 69, 3) := by decide +kernel
theorem d_RO_checkPlace_13 : decode c_RO_checkPlace 13 = .ok (.athrow, 1) := by decide +kernel
theorem d_RO_checkPlace_14 : decode c_RO_checkPlace 14 = .ok (.return_, 1) := by decide +kernel
theorem d_RO_versionAt_0 : decode c_RO_versionAt 0 = .ok (.iload_n 1, 1) := by decide +kernel
theorem d_RO_versionAt_1 : decode c_RO_versionAt 1 = .ok (.ifCond .lt 21, 3) := by decide +kernel
theorem d_RO_versionAt_4 : decode c_RO_versionAt 4 = .ok (.iload_n 1, 1) := by decide +kernel
theorem d_RO_versionAt_5 : decode c_RO_versionAt 5 = .ok (.aload_n 0, 1) := by decide +kernel
theorem d_RO_versionAt_6 : decode c_RO_versionAt 6 = .ok (.getfield 39, 3) := by decide +kernel
theorem d_RO_versionAt_9 : decode c_RO_versionAt 9 = .ok (.arraylength, 1) := by decide +kernel
theorem d_RO_versionAt_10 : decode c_RO_versionAt 10 = .ok (.if_icmp .ge 12, 3) := by decide +kernel
theorem d_RO_versionAt_13 : decode c_RO_versionAt 13 = .ok (.aload_n 0, 1) := by decide +kernel
theorem d_RO_versionAt_14 : decode c_RO_versionAt 14 = .ok (.getfield 39, 3) := by decide +kernel
theorem d_RO_versionAt_17 : decode c_RO_versionAt 17 = .ok (.iload_n 1, 1) := by decide +kernel
theorem d_RO_versionAt_18 : decode c_RO_versionAt 18 = .ok (.aaload, 1) := by decide +kernel
theorem d_RO_versionAt_19 : decode c_RO_versionAt 19 = .ok (.goto 4, 3) := by decide +kernel
theorem d_RO_versionAt_22 : decode c_RO_versionAt 22 = .ok (.aconst_null, 1) := by decide +kernel
theorem d_RO_versionAt_23 : decode c_RO_versionAt 23 = .ok (.areturn, 1) := by decide +kernel
theorem d_RO_closesRing_0 : decode c_RO_closesRing 0 = .ok (.iload_n 3, 1) := by decide +kernel
theorem d_RO_closesRing_1 : decode c_RO_closesRing 1 = .ok (.iconst 4, 1) := by decide +kernel
theorem d_RO_closesRing_2 : decode c_RO_closesRing 2 = .ok (.if_icmp .ne 5, 3) := by decide +kernel
theorem d_RO_closesRing_5 : decode c_RO_closesRing 5 = .ok (.iconst 0, 1) := by decide +kernel
theorem d_RO_closesRing_6 : decode c_RO_closesRing 6 = .ok (.ireturn, 1) := by decide +kernel
theorem d_RO_closesRing_7 : decode c_RO_closesRing 7 = .ok (.iload_n 3, 1) := by decide +kernel
theorem d_RO_closesRing_8 : decode c_RO_closesRing 8 = .ok (.iconst 3, 1) := by decide +kernel
theorem d_RO_closesRing_9 : decode c_RO_closesRing 9 = .ok (.if_icmp .eq 18, 3) := by decide +kernel
theorem d_RO_closesRing_12 : decode c_RO_closesRing 12 = .ok (.aload_n 0, 1) := by decide +kernel
theorem d_RO_closesRing_13 : decode c_RO_closesRing 13 = .ok (.getfield 19, 3) := by decide +kernel
theorem d_RO_closesRing_16 : decode c_RO_closesRing 16 = .ok (.iload_n 1, 1) := by decide +kernel
theorem d_RO_closesRing_17 : decode c_RO_closesRing 17 = .ok (.iload_n 2, 1) := by decide +kernel
theorem d_RO_closesRing_18 : decode c_RO_closesRing 18 = .ok (.iload_n 1, 1) := by decide +kernel
theorem d_RO_closesRing_19 : decode c_RO_closesRing 19 = .ok (.aload_n 0, 1) := by decide +kernel
theorem d_RO_closesRing_20 : decode c_RO_closesRing 20 = .ok (.getfield 26, 3) := by decide +kernel
theorem d_RO_closesRing_23 : decode c_RO_closesRing 23 = .ok (.invokevirtual 176, 3) := by decide +kernel
theorem d_RO_closesRing_26 : decode c_RO_closesRing 26 = .ok (.ireturn, 1) := by decide +kernel
theorem d_RO_closesRing_27 : decode c_RO_closesRing 27 = .ok (.iload_n 1, 1) := by decide +kernel
theorem d_RO_closesRing_28 : decode c_RO_closesRing 28 = .ok (.iload_n 2, 1) := by decide +kernel
theorem d_RO_closesRing_29 : decode c_RO_closesRing 29 = .ok (.if_icmp .eq 41, 3) := by decide +kernel
theorem d_RO_closesRing_32 : decode c_RO_closesRing 32 = .ok (.aload_n 0, 1) := by decide +kernel
theorem d_RO_closesRing_33 : decode c_RO_closesRing 33 = .ok (.getfield 19, 3) := by decide +kernel
theorem d_RO_closesRing_36 : decode c_RO_closesRing 36 = .ok (.iload_n 2, 1) := by decide +kernel
theorem d_RO_closesRing_37 : decode c_RO_closesRing 37 = .ok (.iload_n 1, 1) := by decide +kernel
theorem d_RO_closesRing_38 : decode c_RO_closesRing 38 = .ok (.iload_n 1, 1) := by decide +kernel
theorem d_RO_closesRing_39 : decode c_RO_closesRing 39 = .ok (.aload_n 0, 1) := by decide +kernel
theorem d_RO_closesRing_40 : decode c_RO_closesRing 40 = .ok (.getfield 26, 3) := by decide +kernel
theorem d_RO_closesRing_43 : decode c_RO_closesRing 43 = .ok (.invokevirtual 176, 3) := by decide +kernel
theorem d_RO_closesRing_46 : decode c_RO_closesRing 46 = .ok (.ifCond .ne 20, 3) := by decide +kernel
theorem d_RO_closesRing_49 : decode c_RO_closesRing 49 = .ok (.aload_n 0, 1) := by decide +kernel
theorem d_RO_closesRing_50 : decode c_RO_closesRing 50 = .ok (.getfield 19, 3) := by decide +kernel
theorem d_RO_closesRing_53 : decode c_RO_closesRing 53 = .ok (.iload_n 1, 1) := by decide +kernel
theorem d_RO_closesRing_54 : decode c_RO_closesRing 54 = .ok (.iload_n 2, 1) := by decide +kernel
theorem d_RO_closesRing_55 : decode c_RO_closesRing 55 = .ok (.iload_n 2, 1) := by decide +kernel
theorem d_RO_closesRing_56 : decode c_RO_closesRing 56 = .ok (.aload_n 0, 1) := by decide +kernel
theorem d_RO_closesRing_57 : decode c_RO_closesRing 57 = .ok (.getfield 26, 3) := by decide +kernel
theorem d_RO_closesRing_60 : decode c_RO_closesRing 60 = .ok (.invokevirtual 176, 3) := by decide +kernel
theorem d_RO_closesRing_63 : decode c_RO_closesRing 63 = .ok (.ifCond .eq 7, 3) := by decide +kernel
theorem d_RO_closesRing_66 : decode c_RO_closesRing 66 = .ok (.iconst 1, 1) := by decide +kernel
theorem d_RO_closesRing_67 : decode c_RO_closesRing 67 = .ok (.goto 4, 3) := by decide +kernel
theorem d_RO_closesRing_70 : decode c_RO_closesRing 70 = .ok (.iconst 0, 1) := by decide +kernel
theorem d_RO_closesRing_71 : decode c_RO_closesRing 71 = .ok (.ireturn, 1) := by decide +kernel
theorem d_RO_nthOf_0 : decode c_RO_nthOf 0 = .ok (.iload_n 2, 1) := by decide +kernel
theorem d_RO_nthOf_1 : decode c_RO_nthOf 1 = .ok (.istore_n 3, 1) := by decide +kernel
theorem d_RO_nthOf_2 : decode c_RO_nthOf 2 = .ok (.iconst 0, 1) := by decide +kernel
theorem d_RO_nthOf_3 : decode c_RO_nthOf 3 = .ok (.istore 4, 2) := by decide +kernel
theorem d_RO_nthOf_5 : decode c_RO_nthOf 5 = .ok (.iload 4, 2) := by decide +kernel
theorem d_RO_nthOf_7 : decode c_RO_nthOf 7 = .ok (.bipush 48, 2) := by decide +kernel
theorem d_RO_nthOf_9 : decode c_RO_nthOf 9 = .ok (.if_icmp .ge 30, 3) := by decide +kernel
theorem d_RO_nthOf_12 : decode c_RO_nthOf 12 = .ok (.lload_n 0, 1) := by decide +kernel
theorem d_RO_nthOf_13 : decode c_RO_nthOf 13 = .ok (.iload 4, 2) := by decide +kernel
theorem d_RO_nthOf_15 : decode c_RO_nthOf 15 = .ok (.lushr, 1) := by decide +kernel
theorem d_RO_nthOf_16 : decode c_RO_nthOf 16 = .ok (.lconst 1, 1) := by decide +kernel
theorem d_RO_nthOf_17 : decode c_RO_nthOf 17 = .ok (.land, 1) := by decide +kernel
theorem d_RO_nthOf_18 : decode c_RO_nthOf 18 = .ok (.lconst 0, 1) := by decide +kernel
theorem d_RO_nthOf_19 : decode c_RO_nthOf 19 = .ok (.lcmp, 1) := by decide +kernel
theorem d_RO_nthOf_20 : decode c_RO_nthOf 20 = .ok (.ifCond .eq 13, 3) := by decide +kernel
theorem d_RO_nthOf_23 : decode c_RO_nthOf 23 = .ok (.iload_n 3, 1) := by decide +kernel
theorem d_RO_nthOf_24 : decode c_RO_nthOf 24 = .ok (.ifCond .ne 6, 3) := by decide +kernel
theorem d_RO_nthOf_27 : decode c_RO_nthOf 27 = .ok (.iload 4, 2) := by decide +kernel
theorem d_RO_nthOf_29 : decode c_RO_nthOf 29 = .ok (.ireturn, 1) := by decide +kernel
theorem d_RO_nthOf_30 : decode c_RO_nthOf 30 = .ok (.iinc 3 (-1), 3) := by decide +kernel
theorem d_RO_nthOf_33 : decode c_RO_nthOf 33 = .ok (.iinc 4 1, 3) := by decide +kernel
theorem d_RO_nthOf_36 : decode c_RO_nthOf 36 = .ok (.goto (-31), 3) := by decide +kernel
theorem d_RO_nthOf_39 : decode c_RO_nthOf 39 = .ok (.iconst (-1), 1) := by decide +kernel
theorem d_RO_nthOf_40 : decode c_RO_nthOf 40 = .ok (.ireturn, 1) := by decide +kernel
theorem d_Md_init_0 : decode c_Md_init 0 = .ok (.aload_n 0, 1) := by decide +kernel
theorem d_Md_init_1 : decode c_Md_init 1 = .ok (.invokespecial 1, 3) := by decide +kernel
theorem d_Md_init_4 : decode c_Md_init 4 = .ok (.aload_n 0, 1) := by decide +kernel
theorem d_Md_init_5 : decode c_Md_init 5 = .ok (.sipush 200, 3) := by decide +kernel
theorem d_Md_init_8 : decode c_Md_init 8 = .ok (.newarray .int, 2) := by decide +kernel
theorem d_Md_init_10 : decode c_Md_init 10 = .ok (.putfield 7, 3) := by decide +kernel
theorem d_Md_init_13 : decode c_Md_init 13 = .ok (.aload_n 0, 1) := by decide +kernel
theorem d_Md_init_14 : decode c_Md_init 14 = .ok (.sipush 200, 3) := by decide +kernel
theorem d_Md_init_17 : decode c_Md_init 17 = .ok (.newarray .int, 2) := by decide +kernel
theorem d_Md_init_19 : decode c_Md_init 19 = .ok (.putfield 13, 3) := by decide +kernel
theorem d_Md_init_22 : decode c_Md_init 22 = .ok (.aload_n 0, 1) := by decide +kernel
theorem d_Md_init_23 : decode c_Md_init 23 = .ok (.sipush 200, 3) := by decide +kernel
theorem d_Md_init_26 : decode c_Md_init 26 = .ok (.newarray .int, 2) := by decide +kernel
theorem d_Md_init_28 : decode c_Md_init 28 = .ok (.putfield 16, 3) := by decide +kernel
theorem d_Md_init_31 : decode c_Md_init 31 = .ok (.aload_n 0, 1) := by decide +kernel
theorem d_Md_init_32 : decode c_Md_init 32 = .ok (.sipush 200, 3) := by decide +kernel
theorem d_Md_init_35 : decode c_Md_init 35 = .ok (.newarray .boolean, 2) := by decide +kernel
theorem d_Md_init_37 : decode c_Md_init 37 = .ok (.putfield 19, 3) := by decide +kernel
theorem d_Md_init_40 : decode c_Md_init 40 = .ok (.aload_n 0, 1) := by decide +kernel
theorem d_Md_init_41 : decode c_Md_init 41 = .ok (.bipush 48, 2) := by decide +kernel
theorem d_Md_init_43 : decode c_Md_init 43 = .ok (.newarray .int, 2) := by decide +kernel
theorem d_Md_init_45 : decode c_Md_init 45 = .ok (.putfield 23, 3) := by decide +kernel
theorem d_Md_init_48 : decode c_Md_init 48 = .ok (.aload_n 0, 1) := by decide +kernel
theorem d_Md_init_49 : decode c_Md_init 49 = .ok (.sipush 2304, 3) := by decide +kernel
theorem d_Md_init_52 : decode c_Md_init 52 = .ok (.newarray .boolean, 2) := by decide +kernel
theorem d_Md_init_54 : decode c_Md_init 54 = .ok (.putfield 26, 3) := by decide +kernel
theorem d_Md_init_57 : decode c_Md_init 57 = .ok (.aload_n 0, 1) := by decide +kernel
theorem d_Md_init_58 : decode c_Md_init 58 = .ok (.sipush 2304, 3) := by decide +kernel
theorem d_Md_init_61 : decode c_Md_init 61 = .ok (.newarray .boolean, 2) := by decide +kernel
theorem d_Md_init_63 : decode c_Md_init 63 = .ok (.putfield 29, 3) := by decide +kernel
theorem d_Md_init_66 : decode c_Md_init 66 = .ok (.aload_n 0, 1) := by decide +kernel
theorem d_Md_init_67 : decode c_Md_init 67 = .ok (.bipush 48, 2) := by decide +kernel
theorem d_Md_init_69 : decode c_Md_init 69 = .ok (.newarray .int, 2) := by decide +kernel
theorem d_Md_init_71 : decode c_Md_init 71 = .ok (.putfield 32, 3) := by decide +kernel
theorem d_Md_init_74 : decode c_Md_init 74 = .ok (.aload_n 0, 1) := by decide +kernel
theorem d_Md_init_75 : decode c_Md_init 75 = .ok (.bipush 48, 2) := by decide +kernel
theorem d_Md_init_77 : decode c_Md_init 77 = .ok (.newarray .int, 2) := by decide +kernel
theorem d_Md_init_79 : decode c_Md_init 79 = .ok (.putfield 35, 3) := by decide +kernel
theorem d_Md_init_82 : decode c_Md_init 82 = .ok (.aload_n 0, 1) := by decide +kernel
theorem d_Md_init_83 : decode c_Md_init 83 = .ok (.bipush 48, 2) := by decide +kernel
theorem d_Md_init_85 : decode c_Md_init 85 = .ok (.newarray .int, 2) := by decide +kernel
theorem d_Md_init_87 : decode c_Md_init 87 = .ok (.putfield 38, 3) := by decide +kernel
theorem d_Md_init_90 : decode c_Md_init 90 = .ok (.aload_n 0, 1) := by decide +kernel
theorem d_Md_init_91 : decode c_Md_init 91 = .ok (.sipush 144, 3) := by decide +kernel
theorem d_Md_init_94 : decode c_Md_init 94 = .ok (.newarray .boolean, 2) := by decide +kernel
theorem d_Md_init_96 : decode c_Md_init 96 = .ok (.putfield 41, 3) := by decide +kernel
theorem d_Md_init_99 : decode c_Md_init 99 = .ok (.aload_n 0, 1) := by decide +kernel
theorem d_Md_init_100 : decode c_Md_init 100 = .ok (.bipush 12, 2) := by decide +kernel
theorem d_Md_init_102 : decode c_Md_init 102 = .ok (.newarray .int, 2) := by decide +kernel
theorem d_Md_init_104 : decode c_Md_init 104 = .ok (.putfield 44, 3) := by decide +kernel
theorem d_Md_init_107 : decode c_Md_init 107 = .ok (.aload_n 0, 1) := by decide +kernel
theorem d_Md_init_108 : decode c_Md_init 108 = .ok (.bipush 8, 2) := by decide +kernel
theorem d_Md_init_110 : decode c_Md_init 110 = .ok (.newarray .int, 2) := by decide +kernel
theorem d_Md_init_112 : decode c_Md_init 112 = .ok (.putfield 47, 3) := by decide +kernel
theorem d_Md_init_115 : decode c_Md_init 115 = .ok (.aload_n 0, 1) := by decide +kernel
theorem d_Md_init_116 : decode c_Md_init 116 = .ok (.sipush 384, 3) := by decide +kernel
theorem d_Md_init_119 : decode c_Md_init 119 = .ok (.newarray .int, 2) := by decide +kernel
theorem d_Md_init_121 : decode c_Md_init 121 = .ok (.putfield 50, 3) := by decide +kernel
theorem d_Md_init_124 : decode c_Md_init 124 = .ok (.aload_n 0, 1) := by decide +kernel
theorem d_Md_init_125 : decode c_Md_init 125 = .ok (.sipush 18432, 3) := by decide +kernel
theorem d_Md_init_128 : decode c_Md_init 128 = .ok (.newarray .boolean, 2) := by decide +kernel
theorem d_Md_init_130 : decode c_Md_init 130 = .ok (.putfield 53, 3) := by decide +kernel
theorem d_Md_init_133 : decode c_Md_init 133 = .ok (.iconst 0, 1) := by decide +kernel
theorem d_Md_init_134 : decode c_Md_init 134 = .ok (.istore_n 1, 1) := by decide +kernel
theorem d_Md_init_135 : decode c_Md_init 135 = .ok (.iload_n 1, 1) := by decide +kernel
theorem d_Md_init_136 : decode c_Md_init 136 = .ok (.bipush 48, 2) := by decide +kernel
theorem d_Md_init_138 : decode c_Md_init 138 = .ok (.if_icmp .ge 16, 3) := by decide +kernel
theorem d_Md_init_141 : decode c_Md_init 141 = .ok (.aload_n 0, 1) := by decide +kernel
theorem d_Md_init_142 : decode c_Md_init 142 = .ok (.getfield 38, 3) := by decide +kernel
theorem d_Md_init_145 : decode c_Md_init 145 = .ok (.iload_n 1, 1) := by decide +kernel
theorem d_Md_init_146 : decode c_Md_init 146 = .ok (.iconst (-1), 1) := by decide +kernel
theorem d_Md_init_147 : decode c_Md_init 147 = .ok (.iastore, 1) := by decide +kernel
theorem d_Md_init_148 : decode c_Md_init 148 = .ok (.iinc 1 1, 3) := by decide +kernel
theorem d_Md_init_151 : decode c_Md_init 151 = .ok (.goto (-16), 3) := by decide +kernel
theorem d_Md_init_154 : decode c_Md_init 154 = .ok (.return_, 1) := by decide +kernel
theorem d_Md_thrown_0 : decode c_Md_thrown 0 = .ok (.aload_n 0, 1) := by decide +kernel
theorem d_Md_thrown_1 : decode c_Md_thrown 1 = .ok (.getfield 56, 3) := by decide +kernel
theorem d_Md_thrown_4 : decode c_Md_thrown 4 = .ok (.ireturn, 1) := by decide +kernel
theorem d_Md_goes_0 : decode c_Md_goes 0 = .ok (.aload_n 0, 1) := by decide +kernel
theorem d_Md_goes_1 : decode c_Md_goes 1 = .ok (.iload_n 1, 1) := by decide +kernel
theorem d_Md_goes_2 : decode c_Md_goes 2 = .ok (.ifCond .ne 7, 3) := by decide +kernel
theorem d_Md_goes_5 : decode c_Md_goes 5 = .ok (.iconst 1, 1) := by decide +kernel
theorem d_Md_goes_6 : decode c_Md_goes 6 = .ok (.goto 12, 3) := by decide +kernel
theorem d_Md_goes_9 : decode c_Md_goes 9 = .ok (.iload_n 2, 1) := by decide +kernel
theorem d_Md_goes_10 : decode c_Md_goes 10 = .ok (.ifCond .ne 7, 3) := by decide +kernel
theorem d_Md_goes_13 : decode c_Md_goes 13 = .ok (.iconst 2, 1) := by decide +kernel
theorem d_Md_goes_14 : decode c_Md_goes 14 = .ok (.goto 4, 3) := by decide +kernel
theorem d_Md_goes_17 : decode c_Md_goes 17 = .ok (.iconst 0, 1) := by decide +kernel
theorem d_Md_goes_18 : decode c_Md_goes 18 = .ok (.putfield 56, 3) := by decide +kernel
theorem d_Md_goes_21 : decode c_Md_goes 21 = .ok (.aload_n 0, 1) := by decide +kernel
theorem d_Md_goes_22 : decode c_Md_goes 22 = .ok (.getfield 56, 3) := by decide +kernel
theorem d_Md_goes_25 : decode c_Md_goes 25 = .ok (.ifCond .ne 7, 3) := by decide +kernel
theorem d_Md_goes_28 : decode c_Md_goes 28 = .ok (.iconst 1, 1) := by decide +kernel
theorem d_Md_goes_29 : decode c_Md_goes 29 = .ok (.goto 4, 3) := by decide +kernel
theorem d_Md_goes_32 : decode c_Md_goes 32 = .ok (.iconst 0, 1) := by decide +kernel
theorem d_Md_goes_33 : decode c_Md_goes 33 = .ok (.ireturn, 1) := by decide +kernel
theorem d_Md_isContext_0 : decode c_Md_isContext 0 = .ok (.iload_n 1, 1) := by decide +kernel
theorem d_Md_isContext_1 : decode c_Md_isContext 1 = .ok (.ifCond .lt 15, 3) := by decide +kernel
theorem d_Md_isContext_4 : decode c_Md_isContext 4 = .ok (.iload_n 1, 1) := by decide +kernel
theorem d_Md_isContext_5 : decode c_Md_isContext 5 = .ok (.aload_n 0, 1) := by decide +kernel
theorem d_Md_isContext_6 : decode c_Md_isContext 6 = .ok (.getfield 60, 3) := by decide +kernel
theorem d_Md_isContext_9 : decode c_Md_isContext 9 = .ok (.if_icmp .ge 7, 3) := by decide +kernel
theorem d_Md_isContext_12 : decode c_Md_isContext 12 = .ok (.iconst 1, 1) := by decide +kernel
theorem d_Md_isContext_13 : decode c_Md_isContext 13 = .ok (.goto 4, 3) := by decide +kernel
theorem d_Md_isContext_16 : decode c_Md_isContext 16 = .ok (.iconst 0, 1) := by decide +kernel
theorem d_Md_isContext_17 : decode c_Md_isContext 17 = .ok (.ireturn, 1) := by decide +kernel
theorem d_Md_join_0 : decode c_Md_join 0 = .ok (.iconst 0, 1) := by decide +kernel
theorem d_Md_join_1 : decode c_Md_join 1 = .ok (.istore_n 1, 1) := by decide +kernel
theorem d_Md_join_2 : decode c_Md_join 2 = .ok (.iload_n 1, 1) := by decide +kernel
theorem d_Md_join_3 : decode c_Md_join 3 = .ok (.aload_n 0, 1) := by decide +kernel
theorem d_Md_join_4 : decode c_Md_join 4 = .ok (.getfield 60, 3) := by decide +kernel
theorem d_Md_join_7 : decode c_Md_join 7 = .ok (.if_icmp .ge 16, 3) := by decide +kernel
theorem d_Md_join_10 : decode c_Md_join 10 = .ok (.aload_n 0, 1) := by decide +kernel
theorem d_Md_join_11 : decode c_Md_join 11 = .ok (.getfield 23, 3) := by decide +kernel
theorem d_Md_join_14 : decode c_Md_join 14 = .ok (.iload_n 1, 1) := by decide +kernel
theorem d_Md_join_15 : decode c_Md_join 15 = .ok (.iload_n 1, 1) := by decide +kernel
theorem d_Md_join_16 : decode c_Md_join 16 = .ok (.iastore, 1) := by decide +kernel
theorem d_Md_join_17 : decode c_Md_join 17 = .ok (.iinc 1 1, 3) := by decide +kernel
theorem d_Md_join_20 : decode c_Md_join 20 = .ok (.goto (-18), 3) := by decide +kernel
theorem d_Md_join_23 : decode c_Md_join 23 = .ok (.iconst 1, 1) := by decide +kernel
theorem d_Md_join_24 : decode c_Md_join 24 = .ok (.istore_n 1, 1) := by decide +kernel
theorem d_Md_join_25 : decode c_Md_join 25 = .ok (.iload_n 1, 1) := by decide +kernel
theorem d_Md_join_26 : decode c_Md_join 26 = .ok (.ifCond .eq 116, 3) := by decide +kernel
theorem d_Md_join_29 : decode c_Md_join 29 = .ok (.iconst 0, 1) := by decide +kernel
theorem d_Md_join_30 : decode c_Md_join 30 = .ok (.istore_n 1, 1) := by decide +kernel
theorem d_Md_join_31 : decode c_Md_join 31 = .ok (.iconst 0, 1) := by decide +kernel
theorem d_Md_join_32 : decode c_Md_join 32 = .ok (.istore_n 2, 1) := by decide +kernel
theorem d_Md_join_33 : decode c_Md_join 33 = .ok (.iload_n 2, 1) := by decide +kernel
theorem d_Md_join_34 : decode c_Md_join 34 = .ok (.aload_n 0, 1) := by decide +kernel
theorem d_Md_join_35 : decode c_Md_join 35 = .ok (.getfield 63, 3) := by decide +kernel
theorem d_Md_join_38 : decode c_Md_join 38 = .ok (.if_icmp .ge 101, 3) := by decide +kernel
theorem d_Md_join_41 : decode c_Md_join 41 = .ok (.aload_n 0, 1) := by decide +kernel
theorem d_Md_join_42 : decode c_Md_join 42 = .ok (.getfield 23, 3) := by decide +kernel
theorem d_Md_join_45 : decode c_Md_join 45 = .ok (.aload_n 0, 1) := by decide +kernel
theorem d_Md_join_46 : decode c_Md_join 46 = .ok (.getfield 7, 3) := by decide +kernel
theorem d_Md_join_49 : decode c_Md_join 49 = .ok (.iload_n 2, 1) := by decide +kernel
theorem d_Md_join_50 : decode c_Md_join 50 = .ok (.iaload, 1) := by decide +kernel
theorem d_Md_join_51 : decode c_Md_join 51 = .ok (.iaload, 1) := by decide +kernel
theorem d_Md_join_52 : decode c_Md_join 52 = .ok (.istore_n 3, 1) := by decide +kernel
theorem d_Md_join_53 : decode c_Md_join 53 = .ok (.aload_n 0, 1) := by decide +kernel
theorem d_Md_join_54 : decode c_Md_join 54 = .ok (.getfield 23, 3) := by decide +kernel
theorem d_Md_join_57 : decode c_Md_join 57 = .ok (.aload_n 0, 1) := by decide +kernel
theorem d_Md_join_58 : decode c_Md_join 58 = .ok (.getfield 13, 3) := by decide +kernel
theorem d_Md_join_61 : decode c_Md_join 61 = .ok (.iload_n 2, 1) := by decide +kernel
theorem d_Md_join_62 : decode c_Md_join 62 = .ok (.iaload, 1) := by decide +kernel
theorem d_Md_join_63 : decode c_Md_join 63 = .ok (.iaload, 1) := by decide +kernel
theorem d_Md_join_64 : decode c_Md_join 64 = .ok (.istore 4, 2) := by decide +kernel
theorem d_Md_join_66 : decode c_Md_join 66 = .ok (.aload_n 0, 1) := by decide +kernel
theorem d_Md_join_67 : decode c_Md_join 67 = .ok (.getfield 19, 3) := by decide +kernel
theorem d_Md_join_70 : decode c_Md_join 70 = .ok (.iload_n 2, 1) := by decide +kernel
theorem d_Md_join_71 : decode c_Md_join 71 = .ok (.baload, 1) := by decide +kernel
theorem d_Md_join_72 : decode c_Md_join 72 = .ok (.ifCond .ne 61, 3) := by decide +kernel
theorem d_Md_join_75 : decode c_Md_join 75 = .ok (.aload_n 0, 1) := by decide +kernel
theorem d_Md_join_76 : decode c_Md_join 76 = .ok (.getfield 16, 3) := by decide +kernel
theorem d_Md_join_79 : decode c_Md_join 79 = .ok (.iload_n 2, 1) := by decide +kernel
theorem d_Md_join_80 : decode c_Md_join 80 = .ok (.iaload, 1) := by decide +kernel
theorem d_Md_join_81 : decode c_Md_join 81 = .ok (.iconst 3, 1) := by decide +kernel
theorem d_Md_join_82 : decode c_Md_join 82 = .ok (.if_icmp .ne 51, 3) := by decide +kernel
theorem d_Md_join_85 : decode c_Md_join 85 = .ok (.iload_n 3, 1) := by decide +kernel
theorem d_Md_join_86 : decode c_Md_join 86 = .ok (.iload 4, 2) := by decide +kernel
theorem d_Md_join_88 : decode c_Md_join 88 = .ok (.if_icmp .eq 45, 3) := by decide +kernel
theorem d_Md_join_91 : decode c_Md_join 91 = .ok (.iload_n 3, 1) := by decide +kernel
theorem d_Md_join_92 : decode c_Md_join 92 = .ok (.iload 4, 2) := by decide +kernel
theorem d_Md_join_94 : decode c_Md_join 94 = .ok (.if_icmp .ge 7, 3) := by decide +kernel
theorem d_Md_join_97 : decode c_Md_join 97 = .ok (.iload_n 3, 1) := by decide +kernel
theorem d_Md_join_98 : decode c_Md_join 98 = .ok (.goto 5, 3) := by decide +kernel
theorem d_Md_join_101 : decode c_Md_join 101 = .ok (.iload 4, 2) := by decide +kernel
theorem d_Md_join_103 : decode c_Md_join 103 = .ok (.istore 5, 2) := by decide +kernel
theorem d_Md_join_105 : decode c_Md_join 105 = .ok (.aload_n 0, 1) := by decide +kernel
theorem d_Md_join_106 : decode c_Md_join 106 = .ok (.getfield 23, 3) := by decide +kernel
theorem d_Md_join_109 : decode c_Md_join 109 = .ok (.aload_n 0, 1) := by decide +kernel
theorem d_Md_join_110 : decode c_Md_join 110 = .ok (.getfield 7, 3) := by decide +kernel
theorem d_Md_join_113 : decode c_Md_join 113 = .ok (.iload_n 2, 1) := by decide +kernel
theorem d_Md_join_114 : decode c_Md_join 114 = .ok (.iaload, 1) := by decide +kernel
theorem d_Md_join_115 : decode c_Md_join 115 = .ok (.iload 5, 2) := by decide +kernel
theorem d_Md_join_117 : decode c_Md_join 117 = .ok (.iastore, 1) := by decide +kernel
theorem d_Md_join_118 : decode c_Md_join 118 = .ok (.aload_n 0, 1) := by decide +kernel
theorem d_Md_join_119 : decode c_Md_join 119 = .ok (.getfield 23, 3) := by decide +kernel
theorem d_Md_join_122 : decode c_Md_join 122 = .ok (.aload_n 0, 1) := by decide +kernel
theorem d_Md_join_123 : decode c_Md_join 123 = .ok (.getfield 13, 3) := by decide +kernel
theorem d_Md_join_126 : decode c_Md_join 126 = .ok (.iload_n 2, 1) := by decide +kernel
theorem d_Md_join_127 : decode c_Md_join 127 = .ok (.iaload, 1) := by decide +kernel
theorem d_Md_join_128 : decode c_Md_join 128 = .ok (.iload 5, 2) := by decide +kernel
theorem d_Md_join_130 : decode c_Md_join 130 = .ok (.iastore, 1) := by decide +kernel
theorem d_Md_join_131 : decode c_Md_join 131 = .ok (.iconst 1, 1) := by decide +kernel
theorem d_Md_join_132 : decode c_Md_join 132 = .ok (.istore_n 1, 1) := by decide +kernel
theorem d_Md_join_133 : decode c_Md_join 133 = .ok (.iinc 2 1, 3) := by decide +kernel
theorem d_Md_join_136 : decode c_Md_join 136 = .ok (.goto (-103), 3) := by decide +kernel
theorem d_Md_join_139 : decode c_Md_join 139 = .ok (.goto (-114), 3) := by decide +kernel
theorem d_Md_join_142 : decode c_Md_join 142 = .ok (.return_, 1) := by decide +kernel
theorem d_Md_renew_0 : decode c_Md_renew 0 = .ok (.aload_n 0, 1) := by decide +kernel
theorem d_Md_renew_1 : decode c_Md_renew 1 = .ok (.invokevirtual 66, 3) := by decide +kernel
theorem d_Md_renew_4 : decode c_Md_renew 4 = .ok (.iconst 0, 1) := by decide +kernel
theorem d_Md_renew_5 : decode c_Md_renew 5 = .ok (.istore_n 1, 1) := by decide +kernel
theorem d_Md_renew_6 : decode c_Md_renew 6 = .ok (.iload_n 1, 1) := by decide +kernel
theorem d_Md_renew_7 : decode c_Md_renew 7 = .ok (.sipush 2304, 3) := by decide +kernel
theorem d_Md_renew_10 : decode c_Md_renew 10 = .ok (.if_icmp .ge 16, 3) := by decide +kernel
theorem d_Md_renew_13 : decode c_Md_renew 13 = .ok (.aload_n 0, 1) := by decide +kernel
theorem d_Md_renew_14 : decode c_Md_renew 14 = .ok (.getfield 26, 3) := by decide +kernel
theorem d_Md_renew_17 : decode c_Md_renew 17 = .ok (.iload_n 1, 1) := by decide +kernel
theorem d_Md_renew_18 : decode c_Md_renew 18 = .ok (.iconst 0, 1) := by decide +kernel
theorem d_Md_renew_19 : decode c_Md_renew 19 = .ok (.bastore, 1) := by decide +kernel
theorem d_Md_renew_20 : decode c_Md_renew 20 = .ok (.iinc 1 1, 3) := by decide +kernel
theorem d_Md_renew_23 : decode c_Md_renew 23 = .ok (.goto (-17), 3) := by decide +kernel
theorem d_Md_renew_26 : decode c_Md_renew 26 = .ok (.iconst 0, 1) := by decide +kernel
theorem d_Md_renew_27 : decode c_Md_renew 27 = .ok (.istore_n 1, 1) := by decide +kernel
theorem d_Md_renew_28 : decode c_Md_renew 28 = .ok (.iload_n 1, 1) := by decide +kernel
theorem d_Md_renew_29 : decode c_Md_renew 29 = .ok (.aload_n 0, 1) := by decide +kernel
theorem d_Md_renew_30 : decode c_Md_renew 30 = .ok (.getfield 63, 3) := by decide +kernel
theorem d_Md_renew_33 : decode c_Md_renew 33 = .ok (.if_icmp .ge 60, 3) := by decide +kernel
theorem d_Md_renew_36 : decode c_Md_renew 36 = .ok (.aload_n 0, 1) := by decide +kernel
theorem d_Md_renew_37 : decode c_Md_renew 37 = .ok (.getfield 19, 3) := by decide +kernel
theorem d_Md_renew_40 : decode c_Md_renew 40 = .ok (.iload_n 1, 1) := by decide +kernel
theorem d_Md_renew_41 : decode c_Md_renew 41 = .ok (.baload, 1) := by decide +kernel
theorem d_Md_renew_42 : decode c_Md_renew 42 = .ok (.ifCond .ne 45, 3) := by decide +kernel
theorem d_Md_renew_45 : decode c_Md_renew 45 = .ok (.aload_n 0, 1) := by decide +kernel
theorem d_Md_renew_46 : decode c_Md_renew 46 = .ok (.getfield 16, 3) := by decide +kernel
theorem d_Md_renew_49 : decode c_Md_renew 49 = .ok (.iload_n 1, 1) := by decide +kernel
theorem d_Md_renew_50 : decode c_Md_renew 50 = .ok (.iaload, 1) := by decide +kernel
theorem d_Md_renew_51 : decode c_Md_renew 51 = .ok (.iconst 3, 1) := by decide +kernel
theorem d_Md_renew_52 : decode c_Md_renew 52 = .ok (.if_icmp .ge 35, 3) := by decide +kernel
theorem d_Md_renew_55 : decode c_Md_renew 55 = .ok (.aload_n 0, 1) := by decide +kernel
theorem d_Md_renew_56 : decode c_Md_renew 56 = .ok (.getfield 26, 3) := by decide +kernel
theorem d_Md_renew_59 : decode c_Md_renew 59 = .ok (.bipush 48, 2) := by decide +kernel
theorem d_Md_renew_61 : decode c_Md_renew 61 = .ok (.aload_n 0, 1) := by decide +kernel
theorem d_Md_renew_62 : decode c_Md_renew 62 = .ok (.getfield 23, 3) := by decide +kernel
theorem d_Md_renew_65 : decode c_Md_renew 65 = .ok (.aload_n 0, 1) := by decide +kernel
theorem d_Md_renew_66 : decode c_Md_renew 66 = .ok (.getfield 7, 3) := by decide +kernel
theorem d_Md_renew_69 : decode c_Md_renew 69 = .ok (.iload_n 1, 1) := by decide +kernel
theorem d_Md_renew_70 : decode c_Md_renew 70 = .ok (.iaload, 1) := by decide +kernel
theorem d_Md_renew_71 : decode c_Md_renew 71 = .ok (.iaload, 1) := by decide +kernel
theorem d_Md_renew_72 : decode c_Md_renew 72 = .ok (.imul, 1) := by decide +kernel
theorem d_Md_renew_73 : decode c_Md_renew 73 = .ok (.aload_n 0, 1) := by decide +kernel
theorem d_Md_renew_74 : decode c_Md_renew 74 = .ok (.getfield 23, 3) := by decide +kernel
theorem d_Md_renew_77 : decode c_Md_renew 77 = .ok (.aload_n 0, 1) := by decide +kernel
theorem d_Md_renew_78 : decode c_Md_renew 78 = .ok (.getfield 13, 3) := by decide +kernel
theorem d_Md_renew_81 : decode c_Md_renew 81 = .ok (.iload_n 1, 1) := by decide +kernel
theorem d_Md_renew_82 : decode c_Md_renew 82 = .ok (.iaload, 1) := by decide +kernel
theorem d_Md_renew_83 : decode c_Md_renew 83 = .ok (.iaload, 1) := by decide +kernel
theorem d_Md_renew_84 : decode c_Md_renew 84 = .ok (.iadd, 1) := by decide +kernel
theorem d_Md_renew_85 : decode c_Md_renew 85 = .ok (.iconst 1, 1) := by decide +kernel
theorem d_Md_renew_86 : decode c_Md_renew 86 = .ok (.bastore, 1) := by decide +kernel
theorem d_Md_renew_87 : decode c_Md_renew 87 = .ok (.iinc 1 1, 3) := by decide +kernel
theorem d_Md_renew_90 : decode c_Md_renew 90 = .ok (.goto (-62), 3) := by decide +kernel
theorem d_Md_renew_93 : decode c_Md_renew 93 = .ok (.iconst 0, 1) := by decide +kernel
theorem d_Md_renew_94 : decode c_Md_renew 94 = .ok (.istore_n 1, 1) := by decide +kernel
theorem d_Md_renew_95 : decode c_Md_renew 95 = .ok (.iload_n 1, 1) := by decide +kernel
theorem d_Md_renew_96 : decode c_Md_renew 96 = .ok (.sipush 2304, 3) := by decide +kernel
theorem d_Md_renew_99 : decode c_Md_renew 99 = .ok (.if_icmp .ge 21, 3) := by decide +kernel
theorem d_Md_renew_102 : decode c_Md_renew 102 = .ok (.aload_n 0, 1) := by decide +kernel
theorem d_Md_renew_103 : decode c_Md_renew 103 = .ok (.getfield 29, 3) := by decide +kernel
theorem d_Md_renew_106 : decode c_Md_renew 106 = .ok (.iload_n 1, 1) := by decide +kernel
theorem d_Md_renew_107 : decode c_Md_renew 107 = .ok (.aload_n 0, 1) := by decide +kernel
theorem d_Md_renew_108 : decode c_Md_renew 108 = .ok (.getfield 26, 3) := by decide +kernel
theorem d_Md_renew_111 : decode c_Md_renew 111 = .ok (.iload_n 1, 1) := by decide +kernel
theorem d_Md_renew_112 : decode c_Md_renew 112 = .ok (.baload, 1) := by decide +kernel
theorem d_Md_renew_113 : decode c_Md_renew 113 = .ok (.bastore, 1) := by decide +kernel
theorem d_Md_renew_114 : decode c_Md_renew 114 = .ok (.iinc 1 1, 3) := by decide +kernel
theorem d_Md_renew_117 : decode c_Md_renew 117 = .ok (.goto (-22), 3) := by decide +kernel
theorem d_Md_renew_120 : decode c_Md_renew 120 = .ok (.iconst 0, 1) := by decide +kernel
theorem d_Md_renew_121 : decode c_Md_renew 121 = .ok (.istore_n 1, 1) := by decide +kernel
theorem d_Md_renew_122 : decode c_Md_renew 122 = .ok (.iload_n 1, 1) := by decide +kernel
theorem d_Md_renew_123 : decode c_Md_renew 123 = .ok (.aload_n 0, 1) := by decide +kernel
theorem d_Md_renew_124 : decode c_Md_renew 124 = .ok (.getfield 60, 3) := by decide +kernel
theorem d_Md_renew_127 : decode c_Md_renew 127 = .ok (.if_icmp .ge 99, 3) := by decide +kernel
theorem d_Md_renew_130 : decode c_Md_renew 130 = .ok (.iconst 0, 1) := by decide +kernel
theorem d_Md_renew_131 : decode c_Md_renew 131 = .ok (.istore_n 2, 1) := by decide +kernel
theorem d_Md_renew_132 : decode c_Md_renew 132 = .ok (.iload_n 2, 1) := by decide +kernel
theorem d_Md_renew_133 : decode c_Md_renew 133 = .ok (.aload_n 0, 1) := by decide +kernel
theorem d_Md_renew_134 : decode c_Md_renew 134 = .ok (.getfield 60, 3) := by decide +kernel
theorem d_Md_renew_137 : decode c_Md_renew 137 = .ok (.if_icmp .ge 83, 3) := by decide +kernel
theorem d_Md_renew_140 : decode c_Md_renew 140 = .ok (.iconst 0, 1) := by decide +kernel
theorem d_Md_renew_141 : decode c_Md_renew 141 = .ok (.istore_n 3, 1) := by decide +kernel
theorem d_Md_renew_142 : decode c_Md_renew 142 = .ok (.iload_n 3, 1) := by decide +kernel
theorem d_Md_renew_143 : decode c_Md_renew 143 = .ok (.aload_n 0, 1) := by decide +kernel
theorem d_Md_renew_144 : decode c_Md_renew 144 = .ok (.getfield 60, 3) := by decide +kernel
theorem d_Md_renew_147 : decode c_Md_renew 147 = .ok (.if_icmp .ge 67, 3) := by decide +kernel
theorem d_Md_renew_150 : decode c_Md_renew 150 = .ok (.aload_n 0, 1) := by decide +kernel
theorem d_Md_renew_151 : decode c_Md_renew 151 = .ok (.getfield 29, 3) := by decide +kernel
theorem d_Md_renew_154 : decode c_Md_renew 154 = .ok (.bipush 48, 2) := by decide +kernel
theorem d_Md_renew_156 : decode c_Md_renew 156 = .ok (.iload_n 2, 1) := by decide +kernel
theorem d_Md_renew_157 : decode c_Md_renew 157 = .ok (.imul, 1) := by decide +kernel
theorem d_Md_renew_158 : decode c_Md_renew 158 = .ok (.iload_n 1, 1) := by decide +kernel
theorem d_Md_renew_159 : decode c_Md_renew 159 = .ok (.iadd, 1) := by decide +kernel
theorem d_Md_renew_160 : decode c_Md_renew 160 = .ok (.baload, 1) := by decide +kernel
theorem d_Md_renew_161 : decode c_Md_renew 161 = .ok (.ifCond .eq 53, 3) := by decide +kernel
theorem d_Md_renew_164 : decode c_Md_renew 164 = .ok (.aload_n 0, 1) := by decide +kernel
theorem d_Md_renew_165 : decode c_Md_renew 165 = .ok (.getfield 29, 3) := by decide +kernel
theorem d_Md_renew_168 : decode c_Md_renew 168 = .ok (.bipush 48, 2) := by decide +kernel
theorem d_Md_renew_170 : decode c_Md_renew 170 = .ok (.iload_n 2, 1) := by decide +kernel
theorem d_Md_renew_171 : decode c_Md_renew 171 = .ok (.imul, 1) := by decide +kernel
theorem d_Md_renew_172 : decode c_Md_renew 172 = .ok (.iload_n 3, 1) := by decide +kernel
theorem d_Md_renew_173 : decode c_Md_renew 173 = .ok (.iadd, 1) := by decide +kernel
theorem d_Md_renew_174 : decode c_Md_renew 174 = .ok (.aload_n 0, 1) := by decide +kernel
theorem d_Md_renew_175 : decode c_Md_renew 175 = .ok (.getfield 29, 3) := by decide +kernel
theorem d_Md_renew_178 : decode c_Md_renew 178 = .ok (.bipush 48, 2) := by decide +kernel
theorem d_Md_renew_180 : decode c_Md_renew 180 = .ok (.iload_n 2, 1) := by decide +kernel
theorem d_Md_renew_181 : decode c_Md_renew 181 = .ok (.imul, 1) := by decide +kernel
theorem d_Md_renew_182 : decode c_Md_renew 182 = .ok (.iload_n 3, 1) := by decide +kernel
theorem d_Md_renew_183 : decode c_Md_renew 183 = .ok (.iadd, 1) := by decide +kernel
theorem d_Md_renew_184 : decode c_Md_renew 184 = .ok (.baload, 1) := by decide +kernel
theorem d_Md_renew_185 : decode c_Md_renew 185 = .ok (.ifCond .ne 17, 3) := by decide +kernel
theorem d_Md_renew_188 : decode c_Md_renew 188 = .ok (.aload_n 0, 1) := by decide +kernel
theorem d_Md_renew_189 : decode c_Md_renew 189 = .ok (.getfield 29, 3) := by decide +kernel
theorem d_Md_renew_192 : decode c_Md_renew 192 = .ok (.bipush 48, 2) := by decide +kernel
theorem d_Md_renew_194 : decode c_Md_renew 194 = .ok (.iload_n 1, 1) := by decide +kernel
theorem d_Md_renew_195 : decode c_Md_renew 195 = .ok (.imul, 1) := by decide +kernel
theorem d_Md_renew_196 : decode c_Md_renew 196 = .ok (.iload_n 3, 1) := by decide +kernel
theorem d_Md_renew_197 : decode c_Md_renew 197 = .ok (.iadd, 1) := by decide +kernel
theorem d_Md_renew_198 : decode c_Md_renew 198 = .ok (.baload, 1) := by decide +kernel
theorem d_Md_renew_199 : decode c_Md_renew 199 = .ok (.ifCond .eq 7, 3) := by decide +kernel
theorem d_Md_renew_202 : decode c_Md_renew 202 = .ok (.iconst 1, 1) := by decide +kernel
theorem d_Md_renew_203 : decode c_Md_renew 203 = .ok (.goto 4, 3) := by decide +kernel
theorem d_Md_renew_206 : decode c_Md_renew 206 = .ok (.iconst 0, 1) := by decide +kernel
theorem d_Md_renew_207 : decode c_Md_renew 207 = .ok (.bastore, 1) := by decide +kernel
theorem d_Md_renew_208 : decode c_Md_renew 208 = .ok (.iinc 3 1, 3) := by decide +kernel
theorem d_Md_renew_211 : decode c_Md_renew 211 = .ok (.goto (-69), 3) := by decide +kernel
theorem d_Md_renew_214 : decode c_Md_renew 214 = .ok (.iinc 2 1, 3) := by decide +kernel
theorem d_Md_renew_217 : decode c_Md_renew 217 = .ok (.goto (-85), 3) := by decide +kernel
theorem d_Md_renew_220 : decode c_Md_renew 220 = .ok (.iinc 1 1, 3) := by decide +kernel
theorem d_Md_renew_223 : decode c_Md_renew 223 = .ok (.goto (-101), 3) := by decide +kernel
theorem d_Md_renew_226 : decode c_Md_renew 226 = .ok (.return_, 1) := by decide +kernel
theorem d_Md_context_0 : decode c_Md_context 0 = .ok (.aload_n 0, 1) := by decide +kernel
theorem d_Md_context_1 : decode c_Md_context 1 = .ok (.aload_n 0, 1) := by decide +kernel
theorem d_Md_context_2 : decode c_Md_context 2 = .ok (.getfield 60, 3) := by decide +kernel
theorem d_Md_context_5 : decode c_Md_context 5 = .ok (.bipush 48, 2) := by decide +kernel
theorem d_Md_context_7 : decode c_Md_context 7 = .ok (.if_icmp .ge 7, 3) := by decide +kernel
theorem d_Md_context_10 : decode c_Md_context 10 = .ok (.iconst 1, 1) := by decide +kernel
theorem d_Md_context_11 : decode c_Md_context 11 = .ok (.goto 4, 3) := by decide +kernel
theorem d_Md_context_14 : decode c_Md_context 14 = .ok (.iconst 0, 1) := by decide +kernel
theorem d_Md_context_15 : decode c_Md_context 15 = .ok (.iconst 1, 1) := by decide +kernel
theorem d_Md_context_16 : decode c_Md_context 16 = .ok (.invokevirtual 69, 3) := by decide +kernel
theorem d_Md_context_19 : decode c_Md_context 19 = .ok (.ifCond .ne 5, 3) := by decide +kernel
theorem d_Md_context_22 : decode c_Md_context 22 = .ok (.iconst 0, 1) := by decide +kernel
theorem d_Md_context_23 : decode c_Md_context 23 = .ok (.ireturn, 1) := by decide +kernel
theorem d_Md_context_24 : decode c_Md_context 24 = .ok (.aload_n 0, 1) := by decide +kernel
theorem d_Md_context_25 : decode c_Md_context 25 = .ok (.dup, 1) := by decide +kernel
theorem d_Md_context_26 : decode c_Md_context 26 = .ok (.getfield 60, 3) := by decide +kernel
theorem d_Md_context_29 : decode c_Md_context 29 = .ok (.iconst 1, 1) := by decide +kernel
theorem d_Md_context_30 : decode c_Md_context 30 = .ok (.iadd, 1) := by decide +kernel
theorem d_Md_context_31 : decode c_Md_context 31 = .ok (.putfield 60, 3) := by decide +kernel
theorem d_Md_context_34 : decode c_Md_context 34 = .ok (.aload_n 0, 1) := by decide +kernel
theorem d_Md_context_35 : decode c_Md_context 35 = .ok (.invokevirtual 73, 3) := by decide +kernel
theorem d_Md_context_38 : decode c_Md_context 38 = .ok (.aload_n 0, 1) := by decide +kernel
theorem d_Md_context_39 : decode c_Md_context 39 = .ok (.getfield 60, 3) := by decide +kernel
theorem d_Md_context_42 : decode c_Md_context 42 = .ok (.iconst 1, 1) := by decide +kernel
theorem d_Md_context_43 : decode c_Md_context 43 = .ok (.isub, 1) := by decide +kernel
theorem d_Md_context_44 : decode c_Md_context 44 = .ok (.ireturn, 1) := by decide +kernel
theorem d_Md_measure_0 : decode c_Md_measure 0 = .ok (.iconst 0, 1) := by decide +kernel
theorem d_Md_measure_1 : decode c_Md_measure 1 = .ok (.istore_n 2, 1) := by decide +kernel
theorem d_Md_measure_2 : decode c_Md_measure 2 = .ok (.iload_n 2, 1) := by decide +kernel
theorem d_Md_measure_3 : decode c_Md_measure 3 = .ok (.bipush 48, 2) := by decide +kernel
theorem d_Md_measure_5 : decode c_Md_measure 5 = .ok (.if_icmp .ge 26, 3) := by decide +kernel
theorem d_Md_measure_8 : decode c_Md_measure 8 = .ok (.aload_n 0, 1) := by decide +kernel
theorem d_Md_measure_9 : decode c_Md_measure 9 = .ok (.getfield 32, 3) := by decide +kernel
theorem d_Md_measure_12 : decode c_Md_measure 12 = .ok (.iload_n 2, 1) := by decide +kernel
theorem d_Md_measure_13 : decode c_Md_measure 13 = .ok (.iload_n 2, 1) := by decide +kernel
theorem d_Md_measure_14 : decode c_Md_measure 14 = .ok (.iload_n 1, 1) := by decide +kernel
theorem d_Md_measure_15 : decode c_Md_measure 15 = .ok (.if_icmp .ne 7, 3) := by decide +kernel
theorem d_Md_measure_18 : decode c_Md_measure 18 = .ok (.iconst 0, 1) := by decide +kernel
theorem d_Md_measure_19 : decode c_Md_measure 19 = .ok (.goto 5, 3) := by decide +kernel
theorem d_Md_measure_22 : decode c_Md_measure 22 = .ok (.bipush 99, 2) := by decide +kernel
theorem d_Md_measure_24 : decode c_Md_measure 24 = .ok (.iastore, 1) := by decide +kernel
theorem d_Md_measure_25 : decode c_Md_measure 25 = .ok (.iinc 2 1, 3) := by decide +kernel
theorem d_Md_measure_28 : decode c_Md_measure 28 = .ok (.goto (-26), 3) := by decide +kernel
theorem d_Md_measure_31 : decode c_Md_measure 31 = .ok (.iconst 1, 1) := by decide +kernel
theorem d_Md_measure_32 : decode c_Md_measure 32 = .ok (.istore_n 2, 1) := by decide +kernel
theorem d_Md_measure_33 : decode c_Md_measure 33 = .ok (.iload_n 2, 1) := by decide +kernel
theorem d_Md_measure_34 : decode c_Md_measure 34 = .ok (.ifCond .eq 77, 3) := by decide +kernel
theorem d_Md_measure_37 : decode c_Md_measure 37 = .ok (.iconst 0, 1) := by decide +kernel
theorem d_Md_measure_38 : decode c_Md_measure 38 = .ok (.istore_n 2, 1) := by decide +kernel
theorem d_Md_measure_39 : decode c_Md_measure 39 = .ok (.iconst 0, 1) := by decide +kernel
theorem d_Md_measure_40 : decode c_Md_measure 40 = .ok (.istore_n 3, 1) := by decide +kernel
theorem d_Md_measure_41 : decode c_Md_measure 41 = .ok (.iload_n 3, 1) := by decide +kernel
theorem d_Md_measure_42 : decode c_Md_measure 42 = .ok (.sipush 2304, 3) := by decide +kernel
theorem d_Md_measure_45 : decode c_Md_measure 45 = .ok (.if_icmp .ge 63, 3) := by decide +kernel
theorem d_Md_measure_48 : decode c_Md_measure 48 = .ok (.aload_n 0, 1) := by decide +kernel
theorem d_Md_measure_49 : decode c_Md_measure 49 = .ok (.getfield 26, 3) := by decide +kernel
theorem d_Md_measure_52 : decode c_Md_measure 52 = .ok (.iload_n 3, 1) := by decide +kernel
theorem d_Md_measure_53 : decode c_Md_measure 53 = .ok (.baload, 1) := by decide +kernel
theorem d_Md_measure_54 : decode c_Md_measure 54 = .ok (.ifCond .eq 48, 3) := by decide +kernel
theorem d_Md_measure_57 : decode c_Md_measure 57 = .ok (.aload_n 0, 1) := by decide +kernel
theorem d_Md_measure_58 : decode c_Md_measure 58 = .ok (.getfield 32, 3) := by decide +kernel
theorem d_Md_measure_61 : decode c_Md_measure 61 = .ok (.iload_n 3, 1) := by decide +kernel
theorem d_Md_measure_62 : decode c_Md_measure 62 = .ok (.bipush 48, 2) := by decide +kernel
theorem d_Md_measure_64 : decode c_Md_measure 64 = .ok (.irem, 1) := by decide +kernel
theorem d_Md_measure_65 : decode c_Md_measure 65 = .ok (.iaload, 1) := by decide +kernel
theorem d_Md_measure_66 : decode c_Md_measure 66 = .ok (.iconst 1, 1) := by decide +kernel
theorem d_Md_measure_67 : decode c_Md_measure 67 = .ok (.iadd, 1) := by decide +kernel
theorem d_Md_measure_68 : decode c_Md_measure 68 = .ok (.aload_n 0, 1) := by decide +kernel
theorem d_Md_measure_69 : decode c_Md_measure 69 = .ok (.getfield 32, 3) := by decide +kernel
theorem d_Md_measure_72 : decode c_Md_measure 72 = .ok (.iload_n 3, 1) := by decide +kernel
theorem d_Md_measure_73 : decode c_Md_measure 73 = .ok (.bipush 48, 2) := by decide +kernel
theorem d_Md_measure_75 : decode c_Md_measure 75 = .ok (.idiv, 1) := by decide +kernel
theorem d_Md_measure_76 : decode c_Md_measure 76 = .ok (.iaload, 1) := by decide +kernel
theorem d_Md_measure_77 : decode c_Md_measure 77 = .ok (.if_icmp .ge 25, 3) := by decide +kernel
theorem d_Md_measure_80 : decode c_Md_measure 80 = .ok (.aload_n 0, 1) := by decide +kernel
theorem d_Md_measure_81 : decode c_Md_measure 81 = .ok (.getfield 32, 3) := by decide +kernel
theorem d_Md_measure_84 : decode c_Md_measure 84 = .ok (.iload_n 3, 1) := by decide +kernel
theorem d_Md_measure_85 : decode c_Md_measure 85 = .ok (.bipush 48, 2) := by decide +kernel
theorem d_Md_measure_87 : decode c_Md_measure 87 = .ok (.idiv, 1) := by decide +kernel
theorem d_Md_measure_88 : decode c_Md_measure 88 = .ok (.aload_n 0, 1) := by decide +kernel
theorem d_Md_measure_89 : decode c_Md_measure 89 = .ok (.getfield 32, 3) := by decide +kernel
theorem d_Md_measure_92 : decode c_Md_measure 92 = .ok (.iload_n 3, 1) := by decide +kernel
theorem d_Md_measure_93 : decode c_Md_measure 93 = .ok (.bipush 48, 2) := by decide +kernel
theorem d_Md_measure_95 : decode c_Md_measure 95 = .ok (.irem, 1) := by decide +kernel
theorem d_Md_measure_96 : decode c_Md_measure 96 = .ok (.iaload, 1) := by decide +kernel
theorem d_Md_measure_97 : decode c_Md_measure 97 = .ok (.iconst 1, 1) := by decide +kernel
theorem d_Md_measure_98 : decode c_Md_measure 98 = .ok (.iadd, 1) := by decide +kernel
theorem d_Md_measure_99 : decode c_Md_measure 99 = .ok (.iastore, 1) := by decide +kernel
theorem d_Md_measure_100 : decode c_Md_measure 100 = .ok (.iconst 1, 1) := by decide +kernel
theorem d_Md_measure_101 : decode c_Md_measure 101 = .ok (.istore_n 2, 1) := by decide +kernel
theorem d_Md_measure_102 : decode c_Md_measure 102 = .ok (.iinc 3 1, 3) := by decide +kernel
theorem d_Md_measure_105 : decode c_Md_measure 105 = .ok (.goto (-64), 3) := by decide +kernel
theorem d_Md_measure_108 : decode c_Md_measure 108 = .ok (.goto (-75), 3) := by decide +kernel
theorem d_Md_measure_111 : decode c_Md_measure 111 = .ok (.return_, 1) := by decide +kernel
theorem d_Md_walk_0 : decode c_Md_walk 0 = .ok (.aload_n 0, 1) := by decide +kernel
theorem d_Md_walk_1 : decode c_Md_walk 1 = .ok (.iload_n 2, 1) := by decide +kernel
theorem d_Md_walk_2 : decode c_Md_walk 2 = .ok (.invokevirtual 76, 3) := by decide +kernel
theorem d_Md_walk_5 : decode c_Md_walk 5 = .ok (.iload_n 1, 1) := by decide +kernel
theorem d_Md_walk_6 : decode c_Md_walk 6 = .ok (.istore 4, 2) := by decide +kernel
theorem d_Md_walk_8 : decode c_Md_walk 8 = .ok (.iload 4, 2) := by decide +kernel
theorem d_Md_walk_10 : decode c_Md_walk 10 = .ok (.iload_n 2, 1) := by decide +kernel
theorem d_Md_walk_11 : decode c_Md_walk 11 = .ok (.if_icmp .eq 93, 3) := by decide +kernel
theorem d_Md_walk_14 : decode c_Md_walk 14 = .ok (.aload_n 0, 1) := by decide +kernel
theorem d_Md_walk_15 : decode c_Md_walk 15 = .ok (.getfield 35, 3) := by decide +kernel
theorem d_Md_walk_18 : decode c_Md_walk 18 = .ok (.aload_n 0, 1) := by decide +kernel
theorem d_Md_walk_19 : decode c_Md_walk 19 = .ok (.getfield 80, 3) := by decide +kernel
theorem d_Md_walk_22 : decode c_Md_walk 22 = .ok (.iload 4, 2) := by decide +kernel
theorem d_Md_walk_24 : decode c_Md_walk 24 = .ok (.iastore, 1) := by decide +kernel
theorem d_Md_walk_25 : decode c_Md_walk 25 = .ok (.aload_n 0, 1) := by decide +kernel
theorem d_Md_walk_26 : decode c_Md_walk 26 = .ok (.dup, 1) := by decide +kernel
theorem d_Md_walk_27 : decode c_Md_walk 27 = .ok (.getfield 80, 3) := by decide +kernel
theorem d_Md_walk_30 : decode c_Md_walk 30 = .ok (.iconst 1, 1) := by decide +kernel
theorem d_Md_walk_31 : decode c_Md_walk 31 = .ok (.iadd, 1) := by decide +kernel
theorem d_Md_walk_32 : decode c_Md_walk 32 = .ok (.putfield 80, 3) := by decide +kernel
theorem d_Md_walk_35 : decode c_Md_walk 35 = .ok (.iconst (-1), 1) := by decide +kernel
theorem d_Md_walk_36 : decode c_Md_walk 36 = .ok (.istore 5, 2) := by decide +kernel
theorem d_Md_walk_38 : decode c_Md_walk 38 = .ok (.bipush 47, 2) := by decide +kernel
theorem d_Md_walk_40 : decode c_Md_walk 40 = .ok (.istore 6, 2) := by decide +kernel
theorem d_Md_walk_42 : decode c_Md_walk 42 = .ok (.iload 6, 2) := by decide +kernel
theorem d_Md_walk_44 : decode c_Md_walk 44 = .ok (.ifCond .lt 53, 3) := by decide +kernel
theorem d_Md_walk_47 : decode c_Md_walk 47 = .ok (.aload_n 0, 1) := by decide +kernel
theorem d_Md_walk_48 : decode c_Md_walk 48 = .ok (.getfield 26, 3) := by decide +kernel
theorem d_Md_walk_51 : decode c_Md_walk 51 = .ok (.bipush 48, 2) := by decide +kernel
theorem d_Md_walk_53 : decode c_Md_walk 53 = .ok (.iload 4, 2) := by decide +kernel
theorem d_Md_walk_55 : decode c_Md_walk 55 = .ok (.imul, 1) := by decide +kernel
theorem d_Md_walk_56 : decode c_Md_walk 56 = .ok (.iload 6, 2) := by decide +kernel
theorem d_Md_walk_58 : decode c_Md_walk 58 = .ok (.iadd, 1) := by decide +kernel
theorem d_Md_walk_59 : decode c_Md_walk 59 = .ok (.baload, 1) := by decide +kernel
theorem d_Md_walk_60 : decode c_Md_walk 60 = .ok (.ifCond .eq 27, 3) := by decide +kernel
theorem d_Md_walk_63 : decode c_Md_walk 63 = .ok (.aload_n 0, 1) := by decide +kernel
theorem d_Md_walk_64 : decode c_Md_walk 64 = .ok (.getfield 32, 3) := by decide +kernel
theorem d_Md_walk_67 : decode c_Md_walk 67 = .ok (.iload 6, 2) := by decide +kernel
theorem d_Md_walk_69 : decode c_Md_walk 69 = .ok (.iaload, 1) := by decide +kernel
theorem d_Md_walk_70 : decode c_Md_walk 70 = .ok (.aload_n 0, 1) := by decide +kernel
theorem d_Md_walk_71 : decode c_Md_walk 71 = .ok (.getfield 32, 3) := by decide +kernel
theorem d_Md_walk_74 : decode c_Md_walk 74 = .ok (.iload 4, 2) := by decide +kernel
theorem d_Md_walk_76 : decode c_Md_walk 76 = .ok (.iaload, 1) := by decide +kernel
theorem d_Md_walk_77 : decode c_Md_walk 77 = .ok (.iconst 1, 1) := by decide +kernel
theorem d_Md_walk_78 : decode c_Md_walk 78 = .ok (.isub, 1) := by decide +kernel
theorem d_Md_walk_79 : decode c_Md_walk 79 = .ok (.if_icmp .ne 8, 3) := by decide +kernel
theorem d_Md_walk_82 : decode c_Md_walk 82 = .ok (.iload 6, 2) := by decide +kernel
theorem d_Md_walk_84 : decode c_Md_walk 84 = .ok (.goto 5, 3) := by decide +kernel
theorem d_Md_walk_87 : decode c_Md_walk 87 = .ok (.iload 5, 2) := by decide +kernel
theorem d_Md_walk_89 : decode c_Md_walk 89 = .ok (.istore 5, 2) := by decide +kernel
theorem d_Md_walk_91 : decode c_Md_walk 91 = .ok (.iinc 6 (-1), 3) := by decide +kernel
theorem d_Md_walk_94 : decode c_Md_walk 94 = .ok (.goto (-52), 3) := by decide +kernel
theorem d_Md_walk_97 : decode c_Md_walk 97 = .ok (.iload 5, 2) := by decide +kernel
theorem d_Md_walk_99 : decode c_Md_walk 99 = .ok (.istore 4, 2) := by decide +kernel
theorem d_Md_walk_101 : decode c_Md_walk 101 = .ok (.goto (-93), 3) := by decide +kernel
theorem d_Md_walk_104 : decode c_Md_walk 104 = .ok (.iload_n 3, 1) := by decide +kernel
theorem d_Md_walk_105 : decode c_Md_walk 105 = .ok (.ifCond .eq 23, 3) := by decide +kernel
theorem d_Md_walk_108 : decode c_Md_walk 108 = .ok (.aload_n 0, 1) := by decide +kernel
theorem d_Md_walk_109 : decode c_Md_walk 109 = .ok (.getfield 35, 3) := by decide +kernel
theorem d_Md_walk_112 : decode c_Md_walk 112 = .ok (.aload_n 0, 1) := by decide +kernel
theorem d_Md_walk_113 : decode c_Md_walk 113 = .ok (.getfield 80, 3) := by decide +kernel
theorem d_Md_walk_116 : decode c_Md_walk 116 = .ok (.iload_n 2, 1) := by decide +kernel
theorem d_Md_walk_117 : decode c_Md_walk 117 = .ok (.iastore, 1) := by decide +kernel
theorem d_Md_walk_118 : decode c_Md_walk 118 = .ok (.aload_n 0, 1) := by decide +kernel
theorem d_Md_walk_119 : decode c_Md_walk 119 = .ok (.dup, 1) := by decide +kernel
theorem d_Md_walk_120 : decode c_Md_walk 120 = .ok (.getfield 80, 3) := by decide +kernel
theorem d_Md_walk_123 : decode c_Md_walk 123 = .ok (.iconst 1, 1) := by decide +kernel
theorem d_Md_walk_124 : decode c_Md_walk 124 = .ok (.iadd, 1) := by decide +kernel
theorem d_Md_walk_125 : decode c_Md_walk 125 = .ok (.putfield 80, 3) := by decide +kernel
theorem d_Md_walk_128 : decode c_Md_walk 128 = .ok (.return_, 1) := by decide +kernel
theorem d_Md_rings_0 : decode c_Md_rings 0 = .ok (.iload_n 3, 1) := by decide +kernel
theorem d_Md_rings_1 : decode c_Md_rings 1 = .ok (.iconst 3, 1) := by decide +kernel
theorem d_Md_rings_2 : decode c_Md_rings 2 = .ok (.if_icmp .ge 48, 3) := by decide +kernel
theorem d_Md_rings_5 : decode c_Md_rings 5 = .ok (.iload_n 1, 1) := by decide +kernel
theorem d_Md_rings_6 : decode c_Md_rings 6 = .ok (.iload_n 2, 1) := by decide +kernel
theorem d_Md_rings_7 : decode c_Md_rings 7 = .ok (.if_icmp .eq 17, 3) := by decide +kernel
theorem d_Md_rings_10 : decode c_Md_rings 10 = .ok (.aload_n 0, 1) := by decide +kernel
theorem d_Md_rings_11 : decode c_Md_rings 11 = .ok (.getfield 29, 3) := by decide +kernel
theorem d_Md_rings_14 : decode c_Md_rings 14 = .ok (.bipush 48, 2) := by decide +kernel
theorem d_Md_rings_16 : decode c_Md_rings 16 = .ok (.iload_n 2, 1) := by decide +kernel
theorem d_Md_rings_17 : decode c_Md_rings 17 = .ok (.imul, 1) := by decide +kernel
theorem d_Md_rings_18 : decode c_Md_rings 18 = .ok (.iload_n 1, 1) := by decide +kernel
theorem d_Md_rings_19 : decode c_Md_rings 19 = .ok (.iadd, 1) := by decide +kernel
theorem d_Md_rings_20 : decode c_Md_rings 20 = .ok (.baload, 1) := by decide +kernel
theorem d_Md_rings_21 : decode c_Md_rings 21 = .ok (.ifCond .eq 29, 3) := by decide +kernel
theorem d_Md_rings_24 : decode c_Md_rings 24 = .ok (.aload_n 0, 1) := by decide +kernel
theorem d_Md_rings_25 : decode c_Md_rings 25 = .ok (.iconst 1, 1) := by decide +kernel
theorem d_Md_rings_26 : decode c_Md_rings 26 = .ok (.putfield 80, 3) := by decide +kernel
theorem d_Md_rings_29 : decode c_Md_rings 29 = .ok (.aload_n 0, 1) := by decide +kernel
theorem d_Md_rings_30 : decode c_Md_rings 30 = .ok (.getfield 35, 3) := by decide +kernel
theorem d_Md_rings_33 : decode c_Md_rings 33 = .ok (.iconst 0, 1) := by decide +kernel
theorem d_Md_rings_34 : decode c_Md_rings 34 = .ok (.iload_n 1, 1) := by decide +kernel
theorem d_Md_rings_35 : decode c_Md_rings 35 = .ok (.iastore, 1) := by decide +kernel
theorem d_Md_rings_36 : decode c_Md_rings 36 = .ok (.iload_n 1, 1) := by decide +kernel
theorem d_Md_rings_37 : decode c_Md_rings 37 = .ok (.iload_n 2, 1) := by decide +kernel
theorem d_Md_rings_38 : decode c_Md_rings 38 = .ok (.if_icmp .eq 10, 3) := by decide +kernel
theorem d_Md_rings_41 : decode c_Md_rings 41 = .ok (.aload_n 0, 1) := by decide +kernel
theorem d_Md_rings_42 : decode c_Md_rings 42 = .ok (.iload_n 2, 1) := by decide +kernel
theorem d_Md_rings_43 : decode c_Md_rings 43 = .ok (.iload_n 1, 1) := by decide +kernel
theorem d_Md_rings_44 : decode c_Md_rings 44 = .ok (.iconst 0, 1) := by decide +kernel
theorem d_Md_rings_45 : decode c_Md_rings 45 = .ok (.invokevirtual 83, 3) := by decide +kernel
theorem d_Md_rings_48 : decode c_Md_rings 48 = .ok (.iconst 1, 1) := by decide +kernel
theorem d_Md_rings_49 : decode c_Md_rings 49 = .ok (.ireturn, 1) := by decide +kernel
theorem d_Md_rings_50 : decode c_Md_rings 50 = .ok (.iload_n 3, 1) := by decide +kernel
theorem d_Md_rings_51 : decode c_Md_rings 51 = .ok (.iconst 3, 1) := by decide +kernel
theorem d_Md_rings_52 : decode c_Md_rings 52 = .ok (.if_icmp .ne 81, 3) := by decide +kernel
theorem d_Md_rings_55 : decode c_Md_rings 55 = .ok (.aload_n 0, 1) := by decide +kernel
theorem d_Md_rings_56 : decode c_Md_rings 56 = .ok (.getfield 29, 3) := by decide +kernel
theorem d_Md_rings_59 : decode c_Md_rings 59 = .ok (.bipush 48, 2) := by decide +kernel
theorem d_Md_rings_61 : decode c_Md_rings 61 = .ok (.iload_n 1, 1) := by decide +kernel
theorem d_Md_rings_62 : decode c_Md_rings 62 = .ok (.imul, 1) := by decide +kernel
theorem d_Md_rings_63 : decode c_Md_rings 63 = .ok (.iload_n 2, 1) := by decide +kernel
theorem d_Md_rings_64 : decode c_Md_rings 64 = .ok (.iadd, 1) := by decide +kernel
theorem d_Md_rings_65 : decode c_Md_rings 65 = .ok (.baload, 1) := by decide +kernel
theorem d_Md_rings_66 : decode c_Md_rings 66 = .ok (.ifCond .ne 17, 3) := by decide +kernel
theorem d_Md_rings_69 : decode c_Md_rings 69 = .ok (.aload_n 0, 1) := by decide +kernel
theorem d_Md_rings_70 : decode c_Md_rings 70 = .ok (.getfield 29, 3) := by decide +kernel
theorem d_Md_rings_73 : decode c_Md_rings 73 = .ok (.bipush 48, 2) := by decide +kernel
theorem d_Md_rings_75 : decode c_Md_rings 75 = .ok (.iload_n 2, 1) := by decide +kernel
theorem d_Md_rings_76 : decode c_Md_rings 76 = .ok (.imul, 1) := by decide +kernel
theorem d_Md_rings_77 : decode c_Md_rings 77 = .ok (.iload_n 1, 1) := by decide +kernel
theorem d_Md_rings_78 : decode c_Md_rings 78 = .ok (.iadd, 1) := by decide +kernel
theorem d_Md_rings_79 : decode c_Md_rings 79 = .ok (.baload, 1) := by decide +kernel
theorem d_Md_rings_80 : decode c_Md_rings 80 = .ok (.ifCond .eq 53, 3) := by decide +kernel
theorem d_Md_rings_83 : decode c_Md_rings 83 = .ok (.aload_n 0, 1) := by decide +kernel
theorem d_Md_rings_84 : decode c_Md_rings 84 = .ok (.iconst 0, 1) := by decide +kernel
theorem d_Md_rings_85 : decode c_Md_rings 85 = .ok (.putfield 80, 3) := by decide +kernel
theorem d_Md_rings_88 : decode c_Md_rings 88 = .ok (.aload_n 0, 1) := by decide +kernel
theorem d_Md_rings_89 : decode c_Md_rings 89 = .ok (.aload_n 0, 1) := by decide +kernel
theorem d_Md_rings_90 : decode c_Md_rings 90 = .ok (.getfield 29, 3) := by decide +kernel
theorem d_Md_rings_93 : decode c_Md_rings 93 = .ok (.bipush 48, 2) := by decide +kernel
theorem d_Md_rings_95 : decode c_Md_rings 95 = .ok (.iload_n 1, 1) := by decide +kernel
theorem d_Md_rings_96 : decode c_Md_rings 96 = .ok (.imul, 1) := by decide +kernel
theorem d_Md_rings_97 : decode c_Md_rings 97 = .ok (.iload_n 2, 1) := by decide +kernel
theorem d_Md_rings_98 : decode c_Md_rings 98 = .ok (.iadd, 1) := by decide +kernel
theorem d_Md_rings_99 : decode c_Md_rings 99 = .ok (.baload, 1) := by decide +kernel
theorem d_Md_rings_100 : decode c_Md_rings 100 = .ok (.ifCond .eq 7, 3) := by decide +kernel
theorem d_Md_rings_103 : decode c_Md_rings 103 = .ok (.iload_n 1, 1) := by decide +kernel
theorem d_Md_rings_104 : decode c_Md_rings 104 = .ok (.goto 4, 3) := by decide +kernel
theorem d_Md_rings_107 : decode c_Md_rings 107 = .ok (.iload_n 2, 1) := by decide +kernel
theorem d_Md_rings_108 : decode c_Md_rings 108 = .ok (.aload_n 0, 1) := by decide +kernel
theorem d_Md_rings_109 : decode c_Md_rings 109 = .ok (.getfield 29, 3) := by decide +kernel
theorem d_Md_rings_112 : decode c_Md_rings 112 = .ok (.bipush 48, 2) := by decide +kernel
theorem d_Md_rings_114 : decode c_Md_rings 114 = .ok (.iload_n 1, 1) := by decide +kernel
theorem d_Md_rings_115 : decode c_Md_rings 115 = .ok (.imul, 1) := by decide +kernel
theorem d_Md_rings_116 : decode c_Md_rings 116 = .ok (.iload_n 2, 1) := by decide +kernel
theorem d_Md_rings_117 : decode c_Md_rings 117 = .ok (.iadd, 1) := by decide +kernel
theorem d_Md_rings_118 : decode c_Md_rings 118 = .ok (.baload, 1) := by decide +kernel
theorem d_Md_rings_119 : decode c_Md_rings 119 = .ok (.ifCond .eq 7, 3) := by decide +kernel
theorem d_Md_rings_122 : decode c_Md_rings 122 = .ok (.iload_n 2, 1) := by decide +kernel
theorem d_Md_rings_123 : decode c_Md_rings 123 = .ok (.goto 4, 3) := by decide +kernel
theorem d_Md_rings_126 : decode c_Md_rings 126 = .ok (.iload_n 1, 1) := by decide +kernel
theorem d_Md_rings_127 : decode c_Md_rings 127 = .ok (.iconst 1, 1) := by decide +kernel
theorem d_Md_rings_128 : decode c_Md_rings 128 = .ok (.invokevirtual 83, 3) := by decide +kernel
theorem d_Md_rings_131 : decode c_Md_rings 131 = .ok (.iconst 1, 1) := by decide +kernel
theorem d_Md_rings_132 : decode c_Md_rings 132 = .ok (.ireturn, 1) := by decide +kernel
theorem d_Md_rings_133 : decode c_Md_rings 133 = .ok (.iconst 0, 1) := by decide +kernel
theorem d_Md_rings_134 : decode c_Md_rings 134 = .ok (.ireturn, 1) := by decide +kernel
theorem d_Md_relate_0 : decode c_Md_relate 0 = .ok (.aload_n 0, 1) := by decide +kernel
theorem d_Md_relate_1 : decode c_Md_relate 1 = .ok (.aload_n 0, 1) := by decide +kernel
theorem d_Md_relate_2 : decode c_Md_relate 2 = .ok (.iload_n 1, 1) := by decide +kernel
theorem d_Md_relate_3 : decode c_Md_relate 3 = .ok (.invokevirtual 87, 3) := by decide +kernel
theorem d_Md_relate_6 : decode c_Md_relate 6 = .ok (.ifCond .eq 24, 3) := by decide +kernel
theorem d_Md_relate_9 : decode c_Md_relate 9 = .ok (.aload_n 0, 1) := by decide +kernel
theorem d_Md_relate_10 : decode c_Md_relate 10 = .ok (.iload_n 2, 1) := by decide +kernel
theorem d_Md_relate_11 : decode c_Md_relate 11 = .ok (.invokevirtual 87, 3) := by decide +kernel
theorem d_Md_relate_14 : decode c_Md_relate 14 = .ok (.ifCond .eq 16, 3) := by decide +kernel
theorem d_Md_relate_17 : decode c_Md_relate 17 = .ok (.iload_n 3, 1) := by decide +kernel
theorem d_Md_relate_18 : decode c_Md_relate 18 = .ok (.ifCond .lt 12, 3) := by decide +kernel
theorem d_Md_relate_21 : decode c_Md_relate 21 = .ok (.iload_n 3, 1) := by decide +kernel
theorem d_Md_relate_22 : decode c_Md_relate 22 = .ok (.iconst 4, 1) := by decide +kernel
theorem d_Md_relate_23 : decode c_Md_relate 23 = .ok (.if_icmp .gt 7, 3) := by decide +kernel
theorem d_Md_relate_26 : decode c_Md_relate 26 = .ok (.iconst 1, 1) := by decide +kernel
theorem d_Md_relate_27 : decode c_Md_relate 27 = .ok (.goto 4, 3) := by decide +kernel
theorem d_Md_relate_30 : decode c_Md_relate 30 = .ok (.iconst 0, 1) := by decide +kernel
theorem d_Md_relate_31 : decode c_Md_relate 31 = .ok (.aload_n 0, 1) := by decide +kernel
theorem d_Md_relate_32 : decode c_Md_relate 32 = .ok (.getfield 63, 3) := by decide +kernel
theorem d_Md_relate_35 : decode c_Md_relate 35 = .ok (.sipush 200, 3) := by decide +kernel
theorem d_Md_relate_38 : decode c_Md_relate 38 = .ok (.if_icmp .ge 7, 3) := by decide +kernel
theorem d_Md_relate_41 : decode c_Md_relate 41 = .ok (.iconst 1, 1) := by decide +kernel
theorem d_Md_relate_42 : decode c_Md_relate 42 = .ok (.goto 4, 3) := by decide +kernel
theorem d_Md_relate_45 : decode c_Md_relate 45 = .ok (.iconst 0, 1) := by decide +kernel
theorem d_Md_relate_46 : decode c_Md_relate 46 = .ok (.invokevirtual 69, 3) := by decide +kernel
theorem d_Md_relate_49 : decode c_Md_relate 49 = .ok (.ifCond .ne 5, 3) := by decide +kernel
theorem d_Md_relate_52 : decode c_Md_relate 52 = .ok (.iconst 0, 1) := by decide +kernel
theorem d_Md_relate_53 : decode c_Md_relate 53 = .ok (.ireturn, 1) := by decide +kernel
theorem d_Md_relate_54 : decode c_Md_relate 54 = .ok (.aload_n 0, 1) := by decide +kernel
theorem d_Md_relate_55 : decode c_Md_relate 55 = .ok (.aload_n 0, 1) := by decide +kernel
theorem d_Md_relate_56 : decode c_Md_relate 56 = .ok (.getfield 23, 3) := by decide +kernel
theorem d_Md_relate_59 : decode c_Md_relate 59 = .ok (.iload_n 1, 1) := by decide +kernel
theorem d_Md_relate_60 : decode c_Md_relate 60 = .ok (.iaload, 1) := by decide +kernel
theorem d_Md_relate_61 : decode c_Md_relate 61 = .ok (.aload_n 0, 1) := by decide +kernel
theorem d_Md_relate_62 : decode c_Md_relate 62 = .ok (.getfield 23, 3) := by decide +kernel
theorem d_Md_relate_65 : decode c_Md_relate 65 = .ok (.iload_n 2, 1) := by decide +kernel
theorem d_Md_relate_66 : decode c_Md_relate 66 = .ok (.iaload, 1) := by decide +kernel
theorem d_Md_relate_67 : decode c_Md_relate 67 = .ok (.iload_n 3, 1) := by decide +kernel
theorem d_Md_relate_68 : decode c_Md_relate 68 = .ok (.invokevirtual 91, 3) := by decide +kernel
theorem d_Md_relate_71 : decode c_Md_relate 71 = .ok (.ifCond .eq 5, 3) := by decide +kernel
theorem d_Md_relate_74 : decode c_Md_relate 74 = .ok (.iconst (-1), 1) := by decide +kernel
theorem d_Md_relate_75 : decode c_Md_relate 75 = .ok (.ireturn, 1) := by decide +kernel
theorem d_Md_relate_76 : decode c_Md_relate 76 = .ok (.aload_n 0, 1) := by decide +kernel
theorem d_Md_relate_77 : decode c_Md_relate 77 = .ok (.getfield 7, 3) := by decide +kernel
theorem d_Md_relate_80 : decode c_Md_relate 80 = .ok (.aload_n 0, 1) := by decide +kernel
theorem d_Md_relate_81 : decode c_Md_relate 81 = .ok (.getfield 63, 3) := by decide +kernel
theorem d_Md_relate_84 : decode c_Md_relate 84 = .ok (.iload_n 1, 1) := by decide +kernel
theorem d_Md_relate_85 : decode c_Md_relate 85 = .ok (.iastore, 1) := by decide +kernel
theorem d_Md_relate_86 : decode c_Md_relate 86 = .ok (.aload_n 0, 1) := by decide +kernel
theorem d_Md_relate_87 : decode c_Md_relate 87 = .ok (.getfield 13, 3) := by decide +kernel
theorem d_Md_relate_90 : decode c_Md_relate 90 = .ok (.aload_n 0, 1) := by decide +kernel
theorem d_Md_relate_91 : decode c_Md_relate 91 = .ok (.getfield 63, 3) := by decide +kernel
theorem d_Md_relate_94 : decode c_Md_relate 94 = .ok (.iload_n 2, 1) := by decide +kernel
theorem d_Md_relate_95 : decode c_Md_relate 95 = .ok (.iastore, 1) := by decide +kernel
theorem d_Md_relate_96 : decode c_Md_relate 96 = .ok (.aload_n 0, 1) := by decide +kernel
theorem d_Md_relate_97 : decode c_Md_relate 97 = .ok (.getfield 16, 3) := by decide +kernel
theorem d_Md_relate_100 : decode c_Md_relate 100 = .ok (.aload_n 0, 1) := by decide +kernel
theorem d_Md_relate_101 : decode c_Md_relate 101 = .ok (.getfield 63, 3) := by decide +kernel
theorem d_Md_relate_104 : decode c_Md_relate 104 = .ok (.iload_n 3, 1) := by decide +kernel
theorem d_Md_relate_105 : decode c_Md_relate 105 = .ok (.iastore, 1) := by decide +kernel
theorem d_Md_relate_106 : decode c_Md_relate 106 = .ok (.aload_n 0, 1) := by decide +kernel
theorem d_Md_relate_107 : decode c_Md_relate 107 = .ok (.dup, 1) := by decide +kernel
theorem d_Md_relate_108 : decode c_Md_relate 108 = .ok (.getfield 63, 3) := by decide +kernel
theorem d_Md_relate_111 : decode c_Md_relate 111 = .ok (.iconst 1, 1) := by decide +kernel
theorem d_Md_relate_112 : decode c_Md_relate 112 = .ok (.iadd, 1) := by decide +kernel
theorem d_Md_relate_113 : decode c_Md_relate 113 = .ok (.putfield 63, 3) := by decide +kernel
theorem d_Md_relate_116 : decode c_Md_relate 116 = .ok (.aload_n 0, 1) := by decide +kernel
theorem d_Md_relate_117 : decode c_Md_relate 117 = .ok (.invokevirtual 73, 3) := by decide +kernel
theorem d_Md_relate_120 : decode c_Md_relate 120 = .ok (.aload_n 0, 1) := by decide +kernel
theorem d_Md_relate_121 : decode c_Md_relate 121 = .ok (.getfield 63, 3) := by decide +kernel
theorem d_Md_relate_124 : decode c_Md_relate 124 = .ok (.iconst 1, 1) := by decide +kernel
theorem d_Md_relate_125 : decode c_Md_relate 125 = .ok (.isub, 1) := by decide +kernel
theorem d_Md_relate_126 : decode c_Md_relate 126 = .ok (.ireturn, 1) := by decide +kernel
theorem d_Md_ring_0 : decode c_Md_ring 0 = .ok (.aload_n 0, 1) := by decide +kernel
theorem d_Md_ring_1 : decode c_Md_ring 1 = .ok (.iload_n 1, 1) := by decide +kernel
theorem d_Md_ring_2 : decode c_Md_ring 2 = .ok (.ifCond .lt 7, 3) := by decide +kernel
theorem d_Md_ring_5 : decode c_Md_ring 5 = .ok (.iconst 1, 1) := by decide +kernel
theorem d_Md_ring_6 : decode c_Md_ring 6 = .ok (.goto 4, 3) := by decide +kernel
theorem d_Md_ring_9 : decode c_Md_ring 9 = .ok (.iconst 0, 1) := by decide +kernel
theorem d_Md_ring_10 : decode c_Md_ring 10 = .ok (.iconst 1, 1) := by decide +kernel
theorem d_Md_ring_11 : decode c_Md_ring 11 = .ok (.invokevirtual 69, 3) := by decide +kernel
theorem d_Md_ring_14 : decode c_Md_ring 14 = .ok (.ifCond .ne 5, 3) := by decide +kernel
theorem d_Md_ring_17 : decode c_Md_ring 17 = .ok (.iconst 0, 1) := by decide +kernel
theorem d_Md_ring_18 : decode c_Md_ring 18 = .ok (.ireturn, 1) := by decide +kernel
theorem d_Md_ring_19 : decode c_Md_ring 19 = .ok (.iload_n 1, 1) := by decide +kernel
theorem d_Md_ring_20 : decode c_Md_ring 20 = .ok (.aload_n 0, 1) := by decide +kernel
theorem d_Md_ring_21 : decode c_Md_ring 21 = .ok (.getfield 80, 3) := by decide +kernel
theorem d_Md_ring_24 : decode c_Md_ring 24 = .ok (.if_icmp .ge 12, 3) := by decide +kernel
theorem d_Md_ring_27 : decode c_Md_ring 27 = .ok (.aload_n 0, 1) := by decide +kernel
theorem d_Md_ring_28 : decode c_Md_ring 28 = .ok (.getfield 35, 3) := by decide +kernel
theorem d_Md_ring_31 : decode c_Md_ring 31 = .ok (.iload_n 1, 1) := by decide +kernel
theorem d_Md_ring_32 : decode c_Md_ring 32 = .ok (.iaload, 1) := by decide +kernel
theorem d_Md_ring_33 : decode c_Md_ring 33 = .ok (.goto 4, 3) := by decide +kernel
theorem d_Md_ring_36 : decode c_Md_ring 36 = .ok (.iconst (-1), 1) := by decide +kernel
theorem d_Md_ring_37 : decode c_Md_ring 37 = .ok (.ireturn, 1) := by decide +kernel
theorem d_Md_undo_0 : decode c_Md_undo 0 = .ok (.aload_n 0, 1) := by decide +kernel
theorem d_Md_undo_1 : decode c_Md_undo 1 = .ok (.iload_n 1, 1) := by decide +kernel
theorem d_Md_undo_2 : decode c_Md_undo 2 = .ok (.ifCond .lt 15, 3) := by decide +kernel
theorem d_Md_undo_5 : decode c_Md_undo 5 = .ok (.iload_n 1, 1) := by decide +kernel
theorem d_Md_undo_6 : decode c_Md_undo 6 = .ok (.aload_n 0, 1) := by decide +kernel
theorem d_Md_undo_7 : decode c_Md_undo 7 = .ok (.getfield 63, 3) := by decide +kernel
theorem d_Md_undo_10 : decode c_Md_undo 10 = .ok (.if_icmp .ge 7, 3) := by decide +kernel
theorem d_Md_undo_13 : decode c_Md_undo 13 = .ok (.iconst 1, 1) := by decide +kernel
theorem d_Md_undo_14 : decode c_Md_undo 14 = .ok (.goto 4, 3) := by decide +kernel
theorem d_Md_undo_17 : decode c_Md_undo 17 = .ok (.iconst 0, 1) := by decide +kernel
theorem d_Md_undo_18 : decode c_Md_undo 18 = .ok (.iconst 1, 1) := by decide +kernel
theorem d_Md_undo_19 : decode c_Md_undo 19 = .ok (.invokevirtual 69, 3) := by decide +kernel
theorem d_Md_undo_22 : decode c_Md_undo 22 = .ok (.ifCond .ne 5, 3) := by decide +kernel
theorem d_Md_undo_25 : decode c_Md_undo 25 = .ok (.iconst 0, 1) := by decide +kernel
theorem d_Md_undo_26 : decode c_Md_undo 26 = .ok (.ireturn, 1) := by decide +kernel
theorem d_Md_undo_27 : decode c_Md_undo 27 = .ok (.aload_n 0, 1) := by decide +kernel
theorem d_Md_undo_28 : decode c_Md_undo 28 = .ok (.getfield 19, 3) := by decide +kernel
theorem d_Md_undo_31 : decode c_Md_undo 31 = .ok (.iload_n 1, 1) := by decide +kernel
theorem d_Md_undo_32 : decode c_Md_undo 32 = .ok (.baload, 1) := by decide +kernel
theorem d_Md_undo_33 : decode c_Md_undo 33 = .ok (.istore_n 2, 1) := by decide +kernel
theorem d_Md_undo_34 : decode c_Md_undo 34 = .ok (.aload_n 0, 1) := by decide +kernel
theorem d_Md_undo_35 : decode c_Md_undo 35 = .ok (.getfield 19, 3) := by decide +kernel
theorem d_Md_undo_38 : decode c_Md_undo 38 = .ok (.iload_n 1, 1) := by decide +kernel
theorem d_Md_undo_39 : decode c_Md_undo 39 = .ok (.iconst 1, 1) := by decide +kernel
theorem d_Md_undo_40 : decode c_Md_undo 40 = .ok (.bastore, 1) := by decide +kernel
theorem d_Md_undo_41 : decode c_Md_undo 41 = .ok (.aload_n 0, 1) := by decide +kernel
theorem d_Md_undo_42 : decode c_Md_undo 42 = .ok (.invokevirtual 73, 3) := by decide +kernel
theorem d_Md_undo_45 : decode c_Md_undo 45 = .ok (.iload_n 2, 1) := by decide +kernel
theorem d_Md_undo_46 : decode c_Md_undo 46 = .ok (.ifCond .ne 7, 3) := by decide +kernel
theorem d_Md_undo_49 : decode c_Md_undo 49 = .ok (.iconst 1, 1) := by decide +kernel
theorem d_Md_undo_50 : decode c_Md_undo 50 = .ok (.goto 4, 3) := by decide +kernel
theorem d_Md_undo_53 : decode c_Md_undo 53 = .ok (.iconst 0, 1) := by decide +kernel
theorem d_Md_undo_54 : decode c_Md_undo 54 = .ok (.ireturn, 1) := by decide +kernel
theorem d_Md_order_0 : decode c_Md_order 0 = .ok (.aload_n 0, 1) := by decide +kernel
theorem d_Md_order_1 : decode c_Md_order 1 = .ok (.aload_n 0, 1) := by decide +kernel
theorem d_Md_order_2 : decode c_Md_order 2 = .ok (.iload_n 1, 1) := by decide +kernel
theorem d_Md_order_3 : decode c_Md_order 3 = .ok (.invokevirtual 87, 3) := by decide +kernel
theorem d_Md_order_6 : decode c_Md_order 6 = .ok (.ifCond .eq 15, 3) := by decide +kernel
theorem d_Md_order_9 : decode c_Md_order 9 = .ok (.aload_n 0, 1) := by decide +kernel
theorem d_Md_order_10 : decode c_Md_order 10 = .ok (.iload_n 2, 1) := by decide +kernel
theorem d_Md_order_11 : decode c_Md_order 11 = .ok (.invokevirtual 87, 3) := by decide +kernel
theorem d_Md_order_14 : decode c_Md_order 14 = .ok (.ifCond .eq 7, 3) := by decide +kernel
theorem d_Md_order_17 : decode c_Md_order 17 = .ok (.iconst 1, 1) := by decide +kernel
theorem d_Md_order_18 : decode c_Md_order 18 = .ok (.goto 4, 3) := by decide +kernel
theorem d_Md_order_21 : decode c_Md_order 21 = .ok (.iconst 0, 1) := by decide +kernel
theorem d_Md_order_22 : decode c_Md_order 22 = .ok (.iconst 1, 1) := by decide +kernel
theorem d_Md_order_23 : decode c_Md_order 23 = .ok (.invokevirtual 69, 3) := by decide +kernel
theorem d_Md_order_26 : decode c_Md_order 26 = .ok (.ifCond .ne 5, 3) := by decide +kernel
theorem d_Md_order_29 : decode c_Md_order 29 = .ok (.iconst 0, 1) := by decide +kernel
theorem d_Md_order_30 : decode c_Md_order 30 = .ok (.ireturn, 1) := by decide +kernel
theorem d_Md_order_31 : decode c_Md_order 31 = .ok (.aload_n 0, 1) := by decide +kernel
theorem d_Md_order_32 : decode c_Md_order 32 = .ok (.getfield 29, 3) := by decide +kernel
theorem d_Md_order_35 : decode c_Md_order 35 = .ok (.bipush 48, 2) := by decide +kernel
theorem d_Md_order_37 : decode c_Md_order 37 = .ok (.aload_n 0, 1) := by decide +kernel
theorem d_Md_order_38 : decode c_Md_order 38 = .ok (.getfield 23, 3) := by decide +kernel
theorem d_Md_order_41 : decode c_Md_order 41 = .ok (.iload_n 1, 1) := by decide +kernel
theorem d_Md_order_42 : decode c_Md_order 42 = .ok (.iaload, 1) := by decide +kernel
theorem d_Md_order_43 : decode c_Md_order 43 = .ok (.imul, 1) := by decide +kernel
theorem d_Md_order_44 : decode c_Md_order 44 = .ok (.aload_n 0, 1) := by decide +kernel
theorem d_Md_order_45 : decode c_Md_order 45 = .ok (.getfield 23, 3) := by decide +kernel
theorem d_Md_order_48 : decode c_Md_order 48 = .ok (.iload_n 2, 1) := by decide +kernel
theorem d_Md_order_49 : decode c_Md_order 49 = .ok (.iaload, 1) := by decide +kernel
theorem d_Md_order_50 : decode c_Md_order 50 = .ok (.iadd, 1) := by decide +kernel
theorem d_Md_order_51 : decode c_Md_order 51 = .ok (.baload, 1) := by decide +kernel
theorem d_Md_order_52 : decode c_Md_order 52 = .ok (.ifCond .eq 7, 3) := by decide +kernel
theorem d_Md_order_55 : decode c_Md_order 55 = .ok (.iconst 1, 1) := by decide +kernel
theorem d_Md_order_56 : decode c_Md_order 56 = .ok (.goto 32, 3) := by decide +kernel
theorem d_Md_order_59 : decode c_Md_order 59 = .ok (.aload_n 0, 1) := by decide +kernel
theorem d_Md_order_60 : decode c_Md_order 60 = .ok (.getfield 29, 3) := by decide +kernel
theorem d_Md_order_63 : decode c_Md_order 63 = .ok (.bipush 48, 2) := by decide +kernel
theorem d_Md_order_65 : decode c_Md_order 65 = .ok (.aload_n 0, 1) := by decide +kernel
theorem d_Md_order_66 : decode c_Md_order 66 = .ok (.getfield 23, 3) := by decide +kernel
theorem d_Md_order_69 : decode c_Md_order 69 = .ok (.iload_n 2, 1) := by decide +kernel
theorem d_Md_order_70 : decode c_Md_order 70 = .ok (.iaload, 1) := by decide +kernel
theorem d_Md_order_71 : decode c_Md_order 71 = .ok (.imul, 1) := by decide +kernel
theorem d_Md_order_72 : decode c_Md_order 72 = .ok (.aload_n 0, 1) := by decide +kernel
theorem d_Md_order_73 : decode c_Md_order 73 = .ok (.getfield 23, 3) := by decide +kernel
theorem d_Md_order_76 : decode c_Md_order 76 = .ok (.iload_n 1, 1) := by decide +kernel
theorem d_Md_order_77 : decode c_Md_order 77 = .ok (.iaload, 1) := by decide +kernel
theorem d_Md_order_78 : decode c_Md_order 78 = .ok (.iadd, 1) := by decide +kernel
theorem d_Md_order_79 : decode c_Md_order 79 = .ok (.baload, 1) := by decide +kernel
theorem d_Md_order_80 : decode c_Md_order 80 = .ok (.ifCond .eq 7, 3) := by decide +kernel
theorem d_Md_order_83 : decode c_Md_order 83 = .ok (.iconst (-1), 1) := by decide +kernel
theorem d_Md_order_84 : decode c_Md_order 84 = .ok (.goto 4, 3) := by decide +kernel
theorem d_Md_order_87 : decode c_Md_order 87 = .ok (.iconst 0, 1) := by decide +kernel
theorem d_Md_order_88 : decode c_Md_order 88 = .ok (.ireturn, 1) := by decide +kernel
theorem d_Md_isLink_0 : decode c_Md_isLink 0 = .ok (.aload_n 0, 1) := by decide +kernel
theorem d_Md_isLink_1 : decode c_Md_isLink 1 = .ok (.getfield 29, 3) := by decide +kernel
theorem d_Md_isLink_4 : decode c_Md_isLink 4 = .ok (.bipush 48, 2) := by decide +kernel
theorem d_Md_isLink_6 : decode c_Md_isLink 6 = .ok (.iload_n 1, 1) := by decide +kernel
theorem d_Md_isLink_7 : decode c_Md_isLink 7 = .ok (.imul, 1) := by decide +kernel
theorem d_Md_isLink_8 : decode c_Md_isLink 8 = .ok (.iload_n 2, 1) := by decide +kernel
theorem d_Md_isLink_9 : decode c_Md_isLink 9 = .ok (.iadd, 1) := by decide +kernel
theorem d_Md_isLink_10 : decode c_Md_isLink 10 = .ok (.baload, 1) := by decide +kernel
theorem d_Md_isLink_11 : decode c_Md_isLink 11 = .ok (.istore_n 3, 1) := by decide +kernel
theorem d_Md_isLink_12 : decode c_Md_isLink 12 = .ok (.iconst 0, 1) := by decide +kernel
theorem d_Md_isLink_13 : decode c_Md_isLink 13 = .ok (.istore 4, 2) := by decide +kernel
theorem d_Md_isLink_15 : decode c_Md_isLink 15 = .ok (.iload 4, 2) := by decide +kernel
theorem d_Md_isLink_17 : decode c_Md_isLink 17 = .ok (.aload_n 0, 1) := by decide +kernel
theorem d_Md_isLink_18 : decode c_Md_isLink 18 = .ok (.getfield 60, 3) := by decide +kernel
theorem d_Md_isLink_21 : decode c_Md_isLink 21 = .ok (.if_icmp .ge 49, 3) := by decide +kernel
theorem d_Md_isLink_24 : decode c_Md_isLink 24 = .ok (.iload_n 3, 1) := by decide +kernel
theorem d_Md_isLink_25 : decode c_Md_isLink 25 = .ok (.ifCond .eq 45, 3) := by decide +kernel
theorem d_Md_isLink_28 : decode c_Md_isLink 28 = .ok (.aload_n 0, 1) := by decide +kernel
theorem d_Md_isLink_29 : decode c_Md_isLink 29 = .ok (.getfield 29, 3) := by decide +kernel
theorem d_Md_isLink_32 : decode c_Md_isLink 32 = .ok (.bipush 48, 2) := by decide +kernel
theorem d_Md_isLink_34 : decode c_Md_isLink 34 = .ok (.iload_n 1, 1) := by decide +kernel
theorem d_Md_isLink_35 : decode c_Md_isLink 35 = .ok (.imul, 1) := by decide +kernel
theorem d_Md_isLink_36 : decode c_Md_isLink 36 = .ok (.iload 4, 2) := by decide +kernel
theorem d_Md_isLink_38 : decode c_Md_isLink 38 = .ok (.iadd, 1) := by decide +kernel
theorem d_Md_isLink_39 : decode c_Md_isLink 39 = .ok (.baload, 1) := by decide +kernel
theorem d_Md_isLink_40 : decode c_Md_isLink 40 = .ok (.ifCond .eq 18, 3) := by decide +kernel
theorem d_Md_isLink_43 : decode c_Md_isLink 43 = .ok (.aload_n 0, 1) := by decide +kernel
theorem d_Md_isLink_44 : decode c_Md_isLink 44 = .ok (.getfield 29, 3) := by decide +kernel
theorem d_Md_isLink_47 : decode c_Md_isLink 47 = .ok (.bipush 48, 2) := by decide +kernel
theorem d_Md_isLink_49 : decode c_Md_isLink 49 = .ok (.iload 4, 2) := by decide +kernel
theorem d_Md_isLink_51 : decode c_Md_isLink 51 = .ok (.imul, 1) := by decide +kernel
theorem d_Md_isLink_52 : decode c_Md_isLink 52 = .ok (.iload_n 2, 1) := by decide +kernel
theorem d_Md_isLink_53 : decode c_Md_isLink 53 = .ok (.iadd, 1) := by decide +kernel
theorem d_Md_isLink_54 : decode c_Md_isLink 54 = .ok (.baload, 1) := by decide +kernel
theorem d_Md_isLink_55 : decode c_Md_isLink 55 = .ok (.ifCond .ne 7, 3) := by decide +kernel
theorem d_Md_isLink_58 : decode c_Md_isLink 58 = .ok (.iconst 1, 1) := by decide +kernel
theorem d_Md_isLink_59 : decode c_Md_isLink 59 = .ok (.goto 4, 3) := by decide +kernel
theorem d_Md_isLink_62 : decode c_Md_isLink 62 = .ok (.iconst 0, 1) := by decide +kernel
theorem d_Md_isLink_63 : decode c_Md_isLink 63 = .ok (.istore_n 3, 1) := by decide +kernel
theorem d_Md_isLink_64 : decode c_Md_isLink 64 = .ok (.iinc 4 1, 3) := by decide +kernel
theorem d_Md_isLink_67 : decode c_Md_isLink 67 = .ok (.goto (-52), 3) := by decide +kernel
theorem d_Md_isLink_70 : decode c_Md_isLink 70 = .ok (.iload_n 3, 1) := by decide +kernel
theorem d_Md_isLink_71 : decode c_Md_isLink 71 = .ok (.ireturn, 1) := by decide +kernel
theorem d_Md_allLinks_0 : decode c_Md_allLinks 0 = .ok (.iconst 0, 1) := by decide +kernel
theorem d_Md_allLinks_1 : decode c_Md_allLinks 1 = .ok (.istore_n 1, 1) := by decide +kernel
theorem d_Md_allLinks_2 : decode c_Md_allLinks 2 = .ok (.iconst 0, 1) := by decide +kernel
theorem d_Md_allLinks_3 : decode c_Md_allLinks 3 = .ok (.istore_n 2, 1) := by decide +kernel
theorem d_Md_allLinks_4 : decode c_Md_allLinks 4 = .ok (.iload_n 2, 1) := by decide +kernel
theorem d_Md_allLinks_5 : decode c_Md_allLinks 5 = .ok (.sipush 2304, 3) := by decide +kernel
theorem d_Md_allLinks_8 : decode c_Md_allLinks 8 = .ok (.if_icmp .ge 32, 3) := by decide +kernel
theorem d_Md_allLinks_11 : decode c_Md_allLinks 11 = .ok (.aload_n 0, 1) := by decide +kernel
theorem d_Md_allLinks_12 : decode c_Md_allLinks 12 = .ok (.iload_n 2, 1) := by decide +kernel
theorem d_Md_allLinks_13 : decode c_Md_allLinks 13 = .ok (.bipush 48, 2) := by decide +kernel
theorem d_Md_allLinks_15 : decode c_Md_allLinks 15 = .ok (.idiv, 1) := by decide +kernel
theorem d_Md_allLinks_16 : decode c_Md_allLinks 16 = .ok (.iload_n 2, 1) := by decide +kernel
theorem d_Md_allLinks_17 : decode c_Md_allLinks 17 = .ok (.bipush 48, 2) := by decide +kernel
theorem d_Md_allLinks_19 : decode c_Md_allLinks 19 = .ok (.irem, 1) := by decide +kernel
theorem d_Md_allLinks_20 : decode c_Md_allLinks 20 = .ok (.invokevirtual 95, 3) := by decide +kernel
theorem d_Md_allLinks_23 : decode c_Md_allLinks 23 = .ok (.ifCond .eq 9, 3) := by decide +kernel
theorem d_Md_allLinks_26 : decode c_Md_allLinks 26 = .ok (.iload_n 1, 1) := by decide +kernel
theorem d_Md_allLinks_27 : decode c_Md_allLinks 27 = .ok (.iconst 1, 1) := by decide +kernel
theorem d_Md_allLinks_28 : decode c_Md_allLinks 28 = .ok (.iadd, 1) := by decide +kernel
theorem d_Md_allLinks_29 : decode c_Md_allLinks 29 = .ok (.goto 4, 3) := by decide +kernel
theorem d_Md_allLinks_32 : decode c_Md_allLinks 32 = .ok (.iload_n 1, 1) := by decide +kernel
theorem d_Md_allLinks_33 : decode c_Md_allLinks 33 = .ok (.istore_n 1, 1) := by decide +kernel
theorem d_Md_allLinks_34 : decode c_Md_allLinks 34 = .ok (.iinc 2 1, 3) := by decide +kernel
theorem d_Md_allLinks_37 : decode c_Md_allLinks 37 = .ok (.goto (-33), 3) := by decide +kernel
theorem d_Md_allLinks_40 : decode c_Md_allLinks 40 = .ok (.iload_n 1, 1) := by decide +kernel
theorem d_Md_allLinks_41 : decode c_Md_allLinks 41 = .ok (.ireturn, 1) := by decide +kernel
theorem d_Md_links_0 : decode c_Md_links 0 = .ok (.aload_n 0, 1) := by decide +kernel
theorem d_Md_links_1 : decode c_Md_links 1 = .ok (.iconst 0, 1) := by decide +kernel
theorem d_Md_links_2 : decode c_Md_links 2 = .ok (.putfield 56, 3) := by decide +kernel
theorem d_Md_links_5 : decode c_Md_links 5 = .ok (.aload_n 0, 1) := by decide +kernel
theorem d_Md_links_6 : decode c_Md_links 6 = .ok (.invokevirtual 99, 3) := by decide +kernel
theorem d_Md_links_9 : decode c_Md_links 9 = .ok (.ireturn, 1) := by decide +kernel
theorem d_Md_link_0 : decode c_Md_link 0 = .ok (.iload_n 1, 1) := by decide +kernel
theorem d_Md_link_1 : decode c_Md_link 1 = .ok (.ifCond .lt 16, 3) := by decide +kernel
theorem d_Md_link_4 : decode c_Md_link 4 = .ok (.iload_n 2, 1) := by decide +kernel
theorem d_Md_link_5 : decode c_Md_link 5 = .ok (.ifCond .eq 8, 3) := by decide +kernel
theorem d_Md_link_8 : decode c_Md_link 8 = .ok (.iload_n 2, 1) := by decide +kernel
theorem d_Md_link_9 : decode c_Md_link 9 = .ok (.iconst 1, 1) := by decide +kernel
theorem d_Md_link_10 : decode c_Md_link 10 = .ok (.if_icmp .ne 7, 3) := by decide +kernel
theorem d_Md_link_13 : decode c_Md_link 13 = .ok (.iconst 1, 1) := by decide +kernel
theorem d_Md_link_14 : decode c_Md_link 14 = .ok (.goto 4, 3) := by decide +kernel
theorem d_Md_link_17 : decode c_Md_link 17 = .ok (.iconst 0, 1) := by decide +kernel
theorem d_Md_link_18 : decode c_Md_link 18 = .ok (.istore_n 3, 1) := by decide +kernel
theorem d_Md_link_19 : decode c_Md_link 19 = .ok (.iconst 0, 1) := by decide +kernel
theorem d_Md_link_20 : decode c_Md_link 20 = .ok (.istore 4, 2) := by decide +kernel
theorem d_Md_link_22 : decode c_Md_link 22 = .ok (.iconst (-1), 1) := by decide +kernel
theorem d_Md_link_23 : decode c_Md_link 23 = .ok (.istore 5, 2) := by decide +kernel
theorem d_Md_link_25 : decode c_Md_link 25 = .ok (.iconst 0, 1) := by decide +kernel
theorem d_Md_link_26 : decode c_Md_link 26 = .ok (.istore 6, 2) := by decide +kernel
theorem d_Md_link_28 : decode c_Md_link 28 = .ok (.iload 6, 2) := by decide +kernel
theorem d_Md_link_30 : decode c_Md_link 30 = .ok (.sipush 2304, 3) := by decide +kernel
theorem d_Md_link_33 : decode c_Md_link 33 = .ok (.if_icmp .ge 53, 3) := by decide +kernel
theorem d_Md_link_36 : decode c_Md_link 36 = .ok (.iload_n 3, 1) := by decide +kernel
theorem d_Md_link_37 : decode c_Md_link 37 = .ok (.ifCond .eq 49, 3) := by decide +kernel
theorem d_Md_link_40 : decode c_Md_link 40 = .ok (.iload 5, 2) := by decide +kernel
theorem d_Md_link_42 : decode c_Md_link 42 = .ok (.iconst (-1), 1) := by decide +kernel
theorem d_Md_link_43 : decode c_Md_link 43 = .ok (.if_icmp .ne 43, 3) := by decide +kernel
theorem d_Md_link_46 : decode c_Md_link 46 = .ok (.aload_n 0, 1) := by decide +kernel
theorem d_Md_link_47 : decode c_Md_link 47 = .ok (.iload 6, 2) := by decide +kernel
theorem d_Md_link_49 : decode c_Md_link 49 = .ok (.bipush 48, 2) := by decide +kernel
theorem d_Md_link_51 : decode c_Md_link 51 = .ok (.idiv, 1) := by decide +kernel
theorem d_Md_link_52 : decode c_Md_link 52 = .ok (.iload 6, 2) := by decide +kernel
theorem d_Md_link_54 : decode c_Md_link 54 = .ok (.bipush 48, 2) := by decide +kernel
theorem d_Md_link_56 : decode c_Md_link 56 = .ok (.irem, 1) := by decide +kernel
theorem d_Md_link_57 : decode c_Md_link 57 = .ok (.invokevirtual 95, 3) := by decide +kernel
theorem d_Md_link_60 : decode c_Md_link 60 = .ok (.ifCond .eq 20, 3) := by decide +kernel
theorem d_Md_link_63 : decode c_Md_link 63 = .ok (.iload 4, 2) := by decide +kernel
theorem d_Md_link_65 : decode c_Md_link 65 = .ok (.iload_n 1, 1) := by decide +kernel
theorem d_Md_link_66 : decode c_Md_link 66 = .ok (.if_icmp .ne 8, 3) := by decide +kernel
theorem d_Md_link_69 : decode c_Md_link 69 = .ok (.iload 6, 2) := by decide +kernel
theorem d_Md_link_71 : decode c_Md_link 71 = .ok (.goto 4, 3) := by decide +kernel
theorem d_Md_link_74 : decode c_Md_link 74 = .ok (.iconst (-1), 1) := by decide +kernel
theorem d_Md_link_75 : decode c_Md_link 75 = .ok (.istore 5, 2) := by decide +kernel
theorem d_Md_link_77 : decode c_Md_link 77 = .ok (.iinc 4 1, 3) := by decide +kernel
theorem d_Md_link_80 : decode c_Md_link 80 = .ok (.iinc 6 1, 3) := by decide +kernel
theorem d_Md_link_83 : decode c_Md_link 83 = .ok (.goto (-55), 3) := by decide +kernel
theorem d_Md_link_86 : decode c_Md_link 86 = .ok (.aload_n 0, 1) := by decide +kernel
theorem d_Md_link_87 : decode c_Md_link 87 = .ok (.iload 5, 2) := by decide +kernel
theorem d_Md_link_89 : decode c_Md_link 89 = .ok (.iconst (-1), 1) := by decide +kernel
theorem d_Md_link_90 : decode c_Md_link 90 = .ok (.if_icmp .eq 7, 3) := by decide +kernel
theorem d_Md_link_93 : decode c_Md_link 93 = .ok (.iconst 1, 1) := by decide +kernel
theorem d_Md_link_94 : decode c_Md_link 94 = .ok (.goto 4, 3) := by decide +kernel
theorem d_Md_link_97 : decode c_Md_link 97 = .ok (.iconst 0, 1) := by decide +kernel
theorem d_Md_link_98 : decode c_Md_link 98 = .ok (.iconst 1, 1) := by decide +kernel
theorem d_Md_link_99 : decode c_Md_link 99 = .ok (.invokevirtual 69, 3) := by decide +kernel
theorem d_Md_link_102 : decode c_Md_link 102 = .ok (.ifCond .ne 5, 3) := by decide +kernel
theorem d_Md_link_105 : decode c_Md_link 105 = .ok (.iconst 0, 1) := by decide +kernel
theorem d_Md_link_106 : decode c_Md_link 106 = .ok (.ireturn, 1) := by decide +kernel
theorem d_Md_link_107 : decode c_Md_link 107 = .ok (.iload_n 2, 1) := by decide +kernel
theorem d_Md_link_108 : decode c_Md_link 108 = .ok (.ifCond .ne 11, 3) := by decide +kernel
theorem d_Md_link_111 : decode c_Md_link 111 = .ok (.iload 5, 2) := by decide +kernel
theorem d_Md_link_113 : decode c_Md_link 113 = .ok (.bipush 48, 2) := by decide +kernel
theorem d_Md_link_115 : decode c_Md_link 115 = .ok (.idiv, 1) := by decide +kernel
theorem d_Md_link_116 : decode c_Md_link 116 = .ok (.goto 8, 3) := by decide +kernel
theorem d_Md_link_119 : decode c_Md_link 119 = .ok (.iload 5, 2) := by decide +kernel
theorem d_Md_link_121 : decode c_Md_link 121 = .ok (.bipush 48, 2) := by decide +kernel
theorem d_Md_link_123 : decode c_Md_link 123 = .ok (.irem, 1) := by decide +kernel
theorem d_Md_link_124 : decode c_Md_link 124 = .ok (.ireturn, 1) := by decide +kernel
theorem d_Md_equal_0 : decode c_Md_equal 0 = .ok (.aload_n 0, 1) := by decide +kernel
theorem d_Md_equal_1 : decode c_Md_equal 1 = .ok (.aload_n 0, 1) := by decide +kernel
theorem d_Md_equal_2 : decode c_Md_equal 2 = .ok (.iload_n 1, 1) := by decide +kernel
theorem d_Md_equal_3 : decode c_Md_equal 3 = .ok (.invokevirtual 87, 3) := by decide +kernel
theorem d_Md_equal_6 : decode c_Md_equal 6 = .ok (.iconst 1, 1) := by decide +kernel
theorem d_Md_equal_7 : decode c_Md_equal 7 = .ok (.invokevirtual 69, 3) := by decide +kernel
theorem d_Md_equal_10 : decode c_Md_equal 10 = .ok (.ifCond .eq 12, 3) := by decide +kernel
theorem d_Md_equal_13 : decode c_Md_equal 13 = .ok (.aload_n 0, 1) := by decide +kernel
theorem d_Md_equal_14 : decode c_Md_equal 14 = .ok (.getfield 23, 3) := by decide +kernel
theorem d_Md_equal_17 : decode c_Md_equal 17 = .ok (.iload_n 1, 1) := by decide +kernel
theorem d_Md_equal_18 : decode c_Md_equal 18 = .ok (.iaload, 1) := by decide +kernel
theorem d_Md_equal_19 : decode c_Md_equal 19 = .ok (.goto 4, 3) := by decide +kernel
theorem d_Md_equal_22 : decode c_Md_equal 22 = .ok (.iconst 0, 1) := by decide +kernel
theorem d_Md_equal_23 : decode c_Md_equal 23 = .ok (.ireturn, 1) := by decide +kernel
theorem d_Md_contemporary_0 : decode c_Md_contemporary 0 = .ok (.aload_n 0, 1) := by decide +kernel
theorem d_Md_contemporary_1 : decode c_Md_contemporary 1 = .ok (.aload_n 0, 1) := by decide +kernel
theorem d_Md_contemporary_2 : decode c_Md_contemporary 2 = .ok (.iload_n 1, 1) := by decide +kernel
theorem d_Md_contemporary_3 : decode c_Md_contemporary 3 = .ok (.invokevirtual 87, 3) := by decide +kernel
theorem d_Md_contemporary_6 : decode c_Md_contemporary 6 = .ok (.ifCond .eq 15, 3) := by decide +kernel
theorem d_Md_contemporary_9 : decode c_Md_contemporary 9 = .ok (.aload_n 0, 1) := by decide +kernel
theorem d_Md_contemporary_10 : decode c_Md_contemporary 10 = .ok (.iload_n 2, 1) := by decide +kernel
theorem d_Md_contemporary_11 : decode c_Md_contemporary 11 = .ok (.invokevirtual 87, 3) := by decide +kernel
theorem d_Md_contemporary_14 : decode c_Md_contemporary 14 = .ok (.ifCond .eq 7, 3) := by decide +kernel
theorem d_Md_contemporary_17 : decode c_Md_contemporary 17 = .ok (.iconst 1, 1) := by decide +kernel
theorem d_Md_contemporary_18 : decode c_Md_contemporary 18 = .ok (.goto 4, 3) := by decide +kernel
theorem d_Md_contemporary_21 : decode c_Md_contemporary 21 = .ok (.iconst 0, 1) := by decide +kernel
theorem d_Md_contemporary_22 : decode c_Md_contemporary 22 = .ok (.iconst 1, 1) := by decide +kernel
theorem d_Md_contemporary_23 : decode c_Md_contemporary 23 = .ok (.invokevirtual 69, 3) := by decide +kernel
theorem d_Md_contemporary_26 : decode c_Md_contemporary 26 = .ok (.ifCond .ne 5, 3) := by decide +kernel
theorem d_Md_contemporary_29 : decode c_Md_contemporary 29 = .ok (.iconst 0, 1) := by decide +kernel
theorem d_Md_contemporary_30 : decode c_Md_contemporary 30 = .ok (.ireturn, 1) := by decide +kernel
theorem d_Md_contemporary_31 : decode c_Md_contemporary 31 = .ok (.aload_n 0, 1) := by decide +kernel
theorem d_Md_contemporary_32 : decode c_Md_contemporary 32 = .ok (.getfield 23, 3) := by decide +kernel
theorem d_Md_contemporary_35 : decode c_Md_contemporary 35 = .ok (.iload_n 1, 1) := by decide +kernel
theorem d_Md_contemporary_36 : decode c_Md_contemporary 36 = .ok (.iaload, 1) := by decide +kernel
theorem d_Md_contemporary_37 : decode c_Md_contemporary 37 = .ok (.istore_n 3, 1) := by decide +kernel
theorem d_Md_contemporary_38 : decode c_Md_contemporary 38 = .ok (.aload_n 0, 1) := by decide +kernel
theorem d_Md_contemporary_39 : decode c_Md_contemporary 39 = .ok (.getfield 23, 3) := by decide +kernel
theorem d_Md_contemporary_42 : decode c_Md_contemporary 42 = .ok (.iload_n 2, 1) := by decide +kernel
theorem d_Md_contemporary_43 : decode c_Md_contemporary 43 = .ok (.iaload, 1) := by decide +kernel
theorem d_Md_contemporary_44 : decode c_Md_contemporary 44 = .ok (.istore 4, 2) := by decide +kernel
theorem d_Md_contemporary_46 : decode c_Md_contemporary 46 = .ok (.iload_n 3, 1) := by decide +kernel
theorem d_Md_contemporary_47 : decode c_Md_contemporary 47 = .ok (.iload 4, 2) := by decide +kernel
theorem d_Md_contemporary_49 : decode c_Md_contemporary 49 = .ok (.if_icmp .ne 7, 3) := by decide +kernel
theorem d_Md_contemporary_52 : decode c_Md_contemporary 52 = .ok (.iconst 1, 1) := by decide +kernel
theorem d_Md_contemporary_53 : decode c_Md_contemporary 53 = .ok (.goto 4, 3) := by decide +kernel
theorem d_Md_contemporary_56 : decode c_Md_contemporary 56 = .ok (.iconst 0, 1) := by decide +kernel
theorem d_Md_contemporary_57 : decode c_Md_contemporary 57 = .ok (.istore 5, 2) := by decide +kernel
theorem d_Md_contemporary_59 : decode c_Md_contemporary 59 = .ok (.iconst 0, 1) := by decide +kernel
theorem d_Md_contemporary_60 : decode c_Md_contemporary 60 = .ok (.istore 6, 2) := by decide +kernel
theorem d_Md_contemporary_62 : decode c_Md_contemporary 62 = .ok (.iload 6, 2) := by decide +kernel
theorem d_Md_contemporary_64 : decode c_Md_contemporary 64 = .ok (.aload_n 0, 1) := by decide +kernel
theorem d_Md_contemporary_65 : decode c_Md_contemporary 65 = .ok (.getfield 63, 3) := by decide +kernel
theorem d_Md_contemporary_68 : decode c_Md_contemporary 68 = .ok (.if_icmp .ge 96, 3) := by decide +kernel
theorem d_Md_contemporary_71 : decode c_Md_contemporary 71 = .ok (.aload_n 0, 1) := by decide +kernel
theorem d_Md_contemporary_72 : decode c_Md_contemporary 72 = .ok (.getfield 23, 3) := by decide +kernel
theorem d_Md_contemporary_75 : decode c_Md_contemporary 75 = .ok (.aload_n 0, 1) := by decide +kernel
theorem d_Md_contemporary_76 : decode c_Md_contemporary 76 = .ok (.getfield 7, 3) := by decide +kernel
theorem d_Md_contemporary_79 : decode c_Md_contemporary 79 = .ok (.iload 6, 2) := by decide +kernel
theorem d_Md_contemporary_81 : decode c_Md_contemporary 81 = .ok (.iaload, 1) := by decide +kernel
theorem d_Md_contemporary_82 : decode c_Md_contemporary 82 = .ok (.iaload, 1) := by decide +kernel
theorem d_Md_contemporary_83 : decode c_Md_contemporary 83 = .ok (.istore 7, 2) := by decide +kernel
theorem d_Md_contemporary_85 : decode c_Md_contemporary 85 = .ok (.aload_n 0, 1) := by decide +kernel
theorem d_Md_contemporary_86 : decode c_Md_contemporary 86 = .ok (.getfield 23, 3) := by decide +kernel
theorem d_Md_contemporary_89 : decode c_Md_contemporary 89 = .ok (.aload_n 0, 1) := by decide +kernel
theorem d_Md_contemporary_90 : decode c_Md_contemporary 90 = .ok (.getfield 13, 3) := by decide +kernel
theorem d_Md_contemporary_93 : decode c_Md_contemporary 93 = .ok (.iload 6, 2) := by decide +kernel
theorem d_Md_contemporary_95 : decode c_Md_contemporary 95 = .ok (.iaload, 1) := by decide +kernel
theorem d_Md_contemporary_96 : decode c_Md_contemporary 96 = .ok (.iaload, 1) := by decide +kernel
theorem d_Md_contemporary_97 : decode c_Md_contemporary 97 = .ok (.istore 8, 2) := by decide +kernel
theorem d_Md_contemporary_99 : decode c_Md_contemporary 99 = .ok (.iload 5, 2) := by decide +kernel
theorem d_Md_contemporary_101 : decode c_Md_contemporary 101 = .ok (.ifCond .ne 50, 3) := by decide +kernel
theorem d_Md_contemporary_104 : decode c_Md_contemporary 104 = .ok (.aload_n 0, 1) := by decide +kernel
theorem d_Md_contemporary_105 : decode c_Md_contemporary 105 = .ok (.getfield 19, 3) := by decide +kernel
theorem d_Md_contemporary_108 : decode c_Md_contemporary 108 = .ok (.iload 6, 2) := by decide +kernel
theorem d_Md_contemporary_110 : decode c_Md_contemporary 110 = .ok (.baload, 1) := by decide +kernel
theorem d_Md_contemporary_111 : decode c_Md_contemporary 111 = .ok (.ifCond .ne 44, 3) := by decide +kernel
theorem d_Md_contemporary_114 : decode c_Md_contemporary 114 = .ok (.aload_n 0, 1) := by decide +kernel
theorem d_Md_contemporary_115 : decode c_Md_contemporary 115 = .ok (.getfield 16, 3) := by decide +kernel
theorem d_Md_contemporary_118 : decode c_Md_contemporary 118 = .ok (.iload 6, 2) := by decide +kernel
theorem d_Md_contemporary_120 : decode c_Md_contemporary 120 = .ok (.iaload, 1) := by decide +kernel
theorem d_Md_contemporary_121 : decode c_Md_contemporary 121 = .ok (.iconst 4, 1) := by decide +kernel
theorem d_Md_contemporary_122 : decode c_Md_contemporary 122 = .ok (.if_icmp .ne 33, 3) := by decide +kernel
theorem d_Md_contemporary_125 : decode c_Md_contemporary 125 = .ok (.iload 7, 2) := by decide +kernel
theorem d_Md_contemporary_127 : decode c_Md_contemporary 127 = .ok (.iload_n 3, 1) := by decide +kernel
theorem d_Md_contemporary_128 : decode c_Md_contemporary 128 = .ok (.if_icmp .ne 10, 3) := by decide +kernel
theorem d_Md_contemporary_131 : decode c_Md_contemporary 131 = .ok (.iload 8, 2) := by decide +kernel
theorem d_Md_contemporary_133 : decode c_Md_contemporary 133 = .ok (.iload 4, 2) := by decide +kernel
theorem d_Md_contemporary_135 : decode c_Md_contemporary 135 = .ok (.if_icmp .eq 16, 3) := by decide +kernel
theorem d_Md_contemporary_138 : decode c_Md_contemporary 138 = .ok (.iload 7, 2) := by decide +kernel
theorem d_Md_contemporary_140 : decode c_Md_contemporary 140 = .ok (.iload 4, 2) := by decide +kernel
theorem d_Md_contemporary_142 : decode c_Md_contemporary 142 = .ok (.if_icmp .ne 13, 3) := by decide +kernel
theorem d_Md_contemporary_145 : decode c_Md_contemporary 145 = .ok (.iload 8, 2) := by decide +kernel
theorem d_Md_contemporary_147 : decode c_Md_contemporary 147 = .ok (.iload_n 3, 1) := by decide +kernel
theorem d_Md_contemporary_148 : decode c_Md_contemporary 148 = .ok (.if_icmp .ne 7, 3) := by decide +kernel
theorem d_Md_contemporary_151 : decode c_Md_contemporary 151 = .ok (.iconst 1, 1) := by decide +kernel
theorem d_Md_contemporary_152 : decode c_Md_contemporary 152 = .ok (.goto 4, 3) := by decide +kernel
theorem d_Md_contemporary_155 : decode c_Md_contemporary 155 = .ok (.iconst 0, 1) := by decide +kernel
theorem d_Md_contemporary_156 : decode c_Md_contemporary 156 = .ok (.istore 5, 2) := by decide +kernel
theorem d_Md_contemporary_158 : decode c_Md_contemporary 158 = .ok (.iinc 6 1, 3) := by decide +kernel
theorem d_Md_contemporary_161 : decode c_Md_contemporary 161 = .ok (.goto (-99), 3) := by decide +kernel
theorem d_Md_contemporary_164 : decode c_Md_contemporary 164 = .ok (.iload 5, 2) := by decide +kernel
theorem d_Md_contemporary_166 : decode c_Md_contemporary 166 = .ok (.ireturn, 1) := by decide +kernel
theorem d_Md_longest_0 : decode c_Md_longest 0 = .ok (.aload_n 0, 1) := by decide +kernel
theorem d_Md_longest_1 : decode c_Md_longest 1 = .ok (.aload_n 0, 1) := by decide +kernel
theorem d_Md_longest_2 : decode c_Md_longest 2 = .ok (.iload_n 1, 1) := by decide +kernel
theorem d_Md_longest_3 : decode c_Md_longest 3 = .ok (.invokevirtual 87, 3) := by decide +kernel
theorem d_Md_longest_6 : decode c_Md_longest 6 = .ok (.iconst 1, 1) := by decide +kernel
theorem d_Md_longest_7 : decode c_Md_longest 7 = .ok (.invokevirtual 69, 3) := by decide +kernel
theorem d_Md_longest_10 : decode c_Md_longest 10 = .ok (.ifCond .ne 5, 3) := by decide +kernel
theorem d_Md_longest_13 : decode c_Md_longest 13 = .ok (.iconst 0, 1) := by decide +kernel
theorem d_Md_longest_14 : decode c_Md_longest 14 = .ok (.ireturn, 1) := by decide +kernel
theorem d_Md_longest_15 : decode c_Md_longest 15 = .ok (.iconst 0, 1) := by decide +kernel
theorem d_Md_longest_16 : decode c_Md_longest 16 = .ok (.istore_n 2, 1) := by decide +kernel
theorem d_Md_longest_17 : decode c_Md_longest 17 = .ok (.iload_n 2, 1) := by decide +kernel
theorem d_Md_longest_18 : decode c_Md_longest 18 = .ok (.bipush 48, 2) := by decide +kernel
theorem d_Md_longest_20 : decode c_Md_longest 20 = .ok (.if_icmp .ge 16, 3) := by decide +kernel
theorem d_Md_longest_23 : decode c_Md_longest 23 = .ok (.aload_n 0, 1) := by decide +kernel
theorem d_Md_longest_24 : decode c_Md_longest 24 = .ok (.getfield 32, 3) := by decide +kernel
theorem d_Md_longest_27 : decode c_Md_longest 27 = .ok (.iload_n 2, 1) := by decide +kernel
theorem d_Md_longest_28 : decode c_Md_longest 28 = .ok (.iconst 0, 1) := by decide +kernel
theorem d_Md_longest_29 : decode c_Md_longest 29 = .ok (.iastore, 1) := by decide +kernel
theorem d_Md_longest_30 : decode c_Md_longest 30 = .ok (.iinc 2 1, 3) := by decide +kernel
theorem d_Md_longest_33 : decode c_Md_longest 33 = .ok (.goto (-16), 3) := by decide +kernel
theorem d_Md_longest_36 : decode c_Md_longest 36 = .ok (.iconst 1, 1) := by decide +kernel
theorem d_Md_longest_37 : decode c_Md_longest 37 = .ok (.istore_n 2, 1) := by decide +kernel
theorem d_Md_longest_38 : decode c_Md_longest 38 = .ok (.iload_n 2, 1) := by decide +kernel
theorem d_Md_longest_39 : decode c_Md_longest 39 = .ok (.ifCond .eq 77, 3) := by decide +kernel
theorem d_Md_longest_42 : decode c_Md_longest 42 = .ok (.iconst 0, 1) := by decide +kernel
theorem d_Md_longest_43 : decode c_Md_longest 43 = .ok (.istore_n 2, 1) := by decide +kernel
theorem d_Md_longest_44 : decode c_Md_longest 44 = .ok (.iconst 0, 1) := by decide +kernel
theorem d_Md_longest_45 : decode c_Md_longest 45 = .ok (.istore_n 3, 1) := by decide +kernel
theorem d_Md_longest_46 : decode c_Md_longest 46 = .ok (.iload_n 3, 1) := by decide +kernel
theorem d_Md_longest_47 : decode c_Md_longest 47 = .ok (.sipush 2304, 3) := by decide +kernel
theorem d_Md_longest_50 : decode c_Md_longest 50 = .ok (.if_icmp .ge 63, 3) := by decide +kernel
theorem d_Md_longest_53 : decode c_Md_longest 53 = .ok (.aload_n 0, 1) := by decide +kernel
theorem d_Md_longest_54 : decode c_Md_longest 54 = .ok (.getfield 26, 3) := by decide +kernel
theorem d_Md_longest_57 : decode c_Md_longest 57 = .ok (.iload_n 3, 1) := by decide +kernel
theorem d_Md_longest_58 : decode c_Md_longest 58 = .ok (.baload, 1) := by decide +kernel
theorem d_Md_longest_59 : decode c_Md_longest 59 = .ok (.ifCond .eq 48, 3) := by decide +kernel
theorem d_Md_longest_62 : decode c_Md_longest 62 = .ok (.aload_n 0, 1) := by decide +kernel
theorem d_Md_longest_63 : decode c_Md_longest 63 = .ok (.getfield 32, 3) := by decide +kernel
theorem d_Md_longest_66 : decode c_Md_longest 66 = .ok (.iload_n 3, 1) := by decide +kernel
theorem d_Md_longest_67 : decode c_Md_longest 67 = .ok (.bipush 48, 2) := by decide +kernel
theorem d_Md_longest_69 : decode c_Md_longest 69 = .ok (.irem, 1) := by decide +kernel
theorem d_Md_longest_70 : decode c_Md_longest 70 = .ok (.iaload, 1) := by decide +kernel
theorem d_Md_longest_71 : decode c_Md_longest 71 = .ok (.aload_n 0, 1) := by decide +kernel
theorem d_Md_longest_72 : decode c_Md_longest 72 = .ok (.getfield 32, 3) := by decide +kernel
theorem d_Md_longest_75 : decode c_Md_longest 75 = .ok (.iload_n 3, 1) := by decide +kernel
theorem d_Md_longest_76 : decode c_Md_longest 76 = .ok (.bipush 48, 2) := by decide +kernel
theorem d_Md_longest_78 : decode c_Md_longest 78 = .ok (.idiv, 1) := by decide +kernel
theorem d_Md_longest_79 : decode c_Md_longest 79 = .ok (.iaload, 1) := by decide +kernel
theorem d_Md_longest_80 : decode c_Md_longest 80 = .ok (.iconst 1, 1) := by decide +kernel
theorem d_Md_longest_81 : decode c_Md_longest 81 = .ok (.iadd, 1) := by decide +kernel
theorem d_Md_longest_82 : decode c_Md_longest 82 = .ok (.if_icmp .ge 25, 3) := by decide +kernel
theorem d_Md_longest_85 : decode c_Md_longest 85 = .ok (.aload_n 0, 1) := by decide +kernel
theorem d_Md_longest_86 : decode c_Md_longest 86 = .ok (.getfield 32, 3) := by decide +kernel
theorem d_Md_longest_89 : decode c_Md_longest 89 = .ok (.iload_n 3, 1) := by decide +kernel
theorem d_Md_longest_90 : decode c_Md_longest 90 = .ok (.bipush 48, 2) := by decide +kernel
theorem d_Md_longest_92 : decode c_Md_longest 92 = .ok (.irem, 1) := by decide +kernel
theorem d_Md_longest_93 : decode c_Md_longest 93 = .ok (.aload_n 0, 1) := by decide +kernel
theorem d_Md_longest_94 : decode c_Md_longest 94 = .ok (.getfield 32, 3) := by decide +kernel
theorem d_Md_longest_97 : decode c_Md_longest 97 = .ok (.iload_n 3, 1) := by decide +kernel
theorem d_Md_longest_98 : decode c_Md_longest 98 = .ok (.bipush 48, 2) := by decide +kernel
theorem d_Md_longest_100 : decode c_Md_longest 100 = .ok (.idiv, 1) := by decide +kernel
theorem d_Md_longest_101 : decode c_Md_longest 101 = .ok (.iaload, 1) := by decide +kernel
theorem d_Md_longest_102 : decode c_Md_longest 102 = .ok (.iconst 1, 1) := by decide +kernel
theorem d_Md_longest_103 : decode c_Md_longest 103 = .ok (.iadd, 1) := by decide +kernel
theorem d_Md_longest_104 : decode c_Md_longest 104 = .ok (.iastore, 1) := by decide +kernel
theorem d_Md_longest_105 : decode c_Md_longest 105 = .ok (.iconst 1, 1) := by decide +kernel
theorem d_Md_longest_106 : decode c_Md_longest 106 = .ok (.istore_n 2, 1) := by decide +kernel
theorem d_Md_longest_107 : decode c_Md_longest 107 = .ok (.iinc 3 1, 3) := by decide +kernel
theorem d_Md_longest_110 : decode c_Md_longest 110 = .ok (.goto (-64), 3) := by decide +kernel
theorem d_Md_longest_113 : decode c_Md_longest 113 = .ok (.goto (-75), 3) := by decide +kernel
theorem d_Md_longest_116 : decode c_Md_longest 116 = .ok (.aload_n 0, 1) := by decide +kernel
theorem d_Md_longest_117 : decode c_Md_longest 117 = .ok (.getfield 32, 3) := by decide +kernel
theorem d_Md_longest_120 : decode c_Md_longest 120 = .ok (.aload_n 0, 1) := by decide +kernel
theorem d_Md_longest_121 : decode c_Md_longest 121 = .ok (.getfield 23, 3) := by decide +kernel
theorem d_Md_longest_124 : decode c_Md_longest 124 = .ok (.iload_n 1, 1) := by decide +kernel
theorem d_Md_longest_125 : decode c_Md_longest 125 = .ok (.iaload, 1) := by decide +kernel
theorem d_Md_longest_126 : decode c_Md_longest 126 = .ok (.iaload, 1) := by decide +kernel
theorem d_Md_longest_127 : decode c_Md_longest 127 = .ok (.ireturn, 1) := by decide +kernel
theorem d_Md_group_0 : decode c_Md_group 0 = .ok (.aload_n 0, 1) := by decide +kernel
theorem d_Md_group_1 : decode c_Md_group 1 = .ok (.aload_n 0, 1) := by decide +kernel
theorem d_Md_group_2 : decode c_Md_group 2 = .ok (.getfield 103, 3) := by decide +kernel
theorem d_Md_group_5 : decode c_Md_group 5 = .ok (.bipush 12, 2) := by decide +kernel
theorem d_Md_group_7 : decode c_Md_group 7 = .ok (.if_icmp .ge 7, 3) := by decide +kernel
theorem d_Md_group_10 : decode c_Md_group 10 = .ok (.iconst 1, 1) := by decide +kernel
theorem d_Md_group_11 : decode c_Md_group 11 = .ok (.goto 4, 3) := by decide +kernel
theorem d_Md_group_14 : decode c_Md_group 14 = .ok (.iconst 0, 1) := by decide +kernel
theorem d_Md_group_15 : decode c_Md_group 15 = .ok (.iconst 1, 1) := by decide +kernel
theorem d_Md_group_16 : decode c_Md_group 16 = .ok (.invokevirtual 69, 3) := by decide +kernel
theorem d_Md_group_19 : decode c_Md_group 19 = .ok (.ifCond .ne 5, 3) := by decide +kernel
theorem d_Md_group_22 : decode c_Md_group 22 = .ok (.iconst 0, 1) := by decide +kernel
theorem d_Md_group_23 : decode c_Md_group 23 = .ok (.ireturn, 1) := by decide +kernel
theorem d_Md_group_24 : decode c_Md_group 24 = .ok (.aload_n 0, 1) := by decide +kernel
theorem d_Md_group_25 : decode c_Md_group 25 = .ok (.dup, 1) := by decide +kernel
theorem d_Md_group_26 : decode c_Md_group 26 = .ok (.getfield 103, 3) := by decide +kernel
theorem d_Md_group_29 : decode c_Md_group 29 = .ok (.iconst 1, 1) := by decide +kernel
theorem d_Md_group_30 : decode c_Md_group 30 = .ok (.iadd, 1) := by decide +kernel
theorem d_Md_group_31 : decode c_Md_group 31 = .ok (.putfield 103, 3) := by decide +kernel
theorem d_Md_group_34 : decode c_Md_group 34 = .ok (.aload_n 0, 1) := by decide +kernel
theorem d_Md_group_35 : decode c_Md_group 35 = .ok (.getfield 103, 3) := by decide +kernel
theorem d_Md_group_38 : decode c_Md_group 38 = .ok (.iconst 1, 1) := by decide +kernel
theorem d_Md_group_39 : decode c_Md_group 39 = .ok (.isub, 1) := by decide +kernel
theorem d_Md_group_40 : decode c_Md_group 40 = .ok (.ireturn, 1) := by decide +kernel
theorem d_Md_renewGroups_0 : decode c_Md_renewGroups 0 = .ok (.iconst 0, 1) := by decide +kernel
theorem d_Md_renewGroups_1 : decode c_Md_renewGroups 1 = .ok (.istore_n 1, 1) := by decide +kernel
theorem d_Md_renewGroups_2 : decode c_Md_renewGroups 2 = .ok (.iload_n 1, 1) := by decide +kernel
theorem d_Md_renewGroups_3 : decode c_Md_renewGroups 3 = .ok (.sipush 144, 3) := by decide +kernel
theorem d_Md_renewGroups_6 : decode c_Md_renewGroups 6 = .ok (.if_icmp .ge 16, 3) := by decide +kernel
theorem d_Md_renewGroups_9 : decode c_Md_renewGroups 9 = .ok (.aload_n 0, 1) := by decide +kernel
theorem d_Md_renewGroups_10 : decode c_Md_renewGroups 10 = .ok (.getfield 41, 3) := by decide +kernel
theorem d_Md_renewGroups_13 : decode c_Md_renewGroups 13 = .ok (.iload_n 1, 1) := by decide +kernel
theorem d_Md_renewGroups_14 : decode c_Md_renewGroups 14 = .ok (.iconst 0, 1) := by decide +kernel
theorem d_Md_renewGroups_15 : decode c_Md_renewGroups 15 = .ok (.bastore, 1) := by decide +kernel
theorem d_Md_renewGroups_16 : decode c_Md_renewGroups 16 = .ok (.iinc 1 1, 3) := by decide +kernel
theorem d_Md_renewGroups_19 : decode c_Md_renewGroups 19 = .ok (.goto (-17), 3) := by decide +kernel
theorem d_Md_renewGroups_22 : decode c_Md_renewGroups 22 = .ok (.iconst 0, 1) := by decide +kernel
theorem d_Md_renewGroups_23 : decode c_Md_renewGroups 23 = .ok (.istore_n 1, 1) := by decide +kernel
theorem d_Md_renewGroups_24 : decode c_Md_renewGroups 24 = .ok (.iload_n 1, 1) := by decide +kernel
theorem d_Md_renewGroups_25 : decode c_Md_renewGroups 25 = .ok (.aload_n 0, 1) := by decide +kernel
theorem d_Md_renewGroups_26 : decode c_Md_renewGroups 26 = .ok (.getfield 60, 3) := by decide +kernel
theorem d_Md_renewGroups_29 : decode c_Md_renewGroups 29 = .ok (.if_icmp .ge 94, 3) := by decide +kernel
theorem d_Md_renewGroups_32 : decode c_Md_renewGroups 32 = .ok (.iconst 0, 1) := by decide +kernel
theorem d_Md_renewGroups_33 : decode c_Md_renewGroups 33 = .ok (.istore_n 2, 1) := by decide +kernel
theorem d_Md_renewGroups_34 : decode c_Md_renewGroups 34 = .ok (.iload_n 2, 1) := by decide +kernel
theorem d_Md_renewGroups_35 : decode c_Md_renewGroups 35 = .ok (.aload_n 0, 1) := by decide +kernel
theorem d_Md_renewGroups_36 : decode c_Md_renewGroups 36 = .ok (.getfield 60, 3) := by decide +kernel
theorem d_Md_renewGroups_39 : decode c_Md_renewGroups 39 = .ok (.if_icmp .ge 78, 3) := by decide +kernel
theorem d_Md_renewGroups_42 : decode c_Md_renewGroups 42 = .ok (.aload_n 0, 1) := by decide +kernel
theorem d_Md_renewGroups_43 : decode c_Md_renewGroups 43 = .ok (.getfield 38, 3) := by decide +kernel
theorem d_Md_renewGroups_46 : decode c_Md_renewGroups 46 = .ok (.iload_n 1, 1) := by decide +kernel
theorem d_Md_renewGroups_47 : decode c_Md_renewGroups 47 = .ok (.iaload, 1) := by decide +kernel
theorem d_Md_renewGroups_48 : decode c_Md_renewGroups 48 = .ok (.istore_n 3, 1) := by decide +kernel
theorem d_Md_renewGroups_49 : decode c_Md_renewGroups 49 = .ok (.aload_n 0, 1) := by decide +kernel
theorem d_Md_renewGroups_50 : decode c_Md_renewGroups 50 = .ok (.getfield 38, 3) := by decide +kernel
theorem d_Md_renewGroups_53 : decode c_Md_renewGroups 53 = .ok (.iload_n 2, 1) := by decide +kernel
theorem d_Md_renewGroups_54 : decode c_Md_renewGroups 54 = .ok (.iaload, 1) := by decide +kernel
theorem d_Md_renewGroups_55 : decode c_Md_renewGroups 55 = .ok (.istore 4, 2) := by decide +kernel
theorem d_Md_renewGroups_57 : decode c_Md_renewGroups 57 = .ok (.iload_n 3, 1) := by decide +kernel
theorem d_Md_renewGroups_58 : decode c_Md_renewGroups 58 = .ok (.iconst (-1), 1) := by decide +kernel
theorem d_Md_renewGroups_59 : decode c_Md_renewGroups 59 = .ok (.if_icmp .eq 52, 3) := by decide +kernel
theorem d_Md_renewGroups_62 : decode c_Md_renewGroups 62 = .ok (.iload 4, 2) := by decide +kernel
theorem d_Md_renewGroups_64 : decode c_Md_renewGroups 64 = .ok (.iconst (-1), 1) := by decide +kernel
theorem d_Md_renewGroups_65 : decode c_Md_renewGroups 65 = .ok (.if_icmp .eq 46, 3) := by decide +kernel
theorem d_Md_renewGroups_68 : decode c_Md_renewGroups 68 = .ok (.iload_n 3, 1) := by decide +kernel
theorem d_Md_renewGroups_69 : decode c_Md_renewGroups 69 = .ok (.iload 4, 2) := by decide +kernel
theorem d_Md_renewGroups_71 : decode c_Md_renewGroups 71 = .ok (.if_icmp .eq 40, 3) := by decide +kernel
theorem d_Md_renewGroups_74 : decode c_Md_renewGroups 74 = .ok (.aload_n 0, 1) := by decide +kernel
theorem d_Md_renewGroups_75 : decode c_Md_renewGroups 75 = .ok (.getfield 29, 3) := by decide +kernel
theorem d_Md_renewGroups_78 : decode c_Md_renewGroups 78 = .ok (.bipush 48, 2) := by decide +kernel
theorem d_Md_renewGroups_80 : decode c_Md_renewGroups 80 = .ok (.aload_n 0, 1) := by decide +kernel
theorem d_Md_renewGroups_81 : decode c_Md_renewGroups 81 = .ok (.getfield 23, 3) := by decide +kernel
theorem d_Md_renewGroups_84 : decode c_Md_renewGroups 84 = .ok (.iload_n 1, 1) := by decide +kernel
theorem d_Md_renewGroups_85 : decode c_Md_renewGroups 85 = .ok (.iaload, 1) := by decide +kernel
theorem d_Md_renewGroups_86 : decode c_Md_renewGroups 86 = .ok (.imul, 1) := by decide +kernel
theorem d_Md_renewGroups_87 : decode c_Md_renewGroups 87 = .ok (.aload_n 0, 1) := by decide +kernel
theorem d_Md_renewGroups_88 : decode c_Md_renewGroups 88 = .ok (.getfield 23, 3) := by decide +kernel
theorem d_Md_renewGroups_91 : decode c_Md_renewGroups 91 = .ok (.iload_n 2, 1) := by decide +kernel
theorem d_Md_renewGroups_92 : decode c_Md_renewGroups 92 = .ok (.iaload, 1) := by decide +kernel
theorem d_Md_renewGroups_93 : decode c_Md_renewGroups 93 = .ok (.iadd, 1) := by decide +kernel
theorem d_Md_renewGroups_94 : decode c_Md_renewGroups 94 = .ok (.baload, 1) := by decide +kernel
theorem d_Md_renewGroups_95 : decode c_Md_renewGroups 95 = .ok (.ifCond .eq 16, 3) := by decide +kernel
theorem d_Md_renewGroups_98 : decode c_Md_renewGroups 98 = .ok (.aload_n 0, 1) := by decide +kernel
theorem d_Md_renewGroups_99 : decode c_Md_renewGroups 99 = .ok (.getfield 41, 3) := by decide +kernel
theorem d_Md_renewGroups_102 : decode c_Md_renewGroups 102 = .ok (.bipush 12, 2) := by decide +kernel
theorem d_Md_renewGroups_104 : decode c_Md_renewGroups 104 = .ok (.iload_n 3, 1) := by decide +kernel
theorem d_Md_renewGroups_105 : decode c_Md_renewGroups 105 = .ok (.imul, 1) := by decide +kernel
theorem d_Md_renewGroups_106 : decode c_Md_renewGroups 106 = .ok (.iload 4, 2) := by decide +kernel
theorem d_Md_renewGroups_108 : decode c_Md_renewGroups 108 = .ok (.iadd, 1) := by decide +kernel
theorem d_Md_renewGroups_109 : decode c_Md_renewGroups 109 = .ok (.iconst 1, 1) := by decide +kernel
theorem d_Md_renewGroups_110 : decode c_Md_renewGroups 110 = .ok (.bastore, 1) := by decide +kernel
theorem d_Md_renewGroups_111 : decode c_Md_renewGroups 111 = .ok (.iinc 2 1, 3) := by decide +kernel
theorem d_Md_renewGroups_114 : decode c_Md_renewGroups 114 = .ok (.goto (-80), 3) := by decide +kernel
theorem d_Md_renewGroups_117 : decode c_Md_renewGroups 117 = .ok (.iinc 1 1, 3) := by decide +kernel
theorem d_Md_renewGroups_120 : decode c_Md_renewGroups 120 = .ok (.goto (-96), 3) := by decide +kernel
theorem d_Md_renewGroups_123 : decode c_Md_renewGroups 123 = .ok (.return_, 1) := by decide +kernel
theorem d_Md_ringOf_0 : decode c_Md_ringOf 0 = .ok (.iconst 0, 1) := by decide +kernel
theorem d_Md_ringOf_1 : decode c_Md_ringOf 1 = .ok (.istore_n 2, 1) := by decide +kernel
theorem d_Md_ringOf_2 : decode c_Md_ringOf 2 = .ok (.iload_n 2, 1) := by decide +kernel
theorem d_Md_ringOf_3 : decode c_Md_ringOf 3 = .ok (.bipush 12, 2) := by decide +kernel
theorem d_Md_ringOf_5 : decode c_Md_ringOf 5 = .ok (.if_icmp .ge 26, 3) := by decide +kernel
theorem d_Md_ringOf_8 : decode c_Md_ringOf 8 = .ok (.aload_n 0, 1) := by decide +kernel
theorem d_Md_ringOf_9 : decode c_Md_ringOf 9 = .ok (.getfield 32, 3) := by decide +kernel
theorem d_Md_ringOf_12 : decode c_Md_ringOf 12 = .ok (.iload_n 2, 1) := by decide +kernel
theorem d_Md_ringOf_13 : decode c_Md_ringOf 13 = .ok (.iload_n 2, 1) := by decide +kernel
theorem d_Md_ringOf_14 : decode c_Md_ringOf 14 = .ok (.iload_n 1, 1) := by decide +kernel
theorem d_Md_ringOf_15 : decode c_Md_ringOf 15 = .ok (.if_icmp .ne 7, 3) := by decide +kernel
theorem d_Md_ringOf_18 : decode c_Md_ringOf 18 = .ok (.iconst 0, 1) := by decide +kernel
theorem d_Md_ringOf_19 : decode c_Md_ringOf 19 = .ok (.goto 5, 3) := by decide +kernel
theorem d_Md_ringOf_22 : decode c_Md_ringOf 22 = .ok (.bipush 99, 2) := by decide +kernel
theorem d_Md_ringOf_24 : decode c_Md_ringOf 24 = .ok (.iastore, 1) := by decide +kernel
theorem d_Md_ringOf_25 : decode c_Md_ringOf 25 = .ok (.iinc 2 1, 3) := by decide +kernel
theorem d_Md_ringOf_28 : decode c_Md_ringOf 28 = .ok (.goto (-26), 3) := by decide +kernel
theorem d_Md_ringOf_31 : decode c_Md_ringOf 31 = .ok (.iconst 1, 1) := by decide +kernel
theorem d_Md_ringOf_32 : decode c_Md_ringOf 32 = .ok (.istore_n 2, 1) := by decide +kernel
theorem d_Md_ringOf_33 : decode c_Md_ringOf 33 = .ok (.iload_n 2, 1) := by decide +kernel
theorem d_Md_ringOf_34 : decode c_Md_ringOf 34 = .ok (.ifCond .eq 77, 3) := by decide +kernel
theorem d_Md_ringOf_37 : decode c_Md_ringOf 37 = .ok (.iconst 0, 1) := by decide +kernel
theorem d_Md_ringOf_38 : decode c_Md_ringOf 38 = .ok (.istore_n 2, 1) := by decide +kernel
theorem d_Md_ringOf_39 : decode c_Md_ringOf 39 = .ok (.iconst 0, 1) := by decide +kernel
theorem d_Md_ringOf_40 : decode c_Md_ringOf 40 = .ok (.istore_n 3, 1) := by decide +kernel
theorem d_Md_ringOf_41 : decode c_Md_ringOf 41 = .ok (.iload_n 3, 1) := by decide +kernel
theorem d_Md_ringOf_42 : decode c_Md_ringOf 42 = .ok (.sipush 144, 3) := by decide +kernel
theorem d_Md_ringOf_45 : decode c_Md_ringOf 45 = .ok (.if_icmp .ge 63, 3) := by decide +kernel
theorem d_Md_ringOf_48 : decode c_Md_ringOf 48 = .ok (.aload_n 0, 1) := by decide +kernel
theorem d_Md_ringOf_49 : decode c_Md_ringOf 49 = .ok (.getfield 41, 3) := by decide +kernel
theorem d_Md_ringOf_52 : decode c_Md_ringOf 52 = .ok (.iload_n 3, 1) := by decide +kernel
theorem d_Md_ringOf_53 : decode c_Md_ringOf 53 = .ok (.baload, 1) := by decide +kernel
theorem d_Md_ringOf_54 : decode c_Md_ringOf 54 = .ok (.ifCond .eq 48, 3) := by decide +kernel
theorem d_Md_ringOf_57 : decode c_Md_ringOf 57 = .ok (.aload_n 0, 1) := by decide +kernel
theorem d_Md_ringOf_58 : decode c_Md_ringOf 58 = .ok (.getfield 32, 3) := by decide +kernel
theorem d_Md_ringOf_61 : decode c_Md_ringOf 61 = .ok (.iload_n 3, 1) := by decide +kernel
theorem d_Md_ringOf_62 : decode c_Md_ringOf 62 = .ok (.bipush 12, 2) := by decide +kernel
theorem d_Md_ringOf_64 : decode c_Md_ringOf 64 = .ok (.irem, 1) := by decide +kernel
theorem d_Md_ringOf_65 : decode c_Md_ringOf 65 = .ok (.iaload, 1) := by decide +kernel
theorem d_Md_ringOf_66 : decode c_Md_ringOf 66 = .ok (.iconst 1, 1) := by decide +kernel
theorem d_Md_ringOf_67 : decode c_Md_ringOf 67 = .ok (.iadd, 1) := by decide +kernel
theorem d_Md_ringOf_68 : decode c_Md_ringOf 68 = .ok (.aload_n 0, 1) := by decide +kernel
theorem d_Md_ringOf_69 : decode c_Md_ringOf 69 = .ok (.getfield 32, 3) := by decide +kernel
theorem d_Md_ringOf_72 : decode c_Md_ringOf 72 = .ok (.iload_n 3, 1) := by decide +kernel
theorem d_Md_ringOf_73 : decode c_Md_ringOf 73 = .ok (.bipush 12, 2) := by decide +kernel
theorem d_Md_ringOf_75 : decode c_Md_ringOf 75 = .ok (.idiv, 1) := by decide +kernel
theorem d_Md_ringOf_76 : decode c_Md_ringOf 76 = .ok (.iaload, 1) := by decide +kernel
theorem d_Md_ringOf_77 : decode c_Md_ringOf 77 = .ok (.if_icmp .ge 25, 3) := by decide +kernel
theorem d_Md_ringOf_80 : decode c_Md_ringOf 80 = .ok (.aload_n 0, 1) := by decide +kernel
theorem d_Md_ringOf_81 : decode c_Md_ringOf 81 = .ok (.getfield 32, 3) := by decide +kernel
theorem d_Md_ringOf_84 : decode c_Md_ringOf 84 = .ok (.iload_n 3, 1) := by decide +kernel
theorem d_Md_ringOf_85 : decode c_Md_ringOf 85 = .ok (.bipush 12, 2) := by decide +kernel
theorem d_Md_ringOf_87 : decode c_Md_ringOf 87 = .ok (.idiv, 1) := by decide +kernel
theorem d_Md_ringOf_88 : decode c_Md_ringOf 88 = .ok (.aload_n 0, 1) := by decide +kernel
theorem d_Md_ringOf_89 : decode c_Md_ringOf 89 = .ok (.getfield 32, 3) := by decide +kernel
theorem d_Md_ringOf_92 : decode c_Md_ringOf 92 = .ok (.iload_n 3, 1) := by decide +kernel
theorem d_Md_ringOf_93 : decode c_Md_ringOf 93 = .ok (.bipush 12, 2) := by decide +kernel
theorem d_Md_ringOf_95 : decode c_Md_ringOf 95 = .ok (.irem, 1) := by decide +kernel
theorem d_Md_ringOf_96 : decode c_Md_ringOf 96 = .ok (.iaload, 1) := by decide +kernel
theorem d_Md_ringOf_97 : decode c_Md_ringOf 97 = .ok (.iconst 1, 1) := by decide +kernel
theorem d_Md_ringOf_98 : decode c_Md_ringOf 98 = .ok (.iadd, 1) := by decide +kernel
theorem d_Md_ringOf_99 : decode c_Md_ringOf 99 = .ok (.iastore, 1) := by decide +kernel
theorem d_Md_ringOf_100 : decode c_Md_ringOf 100 = .ok (.iconst 1, 1) := by decide +kernel
theorem d_Md_ringOf_101 : decode c_Md_ringOf 101 = .ok (.istore_n 2, 1) := by decide +kernel
theorem d_Md_ringOf_102 : decode c_Md_ringOf 102 = .ok (.iinc 3 1, 3) := by decide +kernel
theorem d_Md_ringOf_105 : decode c_Md_ringOf 105 = .ok (.goto (-64), 3) := by decide +kernel
theorem d_Md_ringOf_108 : decode c_Md_ringOf 108 = .ok (.goto (-75), 3) := by decide +kernel
theorem d_Md_ringOf_111 : decode c_Md_ringOf 111 = .ok (.bipush 99, 2) := by decide +kernel
theorem d_Md_ringOf_113 : decode c_Md_ringOf 113 = .ok (.istore_n 3, 1) := by decide +kernel
theorem d_Md_ringOf_114 : decode c_Md_ringOf 114 = .ok (.iconst 0, 1) := by decide +kernel
theorem d_Md_ringOf_115 : decode c_Md_ringOf 115 = .ok (.istore 4, 2) := by decide +kernel
theorem d_Md_ringOf_117 : decode c_Md_ringOf 117 = .ok (.iload 4, 2) := by decide +kernel
theorem d_Md_ringOf_119 : decode c_Md_ringOf 119 = .ok (.bipush 12, 2) := by decide +kernel
theorem d_Md_ringOf_121 : decode c_Md_ringOf 121 = .ok (.if_icmp .ge 47, 3) := by decide +kernel
theorem d_Md_ringOf_124 : decode c_Md_ringOf 124 = .ok (.aload_n 0, 1) := by decide +kernel
theorem d_Md_ringOf_125 : decode c_Md_ringOf 125 = .ok (.getfield 41, 3) := by decide +kernel
theorem d_Md_ringOf_128 : decode c_Md_ringOf 128 = .ok (.bipush 12, 2) := by decide +kernel
theorem d_Md_ringOf_130 : decode c_Md_ringOf 130 = .ok (.iload_n 1, 1) := by decide +kernel
theorem d_Md_ringOf_131 : decode c_Md_ringOf 131 = .ok (.imul, 1) := by decide +kernel
theorem d_Md_ringOf_132 : decode c_Md_ringOf 132 = .ok (.iload 4, 2) := by decide +kernel
theorem d_Md_ringOf_134 : decode c_Md_ringOf 134 = .ok (.iadd, 1) := by decide +kernel
theorem d_Md_ringOf_135 : decode c_Md_ringOf 135 = .ok (.baload, 1) := by decide +kernel
theorem d_Md_ringOf_136 : decode c_Md_ringOf 136 = .ok (.ifCond .eq 24, 3) := by decide +kernel
theorem d_Md_ringOf_139 : decode c_Md_ringOf 139 = .ok (.aload_n 0, 1) := by decide +kernel
theorem d_Md_ringOf_140 : decode c_Md_ringOf 140 = .ok (.getfield 32, 3) := by decide +kernel
theorem d_Md_ringOf_143 : decode c_Md_ringOf 143 = .ok (.iload 4, 2) := by decide +kernel
theorem d_Md_ringOf_145 : decode c_Md_ringOf 145 = .ok (.iaload, 1) := by decide +kernel
theorem d_Md_ringOf_146 : decode c_Md_ringOf 146 = .ok (.iload_n 3, 1) := by decide +kernel
theorem d_Md_ringOf_147 : decode c_Md_ringOf 147 = .ok (.if_icmp .ge 13, 3) := by decide +kernel
theorem d_Md_ringOf_150 : decode c_Md_ringOf 150 = .ok (.aload_n 0, 1) := by decide +kernel
theorem d_Md_ringOf_151 : decode c_Md_ringOf 151 = .ok (.getfield 32, 3) := by decide +kernel
theorem d_Md_ringOf_154 : decode c_Md_ringOf 154 = .ok (.iload 4, 2) := by decide +kernel
theorem d_Md_ringOf_156 : decode c_Md_ringOf 156 = .ok (.iaload, 1) := by decide +kernel
theorem d_Md_ringOf_157 : decode c_Md_ringOf 157 = .ok (.goto 4, 3) := by decide +kernel
theorem d_Md_ringOf_160 : decode c_Md_ringOf 160 = .ok (.iload_n 3, 1) := by decide +kernel
theorem d_Md_ringOf_161 : decode c_Md_ringOf 161 = .ok (.istore_n 3, 1) := by decide +kernel
theorem d_Md_ringOf_162 : decode c_Md_ringOf 162 = .ok (.iinc 4 1, 3) := by decide +kernel
theorem d_Md_ringOf_165 : decode c_Md_ringOf 165 = .ok (.goto (-48), 3) := by decide +kernel
theorem d_Md_ringOf_168 : decode c_Md_ringOf 168 = .ok (.iload_n 3, 1) := by decide +kernel
theorem d_Md_ringOf_169 : decode c_Md_ringOf 169 = .ok (.bipush 99, 2) := by decide +kernel
theorem d_Md_ringOf_171 : decode c_Md_ringOf 171 = .ok (.if_icmp .ne 5, 3) := by decide +kernel
theorem d_Md_ringOf_174 : decode c_Md_ringOf 174 = .ok (.iconst 0, 1) := by decide +kernel
theorem d_Md_ringOf_175 : decode c_Md_ringOf 175 = .ok (.ireturn, 1) := by decide +kernel
theorem d_Md_ringOf_176 : decode c_Md_ringOf 176 = .ok (.aload_n 0, 1) := by decide +kernel
theorem d_Md_ringOf_177 : decode c_Md_ringOf 177 = .ok (.getfield 44, 3) := by decide +kernel
theorem d_Md_ringOf_180 : decode c_Md_ringOf 180 = .ok (.iconst 0, 1) := by decide +kernel
theorem d_Md_ringOf_181 : decode c_Md_ringOf 181 = .ok (.iload_n 1, 1) := by decide +kernel
theorem d_Md_ringOf_182 : decode c_Md_ringOf 182 = .ok (.iastore, 1) := by decide +kernel
theorem d_Md_ringOf_183 : decode c_Md_ringOf 183 = .ok (.iload_n 1, 1) := by decide +kernel
theorem d_Md_ringOf_184 : decode c_Md_ringOf 184 = .ok (.istore 4, 2) := by decide +kernel
theorem d_Md_ringOf_186 : decode c_Md_ringOf 186 = .ok (.iconst 1, 1) := by decide +kernel
theorem d_Md_ringOf_187 : decode c_Md_ringOf 187 = .ok (.istore 5, 2) := by decide +kernel
theorem d_Md_ringOf_189 : decode c_Md_ringOf 189 = .ok (.iload 5, 2) := by decide +kernel
theorem d_Md_ringOf_191 : decode c_Md_ringOf 191 = .ok (.iload_n 3, 1) := by decide +kernel
theorem d_Md_ringOf_192 : decode c_Md_ringOf 192 = .ok (.if_icmp .gt 81, 3) := by decide +kernel
theorem d_Md_ringOf_195 : decode c_Md_ringOf 195 = .ok (.iconst (-1), 1) := by decide +kernel
theorem d_Md_ringOf_196 : decode c_Md_ringOf 196 = .ok (.istore 6, 2) := by decide +kernel
theorem d_Md_ringOf_198 : decode c_Md_ringOf 198 = .ok (.bipush 11, 2) := by decide +kernel
theorem d_Md_ringOf_200 : decode c_Md_ringOf 200 = .ok (.istore 7, 2) := by decide +kernel
theorem d_Md_ringOf_202 : decode c_Md_ringOf 202 = .ok (.iload 7, 2) := by decide +kernel
theorem d_Md_ringOf_204 : decode c_Md_ringOf 204 = .ok (.ifCond .lt 50, 3) := by decide +kernel
theorem d_Md_ringOf_207 : decode c_Md_ringOf 207 = .ok (.aload_n 0, 1) := by decide +kernel
theorem d_Md_ringOf_208 : decode c_Md_ringOf 208 = .ok (.getfield 41, 3) := by decide +kernel
theorem d_Md_ringOf_211 : decode c_Md_ringOf 211 = .ok (.bipush 12, 2) := by decide +kernel
theorem d_Md_ringOf_213 : decode c_Md_ringOf 213 = .ok (.iload 4, 2) := by decide +kernel
theorem d_Md_ringOf_215 : decode c_Md_ringOf 215 = .ok (.imul, 1) := by decide +kernel
theorem d_Md_ringOf_216 : decode c_Md_ringOf 216 = .ok (.iload 7, 2) := by decide +kernel
theorem d_Md_ringOf_218 : decode c_Md_ringOf 218 = .ok (.iadd, 1) := by decide +kernel
theorem d_Md_ringOf_219 : decode c_Md_ringOf 219 = .ok (.baload, 1) := by decide +kernel
theorem d_Md_ringOf_220 : decode c_Md_ringOf 220 = .ok (.ifCond .eq 24, 3) := by decide +kernel
theorem d_Md_ringOf_223 : decode c_Md_ringOf 223 = .ok (.aload_n 0, 1) := by decide +kernel
theorem d_Md_ringOf_224 : decode c_Md_ringOf 224 = .ok (.getfield 32, 3) := by decide +kernel
theorem d_Md_ringOf_227 : decode c_Md_ringOf 227 = .ok (.iload 7, 2) := by decide +kernel
theorem d_Md_ringOf_229 : decode c_Md_ringOf 229 = .ok (.iaload, 1) := by decide +kernel
theorem d_Md_ringOf_230 : decode c_Md_ringOf 230 = .ok (.iload_n 3, 1) := by decide +kernel
theorem d_Md_ringOf_231 : decode c_Md_ringOf 231 = .ok (.iconst 1, 1) := by decide +kernel
theorem d_Md_ringOf_232 : decode c_Md_ringOf 232 = .ok (.iadd, 1) := by decide +kernel
theorem d_Md_ringOf_233 : decode c_Md_ringOf 233 = .ok (.iload 5, 2) := by decide +kernel
theorem d_Md_ringOf_235 : decode c_Md_ringOf 235 = .ok (.isub, 1) := by decide +kernel
theorem d_Md_ringOf_236 : decode c_Md_ringOf 236 = .ok (.if_icmp .ne 8, 3) := by decide +kernel
theorem d_Md_ringOf_239 : decode c_Md_ringOf 239 = .ok (.iload 7, 2) := by decide +kernel
theorem d_Md_ringOf_241 : decode c_Md_ringOf 241 = .ok (.goto 5, 3) := by decide +kernel
theorem d_Md_ringOf_244 : decode c_Md_ringOf 244 = .ok (.iload 6, 2) := by decide +kernel
theorem d_Md_ringOf_246 : decode c_Md_ringOf 246 = .ok (.istore 6, 2) := by decide +kernel
theorem d_Md_ringOf_248 : decode c_Md_ringOf 248 = .ok (.iinc 7 (-1), 3) := by decide +kernel
theorem d_Md_ringOf_251 : decode c_Md_ringOf 251 = .ok (.goto (-49), 3) := by decide +kernel
theorem d_Md_ringOf_254 : decode c_Md_ringOf 254 = .ok (.aload_n 0, 1) := by decide +kernel
theorem d_Md_ringOf_255 : decode c_Md_ringOf 255 = .ok (.getfield 44, 3) := by decide +kernel
theorem d_Md_ringOf_258 : decode c_Md_ringOf 258 = .ok (.iload 5, 2) := by decide +kernel
theorem d_Md_ringOf_260 : decode c_Md_ringOf 260 = .ok (.iload 6, 2) := by decide +kernel
theorem d_Md_ringOf_262 : decode c_Md_ringOf 262 = .ok (.iastore, 1) := by decide +kernel
theorem d_Md_ringOf_263 : decode c_Md_ringOf 263 = .ok (.iload 6, 2) := by decide +kernel
theorem d_Md_ringOf_265 : decode c_Md_ringOf 265 = .ok (.istore 4, 2) := by decide +kernel
theorem d_Md_ringOf_267 : decode c_Md_ringOf 267 = .ok (.iinc 5 1, 3) := by decide +kernel
theorem d_Md_ringOf_270 : decode c_Md_ringOf 270 = .ok (.goto (-81), 3) := by decide +kernel
theorem d_Md_ringOf_273 : decode c_Md_ringOf 273 = .ok (.iload_n 3, 1) := by decide +kernel
theorem d_Md_ringOf_274 : decode c_Md_ringOf 274 = .ok (.iconst 1, 1) := by decide +kernel
theorem d_Md_ringOf_275 : decode c_Md_ringOf 275 = .ok (.iadd, 1) := by decide +kernel
theorem d_Md_ringOf_276 : decode c_Md_ringOf 276 = .ok (.ireturn, 1) := by decide +kernel
theorem d_Md_into_0 : decode c_Md_into 0 = .ok (.aload_n 0, 1) := by decide +kernel
theorem d_Md_into_1 : decode c_Md_into 1 = .ok (.iload_n 1, 1) := by decide +kernel
theorem d_Md_into_2 : decode c_Md_into 2 = .ok (.ifCond .lt 23, 3) := by decide +kernel
theorem d_Md_into_5 : decode c_Md_into 5 = .ok (.iload_n 1, 1) := by decide +kernel
theorem d_Md_into_6 : decode c_Md_into 6 = .ok (.aload_n 0, 1) := by decide +kernel
theorem d_Md_into_7 : decode c_Md_into 7 = .ok (.getfield 103, 3) := by decide +kernel
theorem d_Md_into_10 : decode c_Md_into 10 = .ok (.if_icmp .ge 15, 3) := by decide +kernel
theorem d_Md_into_13 : decode c_Md_into 13 = .ok (.aload_n 0, 1) := by decide +kernel
theorem d_Md_into_14 : decode c_Md_into 14 = .ok (.iload_n 2, 1) := by decide +kernel
theorem d_Md_into_15 : decode c_Md_into 15 = .ok (.invokevirtual 87, 3) := by decide +kernel
theorem d_Md_into_18 : decode c_Md_into 18 = .ok (.ifCond .eq 7, 3) := by decide +kernel
theorem d_Md_into_21 : decode c_Md_into 21 = .ok (.iconst 1, 1) := by decide +kernel
theorem d_Md_into_22 : decode c_Md_into 22 = .ok (.goto 4, 3) := by decide +kernel
theorem d_Md_into_25 : decode c_Md_into 25 = .ok (.iconst 0, 1) := by decide +kernel
theorem d_Md_into_26 : decode c_Md_into 26 = .ok (.iconst 1, 1) := by decide +kernel
theorem d_Md_into_27 : decode c_Md_into 27 = .ok (.invokevirtual 69, 3) := by decide +kernel
theorem d_Md_into_30 : decode c_Md_into 30 = .ok (.ifCond .ne 5, 3) := by decide +kernel
theorem d_Md_into_33 : decode c_Md_into 33 = .ok (.iconst 0, 1) := by decide +kernel
theorem d_Md_into_34 : decode c_Md_into 34 = .ok (.ireturn, 1) := by decide +kernel
theorem d_Md_into_35 : decode c_Md_into 35 = .ok (.aload_n 0, 1) := by decide +kernel
theorem d_Md_into_36 : decode c_Md_into 36 = .ok (.getfield 38, 3) := by decide +kernel
theorem d_Md_into_39 : decode c_Md_into 39 = .ok (.iload_n 2, 1) := by decide +kernel
theorem d_Md_into_40 : decode c_Md_into 40 = .ok (.iaload, 1) := by decide +kernel
theorem d_Md_into_41 : decode c_Md_into 41 = .ok (.istore_n 3, 1) := by decide +kernel
theorem d_Md_into_42 : decode c_Md_into 42 = .ok (.aload_n 0, 1) := by decide +kernel
theorem d_Md_into_43 : decode c_Md_into 43 = .ok (.getfield 38, 3) := by decide +kernel
theorem d_Md_into_46 : decode c_Md_into 46 = .ok (.iload_n 2, 1) := by decide +kernel
theorem d_Md_into_47 : decode c_Md_into 47 = .ok (.iload_n 1, 1) := by decide +kernel
theorem d_Md_into_48 : decode c_Md_into 48 = .ok (.iastore, 1) := by decide +kernel
theorem d_Md_into_49 : decode c_Md_into 49 = .ok (.aload_n 0, 1) := by decide +kernel
theorem d_Md_into_50 : decode c_Md_into 50 = .ok (.invokevirtual 106, 3) := by decide +kernel
theorem d_Md_into_53 : decode c_Md_into 53 = .ok (.aload_n 0, 1) := by decide +kernel
theorem d_Md_into_54 : decode c_Md_into 54 = .ok (.iload_n 1, 1) := by decide +kernel
theorem d_Md_into_55 : decode c_Md_into 55 = .ok (.invokevirtual 109, 3) := by decide +kernel
theorem d_Md_into_58 : decode c_Md_into 58 = .ok (.istore 4, 2) := by decide +kernel
theorem d_Md_into_60 : decode c_Md_into 60 = .ok (.iload 4, 2) := by decide +kernel
theorem d_Md_into_62 : decode c_Md_into 62 = .ok (.ifCond .le 16, 3) := by decide +kernel
theorem d_Md_into_65 : decode c_Md_into 65 = .ok (.aload_n 0, 1) := by decide +kernel
theorem d_Md_into_66 : decode c_Md_into 66 = .ok (.iload 4, 2) := by decide +kernel
theorem d_Md_into_68 : decode c_Md_into 68 = .ok (.putfield 113, 3) := by decide +kernel
theorem d_Md_into_71 : decode c_Md_into 71 = .ok (.aload_n 0, 1) := by decide +kernel
theorem d_Md_into_72 : decode c_Md_into 72 = .ok (.getfield 38, 3) := by decide +kernel
theorem d_Md_into_75 : decode c_Md_into 75 = .ok (.iload_n 2, 1) := by decide +kernel
theorem d_Md_into_76 : decode c_Md_into 76 = .ok (.iload_n 3, 1) := by decide +kernel
theorem d_Md_into_77 : decode c_Md_into 77 = .ok (.iastore, 1) := by decide +kernel
theorem d_Md_into_78 : decode c_Md_into 78 = .ok (.iload 4, 2) := by decide +kernel
theorem d_Md_into_80 : decode c_Md_into 80 = .ok (.ifCond .ne 7, 3) := by decide +kernel
theorem d_Md_into_83 : decode c_Md_into 83 = .ok (.iconst 1, 1) := by decide +kernel
theorem d_Md_into_84 : decode c_Md_into 84 = .ok (.goto 4, 3) := by decide +kernel
theorem d_Md_into_87 : decode c_Md_into 87 = .ok (.iconst 0, 1) := by decide +kernel
theorem d_Md_into_88 : decode c_Md_into 88 = .ok (.ireturn, 1) := by decide +kernel
theorem d_Md_groupRing_0 : decode c_Md_groupRing 0 = .ok (.aload_n 0, 1) := by decide +kernel
theorem d_Md_groupRing_1 : decode c_Md_groupRing 1 = .ok (.iload_n 1, 1) := by decide +kernel
theorem d_Md_groupRing_2 : decode c_Md_groupRing 2 = .ok (.ifCond .lt 7, 3) := by decide +kernel
theorem d_Md_groupRing_5 : decode c_Md_groupRing 5 = .ok (.iconst 1, 1) := by decide +kernel
theorem d_Md_groupRing_6 : decode c_Md_groupRing 6 = .ok (.goto 4, 3) := by decide +kernel
theorem d_Md_groupRing_9 : decode c_Md_groupRing 9 = .ok (.iconst 0, 1) := by decide +kernel
theorem d_Md_groupRing_10 : decode c_Md_groupRing 10 = .ok (.iconst 1, 1) := by decide +kernel
theorem d_Md_groupRing_11 : decode c_Md_groupRing 11 = .ok (.invokevirtual 69, 3) := by decide +kernel
theorem d_Md_groupRing_14 : decode c_Md_groupRing 14 = .ok (.ifCond .ne 5, 3) := by decide +kernel
theorem d_Md_groupRing_17 : decode c_Md_groupRing 17 = .ok (.iconst 0, 1) := by decide +kernel
theorem d_Md_groupRing_18 : decode c_Md_groupRing 18 = .ok (.ireturn, 1) := by decide +kernel
theorem d_Md_groupRing_19 : decode c_Md_groupRing 19 = .ok (.iload_n 1, 1) := by decide +kernel
theorem d_Md_groupRing_20 : decode c_Md_groupRing 20 = .ok (.aload_n 0, 1) := by decide +kernel
theorem d_Md_groupRing_21 : decode c_Md_groupRing 21 = .ok (.getfield 113, 3) := by decide +kernel
theorem d_Md_groupRing_24 : decode c_Md_groupRing 24 = .ok (.if_icmp .ge 12, 3) := by decide +kernel
theorem d_Md_groupRing_27 : decode c_Md_groupRing 27 = .ok (.aload_n 0, 1) := by decide +kernel
theorem d_Md_groupRing_28 : decode c_Md_groupRing 28 = .ok (.getfield 44, 3) := by decide +kernel
theorem d_Md_groupRing_31 : decode c_Md_groupRing 31 = .ok (.iload_n 1, 1) := by decide +kernel
theorem d_Md_groupRing_32 : decode c_Md_groupRing 32 = .ok (.iaload, 1) := by decide +kernel
theorem d_Md_groupRing_33 : decode c_Md_groupRing 33 = .ok (.goto 4, 3) := by decide +kernel
theorem d_Md_groupRing_36 : decode c_Md_groupRing 36 = .ok (.iconst (-1), 1) := by decide +kernel
theorem d_Md_groupRing_37 : decode c_Md_groupRing 37 = .ok (.ireturn, 1) := by decide +kernel
theorem d_Md_groupOf_0 : decode c_Md_groupOf 0 = .ok (.aload_n 0, 1) := by decide +kernel
theorem d_Md_groupOf_1 : decode c_Md_groupOf 1 = .ok (.aload_n 0, 1) := by decide +kernel
theorem d_Md_groupOf_2 : decode c_Md_groupOf 2 = .ok (.iload_n 1, 1) := by decide +kernel
theorem d_Md_groupOf_3 : decode c_Md_groupOf 3 = .ok (.invokevirtual 87, 3) := by decide +kernel
theorem d_Md_groupOf_6 : decode c_Md_groupOf 6 = .ok (.iconst 1, 1) := by decide +kernel
theorem d_Md_groupOf_7 : decode c_Md_groupOf 7 = .ok (.invokevirtual 69, 3) := by decide +kernel
theorem d_Md_groupOf_10 : decode c_Md_groupOf 10 = .ok (.ifCond .eq 12, 3) := by decide +kernel
theorem d_Md_groupOf_13 : decode c_Md_groupOf 13 = .ok (.aload_n 0, 1) := by decide +kernel
theorem d_Md_groupOf_14 : decode c_Md_groupOf 14 = .ok (.getfield 38, 3) := by decide +kernel
theorem d_Md_groupOf_17 : decode c_Md_groupOf 17 = .ok (.iload_n 1, 1) := by decide +kernel
theorem d_Md_groupOf_18 : decode c_Md_groupOf 18 = .ok (.iaload, 1) := by decide +kernel
theorem d_Md_groupOf_19 : decode c_Md_groupOf 19 = .ok (.goto 4, 3) := by decide +kernel
theorem d_Md_groupOf_22 : decode c_Md_groupOf 22 = .ok (.iconst 0, 1) := by decide +kernel
theorem d_Md_groupOf_23 : decode c_Md_groupOf 23 = .ok (.ireturn, 1) := by decide +kernel
theorem d_Md_version_0 : decode c_Md_version 0 = .ok (.aload_n 0, 1) := by decide +kernel
theorem d_Md_version_1 : decode c_Md_version 1 = .ok (.aload_n 0, 1) := by decide +kernel
theorem d_Md_version_2 : decode c_Md_version 2 = .ok (.getfield 116, 3) := by decide +kernel
theorem d_Md_version_5 : decode c_Md_version 5 = .ok (.bipush 8, 2) := by decide +kernel
theorem d_Md_version_7 : decode c_Md_version 7 = .ok (.if_icmp .ge 7, 3) := by decide +kernel
theorem d_Md_version_10 : decode c_Md_version 10 = .ok (.iconst 1, 1) := by decide +kernel
theorem d_Md_version_11 : decode c_Md_version 11 = .ok (.goto 4, 3) := by decide +kernel
theorem d_Md_version_14 : decode c_Md_version 14 = .ok (.iconst 0, 1) := by decide +kernel
theorem d_Md_version_15 : decode c_Md_version 15 = .ok (.iconst 1, 1) := by decide +kernel
theorem d_Md_version_16 : decode c_Md_version 16 = .ok (.invokevirtual 69, 3) := by decide +kernel
theorem d_Md_version_19 : decode c_Md_version 19 = .ok (.ifCond .ne 5, 3) := by decide +kernel
theorem d_Md_version_22 : decode c_Md_version 22 = .ok (.iconst 0, 1) := by decide +kernel
theorem d_Md_version_23 : decode c_Md_version 23 = .ok (.ireturn, 1) := by decide +kernel
theorem d_Md_version_24 : decode c_Md_version 24 = .ok (.aload_n 0, 1) := by decide +kernel
theorem d_Md_version_25 : decode c_Md_version 25 = .ok (.getfield 47, 3) := by decide +kernel
theorem d_Md_version_28 : decode c_Md_version 28 = .ok (.aload_n 0, 1) := by decide +kernel
theorem d_Md_version_29 : decode c_Md_version 29 = .ok (.getfield 116, 3) := by decide +kernel
theorem d_Md_version_32 : decode c_Md_version 32 = .ok (.aload_n 0, 1) := by decide +kernel
theorem d_Md_version_33 : decode c_Md_version 33 = .ok (.getfield 60, 3) := by decide +kernel
theorem d_Md_version_36 : decode c_Md_version 36 = .ok (.iastore, 1) := by decide +kernel
theorem d_Md_version_37 : decode c_Md_version 37 = .ok (.iconst 0, 1) := by decide +kernel
theorem d_Md_version_38 : decode c_Md_version 38 = .ok (.istore_n 1, 1) := by decide +kernel
theorem d_Md_version_39 : decode c_Md_version 39 = .ok (.iload_n 1, 1) := by decide +kernel
theorem d_Md_version_40 : decode c_Md_version 40 = .ok (.aload_n 0, 1) := by decide +kernel
theorem d_Md_version_41 : decode c_Md_version 41 = .ok (.getfield 60, 3) := by decide +kernel
theorem d_Md_version_44 : decode c_Md_version 44 = .ok (.if_icmp .ge 29, 3) := by decide +kernel
theorem d_Md_version_47 : decode c_Md_version 47 = .ok (.aload_n 0, 1) := by decide +kernel
theorem d_Md_version_48 : decode c_Md_version 48 = .ok (.getfield 50, 3) := by decide +kernel
theorem d_Md_version_51 : decode c_Md_version 51 = .ok (.bipush 48, 2) := by decide +kernel
theorem d_Md_version_53 : decode c_Md_version 53 = .ok (.aload_n 0, 1) := by decide +kernel
theorem d_Md_version_54 : decode c_Md_version 54 = .ok (.getfield 116, 3) := by decide +kernel
theorem d_Md_version_57 : decode c_Md_version 57 = .ok (.imul, 1) := by decide +kernel
theorem d_Md_version_58 : decode c_Md_version 58 = .ok (.iload_n 1, 1) := by decide +kernel
theorem d_Md_version_59 : decode c_Md_version 59 = .ok (.iadd, 1) := by decide +kernel
theorem d_Md_version_60 : decode c_Md_version 60 = .ok (.aload_n 0, 1) := by decide +kernel
theorem d_Md_version_61 : decode c_Md_version 61 = .ok (.getfield 23, 3) := by decide +kernel
theorem d_Md_version_64 : decode c_Md_version 64 = .ok (.iload_n 1, 1) := by decide +kernel
theorem d_Md_version_65 : decode c_Md_version 65 = .ok (.iaload, 1) := by decide +kernel
theorem d_Md_version_66 : decode c_Md_version 66 = .ok (.iastore, 1) := by decide +kernel
theorem d_Md_version_67 : decode c_Md_version 67 = .ok (.iinc 1 1, 3) := by decide +kernel
theorem d_Md_version_70 : decode c_Md_version 70 = .ok (.goto (-31), 3) := by decide +kernel
theorem d_Md_version_73 : decode c_Md_version 73 = .ok (.iconst 0, 1) := by decide +kernel
theorem d_Md_version_74 : decode c_Md_version 74 = .ok (.istore_n 1, 1) := by decide +kernel
theorem d_Md_version_75 : decode c_Md_version 75 = .ok (.iload_n 1, 1) := by decide +kernel
theorem d_Md_version_76 : decode c_Md_version 76 = .ok (.sipush 2304, 3) := by decide +kernel
theorem d_Md_version_79 : decode c_Md_version 79 = .ok (.if_icmp .ge 30, 3) := by decide +kernel
theorem d_Md_version_82 : decode c_Md_version 82 = .ok (.aload_n 0, 1) := by decide +kernel
theorem d_Md_version_83 : decode c_Md_version 83 = .ok (.getfield 53, 3) := by decide +kernel
theorem d_Md_version_86 : decode c_Md_version 86 = .ok (.sipush 2304, 3) := by decide +kernel
theorem d_Md_version_89 : decode c_Md_version 89 = .ok (.aload_n 0, 1) := by decide +kernel
theorem d_Md_version_90 : decode c_Md_version 90 = .ok (.getfield 116, 3) := by decide +kernel
theorem d_Md_version_93 : decode c_Md_version 93 = .ok (.imul, 1) := by decide +kernel
theorem d_Md_version_94 : decode c_Md_version 94 = .ok (.iload_n 1, 1) := by decide +kernel
theorem d_Md_version_95 : decode c_Md_version 95 = .ok (.iadd, 1) := by decide +kernel
theorem d_Md_version_96 : decode c_Md_version 96 = .ok (.aload_n 0, 1) := by decide +kernel
theorem d_Md_version_97 : decode c_Md_version 97 = .ok (.getfield 29, 3) := by decide +kernel
theorem d_Md_version_100 : decode c_Md_version 100 = .ok (.iload_n 1, 1) := by decide +kernel
theorem d_Md_version_101 : decode c_Md_version 101 = .ok (.baload, 1) := by decide +kernel
theorem d_Md_version_102 : decode c_Md_version 102 = .ok (.bastore, 1) := by decide +kernel
theorem d_Md_version_103 : decode c_Md_version 103 = .ok (.iinc 1 1, 3) := by decide +kernel
theorem d_Md_version_106 : decode c_Md_version 106 = .ok (.goto (-31), 3) := by decide +kernel
theorem d_Md_version_109 : decode c_Md_version 109 = .ok (.aload_n 0, 1) := by decide +kernel
theorem d_Md_version_110 : decode c_Md_version 110 = .ok (.dup, 1) := by decide +kernel
theorem d_Md_version_111 : decode c_Md_version 111 = .ok (.getfield 116, 3) := by decide +kernel
theorem d_Md_version_114 : decode c_Md_version 114 = .ok (.iconst 1, 1) := by decide +kernel
theorem d_Md_version_115 : decode c_Md_version 115 = .ok (.iadd, 1) := by decide +kernel
theorem d_Md_version_116 : decode c_Md_version 116 = .ok (.putfield 116, 3) := by decide +kernel
theorem d_Md_version_119 : decode c_Md_version 119 = .ok (.aload_n 0, 1) := by decide +kernel
theorem d_Md_version_120 : decode c_Md_version 120 = .ok (.getfield 116, 3) := by decide +kernel
theorem d_Md_version_123 : decode c_Md_version 123 = .ok (.iconst 1, 1) := by decide +kernel
theorem d_Md_version_124 : decode c_Md_version 124 = .ok (.isub, 1) := by decide +kernel
theorem d_Md_version_125 : decode c_Md_version 125 = .ok (.ireturn, 1) := by decide +kernel
theorem d_Md_isOver_0 : decode c_Md_isOver 0 = .ok (.iload_n 2, 1) := by decide +kernel
theorem d_Md_isOver_1 : decode c_Md_isOver 1 = .ok (.aload_n 0, 1) := by decide +kernel
theorem d_Md_isOver_2 : decode c_Md_isOver 2 = .ok (.getfield 47, 3) := by decide +kernel
theorem d_Md_isOver_5 : decode c_Md_isOver 5 = .ok (.iload_n 1, 1) := by decide +kernel
theorem d_Md_isOver_6 : decode c_Md_isOver 6 = .ok (.iaload, 1) := by decide +kernel
theorem d_Md_isOver_7 : decode c_Md_isOver 7 = .ok (.if_icmp .ge 37, 3) := by decide +kernel
theorem d_Md_isOver_10 : decode c_Md_isOver 10 = .ok (.aload_n 0, 1) := by decide +kernel
theorem d_Md_isOver_11 : decode c_Md_isOver 11 = .ok (.getfield 53, 3) := by decide +kernel
theorem d_Md_isOver_14 : decode c_Md_isOver 14 = .ok (.sipush 2304, 3) := by decide +kernel
theorem d_Md_isOver_17 : decode c_Md_isOver 17 = .ok (.iload_n 1, 1) := by decide +kernel
theorem d_Md_isOver_18 : decode c_Md_isOver 18 = .ok (.imul, 1) := by decide +kernel
theorem d_Md_isOver_19 : decode c_Md_isOver 19 = .ok (.bipush 48, 2) := by decide +kernel
theorem d_Md_isOver_21 : decode c_Md_isOver 21 = .ok (.aload_n 0, 1) := by decide +kernel
theorem d_Md_isOver_22 : decode c_Md_isOver 22 = .ok (.getfield 50, 3) := by decide +kernel
theorem d_Md_isOver_25 : decode c_Md_isOver 25 = .ok (.bipush 48, 2) := by decide +kernel
theorem d_Md_isOver_27 : decode c_Md_isOver 27 = .ok (.iload_n 1, 1) := by decide +kernel
theorem d_Md_isOver_28 : decode c_Md_isOver 28 = .ok (.imul, 1) := by decide +kernel
theorem d_Md_isOver_29 : decode c_Md_isOver 29 = .ok (.iload_n 2, 1) := by decide +kernel
theorem d_Md_isOver_30 : decode c_Md_isOver 30 = .ok (.iadd, 1) := by decide +kernel
theorem d_Md_isOver_31 : decode c_Md_isOver 31 = .ok (.iaload, 1) := by decide +kernel
theorem d_Md_isOver_32 : decode c_Md_isOver 32 = .ok (.imul, 1) := by decide +kernel
theorem d_Md_isOver_33 : decode c_Md_isOver 33 = .ok (.iadd, 1) := by decide +kernel
theorem d_Md_isOver_34 : decode c_Md_isOver 34 = .ok (.iload_n 3, 1) := by decide +kernel
theorem d_Md_isOver_35 : decode c_Md_isOver 35 = .ok (.iadd, 1) := by decide +kernel
theorem d_Md_isOver_36 : decode c_Md_isOver 36 = .ok (.baload, 1) := by decide +kernel
theorem d_Md_isOver_37 : decode c_Md_isOver 37 = .ok (.ifCond .eq 7, 3) := by decide +kernel
theorem d_Md_isOver_40 : decode c_Md_isOver 40 = .ok (.iconst 1, 1) := by decide +kernel
theorem d_Md_isOver_41 : decode c_Md_isOver 41 = .ok (.goto 4, 3) := by decide +kernel
theorem d_Md_isOver_44 : decode c_Md_isOver 44 = .ok (.iconst 0, 1) := by decide +kernel
theorem d_Md_isOver_45 : decode c_Md_isOver 45 = .ok (.ireturn, 1) := by decide +kernel
theorem d_Md_isUnder_0 : decode c_Md_isUnder 0 = .ok (.iload_n 2, 1) := by decide +kernel
theorem d_Md_isUnder_1 : decode c_Md_isUnder 1 = .ok (.aload_n 0, 1) := by decide +kernel
theorem d_Md_isUnder_2 : decode c_Md_isUnder 2 = .ok (.getfield 47, 3) := by decide +kernel
theorem d_Md_isUnder_5 : decode c_Md_isUnder 5 = .ok (.iload_n 1, 1) := by decide +kernel
theorem d_Md_isUnder_6 : decode c_Md_isUnder 6 = .ok (.iaload, 1) := by decide +kernel
theorem d_Md_isUnder_7 : decode c_Md_isUnder 7 = .ok (.if_icmp .ge 37, 3) := by decide +kernel
theorem d_Md_isUnder_10 : decode c_Md_isUnder 10 = .ok (.aload_n 0, 1) := by decide +kernel
theorem d_Md_isUnder_11 : decode c_Md_isUnder 11 = .ok (.getfield 53, 3) := by decide +kernel
theorem d_Md_isUnder_14 : decode c_Md_isUnder 14 = .ok (.sipush 2304, 3) := by decide +kernel
theorem d_Md_isUnder_17 : decode c_Md_isUnder 17 = .ok (.iload_n 1, 1) := by decide +kernel
theorem d_Md_isUnder_18 : decode c_Md_isUnder 18 = .ok (.imul, 1) := by decide +kernel
theorem d_Md_isUnder_19 : decode c_Md_isUnder 19 = .ok (.bipush 48, 2) := by decide +kernel
theorem d_Md_isUnder_21 : decode c_Md_isUnder 21 = .ok (.iload_n 3, 1) := by decide +kernel
theorem d_Md_isUnder_22 : decode c_Md_isUnder 22 = .ok (.imul, 1) := by decide +kernel
theorem d_Md_isUnder_23 : decode c_Md_isUnder 23 = .ok (.iadd, 1) := by decide +kernel
theorem d_Md_isUnder_24 : decode c_Md_isUnder 24 = .ok (.aload_n 0, 1) := by decide +kernel
theorem d_Md_isUnder_25 : decode c_Md_isUnder 25 = .ok (.getfield 50, 3) := by decide +kernel
theorem d_Md_isUnder_28 : decode c_Md_isUnder 28 = .ok (.bipush 48, 2) := by decide +kernel
theorem d_Md_isUnder_30 : decode c_Md_isUnder 30 = .ok (.iload_n 1, 1) := by decide +kernel
theorem d_Md_isUnder_31 : decode c_Md_isUnder 31 = .ok (.imul, 1) := by decide +kernel
theorem d_Md_isUnder_32 : decode c_Md_isUnder 32 = .ok (.iload_n 2, 1) := by decide +kernel
theorem d_Md_isUnder_33 : decode c_Md_isUnder 33 = .ok (.iadd, 1) := by decide +kernel
theorem d_Md_isUnder_34 : decode c_Md_isUnder 34 = .ok (.iaload, 1) := by decide +kernel
theorem d_Md_isUnder_35 : decode c_Md_isUnder 35 = .ok (.iadd, 1) := by decide +kernel
theorem d_Md_isUnder_36 : decode c_Md_isUnder 36 = .ok (.baload, 1) := by decide +kernel
theorem d_Md_isUnder_37 : decode c_Md_isUnder 37 = .ok (.ifCond .eq 7, 3) := by decide +kernel
theorem d_Md_isUnder_40 : decode c_Md_isUnder 40 = .ok (.iconst 1, 1) := by decide +kernel
theorem d_Md_isUnder_41 : decode c_Md_isUnder 41 = .ok (.goto 4, 3) := by decide +kernel
theorem d_Md_isUnder_44 : decode c_Md_isUnder 44 = .ok (.iconst 0, 1) := by decide +kernel
theorem d_Md_isUnder_45 : decode c_Md_isUnder 45 = .ok (.ireturn, 1) := by decide +kernel
theorem d_Md_differ_0 : decode c_Md_differ 0 = .ok (.iload_n 3, 1) := by decide +kernel
theorem d_Md_differ_1 : decode c_Md_differ 1 = .ok (.aload_n 0, 1) := by decide +kernel
theorem d_Md_differ_2 : decode c_Md_differ 2 = .ok (.getfield 47, 3) := by decide +kernel
theorem d_Md_differ_5 : decode c_Md_differ 5 = .ok (.iload_n 1, 1) := by decide +kernel
theorem d_Md_differ_6 : decode c_Md_differ 6 = .ok (.iaload, 1) := by decide +kernel
theorem d_Md_differ_7 : decode c_Md_differ 7 = .ok (.if_icmp .ge 7, 3) := by decide +kernel
theorem d_Md_differ_10 : decode c_Md_differ 10 = .ok (.iconst 1, 1) := by decide +kernel
theorem d_Md_differ_11 : decode c_Md_differ 11 = .ok (.goto 4, 3) := by decide +kernel
theorem d_Md_differ_14 : decode c_Md_differ 14 = .ok (.iconst 0, 1) := by decide +kernel
theorem d_Md_differ_15 : decode c_Md_differ 15 = .ok (.istore 4, 2) := by decide +kernel
theorem d_Md_differ_17 : decode c_Md_differ 17 = .ok (.iload_n 3, 1) := by decide +kernel
theorem d_Md_differ_18 : decode c_Md_differ 18 = .ok (.aload_n 0, 1) := by decide +kernel
theorem d_Md_differ_19 : decode c_Md_differ 19 = .ok (.getfield 47, 3) := by decide +kernel
theorem d_Md_differ_22 : decode c_Md_differ 22 = .ok (.iload_n 2, 1) := by decide +kernel
theorem d_Md_differ_23 : decode c_Md_differ 23 = .ok (.iaload, 1) := by decide +kernel
theorem d_Md_differ_24 : decode c_Md_differ 24 = .ok (.if_icmp .ge 7, 3) := by decide +kernel
theorem d_Md_differ_27 : decode c_Md_differ 27 = .ok (.iconst 1, 1) := by decide +kernel
theorem d_Md_differ_28 : decode c_Md_differ 28 = .ok (.goto 4, 3) := by decide +kernel
theorem d_Md_differ_31 : decode c_Md_differ 31 = .ok (.iconst 0, 1) := by decide +kernel
theorem d_Md_differ_32 : decode c_Md_differ 32 = .ok (.istore 5, 2) := by decide +kernel
theorem d_Md_differ_34 : decode c_Md_differ 34 = .ok (.iload 4, 2) := by decide +kernel
theorem d_Md_differ_36 : decode c_Md_differ 36 = .ok (.iload 5, 2) := by decide +kernel
theorem d_Md_differ_38 : decode c_Md_differ 38 = .ok (.if_icmp .eq 5, 3) := by decide +kernel
theorem d_Md_differ_41 : decode c_Md_differ 41 = .ok (.iconst 1, 1) := by decide +kernel
theorem d_Md_differ_42 : decode c_Md_differ 42 = .ok (.ireturn, 1) := by decide +kernel
theorem d_Md_differ_43 : decode c_Md_differ 43 = .ok (.aload_n 0, 1) := by decide +kernel
theorem d_Md_differ_44 : decode c_Md_differ 44 = .ok (.getfield 50, 3) := by decide +kernel
theorem d_Md_differ_47 : decode c_Md_differ 47 = .ok (.bipush 48, 2) := by decide +kernel
theorem d_Md_differ_49 : decode c_Md_differ 49 = .ok (.iload_n 1, 1) := by decide +kernel
theorem d_Md_differ_50 : decode c_Md_differ 50 = .ok (.imul, 1) := by decide +kernel
theorem d_Md_differ_51 : decode c_Md_differ 51 = .ok (.iload_n 3, 1) := by decide +kernel
theorem d_Md_differ_52 : decode c_Md_differ 52 = .ok (.iadd, 1) := by decide +kernel
theorem d_Md_differ_53 : decode c_Md_differ 53 = .ok (.iaload, 1) := by decide +kernel
theorem d_Md_differ_54 : decode c_Md_differ 54 = .ok (.istore 6, 2) := by decide +kernel
theorem d_Md_differ_56 : decode c_Md_differ 56 = .ok (.aload_n 0, 1) := by decide +kernel
theorem d_Md_differ_57 : decode c_Md_differ 57 = .ok (.getfield 50, 3) := by decide +kernel
theorem d_Md_differ_60 : decode c_Md_differ 60 = .ok (.bipush 48, 2) := by decide +kernel
theorem d_Md_differ_62 : decode c_Md_differ 62 = .ok (.iload_n 2, 1) := by decide +kernel
theorem d_Md_differ_63 : decode c_Md_differ 63 = .ok (.imul, 1) := by decide +kernel
theorem d_Md_differ_64 : decode c_Md_differ 64 = .ok (.iload_n 3, 1) := by decide +kernel
theorem d_Md_differ_65 : decode c_Md_differ 65 = .ok (.iadd, 1) := by decide +kernel
theorem d_Md_differ_66 : decode c_Md_differ 66 = .ok (.iaload, 1) := by decide +kernel
theorem d_Md_differ_67 : decode c_Md_differ 67 = .ok (.istore 7, 2) := by decide +kernel
theorem d_Md_differ_69 : decode c_Md_differ 69 = .ok (.iload 6, 2) := by decide +kernel
theorem d_Md_differ_71 : decode c_Md_differ 71 = .ok (.iload 7, 2) := by decide +kernel
theorem d_Md_differ_73 : decode c_Md_differ 73 = .ok (.if_icmp .eq 7, 3) := by decide +kernel
theorem d_Md_differ_76 : decode c_Md_differ 76 = .ok (.iconst 1, 1) := by decide +kernel
theorem d_Md_differ_77 : decode c_Md_differ 77 = .ok (.goto 4, 3) := by decide +kernel
theorem d_Md_differ_80 : decode c_Md_differ 80 = .ok (.iconst 0, 1) := by decide +kernel
theorem d_Md_differ_81 : decode c_Md_differ 81 = .ok (.istore 8, 2) := by decide +kernel
theorem d_Md_differ_83 : decode c_Md_differ 83 = .ok (.iconst 0, 1) := by decide +kernel
theorem d_Md_differ_84 : decode c_Md_differ 84 = .ok (.istore 9, 2) := by decide +kernel
theorem d_Md_differ_86 : decode c_Md_differ 86 = .ok (.iload 9, 2) := by decide +kernel
theorem d_Md_differ_88 : decode c_Md_differ 88 = .ok (.bipush 48, 2) := by decide +kernel
theorem d_Md_differ_90 : decode c_Md_differ 90 = .ok (.if_icmp .ge 68, 3) := by decide +kernel
theorem d_Md_differ_93 : decode c_Md_differ 93 = .ok (.iload 4, 2) := by decide +kernel
theorem d_Md_differ_95 : decode c_Md_differ 95 = .ok (.ifCond .eq 63, 3) := by decide +kernel
theorem d_Md_differ_98 : decode c_Md_differ 98 = .ok (.iload 8, 2) := by decide +kernel
theorem d_Md_differ_100 : decode c_Md_differ 100 = .ok (.ifCond .ne 45, 3) := by decide +kernel
theorem d_Md_differ_103 : decode c_Md_differ 103 = .ok (.aload_n 0, 1) := by decide +kernel
theorem d_Md_differ_104 : decode c_Md_differ 104 = .ok (.iload_n 1, 1) := by decide +kernel
theorem d_Md_differ_105 : decode c_Md_differ 105 = .ok (.iload 9, 2) := by decide +kernel
theorem d_Md_differ_107 : decode c_Md_differ 107 = .ok (.iload 6, 2) := by decide +kernel
theorem d_Md_differ_109 : decode c_Md_differ 109 = .ok (.invokevirtual 119, 3) := by decide +kernel
theorem d_Md_differ_112 : decode c_Md_differ 112 = .ok (.aload_n 0, 1) := by decide +kernel
theorem d_Md_differ_113 : decode c_Md_differ 113 = .ok (.iload_n 2, 1) := by decide +kernel
theorem d_Md_differ_114 : decode c_Md_differ 114 = .ok (.iload 9, 2) := by decide +kernel
theorem d_Md_differ_116 : decode c_Md_differ 116 = .ok (.iload 7, 2) := by decide +kernel
theorem d_Md_differ_118 : decode c_Md_differ 118 = .ok (.invokevirtual 119, 3) := by decide +kernel
theorem d_Md_differ_121 : decode c_Md_differ 121 = .ok (.if_icmp .ne 24, 3) := by decide +kernel
theorem d_Md_differ_124 : decode c_Md_differ 124 = .ok (.aload_n 0, 1) := by decide +kernel
theorem d_Md_differ_125 : decode c_Md_differ 125 = .ok (.iload_n 1, 1) := by decide +kernel
theorem d_Md_differ_126 : decode c_Md_differ 126 = .ok (.iload 9, 2) := by decide +kernel
theorem d_Md_differ_128 : decode c_Md_differ 128 = .ok (.iload 6, 2) := by decide +kernel
theorem d_Md_differ_130 : decode c_Md_differ 130 = .ok (.invokevirtual 122, 3) := by decide +kernel
theorem d_Md_differ_133 : decode c_Md_differ 133 = .ok (.aload_n 0, 1) := by decide +kernel
theorem d_Md_differ_134 : decode c_Md_differ 134 = .ok (.iload_n 2, 1) := by decide +kernel
theorem d_Md_differ_135 : decode c_Md_differ 135 = .ok (.iload 9, 2) := by decide +kernel
theorem d_Md_differ_137 : decode c_Md_differ 137 = .ok (.iload 7, 2) := by decide +kernel
theorem d_Md_differ_139 : decode c_Md_differ 139 = .ok (.invokevirtual 122, 3) := by decide +kernel
theorem d_Md_differ_142 : decode c_Md_differ 142 = .ok (.if_icmp .eq 7, 3) := by decide +kernel
theorem d_Md_differ_145 : decode c_Md_differ 145 = .ok (.iconst 1, 1) := by decide +kernel
theorem d_Md_differ_146 : decode c_Md_differ 146 = .ok (.goto 4, 3) := by decide +kernel
theorem d_Md_differ_149 : decode c_Md_differ 149 = .ok (.iconst 0, 1) := by decide +kernel
theorem d_Md_differ_150 : decode c_Md_differ 150 = .ok (.istore 8, 2) := by decide +kernel
theorem d_Md_differ_152 : decode c_Md_differ 152 = .ok (.iinc 9 1, 3) := by decide +kernel
theorem d_Md_differ_155 : decode c_Md_differ 155 = .ok (.goto (-69), 3) := by decide +kernel
theorem d_Md_differ_158 : decode c_Md_differ 158 = .ok (.iload 4, 2) := by decide +kernel
theorem d_Md_differ_160 : decode c_Md_differ 160 = .ok (.ifCond .eq 12, 3) := by decide +kernel
theorem d_Md_differ_163 : decode c_Md_differ 163 = .ok (.iload 8, 2) := by decide +kernel
theorem d_Md_differ_165 : decode c_Md_differ 165 = .ok (.ifCond .eq 7, 3) := by decide +kernel
theorem d_Md_differ_168 : decode c_Md_differ 168 = .ok (.iconst 1, 1) := by decide +kernel
theorem d_Md_differ_169 : decode c_Md_differ 169 = .ok (.goto 4, 3) := by decide +kernel
theorem d_Md_differ_172 : decode c_Md_differ 172 = .ok (.iconst 0, 1) := by decide +kernel
theorem d_Md_differ_173 : decode c_Md_differ 173 = .ok (.ireturn, 1) := by decide +kernel
theorem d_Md_differs_0 : decode c_Md_differs 0 = .ok (.aload_n 0, 1) := by decide +kernel
theorem d_Md_differs_1 : decode c_Md_differs 1 = .ok (.iload_n 1, 1) := by decide +kernel
theorem d_Md_differs_2 : decode c_Md_differs 2 = .ok (.ifCond .lt 31, 3) := by decide +kernel
theorem d_Md_differs_5 : decode c_Md_differs 5 = .ok (.iload_n 1, 1) := by decide +kernel
theorem d_Md_differs_6 : decode c_Md_differs 6 = .ok (.aload_n 0, 1) := by decide +kernel
theorem d_Md_differs_7 : decode c_Md_differs 7 = .ok (.getfield 116, 3) := by decide +kernel
theorem d_Md_differs_10 : decode c_Md_differs 10 = .ok (.if_icmp .ge 23, 3) := by decide +kernel
theorem d_Md_differs_13 : decode c_Md_differs 13 = .ok (.iload_n 2, 1) := by decide +kernel
theorem d_Md_differs_14 : decode c_Md_differs 14 = .ok (.ifCond .lt 19, 3) := by decide +kernel
theorem d_Md_differs_17 : decode c_Md_differs 17 = .ok (.iload_n 2, 1) := by decide +kernel
theorem d_Md_differs_18 : decode c_Md_differs 18 = .ok (.aload_n 0, 1) := by decide +kernel
theorem d_Md_differs_19 : decode c_Md_differs 19 = .ok (.getfield 116, 3) := by decide +kernel
theorem d_Md_differs_22 : decode c_Md_differs 22 = .ok (.if_icmp .ge 11, 3) := by decide +kernel
theorem d_Md_differs_25 : decode c_Md_differs 25 = .ok (.iload_n 3, 1) := by decide +kernel
theorem d_Md_differs_26 : decode c_Md_differs 26 = .ok (.ifCond .lt 7, 3) := by decide +kernel
theorem d_Md_differs_29 : decode c_Md_differs 29 = .ok (.iconst 1, 1) := by decide +kernel
theorem d_Md_differs_30 : decode c_Md_differs 30 = .ok (.goto 4, 3) := by decide +kernel
theorem d_Md_differs_33 : decode c_Md_differs 33 = .ok (.iconst 0, 1) := by decide +kernel
theorem d_Md_differs_34 : decode c_Md_differs 34 = .ok (.iconst 1, 1) := by decide +kernel
theorem d_Md_differs_35 : decode c_Md_differs 35 = .ok (.invokevirtual 69, 3) := by decide +kernel
theorem d_Md_differs_38 : decode c_Md_differs 38 = .ok (.ifCond .ne 5, 3) := by decide +kernel
theorem d_Md_differs_41 : decode c_Md_differs 41 = .ok (.iconst 0, 1) := by decide +kernel
theorem d_Md_differs_42 : decode c_Md_differs 42 = .ok (.ireturn, 1) := by decide +kernel
theorem d_Md_differs_43 : decode c_Md_differs 43 = .ok (.iconst 0, 1) := by decide +kernel
theorem d_Md_differs_44 : decode c_Md_differs 44 = .ok (.istore 4, 2) := by decide +kernel
theorem d_Md_differs_46 : decode c_Md_differs 46 = .ok (.iconst 0, 1) := by decide +kernel
theorem d_Md_differs_47 : decode c_Md_differs 47 = .ok (.istore 5, 2) := by decide +kernel
theorem d_Md_differs_49 : decode c_Md_differs 49 = .ok (.iload 5, 2) := by decide +kernel
theorem d_Md_differs_51 : decode c_Md_differs 51 = .ok (.bipush 48, 2) := by decide +kernel
theorem d_Md_differs_53 : decode c_Md_differs 53 = .ok (.if_icmp .ge 32, 3) := by decide +kernel
theorem d_Md_differs_56 : decode c_Md_differs 56 = .ok (.aload_n 0, 1) := by decide +kernel
theorem d_Md_differs_57 : decode c_Md_differs 57 = .ok (.iload_n 1, 1) := by decide +kernel
theorem d_Md_differs_58 : decode c_Md_differs 58 = .ok (.iload_n 2, 1) := by decide +kernel
theorem d_Md_differs_59 : decode c_Md_differs 59 = .ok (.iload 5, 2) := by decide +kernel
theorem d_Md_differs_61 : decode c_Md_differs 61 = .ok (.invokevirtual 125, 3) := by decide +kernel
theorem d_Md_differs_64 : decode c_Md_differs 64 = .ok (.ifCond .eq 15, 3) := by decide +kernel
theorem d_Md_differs_67 : decode c_Md_differs 67 = .ok (.iload 4, 2) := by decide +kernel
theorem d_Md_differs_69 : decode c_Md_differs 69 = .ok (.iload_n 3, 1) := by decide +kernel
theorem d_Md_differs_70 : decode c_Md_differs 70 = .ok (.if_icmp .ne 6, 3) := by decide +kernel
theorem d_Md_differs_73 : decode c_Md_differs 73 = .ok (.iload 5, 2) := by decide +kernel
theorem d_Md_differs_75 : decode c_Md_differs 75 = .ok (.ireturn, 1) := by decide +kernel
theorem d_Md_differs_76 : decode c_Md_differs 76 = .ok (.iinc 4 1, 3) := by decide +kernel
theorem d_Md_differs_79 : decode c_Md_differs 79 = .ok (.iinc 5 1, 3) := by decide +kernel
theorem d_Md_differs_82 : decode c_Md_differs 82 = .ok (.goto (-33), 3) := by decide +kernel
theorem d_Md_differs_85 : decode c_Md_differs 85 = .ok (.iconst (-1), 1) := by decide +kernel
theorem d_Md_differs_86 : decode c_Md_differs 86 = .ok (.ireturn, 1) := by decide +kernel
theorem d_Md_count_0 : decode c_Md_count 0 = .ok (.aload_n 0, 1) := by decide +kernel
theorem d_Md_count_1 : decode c_Md_count 1 = .ok (.iload_n 1, 1) := by decide +kernel
theorem d_Md_count_2 : decode c_Md_count 2 = .ok (.ifCond .lt 12, 3) := by decide +kernel
theorem d_Md_count_5 : decode c_Md_count 5 = .ok (.iload_n 1, 1) := by decide +kernel
theorem d_Md_count_6 : decode c_Md_count 6 = .ok (.iconst 4, 1) := by decide +kernel
theorem d_Md_count_7 : decode c_Md_count 7 = .ok (.if_icmp .gt 7, 3) := by decide +kernel
theorem d_Md_count_10 : decode c_Md_count 10 = .ok (.iconst 1, 1) := by decide +kernel
theorem d_Md_count_11 : decode c_Md_count 11 = .ok (.goto 4, 3) := by decide +kernel
theorem d_Md_count_14 : decode c_Md_count 14 = .ok (.iconst 0, 1) := by decide +kernel
theorem d_Md_count_15 : decode c_Md_count 15 = .ok (.iconst 1, 1) := by decide +kernel
theorem d_Md_count_16 : decode c_Md_count 16 = .ok (.invokevirtual 69, 3) := by decide +kernel
theorem d_Md_count_19 : decode c_Md_count 19 = .ok (.ifCond .ne 5, 3) := by decide +kernel
theorem d_Md_count_22 : decode c_Md_count 22 = .ok (.iconst 0, 1) := by decide +kernel
theorem d_Md_count_23 : decode c_Md_count 23 = .ok (.ireturn, 1) := by decide +kernel
theorem d_Md_count_24 : decode c_Md_count 24 = .ok (.iconst 0, 1) := by decide +kernel
theorem d_Md_count_25 : decode c_Md_count 25 = .ok (.istore_n 2, 1) := by decide +kernel
theorem d_Md_count_26 : decode c_Md_count 26 = .ok (.iload_n 1, 1) := by decide +kernel
theorem d_Md_count_27 : decode c_Md_count 27 = .ok (.iconst 1, 1) := by decide +kernel
theorem d_Md_count_28 : decode c_Md_count 28 = .ok (.if_icmp .ne 39, 3) := by decide +kernel
theorem d_Md_count_31 : decode c_Md_count 31 = .ok (.iconst 0, 1) := by decide +kernel
theorem d_Md_count_32 : decode c_Md_count 32 = .ok (.istore_n 3, 1) := by decide +kernel
theorem d_Md_count_33 : decode c_Md_count 33 = .ok (.iload_n 3, 1) := by decide +kernel
theorem d_Md_count_34 : decode c_Md_count 34 = .ok (.aload_n 0, 1) := by decide +kernel
theorem d_Md_count_35 : decode c_Md_count 35 = .ok (.getfield 63, 3) := by decide +kernel
theorem d_Md_count_38 : decode c_Md_count 38 = .ok (.if_icmp .ge 26, 3) := by decide +kernel
theorem d_Md_count_41 : decode c_Md_count 41 = .ok (.aload_n 0, 1) := by decide +kernel
theorem d_Md_count_42 : decode c_Md_count 42 = .ok (.getfield 19, 3) := by decide +kernel
theorem d_Md_count_45 : decode c_Md_count 45 = .ok (.iload_n 3, 1) := by decide +kernel
theorem d_Md_count_46 : decode c_Md_count 46 = .ok (.baload, 1) := by decide +kernel
theorem d_Md_count_47 : decode c_Md_count 47 = .ok (.ifCond .eq 7, 3) := by decide +kernel
theorem d_Md_count_50 : decode c_Md_count 50 = .ok (.iload_n 2, 1) := by decide +kernel
theorem d_Md_count_51 : decode c_Md_count 51 = .ok (.goto 6, 3) := by decide +kernel
theorem d_Md_count_54 : decode c_Md_count 54 = .ok (.iload_n 2, 1) := by decide +kernel
theorem d_Md_count_55 : decode c_Md_count 55 = .ok (.iconst 1, 1) := by decide +kernel
theorem d_Md_count_56 : decode c_Md_count 56 = .ok (.iadd, 1) := by decide +kernel
theorem d_Md_count_57 : decode c_Md_count 57 = .ok (.istore_n 2, 1) := by decide +kernel
theorem d_Md_count_58 : decode c_Md_count 58 = .ok (.iinc 3 1, 3) := by decide +kernel
theorem d_Md_count_61 : decode c_Md_count 61 = .ok (.goto (-28), 3) := by decide +kernel
theorem d_Md_count_64 : decode c_Md_count 64 = .ok (.goto 82, 3) := by decide +kernel
theorem d_Md_count_67 : decode c_Md_count 67 = .ok (.iload_n 1, 1) := by decide +kernel
theorem d_Md_count_68 : decode c_Md_count 68 = .ok (.iconst 2, 1) := by decide +kernel
theorem d_Md_count_69 : decode c_Md_count 69 = .ok (.if_icmp .ne 40, 3) := by decide +kernel
theorem d_Md_count_72 : decode c_Md_count 72 = .ok (.iconst 0, 1) := by decide +kernel
theorem d_Md_count_73 : decode c_Md_count 73 = .ok (.istore_n 3, 1) := by decide +kernel
theorem d_Md_count_74 : decode c_Md_count 74 = .ok (.iload_n 3, 1) := by decide +kernel
theorem d_Md_count_75 : decode c_Md_count 75 = .ok (.aload_n 0, 1) := by decide +kernel
theorem d_Md_count_76 : decode c_Md_count 76 = .ok (.getfield 60, 3) := by decide +kernel
theorem d_Md_count_79 : decode c_Md_count 79 = .ok (.if_icmp .ge 27, 3) := by decide +kernel
theorem d_Md_count_82 : decode c_Md_count 82 = .ok (.aload_n 0, 1) := by decide +kernel
theorem d_Md_count_83 : decode c_Md_count 83 = .ok (.getfield 23, 3) := by decide +kernel
theorem d_Md_count_86 : decode c_Md_count 86 = .ok (.iload_n 3, 1) := by decide +kernel
theorem d_Md_count_87 : decode c_Md_count 87 = .ok (.iaload, 1) := by decide +kernel
theorem d_Md_count_88 : decode c_Md_count 88 = .ok (.iload_n 3, 1) := by decide +kernel
theorem d_Md_count_89 : decode c_Md_count 89 = .ok (.if_icmp .ne 9, 3) := by decide +kernel
theorem d_Md_count_92 : decode c_Md_count 92 = .ok (.iload_n 2, 1) := by decide +kernel
theorem d_Md_count_93 : decode c_Md_count 93 = .ok (.iconst 1, 1) := by decide +kernel
theorem d_Md_count_94 : decode c_Md_count 94 = .ok (.iadd, 1) := by decide +kernel
theorem d_Md_count_95 : decode c_Md_count 95 = .ok (.goto 4, 3) := by decide +kernel
theorem d_Md_count_98 : decode c_Md_count 98 = .ok (.iload_n 2, 1) := by decide +kernel
theorem d_Md_count_99 : decode c_Md_count 99 = .ok (.istore_n 2, 1) := by decide +kernel
theorem d_Md_count_100 : decode c_Md_count 100 = .ok (.iinc 3 1, 3) := by decide +kernel
theorem d_Md_count_103 : decode c_Md_count 103 = .ok (.goto (-29), 3) := by decide +kernel
theorem d_Md_count_106 : decode c_Md_count 106 = .ok (.goto 40, 3) := by decide +kernel
theorem d_Md_count_109 : decode c_Md_count 109 = .ok (.iload_n 1, 1) := by decide +kernel
theorem d_Md_count_110 : decode c_Md_count 110 = .ok (.iconst 3, 1) := by decide +kernel
theorem d_Md_count_111 : decode c_Md_count 111 = .ok (.if_icmp .ne 35, 3) := by decide +kernel
theorem d_Md_count_114 : decode c_Md_count 114 = .ok (.iconst 0, 1) := by decide +kernel
theorem d_Md_count_115 : decode c_Md_count 115 = .ok (.istore_n 3, 1) := by decide +kernel
theorem d_Md_count_116 : decode c_Md_count 116 = .ok (.iload_n 3, 1) := by decide +kernel
theorem d_Md_count_117 : decode c_Md_count 117 = .ok (.sipush 2304, 3) := by decide +kernel
theorem d_Md_count_120 : decode c_Md_count 120 = .ok (.if_icmp .ge 26, 3) := by decide +kernel
theorem d_Md_count_123 : decode c_Md_count 123 = .ok (.aload_n 0, 1) := by decide +kernel
theorem d_Md_count_124 : decode c_Md_count 124 = .ok (.getfield 29, 3) := by decide +kernel
theorem d_Md_count_127 : decode c_Md_count 127 = .ok (.iload_n 3, 1) := by decide +kernel
theorem d_Md_count_128 : decode c_Md_count 128 = .ok (.baload, 1) := by decide +kernel
theorem d_Md_count_129 : decode c_Md_count 129 = .ok (.ifCond .eq 9, 3) := by decide +kernel
theorem d_Md_count_132 : decode c_Md_count 132 = .ok (.iload_n 2, 1) := by decide +kernel
theorem d_Md_count_133 : decode c_Md_count 133 = .ok (.iconst 1, 1) := by decide +kernel
theorem d_Md_count_134 : decode c_Md_count 134 = .ok (.iadd, 1) := by decide +kernel
theorem d_Md_count_135 : decode c_Md_count 135 = .ok (.goto 4, 3) := by decide +kernel
theorem d_Md_count_138 : decode c_Md_count 138 = .ok (.iload_n 2, 1) := by decide +kernel
theorem d_Md_count_139 : decode c_Md_count 139 = .ok (.istore_n 2, 1) := by decide +kernel
theorem d_Md_count_140 : decode c_Md_count 140 = .ok (.iinc 3 1, 3) := by decide +kernel
theorem d_Md_count_143 : decode c_Md_count 143 = .ok (.goto (-27), 3) := by decide +kernel
theorem d_Md_count_146 : decode c_Md_count 146 = .ok (.iload_n 1, 1) := by decide +kernel
theorem d_Md_count_147 : decode c_Md_count 147 = .ok (.ifCond .ne 10, 3) := by decide +kernel
theorem d_Md_count_150 : decode c_Md_count 150 = .ok (.aload_n 0, 1) := by decide +kernel
theorem d_Md_count_151 : decode c_Md_count 151 = .ok (.getfield 60, 3) := by decide +kernel
theorem d_Md_count_154 : decode c_Md_count 154 = .ok (.goto 16, 3) := by decide +kernel
theorem d_Md_count_157 : decode c_Md_count 157 = .ok (.iload_n 1, 1) := by decide +kernel
theorem d_Md_count_158 : decode c_Md_count 158 = .ok (.iconst 4, 1) := by decide +kernel
theorem d_Md_count_159 : decode c_Md_count 159 = .ok (.if_icmp .ne 10, 3) := by decide +kernel
theorem d_Md_count_162 : decode c_Md_count 162 = .ok (.aload_n 0, 1) := by decide +kernel
theorem d_Md_count_163 : decode c_Md_count 163 = .ok (.getfield 103, 3) := by decide +kernel
theorem d_Md_count_166 : decode c_Md_count 166 = .ok (.goto 4, 3) := by decide +kernel
theorem d_Md_count_169 : decode c_Md_count 169 = .ok (.iload_n 2, 1) := by decide +kernel
theorem d_Md_count_170 : decode c_Md_count 170 = .ok (.ireturn, 1) := by decide +kernel
end
section
theorem d_Lw_context_0 : decode c_Lw_context 0 = .ok (.aload_n 1, 1) := by decide +kernel
theorem d_Lw_context_1 : decode c_Lw_context 1 = .ok (.iconst 0, 1) := by decide +kernel
theorem d_Lw_context_2 : decode c_Lw_context 2 = .ok (.aload_n 0, 1) := by decide +kernel
theorem d_Lw_context_3 : decode c_Lw_context 3 = .ok (.invokevirtual 7, 3) := by decide +kernel
theorem d_Lw_context_6 : decode c_Lw_context 6 = .ok (.i2l, 1) := by decide +kernel
theorem d_Lw_context_7 : decode c_Lw_context 7 = .ok (.lastore, 1) := by decide +kernel
theorem d_Lw_context_8 : decode c_Lw_context 8 = .ok (.goto 6, 3) := by decide +kernel
theorem d_Lw_context_11 : decode c_Lw_context 11 = .ok (.astore_n 2, 1) := by decide +kernel
theorem d_Lw_context_12 : decode c_Lw_context 12 = .ok (.iconst 1, 1) := by decide +kernel
theorem d_Lw_context_13 : decode c_Lw_context 13 = .ok (.ireturn, 1) := by decide +kernel
theorem d_Lw_context_14 : decode c_Lw_context 14 = .ok (.iconst 0, 1) := by decide +kernel
theorem d_Lw_context_15 : decode c_Lw_context 15 = .ok (.ireturn, 1) := by decide +kernel
theorem d_Lw_relate_0 : decode c_Lw_relate 0 = .ok (.aload 4, 2) := by decide +kernel
theorem d_Lw_relate_2 : decode c_Lw_relate 2 = .ok (.iconst 0, 1) := by decide +kernel
theorem d_Lw_relate_3 : decode c_Lw_relate 3 = .ok (.aload_n 0, 1) := by decide +kernel
theorem d_Lw_relate_4 : decode c_Lw_relate 4 = .ok (.iload_n 1, 1) := by decide +kernel
theorem d_Lw_relate_5 : decode c_Lw_relate 5 = .ok (.iload_n 2, 1) := by decide +kernel
theorem d_Lw_relate_6 : decode c_Lw_relate 6 = .ok (.iload_n 3, 1) := by decide +kernel
theorem d_Lw_relate_7 : decode c_Lw_relate 7 = .ok (.invokevirtual 15, 3) := by decide +kernel
theorem d_Lw_relate_10 : decode c_Lw_relate 10 = .ok (.i2l, 1) := by decide +kernel
theorem d_Lw_relate_11 : decode c_Lw_relate 11 = .ok (.lastore, 1) := by decide +kernel
theorem d_Lw_relate_12 : decode c_Lw_relate 12 = .ok (.goto 11, 3) := by decide +kernel
theorem d_Lw_relate_15 : decode c_Lw_relate 15 = .ok (.astore 5, 2) := by decide +kernel
theorem d_Lw_relate_17 : decode c_Lw_relate 17 = .ok (.iconst 1, 1) := by decide +kernel
theorem d_Lw_relate_18 : decode c_Lw_relate 18 = .ok (.ireturn, 1) := by decide +kernel
theorem d_Lw_relate_19 : decode c_Lw_relate 19 = .ok (.astore 5, 2) := by decide +kernel
theorem d_Lw_relate_21 : decode c_Lw_relate 21 = .ok (.iconst 2, 1) := by decide +kernel
theorem d_Lw_relate_22 : decode c_Lw_relate 22 = .ok (.ireturn, 1) := by decide +kernel
theorem d_Lw_relate_23 : decode c_Lw_relate 23 = .ok (.iconst 0, 1) := by decide +kernel
theorem d_Lw_relate_24 : decode c_Lw_relate 24 = .ok (.ireturn, 1) := by decide +kernel
theorem d_Lw_ring_0 : decode c_Lw_ring 0 = .ok (.aload_n 2, 1) := by decide +kernel
theorem d_Lw_ring_1 : decode c_Lw_ring 1 = .ok (.iconst 0, 1) := by decide +kernel
theorem d_Lw_ring_2 : decode c_Lw_ring 2 = .ok (.aload_n 0, 1) := by decide +kernel
theorem d_Lw_ring_3 : decode c_Lw_ring 3 = .ok (.iload_n 1, 1) := by decide +kernel
theorem d_Lw_ring_4 : decode c_Lw_ring 4 = .ok (.invokevirtual 21, 3) := by decide +kernel
theorem d_Lw_ring_7 : decode c_Lw_ring 7 = .ok (.i2l, 1) := by decide +kernel
theorem d_Lw_ring_8 : decode c_Lw_ring 8 = .ok (.lastore, 1) := by decide +kernel
theorem d_Lw_ring_9 : decode c_Lw_ring 9 = .ok (.goto 6, 3) := by decide +kernel
theorem d_Lw_ring_12 : decode c_Lw_ring 12 = .ok (.astore_n 3, 1) := by decide +kernel
theorem d_Lw_ring_13 : decode c_Lw_ring 13 = .ok (.iconst 1, 1) := by decide +kernel
theorem d_Lw_ring_14 : decode c_Lw_ring 14 = .ok (.ireturn, 1) := by decide +kernel
theorem d_Lw_ring_15 : decode c_Lw_ring 15 = .ok (.iconst 0, 1) := by decide +kernel
theorem d_Lw_ring_16 : decode c_Lw_ring 16 = .ok (.ireturn, 1) := by decide +kernel
theorem d_Lw_undo_0 : decode c_Lw_undo 0 = .ok (.aload_n 2, 1) := by decide +kernel
theorem d_Lw_undo_1 : decode c_Lw_undo 1 = .ok (.iconst 0, 1) := by decide +kernel
theorem d_Lw_undo_2 : decode c_Lw_undo 2 = .ok (.aload_n 0, 1) := by decide +kernel
theorem d_Lw_undo_3 : decode c_Lw_undo 3 = .ok (.iload_n 1, 1) := by decide +kernel
theorem d_Lw_undo_4 : decode c_Lw_undo 4 = .ok (.invokevirtual 25, 3) := by decide +kernel
theorem d_Lw_undo_7 : decode c_Lw_undo 7 = .ok (.ifCond .eq 7, 3) := by decide +kernel
theorem d_Lw_undo_10 : decode c_Lw_undo 10 = .ok (.lconst 1, 1) := by decide +kernel
theorem d_Lw_undo_11 : decode c_Lw_undo 11 = .ok (.goto 4, 3) := by decide +kernel
theorem d_Lw_undo_14 : decode c_Lw_undo 14 = .ok (.lconst 0, 1) := by decide +kernel
theorem d_Lw_undo_15 : decode c_Lw_undo 15 = .ok (.lastore, 1) := by decide +kernel
theorem d_Lw_undo_16 : decode c_Lw_undo 16 = .ok (.goto 6, 3) := by decide +kernel
theorem d_Lw_undo_19 : decode c_Lw_undo 19 = .ok (.astore_n 3, 1) := by decide +kernel
theorem d_Lw_undo_20 : decode c_Lw_undo 20 = .ok (.iconst 1, 1) := by decide +kernel
theorem d_Lw_undo_21 : decode c_Lw_undo 21 = .ok (.ireturn, 1) := by decide +kernel
theorem d_Lw_undo_22 : decode c_Lw_undo 22 = .ok (.iconst 0, 1) := by decide +kernel
theorem d_Lw_undo_23 : decode c_Lw_undo 23 = .ok (.ireturn, 1) := by decide +kernel
theorem d_Lw_order_0 : decode c_Lw_order 0 = .ok (.aload_n 3, 1) := by decide +kernel
theorem d_Lw_order_1 : decode c_Lw_order 1 = .ok (.iconst 0, 1) := by decide +kernel
theorem d_Lw_order_2 : decode c_Lw_order 2 = .ok (.aload_n 0, 1) := by decide +kernel
theorem d_Lw_order_3 : decode c_Lw_order 3 = .ok (.iload_n 1, 1) := by decide +kernel
theorem d_Lw_order_4 : decode c_Lw_order 4 = .ok (.iload_n 2, 1) := by decide +kernel
theorem d_Lw_order_5 : decode c_Lw_order 5 = .ok (.invokevirtual 29, 3) := by decide +kernel
theorem d_Lw_order_8 : decode c_Lw_order 8 = .ok (.i2l, 1) := by decide +kernel
theorem d_Lw_order_9 : decode c_Lw_order 9 = .ok (.lastore, 1) := by decide +kernel
theorem d_Lw_order_10 : decode c_Lw_order 10 = .ok (.goto 7, 3) := by decide +kernel
theorem d_Lw_order_13 : decode c_Lw_order 13 = .ok (.astore 4, 2) := by decide +kernel
theorem d_Lw_order_15 : decode c_Lw_order 15 = .ok (.iconst 1, 1) := by decide +kernel
theorem d_Lw_order_16 : decode c_Lw_order 16 = .ok (.ireturn, 1) := by decide +kernel
theorem d_Lw_order_17 : decode c_Lw_order 17 = .ok (.iconst 0, 1) := by decide +kernel
theorem d_Lw_order_18 : decode c_Lw_order 18 = .ok (.ireturn, 1) := by decide +kernel
theorem d_Lw_link_0 : decode c_Lw_link 0 = .ok (.aload_n 3, 1) := by decide +kernel
theorem d_Lw_link_1 : decode c_Lw_link 1 = .ok (.iconst 0, 1) := by decide +kernel
theorem d_Lw_link_2 : decode c_Lw_link 2 = .ok (.aload_n 0, 1) := by decide +kernel
theorem d_Lw_link_3 : decode c_Lw_link 3 = .ok (.iload_n 1, 1) := by decide +kernel
theorem d_Lw_link_4 : decode c_Lw_link 4 = .ok (.iload_n 2, 1) := by decide +kernel
theorem d_Lw_link_5 : decode c_Lw_link 5 = .ok (.invokevirtual 33, 3) := by decide +kernel
theorem d_Lw_link_8 : decode c_Lw_link 8 = .ok (.i2l, 1) := by decide +kernel
theorem d_Lw_link_9 : decode c_Lw_link 9 = .ok (.lastore, 1) := by decide +kernel
theorem d_Lw_link_10 : decode c_Lw_link 10 = .ok (.goto 7, 3) := by decide +kernel
theorem d_Lw_link_13 : decode c_Lw_link 13 = .ok (.astore 4, 2) := by decide +kernel
theorem d_Lw_link_15 : decode c_Lw_link 15 = .ok (.iconst 1, 1) := by decide +kernel
theorem d_Lw_link_16 : decode c_Lw_link 16 = .ok (.ireturn, 1) := by decide +kernel
theorem d_Lw_link_17 : decode c_Lw_link 17 = .ok (.iconst 0, 1) := by decide +kernel
theorem d_Lw_link_18 : decode c_Lw_link 18 = .ok (.ireturn, 1) := by decide +kernel
theorem d_Lw_equal_0 : decode c_Lw_equal 0 = .ok (.aload_n 2, 1) := by decide +kernel
theorem d_Lw_equal_1 : decode c_Lw_equal 1 = .ok (.iconst 0, 1) := by decide +kernel
theorem d_Lw_equal_2 : decode c_Lw_equal 2 = .ok (.aload_n 0, 1) := by decide +kernel
theorem d_Lw_equal_3 : decode c_Lw_equal 3 = .ok (.iload_n 1, 1) := by decide +kernel
theorem d_Lw_equal_4 : decode c_Lw_equal 4 = .ok (.invokevirtual 36, 3) := by decide +kernel
theorem d_Lw_equal_7 : decode c_Lw_equal 7 = .ok (.i2l, 1) := by decide +kernel
theorem d_Lw_equal_8 : decode c_Lw_equal 8 = .ok (.lastore, 1) := by decide +kernel
theorem d_Lw_equal_9 : decode c_Lw_equal 9 = .ok (.goto 6, 3) := by decide +kernel
theorem d_Lw_equal_12 : decode c_Lw_equal 12 = .ok (.astore_n 3, 1) := by decide +kernel
theorem d_Lw_equal_13 : decode c_Lw_equal 13 = .ok (.iconst 1, 1) := by decide +kernel
theorem d_Lw_equal_14 : decode c_Lw_equal 14 = .ok (.ireturn, 1) := by decide +kernel
theorem d_Lw_equal_15 : decode c_Lw_equal 15 = .ok (.iconst 0, 1) := by decide +kernel
theorem d_Lw_equal_16 : decode c_Lw_equal 16 = .ok (.ireturn, 1) := by decide +kernel
theorem d_Lw_contemporary_0 : decode c_Lw_contemporary 0 = .ok (.aload_n 3, 1) := by decide +kernel
theorem d_Lw_contemporary_1 : decode c_Lw_contemporary 1 = .ok (.iconst 0, 1) := by decide +kernel
theorem d_Lw_contemporary_2 : decode c_Lw_contemporary 2 = .ok (.aload_n 0, 1) := by decide +kernel
theorem d_Lw_contemporary_3 : decode c_Lw_contemporary 3 = .ok (.iload_n 1, 1) := by decide +kernel
theorem d_Lw_contemporary_4 : decode c_Lw_contemporary 4 = .ok (.iload_n 2, 1) := by decide +kernel
theorem d_Lw_contemporary_5 : decode c_Lw_contemporary 5 = .ok (.invokevirtual 39, 3) := by decide +kernel
theorem d_Lw_contemporary_8 : decode c_Lw_contemporary 8 = .ok (.ifCond .eq 7, 3) := by decide +kernel
theorem d_Lw_contemporary_11 : decode c_Lw_contemporary 11 = .ok (.lconst 1, 1) := by decide +kernel
theorem d_Lw_contemporary_12 : decode c_Lw_contemporary 12 = .ok (.goto 4, 3) := by decide +kernel
theorem d_Lw_contemporary_15 : decode c_Lw_contemporary 15 = .ok (.lconst 0, 1) := by decide +kernel
theorem d_Lw_contemporary_16 : decode c_Lw_contemporary 16 = .ok (.lastore, 1) := by decide +kernel
theorem d_Lw_contemporary_17 : decode c_Lw_contemporary 17 = .ok (.goto 7, 3) := by decide +kernel
theorem d_Lw_contemporary_20 : decode c_Lw_contemporary 20 = .ok (.astore 4, 2) := by decide +kernel
theorem d_Lw_contemporary_22 : decode c_Lw_contemporary 22 = .ok (.iconst 1, 1) := by decide +kernel
theorem d_Lw_contemporary_23 : decode c_Lw_contemporary 23 = .ok (.ireturn, 1) := by decide +kernel
theorem d_Lw_contemporary_24 : decode c_Lw_contemporary 24 = .ok (.iconst 0, 1) := by decide +kernel
theorem d_Lw_contemporary_25 : decode c_Lw_contemporary 25 = .ok (.ireturn, 1) := by decide +kernel
theorem d_Lw_longest_0 : decode c_Lw_longest 0 = .ok (.aload_n 2, 1) := by decide +kernel
theorem d_Lw_longest_1 : decode c_Lw_longest 1 = .ok (.iconst 0, 1) := by decide +kernel
theorem d_Lw_longest_2 : decode c_Lw_longest 2 = .ok (.aload_n 0, 1) := by decide +kernel
theorem d_Lw_longest_3 : decode c_Lw_longest 3 = .ok (.iload_n 1, 1) := by decide +kernel
theorem d_Lw_longest_4 : decode c_Lw_longest 4 = .ok (.invokevirtual 43, 3) := by decide +kernel
theorem d_Lw_longest_7 : decode c_Lw_longest 7 = .ok (.i2l, 1) := by decide +kernel
theorem d_Lw_longest_8 : decode c_Lw_longest 8 = .ok (.lastore, 1) := by decide +kernel
theorem d_Lw_longest_9 : decode c_Lw_longest 9 = .ok (.goto 6, 3) := by decide +kernel
theorem d_Lw_longest_12 : decode c_Lw_longest 12 = .ok (.astore_n 3, 1) := by decide +kernel
theorem d_Lw_longest_13 : decode c_Lw_longest 13 = .ok (.iconst 1, 1) := by decide +kernel
theorem d_Lw_longest_14 : decode c_Lw_longest 14 = .ok (.ireturn, 1) := by decide +kernel
theorem d_Lw_longest_15 : decode c_Lw_longest 15 = .ok (.iconst 0, 1) := by decide +kernel
theorem d_Lw_longest_16 : decode c_Lw_longest 16 = .ok (.ireturn, 1) := by decide +kernel
theorem d_Lw_group_0 : decode c_Lw_group 0 = .ok (.aload_n 1, 1) := by decide +kernel
theorem d_Lw_group_1 : decode c_Lw_group 1 = .ok (.iconst 0, 1) := by decide +kernel
theorem d_Lw_group_2 : decode c_Lw_group 2 = .ok (.aload_n 0, 1) := by decide +kernel
theorem d_Lw_group_3 : decode c_Lw_group 3 = .ok (.invokevirtual 46, 3) := by decide +kernel
theorem d_Lw_group_6 : decode c_Lw_group 6 = .ok (.i2l, 1) := by decide +kernel
theorem d_Lw_group_7 : decode c_Lw_group 7 = .ok (.lastore, 1) := by decide +kernel
theorem d_Lw_group_8 : decode c_Lw_group 8 = .ok (.goto 6, 3) := by decide +kernel
theorem d_Lw_group_11 : decode c_Lw_group 11 = .ok (.astore_n 2, 1) := by decide +kernel
theorem d_Lw_group_12 : decode c_Lw_group 12 = .ok (.iconst 1, 1) := by decide +kernel
theorem d_Lw_group_13 : decode c_Lw_group 13 = .ok (.ireturn, 1) := by decide +kernel
theorem d_Lw_group_14 : decode c_Lw_group 14 = .ok (.iconst 0, 1) := by decide +kernel
theorem d_Lw_group_15 : decode c_Lw_group 15 = .ok (.ireturn, 1) := by decide +kernel
theorem d_Lw_into_0 : decode c_Lw_into 0 = .ok (.aload_n 3, 1) := by decide +kernel
theorem d_Lw_into_1 : decode c_Lw_into 1 = .ok (.iconst 0, 1) := by decide +kernel
theorem d_Lw_into_2 : decode c_Lw_into 2 = .ok (.aload_n 0, 1) := by decide +kernel
theorem d_Lw_into_3 : decode c_Lw_into 3 = .ok (.iload_n 1, 1) := by decide +kernel
theorem d_Lw_into_4 : decode c_Lw_into 4 = .ok (.iload_n 2, 1) := by decide +kernel
theorem d_Lw_into_5 : decode c_Lw_into 5 = .ok (.invokevirtual 49, 3) := by decide +kernel
theorem d_Lw_into_8 : decode c_Lw_into 8 = .ok (.ifCond .eq 7, 3) := by decide +kernel
theorem d_Lw_into_11 : decode c_Lw_into 11 = .ok (.lconst 1, 1) := by decide +kernel
theorem d_Lw_into_12 : decode c_Lw_into 12 = .ok (.goto 4, 3) := by decide +kernel
theorem d_Lw_into_15 : decode c_Lw_into 15 = .ok (.lconst 0, 1) := by decide +kernel
theorem d_Lw_into_16 : decode c_Lw_into 16 = .ok (.lastore, 1) := by decide +kernel
theorem d_Lw_into_17 : decode c_Lw_into 17 = .ok (.goto 7, 3) := by decide +kernel
theorem d_Lw_into_20 : decode c_Lw_into 20 = .ok (.astore 4, 2) := by decide +kernel
theorem d_Lw_into_22 : decode c_Lw_into 22 = .ok (.iconst 1, 1) := by decide +kernel
theorem d_Lw_into_23 : decode c_Lw_into 23 = .ok (.ireturn, 1) := by decide +kernel
theorem d_Lw_into_24 : decode c_Lw_into 24 = .ok (.iconst 0, 1) := by decide +kernel
theorem d_Lw_into_25 : decode c_Lw_into 25 = .ok (.ireturn, 1) := by decide +kernel
theorem d_Lw_groupRing_0 : decode c_Lw_groupRing 0 = .ok (.aload_n 2, 1) := by decide +kernel
theorem d_Lw_groupRing_1 : decode c_Lw_groupRing 1 = .ok (.iconst 0, 1) := by decide +kernel
theorem d_Lw_groupRing_2 : decode c_Lw_groupRing 2 = .ok (.aload_n 0, 1) := by decide +kernel
theorem d_Lw_groupRing_3 : decode c_Lw_groupRing 3 = .ok (.iload_n 1, 1) := by decide +kernel
theorem d_Lw_groupRing_4 : decode c_Lw_groupRing 4 = .ok (.invokevirtual 52, 3) := by decide +kernel
theorem d_Lw_groupRing_7 : decode c_Lw_groupRing 7 = .ok (.i2l, 1) := by decide +kernel
theorem d_Lw_groupRing_8 : decode c_Lw_groupRing 8 = .ok (.lastore, 1) := by decide +kernel
theorem d_Lw_groupRing_9 : decode c_Lw_groupRing 9 = .ok (.goto 6, 3) := by decide +kernel
theorem d_Lw_groupRing_12 : decode c_Lw_groupRing 12 = .ok (.astore_n 3, 1) := by decide +kernel
theorem d_Lw_groupRing_13 : decode c_Lw_groupRing 13 = .ok (.iconst 1, 1) := by decide +kernel
theorem d_Lw_groupRing_14 : decode c_Lw_groupRing 14 = .ok (.ireturn, 1) := by decide +kernel
theorem d_Lw_groupRing_15 : decode c_Lw_groupRing 15 = .ok (.iconst 0, 1) := by decide +kernel
theorem d_Lw_groupRing_16 : decode c_Lw_groupRing 16 = .ok (.ireturn, 1) := by decide +kernel
theorem d_Lw_groupOf_0 : decode c_Lw_groupOf 0 = .ok (.aload_n 2, 1) := by decide +kernel
theorem d_Lw_groupOf_1 : decode c_Lw_groupOf 1 = .ok (.iconst 0, 1) := by decide +kernel
theorem d_Lw_groupOf_2 : decode c_Lw_groupOf 2 = .ok (.aload_n 0, 1) := by decide +kernel
theorem d_Lw_groupOf_3 : decode c_Lw_groupOf 3 = .ok (.iload_n 1, 1) := by decide +kernel
theorem d_Lw_groupOf_4 : decode c_Lw_groupOf 4 = .ok (.invokevirtual 55, 3) := by decide +kernel
theorem d_Lw_groupOf_7 : decode c_Lw_groupOf 7 = .ok (.i2l, 1) := by decide +kernel
theorem d_Lw_groupOf_8 : decode c_Lw_groupOf 8 = .ok (.lastore, 1) := by decide +kernel
theorem d_Lw_groupOf_9 : decode c_Lw_groupOf 9 = .ok (.goto 6, 3) := by decide +kernel
theorem d_Lw_groupOf_12 : decode c_Lw_groupOf 12 = .ok (.astore_n 3, 1) := by decide +kernel
theorem d_Lw_groupOf_13 : decode c_Lw_groupOf 13 = .ok (.iconst 1, 1) := by decide +kernel
theorem d_Lw_groupOf_14 : decode c_Lw_groupOf 14 = .ok (.ireturn, 1) := by decide +kernel
theorem d_Lw_groupOf_15 : decode c_Lw_groupOf 15 = .ok (.iconst 0, 1) := by decide +kernel
theorem d_Lw_groupOf_16 : decode c_Lw_groupOf 16 = .ok (.ireturn, 1) := by decide +kernel
theorem d_Lw_version_0 : decode c_Lw_version 0 = .ok (.aload_n 1, 1) := by decide +kernel
theorem d_Lw_version_1 : decode c_Lw_version 1 = .ok (.iconst 0, 1) := by decide +kernel
theorem d_Lw_version_2 : decode c_Lw_version 2 = .ok (.aload_n 0, 1) := by decide +kernel
theorem d_Lw_version_3 : decode c_Lw_version 3 = .ok (.invokevirtual 58, 3) := by decide +kernel
theorem d_Lw_version_6 : decode c_Lw_version 6 = .ok (.i2l, 1) := by decide +kernel
theorem d_Lw_version_7 : decode c_Lw_version 7 = .ok (.lastore, 1) := by decide +kernel
theorem d_Lw_version_8 : decode c_Lw_version 8 = .ok (.goto 6, 3) := by decide +kernel
theorem d_Lw_version_11 : decode c_Lw_version 11 = .ok (.astore_n 2, 1) := by decide +kernel
theorem d_Lw_version_12 : decode c_Lw_version 12 = .ok (.iconst 1, 1) := by decide +kernel
theorem d_Lw_version_13 : decode c_Lw_version 13 = .ok (.ireturn, 1) := by decide +kernel
theorem d_Lw_version_14 : decode c_Lw_version 14 = .ok (.iconst 0, 1) := by decide +kernel
theorem d_Lw_version_15 : decode c_Lw_version 15 = .ok (.ireturn, 1) := by decide +kernel
theorem d_Lw_differs_0 : decode c_Lw_differs 0 = .ok (.aload 4, 2) := by decide +kernel
theorem d_Lw_differs_2 : decode c_Lw_differs 2 = .ok (.iconst 0, 1) := by decide +kernel
theorem d_Lw_differs_3 : decode c_Lw_differs 3 = .ok (.aload_n 0, 1) := by decide +kernel
theorem d_Lw_differs_4 : decode c_Lw_differs 4 = .ok (.iload_n 1, 1) := by decide +kernel
theorem d_Lw_differs_5 : decode c_Lw_differs 5 = .ok (.iload_n 2, 1) := by decide +kernel
theorem d_Lw_differs_6 : decode c_Lw_differs 6 = .ok (.iload_n 3, 1) := by decide +kernel
theorem d_Lw_differs_7 : decode c_Lw_differs 7 = .ok (.invokevirtual 61, 3) := by decide +kernel
theorem d_Lw_differs_10 : decode c_Lw_differs 10 = .ok (.i2l, 1) := by decide +kernel
theorem d_Lw_differs_11 : decode c_Lw_differs 11 = .ok (.lastore, 1) := by decide +kernel
theorem d_Lw_differs_12 : decode c_Lw_differs 12 = .ok (.goto 7, 3) := by decide +kernel
theorem d_Lw_differs_15 : decode c_Lw_differs 15 = .ok (.astore 5, 2) := by decide +kernel
theorem d_Lw_differs_17 : decode c_Lw_differs 17 = .ok (.iconst 1, 1) := by decide +kernel
theorem d_Lw_differs_18 : decode c_Lw_differs 18 = .ok (.ireturn, 1) := by decide +kernel
theorem d_Lw_differs_19 : decode c_Lw_differs 19 = .ok (.iconst 0, 1) := by decide +kernel
theorem d_Lw_differs_20 : decode c_Lw_differs 20 = .ok (.ireturn, 1) := by decide +kernel
theorem d_Lw_count_0 : decode c_Lw_count 0 = .ok (.aload_n 2, 1) := by decide +kernel
theorem d_Lw_count_1 : decode c_Lw_count 1 = .ok (.iconst 0, 1) := by decide +kernel
theorem d_Lw_count_2 : decode c_Lw_count 2 = .ok (.aload_n 0, 1) := by decide +kernel
theorem d_Lw_count_3 : decode c_Lw_count 3 = .ok (.iload_n 1, 1) := by decide +kernel
theorem d_Lw_count_4 : decode c_Lw_count 4 = .ok (.invokevirtual 64, 3) := by decide +kernel
theorem d_Lw_count_7 : decode c_Lw_count 7 = .ok (.i2l, 1) := by decide +kernel
theorem d_Lw_count_8 : decode c_Lw_count 8 = .ok (.lastore, 1) := by decide +kernel
theorem d_Lw_count_9 : decode c_Lw_count 9 = .ok (.goto 6, 3) := by decide +kernel
theorem d_Lw_count_12 : decode c_Lw_count 12 = .ok (.astore_n 3, 1) := by decide +kernel
theorem d_Lw_count_13 : decode c_Lw_count 13 = .ok (.iconst 1, 1) := by decide +kernel
theorem d_Lw_count_14 : decode c_Lw_count 14 = .ok (.ireturn, 1) := by decide +kernel
theorem d_Lw_count_15 : decode c_Lw_count 15 = .ok (.iconst 0, 1) := by decide +kernel
theorem d_Lw_count_16 : decode c_Lw_count 16 = .ok (.ireturn, 1) := by decide +kernel
end
section
theorem d_Long_bitCount_0 : decode c_Long_bitCount 0 = .ok (.lload_n 0, 1) := by decide +kernel
theorem d_Long_bitCount_1 : decode c_Long_bitCount 1 = .ok (.lload_n 0, 1) := by decide +kernel
theorem d_Long_bitCount_2 : decode c_Long_bitCount 2 = .ok (.iconst 1, 1) := by decide +kernel
theorem d_Long_bitCount_3 : decode c_Long_bitCount 3 = .ok (.lushr, 1) := by decide +kernel
theorem d_Long_bitCount_4 : decode c_Long_bitCount 4 = .ok (.ldc2_w 314, 3) := by decide +kernel
theorem d_Long_bitCount_7 : decode c_Long_bitCount 7 = .ok (.land, 1) := by decide +kernel
theorem d_Long_bitCount_8 : decode c_Long_bitCount 8 = .ok (.lsub, 1) := by decide +kernel
theorem d_Long_bitCount_9 : decode c_Long_bitCount 9 = .ok (.lstore_n 0, 1) := by decide +kernel
theorem d_Long_bitCount_10 : decode c_Long_bitCount 10 = .ok (.lload_n 0, 1) := by decide +kernel
theorem d_Long_bitCount_11 : decode c_Long_bitCount 11 = .ok (.ldc2_w 316, 3) := by decide +kernel
theorem d_Long_bitCount_14 : decode c_Long_bitCount 14 = .ok (.land, 1) := by decide +kernel
theorem d_Long_bitCount_15 : decode c_Long_bitCount 15 = .ok (.lload_n 0, 1) := by decide +kernel
theorem d_Long_bitCount_16 : decode c_Long_bitCount 16 = .ok (.iconst 2, 1) := by decide +kernel
theorem d_Long_bitCount_17 : decode c_Long_bitCount 17 = .ok (.lushr, 1) := by decide +kernel
theorem d_Long_bitCount_18 : decode c_Long_bitCount 18 = .ok (.ldc2_w 316, 3) := by decide +kernel
theorem d_Long_bitCount_21 : decode c_Long_bitCount 21 = .ok (.land, 1) := by decide +kernel
theorem d_Long_bitCount_22 : decode c_Long_bitCount 22 = .ok (.ladd, 1) := by decide +kernel
theorem d_Long_bitCount_23 : decode c_Long_bitCount 23 = .ok (.lstore_n 0, 1) := by decide +kernel
theorem d_Long_bitCount_24 : decode c_Long_bitCount 24 = .ok (.lload_n 0, 1) := by decide +kernel
theorem d_Long_bitCount_25 : decode c_Long_bitCount 25 = .ok (.lload_n 0, 1) := by decide +kernel
theorem d_Long_bitCount_26 : decode c_Long_bitCount 26 = .ok (.iconst 4, 1) := by decide +kernel
theorem d_Long_bitCount_27 : decode c_Long_bitCount 27 = .ok (.lushr, 1) := by decide +kernel
theorem d_Long_bitCount_28 : decode c_Long_bitCount 28 = .ok (.ladd, 1) := by decide +kernel
theorem d_Long_bitCount_29 : decode c_Long_bitCount 29 = .ok (.ldc2_w 318, 3) := by decide +kernel
theorem d_Long_bitCount_32 : decode c_Long_bitCount 32 = .ok (.land, 1) := by decide +kernel
theorem d_Long_bitCount_33 : decode c_Long_bitCount 33 = .ok (.lstore_n 0, 1) := by decide +kernel
theorem d_Long_bitCount_34 : decode c_Long_bitCount 34 = .ok (.lload_n 0, 1) := by decide +kernel
theorem d_Long_bitCount_35 : decode c_Long_bitCount 35 = .ok (.lload_n 0, 1) := by decide +kernel
theorem d_Long_bitCount_36 : decode c_Long_bitCount 36 = .ok (.bipush 8, 2) := by decide +kernel
theorem d_Long_bitCount_38 : decode c_Long_bitCount 38 = .ok (.lushr, 1) := by decide +kernel
theorem d_Long_bitCount_39 : decode c_Long_bitCount 39 = .ok (.ladd, 1) := by decide +kernel
theorem d_Long_bitCount_40 : decode c_Long_bitCount 40 = .ok (.lstore_n 0, 1) := by decide +kernel
theorem d_Long_bitCount_41 : decode c_Long_bitCount 41 = .ok (.lload_n 0, 1) := by decide +kernel
theorem d_Long_bitCount_42 : decode c_Long_bitCount 42 = .ok (.lload_n 0, 1) := by decide +kernel
theorem d_Long_bitCount_43 : decode c_Long_bitCount 43 = .ok (.bipush 16, 2) := by decide +kernel
theorem d_Long_bitCount_45 : decode c_Long_bitCount 45 = .ok (.lushr, 1) := by decide +kernel
theorem d_Long_bitCount_46 : decode c_Long_bitCount 46 = .ok (.ladd, 1) := by decide +kernel
theorem d_Long_bitCount_47 : decode c_Long_bitCount 47 = .ok (.lstore_n 0, 1) := by decide +kernel
theorem d_Long_bitCount_48 : decode c_Long_bitCount 48 = .ok (.lload_n 0, 1) := by decide +kernel
theorem d_Long_bitCount_49 : decode c_Long_bitCount 49 = .ok (.lload_n 0, 1) := by decide +kernel
theorem d_Long_bitCount_50 : decode c_Long_bitCount 50 = .ok (.bipush 32, 2) := by decide +kernel
theorem d_Long_bitCount_52 : decode c_Long_bitCount 52 = .ok (.lushr, 1) := by decide +kernel
theorem d_Long_bitCount_53 : decode c_Long_bitCount 53 = .ok (.ladd, 1) := by decide +kernel
theorem d_Long_bitCount_54 : decode c_Long_bitCount 54 = .ok (.lstore_n 0, 1) := by decide +kernel
theorem d_Long_bitCount_55 : decode c_Long_bitCount 55 = .ok (.lload_n 0, 1) := by decide +kernel
theorem d_Long_bitCount_56 : decode c_Long_bitCount 56 = .ok (.l2i, 1) := by decide +kernel
theorem d_Long_bitCount_57 : decode c_Long_bitCount 57 = .ok (.bipush 127, 2) := by decide +kernel
theorem d_Long_bitCount_59 : decode c_Long_bitCount 59 = .ok (.iand, 1) := by decide +kernel
theorem d_Long_bitCount_60 : decode c_Long_bitCount 60 = .ok (.ireturn, 1) := by decide +kernel
end
section
/-! graphs on numbers, by a Bool; walks of a length; what is over what -/
def gw (E : Nat → Nat → Bool) : Nat → Nat → Nat → Prop
  | 0, x, y => x = y
  | k + 1, x, y => ∃ z, E x z = true ∧ gw E k z y
def gov (E : Nat → Nat → Bool) (x y : Nat) : Prop := ∃ k, gw E (k + 1) x y
/-- all ends of edges are below N -/
def gin (E : Nat → Nat → Bool) (N : Nat) : Prop := ∀ x y, E x y = true → x < N ∧ y < N
theorem gw_add {E : Nat → Nat → Bool} : ∀ (a b x y z : Nat), gw E a x y → gw E b y z → gw E (a + b) x z
  | 0, b, x, y, z, h1, h2 => by
    have e : x = y := h1
    subst e
    rw [Nat.zero_add]
    exact h2
  | a + 1, b, x, y, z, h1, h2 => by
    obtain ⟨w, hw, h⟩ := h1
    rw [Nat.add_right_comm]
    exact ⟨w, hw, gw_add a b w y z h h2⟩
theorem gw_split {E : Nat → Nat → Bool} : ∀ (a b x z : Nat), gw E (a + b) x z → ∃ y, gw E a x y ∧ gw E b y z
  | 0, b, x, z, h => ⟨x, rfl, by rw [Nat.zero_add] at h; exact h⟩
  | a + 1, b, x, z, h => by
    rw [Nat.add_right_comm] at h
    obtain ⟨w, hw, h⟩ := h
    obtain ⟨y, h1, h2⟩ := gw_split a b w z h
    exact ⟨y, ⟨w, hw, h1⟩, h2⟩
theorem gw_one {E : Nat → Nat → Bool} {x y : Nat} (h : E x y = true) : gw E 1 x y := ⟨y, h, rfl⟩
theorem gov_one {E : Nat → Nat → Bool} {x y : Nat} (h : E x y = true) : gov E x y := ⟨0, gw_one h⟩
theorem gov_of {E : Nat → Nat → Bool} {k x y : Nat} (h : gw E k x y) (hk : 0 < k) : gov E x y := by
  obtain ⟨j, rfl⟩ : ∃ j, k = j + 1 := ⟨k - 1, by omega⟩
  exact ⟨j, h⟩
theorem gov_trans {E : Nat → Nat → Bool} {x y z : Nat} (h1 : gov E x y) (h2 : gov E y z) : gov E x z := by
  obtain ⟨a, h1⟩ := h1
  obtain ⟨b, h2⟩ := h2
  exact gov_of (gw_add _ _ _ _ _ h1 h2) (by omega)
theorem gov_cases {E : Nat → Nat → Bool} {x y : Nat} (h : gov E x y) : E x y = true ∨ ∃ z, E x z = true ∧ gov E z y := by
  obtain ⟨k, z, hz, h⟩ := h
  cases k with
  | zero =>
    have e : z = y := h
    subst e
    exact Or.inl hz
  | succ k => exact Or.inr ⟨z, hz, k, h⟩
theorem gov_map {E E' : Nat → Nat → Bool} {f : Nat → Nat} (h : ∀ x y, E x y = true → gov E' (f x) (f y)) : ∀ (k x y : Nat), gw E (k + 1) x y → gov E' (f x) (f y)
  | 0, x, y, ⟨z, hz, e⟩ => by
    have e : z = y := e
    subst e
    exact h _ _ hz
  | k + 1, x, y, ⟨z, hz, r⟩ => gov_trans (h _ _ hz) (gov_map h k z y r)
theorem gov_lt {E : Nat → Nat → Bool} {N x y : Nat} (hN : gin E N) (h : gov E x y) : x < N ∧ y < N := by
  obtain ⟨k, h⟩ := h
  refine ⟨?_, ?_⟩
  · obtain ⟨z, hz, -⟩ := h
    exact (hN _ _ hz).1
  · obtain ⟨z, -, h2⟩ := gw_split k 1 x y h
    obtain ⟨w, hw, e⟩ := h2
    have e : w = y := e
    subst e
    exact (hN _ _ hw).2
/-- a set that holds an edge and what lies behind is closed -/
theorem gov_into {E : Nat → Nat → Bool} {T : Nat → Nat → Prop} (h1 : ∀ x y, E x y = true → T x y) (h2 : ∀ x y z, T x y → T y z → T x z) : ∀ (k x y : Nat), gw E (k + 1) x y → T x y
  | 0, x, y, ⟨z, hz, e⟩ => by
    have e : z = y := e
    subst e
    exact h1 _ _ hz
  | k + 1, x, y, ⟨z, hz, r⟩ => h2 _ _ _ (h1 _ _ hz) (gov_into h1 h2 k z y r)
/-! the closure, stage by stage -/
def gwar (E : Nat → Nat → Bool) : Nat → Nat → Nat → Bool
  | 0, x, y => E x y
  | z + 1, x, y => gwar E z x y || (gwar E z x z && gwar E z z y)
theorem gwar_mono {E : Nat → Nat → Bool} {z x y : Nat} (h : gwar E z x y = true) : gwar E (z + 1) x y = true := by
  simp [gwar, h]
theorem gwar_le {E : Nat → Nat → Bool} {x y : Nat} (h : E x y = true) : ∀ z, gwar E z x y = true
  | 0 => h
  | z + 1 => gwar_mono (gwar_le h z)
theorem gwar_gov {E : Nat → Nat → Bool} : ∀ (z x y : Nat), gwar E z x y = true → gov E x y
  | 0, x, y, h => gov_one h
  | z + 1, x, y, h => by
    simp only [gwar, Bool.or_eq_true, Bool.and_eq_true] at h
    rcases h with h | ⟨h1, h2⟩
    · exact gwar_gov z x y h
    · exact gov_trans (gwar_gov z x z h1) (gwar_gov z z y h2)
theorem gwar_row {E : Nat → Nat → Bool} {z y : Nat} (h : gwar E (z + 1) z y = true) : gwar E z z y = true := by
  simp only [gwar, Bool.or_eq_true, Bool.and_eq_true] at h
  rcases h with h | ⟨-, h⟩
  · exact h
  · exact h
theorem gwar_col {E : Nat → Nat → Bool} {z x : Nat} (h : gwar E (z + 1) x z = true) : gwar E z x z = true := by
  simp only [gwar, Bool.or_eq_true, Bool.and_eq_true] at h
  rcases h with h | ⟨h, -⟩
  · exact h
  · exact h
theorem gwar_via {E : Nat → Nat → Bool} {z x y : Nat} (h1 : gwar E z x z = true) (h2 : gwar E z z y = true) : gwar E (z + 1) x y = true := by
  simp [gwar, h1, h2]
theorem gwar_trans {E : Nat → Nat → Bool} : ∀ (z m x y : Nat), m < z → gwar E z x m = true → gwar E z m y = true → gwar E z x y = true
  | 0, m, x, y, h, _, _ => absurd h (Nat.not_lt_zero _)
  | z + 1, m, x, y, h, h1, h2 => by
    rcases Nat.lt_or_ge m z with hm | hm
    · simp only [gwar, Bool.or_eq_true, Bool.and_eq_true] at h1 h2
      rcases h1 with h1 | ⟨h1, h1'⟩ <;> rcases h2 with h2 | ⟨h2, h2'⟩
      · exact gwar_mono (gwar_trans z m x y hm h1 h2)
      · exact gwar_via (gwar_trans z m x z hm h1 h2) h2'
      · exact gwar_via h1 (gwar_trans z m z y hm h1' h2)
      · exact gwar_via h1 h2'
    · have e : m = z := by omega
      subst e
      exact gwar_via (gwar_col h1) (gwar_row h2)
theorem gwar_of {E : Nat → Nat → Bool} {N : Nat} (hN : gin E N) : ∀ (k x y : Nat), gw E (k + 1) x y → gwar E N x y = true
  | 0, x, y, ⟨z, hz, e⟩ => by
    have e : z = y := e
    subst e
    exact gwar_le hz N
  | k + 1, x, y, ⟨z, hz, r⟩ => gwar_trans N z x y (hN _ _ hz).2 (gwar_le hz N) (gwar_of hN k z y r)
theorem gwar_iff {E : Nat → Nat → Bool} {N : Nat} (hN : gin E N) (x y : Nat) : gwar E N x y = true ↔ gov E x y :=
  ⟨gwar_gov N x y, fun ⟨k, h⟩ => gwar_of hN k x y h⟩
/-- stages beyond the last vertex change nothing -/
theorem gwar_far {E : Nat → Nat → Bool} {N : Nat} (hN : gin E N) (j x y : Nat) : gwar E (N + j) x y = gwar E N x y := by
  rw [Bool.eq_iff_iff, gwar_iff hN, gwar_iff (N := N + j) (fun a b h => ⟨by have := (hN a b h).1; omega, by have := (hN a b h).2; omega⟩)]
theorem gwar_ext {E F : Nat → Nat → Bool} (h : ∀ x y, E x y = F x y) : ∀ (z x y : Nat), gwar E z x y = gwar F z x y
  | 0, x, y => h x y
  | z + 1, x, y => by simp only [gwar, gwar_ext h z]
/-! no more than N different numbers below N -/
theorem pig : ∀ (N d : Nat) (f : Nat → Nat), (∀ i, i < d → f i < N) → (∀ i j, i < d → j < d → f i = f j → i = j) → d ≤ N
  | 0, d, f, h, _ => by
    rcases Nat.eq_zero_or_pos d with e | e
    · omega
    · exact absurd (h 0 e) (Nat.not_lt_zero _)
  | N + 1, d, f, h, hi => by
    rcases Nat.eq_zero_or_pos d with e | e
    · omega
    · have key := pig N (d - 1) (fun i => if f i = N then f (d - 1) else f i) (fun i hd => by
        show (if f i = N then f (d - 1) else f i) < N
        by_cases hf : f i = N
        · rw [if_pos hf]
          have h1 := h (d - 1) (by omega)
          have h2 : f (d - 1) ≠ N := fun q => by
            have := hi i (d - 1) (by omega) (by omega) (hf.trans q.symm)
            omega
          omega
        · rw [if_neg hf]
          have h1 := h i (by omega)
          omega) (fun i j hdi hdj hx => by
        have hx : (if f i = N then f (d - 1) else f i) = (if f j = N then f (d - 1) else f j) := hx
        by_cases hf : f i = N <;> by_cases hg : f j = N
        · exact hi i j (by omega) (by omega) (hf.trans hg.symm)
        · rw [if_pos hf, if_neg hg] at hx
          have := hi (d - 1) j (by omega) (by omega) hx
          omega
        · rw [if_neg hf, if_pos hg] at hx
          have := hi i (d - 1) (by omega) (by omega) hx
          omega
        · rw [if_neg hf, if_neg hg] at hx
          exact hi i j (by omega) (by omega) hx)
      omega
/-! the least number with a property -/
theorem least_of {P : Nat → Prop} {k : Nat} (h : P k) : ∃ j, j ≤ k ∧ P j ∧ ∀ i, i < j → ¬ P i := by
  induction k using Nat.strongRecOn with
  | ind k ih =>
    by_cases hx : ∃ i, i < k ∧ P i
    · obtain ⟨i, hi, hp⟩ := hx
      obtain ⟨j, h1, h2, h3⟩ := ih i hi hp
      exact ⟨j, by omega, h2, h3⟩
    · exact ⟨k, Nat.le_refl k, h, fun i hi hp => hx ⟨i, hi, hp⟩⟩
/-! distances: of at least one step (gD), of any number of steps (gd) -/
def gD (E : Nat → Nat → Bool) (t k x : Nat) : Prop := 0 < k ∧ gw E k x t ∧ ∀ j, 0 < j → j < k → ¬ gw E j x t
def gd (E : Nat → Nat → Bool) (t k x : Nat) : Prop := gw E k x t ∧ ∀ j, j < k → ¬ gw E j x t
theorem gD_of {E : Nat → Nat → Bool} {t k x : Nat} (hk : 0 < k) (h : gw E k x t) : ∃ j, j ≤ k ∧ gD E t j x := by
  obtain ⟨j, h1, h2, h3⟩ := least_of (P := fun j => 0 < j ∧ gw E j x t) ⟨hk, h⟩
  exact ⟨j, h1, h2.1, h2.2, fun i hi hj hw => h3 i hj ⟨hi, hw⟩⟩
theorem gD_uniq {E : Nat → Nat → Bool} {t j k x : Nat} (h1 : gD E t j x) (h2 : gD E t k x) : j = k := by
  rcases Nat.lt_trichotomy j k with h | h | h
  · exact absurd h1.2.1 (h2.2.2 j h1.1 h)
  · exact h
  · exact absurd h2.2.1 (h1.2.2 k h2.1 h)
theorem gD_next {E : Nat → Nat → Bool} {t k x : Nat} (h : gD E t (k + 2) x) : ∃ y, E x y = true ∧ gD E t (k + 1) y := by
  obtain ⟨-, ⟨y, hy, hw⟩, hm⟩ := h
  exact ⟨y, hy, Nat.succ_pos k, hw, fun j h1 h2 h3 => hm (j + 1) (by omega) (by omega) ⟨y, hy, h3⟩⟩
/-- the layer i + 1: above a member of layer i, and in none before -/
theorem gD_layer {E : Nat → Nat → Bool} {t i x : Nat} : gD E t (i + 2) x ↔ (∃ y, E x y = true ∧ gD E t (i + 1) y) ∧ ∀ j, j ≤ i → ¬ gD E t (j + 1) x := by
  constructor
  · intro h
    refine ⟨gD_next h, fun j hj hx => ?_⟩
    have := gD_uniq h hx
    omega
  · rintro ⟨⟨y, hy, hd⟩, hn⟩
    refine ⟨by omega, ⟨y, hy, hd.2.1⟩, fun j h1 h2 hw => ?_⟩
    obtain ⟨j', h3, h4⟩ := gD_of h1 hw
    have h5 := h4.1
    exact hn (j' - 1) (by omega) (by rw [Nat.sub_add_cancel h5]; exact h4)
theorem gD_first {E : Nat → Nat → Bool} {t x : Nat} : gD E t 1 x ↔ E x t = true := by
  constructor
  · rintro ⟨-, ⟨y, hy, e⟩, -⟩
    have e : y = t := e
    subst e
    exact hy
  · intro h
    exact ⟨Nat.one_pos, gw_one h, fun j h1 h2 => by omega⟩
/-- from a place at distance k every smaller distance is met -/
theorem gD_all {E : Nat → Nat → Bool} {t : Nat} : ∀ (k x : Nat), gD E t (k + 1) x → ∀ j, j ≤ k → ∃ y, gD E t (j + 1) y
  | 0, x, h, j, hj => ⟨x, by have e : j = 0 := by omega
                             subst e; exact h⟩
  | k + 1, x, h, j, hj => by
    rcases Nat.lt_or_ge k j with hl | hl
    · have e : j = k + 1 := by omega
      subst e
      exact ⟨x, h⟩
    · obtain ⟨y, -, hy⟩ := gD_next h
      exact gD_all k y hy j hl
theorem gD_lt {E : Nat → Nat → Bool} {N t k x : Nat} (hN : gin E N) (h : gD E t k x) : x < N := (gov_lt hN (gov_of h.2.1 h.1)).1
theorem gD_le {E : Nat → Nat → Bool} {N t k x : Nat} (hN : gin E N) (h : gD E t k x) : k ≤ N := by
  obtain ⟨j, rfl⟩ : ∃ j, k = j + 1 := ⟨k - 1, by have := h.1; omega⟩
  have hall := gD_all j x h
  have hc : ∀ i : Nat, ∃ y, i ≤ j → gD E t (i + 1) y := fun i => by
    by_cases hi : i ≤ j
    · obtain ⟨y, hy⟩ := hall i hi
      exact ⟨y, fun _ => hy⟩
    · exact ⟨0, fun q => absurd q hi⟩
  refine pig N (j + 1) (fun i => Classical.choose (hc i)) (fun i hi => gD_lt hN (Classical.choose_spec (hc i) (by omega))) (fun a b ha hb he => ?_)
  have h1 := Classical.choose_spec (hc a) (by omega)
  have h2 := Classical.choose_spec (hc b) (by omega)
  have he : Classical.choose (hc a) = Classical.choose (hc b) := he
  rw [he] at h1
  have := gD_uniq h1 h2
  omega
/-- a ring from t on, the shortest, and of these the lowest: it is the only one -/
def gring (E : Nat → Nat → Bool) (t len : Nat) (p : Nat → Nat) : Prop := gD E t len t ∧ p 0 = t ∧ ∀ k, k + 1 < len → E (p k) (p (k + 1)) = true ∧ gD E t (len - 1 - k) (p (k + 1)) ∧ ∀ c, c < p (k + 1) → E (p k) c = true → ¬ gD E t (len - 1 - k) c
theorem gring_uniq {E : Nat → Nat → Bool} {t n1 n2 : Nat} {p q : Nat → Nat} (h1 : gring E t n1 p) (h2 : gring E t n2 q) : n1 = n2 ∧ ∀ k, k < n1 → p k = q k := by
  have e := gD_uniq h1.1 h2.1
  subst e
  refine ⟨rfl, fun k => ?_⟩
  induction k with
  | zero => intro _; rw [h1.2.1, h2.2.1]
  | succ k ih =>
    intro hk
    have e := ih (by omega)
    obtain ⟨a1, a2, a3⟩ := h1.2.2 k hk
    obtain ⟨b1, b2, b3⟩ := h2.2.2 k hk
    rw [← e] at b1 b3
    rcases Nat.lt_trichotomy (p (k + 1)) (q (k + 1)) with h | h | h
    · exact absurd a2 (b3 _ h a1)
    · exact h
    · exact absurd b2 (a3 _ h b1)
end
section
/-! an edge more -/
def gadd (E : Nat → Nat → Bool) (x y a b : Nat) : Bool := E a b || (decide (a = x) && decide (b = y))
theorem gadd_or {E : Nat → Nat → Bool} {x y a b : Nat} (h : gadd E x y a b = true) : E a b = true ∨ (a = x ∧ b = y) := by
  simp only [gadd, Bool.or_eq_true, Bool.and_eq_true, decide_eq_true_eq] at h
  exact h
theorem gadd_l {E : Nat → Nat → Bool} {x y a b : Nat} (h : E a b = true) : gadd E x y a b = true := by
  simp [gadd, h]
theorem gadd_r {E : Nat → Nat → Bool} {x y : Nat} : gadd E x y x y = true := by
  simp [gadd]
theorem gw_mono {E F : Nat → Nat → Bool} (h : ∀ a b, E a b = true → F a b = true) : ∀ (k x y : Nat), gw E k x y → gw F k x y
  | 0, x, y, e => e
  | k + 1, x, y, ⟨z, hz, r⟩ => ⟨z, h _ _ hz, gw_mono h k z y r⟩
theorem gadd_w {E : Nat → Nat → Bool} {x y : Nat} (k a b : Nat) (h : gw E k a b) : gw (gadd E x y) k a b := gw_mono (fun _ _ h => gadd_l h) k a b h
/-- the first coming to x needs the old edges alone -/
theorem gadd_come {E : Nat → Nat → Bool} {x y : Nat} : ∀ (j c : Nat), c ≠ x → gw (gadd E x y) j c x → ∃ i, i ≤ j ∧ gw E i c x
  | 0, c, hc, h => absurd h hc
  | j + 1, c, hc, ⟨z, hz, r⟩ => by
    rcases gadd_or hz with h | ⟨h, -⟩
    · by_cases hx : z = x
      · subst hx
        exact ⟨1, by omega, gw_one h⟩
      · obtain ⟨i, h1, h2⟩ := gadd_come j z hx r
        exact ⟨i + 1, by omega, z, h, h2⟩
    · exact absurd h hc
theorem gd_pos {E : Nat → Nat → Bool} {t k x : Nat} (hx : x ≠ t) (h : gw E k x t) : 0 < k := by
  rcases Nat.eq_zero_or_pos k with e | e
  · subst e
    exact absurd h hx
  · exact e
theorem gD_gd {E : Nat → Nat → Bool} {t k x : Nat} (hx : x ≠ t) : gD E t k x ↔ gd E t k x := by
  constructor
  · rintro ⟨h1, h2, h3⟩
    exact ⟨h2, fun j hj hw => h3 j (gd_pos hx hw) hj hw⟩
  · rintro ⟨h1, h2⟩
    exact ⟨gd_pos hx h1, h1, fun j _ hj hw => h2 j hj hw⟩
theorem gd_uniq {E : Nat → Nat → Bool} {t j k x : Nat} (h1 : gd E t j x) (h2 : gd E t k x) : j = k := by
  rcases Nat.lt_trichotomy j k with h | h | h
  · exact absurd h1.1 (h2.2 j h)
  · exact h
  · exact absurd h2.1 (h1.2 k h)
theorem gadd_D {E : Nat → Nat → Bool} {x y c k : Nat} (hc : c ≠ x) : gD (gadd E x y) x k c ↔ gd E x k c := by
  rw [gD_gd hc]
  constructor
  · rintro ⟨h1, h2⟩
    obtain ⟨i, h3, h4⟩ := gadd_come k c hc h1
    have e : i = k := by
      rcases Nat.lt_or_ge i k with q | q
      · exact absurd (gadd_w i c x h4) (h2 i q)
      · omega
    subst e
    exact ⟨h4, fun j hj hw => h2 j hj (gadd_w j c x hw)⟩
  · rintro ⟨h1, h2⟩
    refine ⟨gadd_w k c x h1, fun j hj hw => ?_⟩
    obtain ⟨i, h3, h4⟩ := gadd_come j c hc hw
    exact h2 i (by omega) h4
theorem gadd_self {E : Nat → Nat → Bool} {x y d : Nat} (hac : ¬ gov E x x) (hxy : y ≠ x) (hd : gd E x d y) : gD (gadd E x y) x (d + 1) x := by
  refine ⟨Nat.succ_pos d, ⟨y, gadd_r, gadd_w d y x hd.1⟩, fun j h1 h2 hw => ?_⟩
  obtain ⟨i, rfl⟩ : ∃ i, j = i + 1 := ⟨j - 1, by omega⟩
  obtain ⟨z, hz, r⟩ := hw
  rcases gadd_or hz with h | ⟨-, h⟩
  · by_cases hx : z = x
    · subst hx
      exact hac (gov_one h)
    · obtain ⟨i', -, h4⟩ := gadd_come i z hx r
      exact hac (gov_trans (gov_one h) (gov_of h4 (gd_pos hx h4)))
  · subst h
    obtain ⟨i', h3, h4⟩ := gadd_come i z hxy r
    exact hd.2 i' (by omega) h4
/-- the ring that an edge x over y would close: x, then the lowest shortest way from y -/
theorem ring_edge {E : Nat → Nat → Bool} {x y d : Nat} {q : Nat → Nat} (hac : ¬ gov E x x) (hxy : y ≠ x) (hd : gd E x d y) (h0 : q 0 = x) (h1 : q 1 = y)
    (hs : ∀ k, 1 ≤ k → k < d → E (q k) (q (k + 1)) = true ∧ gd E x (d - k) (q (k + 1)) ∧ ∀ c, c < q (k + 1) → E (q k) c = true → ¬ gd E x (d - k) c) : gring (gadd E x y) x (d + 1) q := by
  have hne : ∀ k, 1 ≤ k → k ≤ d → q k ≠ x := by
    intro k hk hkd
    rcases Nat.lt_or_ge 1 k with h | h
    · obtain ⟨j, rfl⟩ : ∃ j, k = j + 1 := ⟨k - 1, by omega⟩
      have h2 := (hs j (by omega) (by omega)).2.1
      intro e
      rw [e] at h2
      exact h2.2 0 (by omega) rfl
    · have e : k = 1 := by omega
      subst e
      rw [h1]
      exact hxy
  refine ⟨gadd_self hac hxy hd, h0, fun k hk => ?_⟩
  have e1 : d + 1 - 1 - k = d - k := by omega
  rw [e1]
  rcases Nat.eq_zero_or_pos k with h | h
  · subst h
    rw [h0, h1, Nat.sub_zero]
    refine ⟨gadd_r, (gadd_D hxy).mpr hd, fun c hc he hD => ?_⟩
    rcases gadd_or he with h | ⟨-, h⟩
    · by_cases hx : c = x
      · subst hx
        exact hac (gov_one h)
      · have h2 := (gadd_D hx).mp hD
        exact hac (gov_trans (gov_one h) (gov_of h2.1 (gd_pos hx h2.1)))
    · omega
  · obtain ⟨a1, a2, a3⟩ := hs k h (by omega)
    refine ⟨gadd_l a1, (gadd_D (hne (k + 1) (by omega) (by omega))).mpr a2, fun c hc he hD => ?_⟩
    rcases gadd_or he with h' | ⟨h', -⟩
    · have hx : c ≠ x := by
        intro e
        subst e
        have h3 := gadd_self hac hxy hd
        have := gD_uniq hD h3
        omega
      exact a3 c hc h' ((gadd_D hx).mp hD)
    · exact absurd h' (hne k h (by omega))
/-! the same for the edge that leads back from the lower one w to the upper one u -/
theorem gback_come {E : Nat → Nat → Bool} {u w : Nat} : ∀ (j c : Nat), ¬ gov E c u → gw (gadd E w u) (j + 1) c u → ∃ i, i ≤ j ∧ gw E i c w
  | j, c, hc, ⟨z, hz, r⟩ => by
    rcases gadd_or hz with h | ⟨h, -⟩
    · cases j with
      | zero =>
        have e : z = u := r
        subst e
        exact absurd (gov_one h) hc
      | succ j =>
        obtain ⟨i, h1, h2⟩ := gback_come j z (fun q => hc (gov_trans (gov_one h) q)) r
        exact ⟨i + 1, by omega, z, h, h2⟩
    · subst h
      exact ⟨0, Nat.zero_le j, rfl⟩
theorem gback_go {E : Nat → Nat → Bool} {u w i c : Nat} (h : gw E i c w) : gw (gadd E w u) (i + 1) c u := gw_add i 1 c w u (gadd_w i c w h) (gw_one gadd_r)
theorem gback_D {E : Nat → Nat → Bool} {u w c k : Nat} (hc : ¬ gov E c u) : gD (gadd E w u) u (k + 1) c ↔ gd E w k c := by
  constructor
  · rintro ⟨-, h1, h2⟩
    obtain ⟨i, h3, h4⟩ := gback_come k c hc h1
    have e : i = k := by
      rcases Nat.lt_or_ge i k with q | q
      · exact absurd (gback_go h4) (h2 (i + 1) (by omega) (by omega))
      · omega
    subst e
    exact ⟨h4, fun j hj hw => h2 (j + 1) (by omega) (by omega) (gback_go hw)⟩
  · rintro ⟨h1, h2⟩
    refine ⟨Nat.succ_pos k, gback_go h1, fun j h3 h4 hw => ?_⟩
    obtain ⟨j, rfl⟩ : ∃ i, j = i + 1 := ⟨j - 1, by omega⟩
    obtain ⟨i, h5, h6⟩ := gback_come j c hc hw
    exact h2 i (by omega) h6
theorem ring_back {E : Nat → Nat → Bool} {u w d : Nat} {q : Nat → Nat} (hac : ∀ z, ¬ gov E z z) (hd : gd E w d u) (h0 : q 0 = u)
    (hs : ∀ k, k < d → E (q k) (q (k + 1)) = true ∧ gd E w (d - 1 - k) (q (k + 1)) ∧ ∀ c, c < q (k + 1) → E (q k) c = true → ¬ gd E w (d - 1 - k) c) : gring (gadd E w u) u (d + 1) q := by
  have hun : ∀ k, k ≤ d → q k = u ∨ gov E u (q k) := by
    intro k
    induction k with
    | zero => intro _; exact Or.inl h0
    | succ k ih =>
      intro hk
      have h1 := (hs k (by omega)).1
      rcases ih (by omega) with h | h
      · rw [h] at h1
        exact Or.inr (gov_one h1)
      · exact Or.inr (gov_trans h (gov_one h1))
  have hnot : ∀ k c, k ≤ d → E (q k) c = true → ¬ gov E c u := by
    intro k c hk he hg
    rcases hun k hk with h | h
    · rw [h] at he
      exact hac u (gov_trans (gov_one he) hg)
    · exact hac u (gov_trans h (gov_trans (gov_one he) hg))
  have hfar : ∀ k, k ≤ d → gd E w (d - k) (q k) := by
    intro k hk
    cases k with
    | zero => rw [h0]; exact hd
    | succ k =>
      have h1 := (hs k (by omega)).2.1
      have e : d - (k + 1) = d - 1 - k := by omega
      rw [e]
      exact h1
  refine ⟨(gback_D (hac u)).mpr hd, h0, fun k hk => ?_⟩
  obtain ⟨a1, a2, a3⟩ := hs k (by omega)
  have e1 : d + 1 - 1 - k = d - 1 - k + 1 := by omega
  rw [e1]
  refine ⟨gadd_l a1, (gback_D (hnot k _ (by omega) a1)).mpr a2, fun c hc he hD => ?_⟩
  rcases gadd_or he with h | ⟨h, -⟩
  · exact a3 c hc h ((gback_D (hnot k _ (by omega) h)).mp hD)
  · have h2 := hfar k (by omega)
    rw [h] at h2
    exact h2.2 0 (by omega) rfl
/-- the ring from t on, by distances to t; nothing is added -/
theorem ring_plain {E : Nat → Nat → Bool} {t d : Nat} {q : Nat → Nat} (hg : ∃ g, E t g = true ∧ gd E t d g) (hmin : ∀ g j, E t g = true → gw E j g t → d ≤ j) (h0 : q 0 = t)
    (hs : ∀ k, k < d → E (q k) (q (k + 1)) = true ∧ gd E t (d - k) (q (k + 1)) ∧ ∀ c, c < q (k + 1) → E (q k) c = true → ¬ gd E t (d - k) c) : gring E t (d + 1) q := by
  obtain ⟨g, hg1, hg2⟩ := hg
  have hself : gD E t (d + 1) t := by
    refine ⟨Nat.succ_pos d, ⟨g, hg1, hg2.1⟩, fun j h1 h2 hw => ?_⟩
    obtain ⟨j, rfl⟩ : ∃ i, j = i + 1 := ⟨j - 1, by omega⟩
    obtain ⟨z, hz, r⟩ := hw
    have := hmin z j hz r
    omega
  refine ⟨hself, h0, fun k hk => ?_⟩
  obtain ⟨a1, a2, a3⟩ := hs k (by omega)
  have e1 : d + 1 - 1 - k = d - k := by omega
  rw [e1]
  have hne : q (k + 1) ≠ t := by
    intro e
    rw [e] at a2
    exact a2.2 0 (by omega) rfl
  refine ⟨a1, (gD_gd hne).mpr a2, fun c hc he hD => ?_⟩
  by_cases hx : c = t
  · subst hx
    have := gD_uniq hD hself
    omega
  · exact a3 c hc he ((gD_gd hx).mp hD)
/-! distances by the numbers that relaxing ends with -/
def gfar (E : Nat → Nat → Bool) (t N : Nat) (far : Nat → Nat) : Prop := far t = 0 ∧ (∀ x, x < N → far x ≤ 99 ∧ (far x < 99 → gw E (far x) x t)) ∧ ∀ x y, E x y = true → far x ≤ far y + 1
theorem gfar_le {E : Nat → Nat → Bool} {t N : Nat} {far : Nat → Nat} (h : gfar E t N far) : ∀ (k x : Nat), gw E k x t → far x ≤ k
  | 0, x, e => by
    have e : x = t := e
    subst e
    have := h.1
    omega
  | k + 1, x, ⟨z, hz, r⟩ => by
    have h1 := gfar_le h k z r
    have h2 := h.2.2 x z hz
    omega
theorem gfar_gd {E : Nat → Nat → Bool} {t N x k : Nat} {far : Nat → Nat} (h : gfar E t N far) (hx : x < N) (hk : k < 99) : far x = k ↔ gd E t k x := by
  constructor
  · intro e
    subst e
    refine ⟨(h.2.1 x hx).2 hk, fun j hj hw => ?_⟩
    have := gfar_le h j x hw
    omega
  · intro hd
    have h1 := gfar_le h k x hd.1
    have h2 := (h.2.1 x hx).2 (by omega)
    rcases Nat.lt_or_ge (far x) k with q | q
    · exact absurd h2 (hd.2 _ q)
    · omega
theorem gd_of {E : Nat → Nat → Bool} {t k x : Nat} (h : gw E k x t) : ∃ j, j ≤ k ∧ gd E t j x := by
  obtain ⟨j, h1, h2, h3⟩ := least_of (P := fun j => gw E j x t) h
  exact ⟨j, h1, h2, h3⟩
theorem gd_le {E : Nat → Nat → Bool} {N t k x : Nat} (hN : gin E N) (h : gd E t k x) : k ≤ N := by
  by_cases hx : x = t
  · subst hx
    rcases Nat.eq_zero_or_pos k with e | e
    · omega
    · exact absurd rfl (h.2 0 e)
  · exact gD_le hN ((gD_gd hx).mpr h)
theorem gd_next {E : Nat → Nat → Bool} {t k x : Nat} (h : gd E t (k + 1) x) : ∃ y, E x y = true ∧ gd E t k y := by
  obtain ⟨⟨y, hy, hw⟩, hm⟩ := h
  exact ⟨y, hy, hw, fun j h2 h3 => hm (j + 1) (by omega) ⟨y, hy, h3⟩⟩
/-! the longest way down to a place -/
def glong (E : Nat → Nat → Bool) (t m : Nat) : Prop := (∃ z, gw E m z t) ∧ ∀ k z, gw E k z t → k ≤ m
theorem glong_uniq {E : Nat → Nat → Bool} {t a b : Nat} (h1 : glong E t a) (h2 : glong E t b) : a = b := by
  obtain ⟨⟨x, hx⟩, h1⟩ := h1
  obtain ⟨⟨y, hy⟩, h2⟩ := h2
  have := h1 _ _ hy
  have := h2 _ _ hx
  omega
theorem gw_places {E : Nat → Nat → Bool} : ∀ (k x y : Nat), gw E k x y → ∃ f : Nat → Nat, f 0 = x ∧ f k = y ∧ ∀ i, i < k → E (f i) (f (i + 1)) = true
  | 0, x, y, e => ⟨fun _ => x, rfl, e, fun i hi => absurd hi (Nat.not_lt_zero _)⟩
  | k + 1, x, y, ⟨z, hz, r⟩ => by
    obtain ⟨f, h1, h2, h3⟩ := gw_places k z y r
    refine ⟨fun i => match i with
      | 0 => x
      | i + 1 => f i, rfl, h2, fun i hi => ?_⟩
    cases i with
    | zero =>
      show E x (f 0) = true
      rw [h1]
      exact hz
    | succ i => exact h3 i (by omega)
theorem gw_seg {E : Nat → Nat → Bool} {f : Nat → Nat} {k : Nat} (h : ∀ i, i < k → E (f i) (f (i + 1)) = true) : ∀ (d i : Nat), i + d ≤ k → gw E d (f i) (f (i + d))
  | 0, i, _ => rfl
  | d + 1, i, hi => by
    refine ⟨f (i + 1), h i (by omega), ?_⟩
    have h1 := gw_seg h d (i + 1) (by omega)
    rw [show i + (d + 1) = i + 1 + d by omega]
    exact h1
theorem gw_short {E : Nat → Nat → Bool} {N k x y : Nat} (hN : gin E N) (hac : ∀ z, ¬ gov E z z) (hk : 0 < k) (h : gw E k x y) : k < N := by
  obtain ⟨f, h1, h2, h3⟩ := gw_places k x y h
  refine pig N (k + 1) f (fun i hi => ?_) (fun a b ha hb he => ?_)
  · rcases Nat.lt_or_ge i k with q | q
    · exact (hN _ _ (h3 i q)).1
    · obtain ⟨j, rfl⟩ : ∃ j, i = j + 1 := ⟨i - 1, by omega⟩
      exact (hN _ _ (h3 j (by omega))).2
  · rcases Nat.lt_trichotomy a b with q | q | q
    · have hw := gw_seg h3 (b - a) a (by omega)
      rw [show a + (b - a) = b by omega, ← he] at hw
      exact absurd (gov_of hw (by omega)) (hac _)
    · exact q
    · have hw := gw_seg h3 (a - b) b (by omega)
      rw [show b + (a - b) = a by omega, he] at hw
      exact absurd (gov_of hw (by omega)) (hac _)
/-- by the numbers that relaxing downwards ends with -/
theorem glong_far {E : Nat → Nat → Bool} {N : Nat} {far : Nat → Nat} (hw : ∀ x, x < N → ∃ z, gw E (far x) z x) (he : ∀ x y, E x y = true → far x + 1 ≤ far y) {t : Nat} (ht : t < N) : glong E t (far t) := by
  refine ⟨hw t ht, ?_⟩
  have key : ∀ (k z y : Nat), gw E k z y → far z + k ≤ far y := by
    intro k
    induction k with
    | zero =>
      intro z y e
      have e : z = y := e
      subst e
      omega
    | succ k ih =>
      rintro z y ⟨w, hz, r⟩
      have h1 := ih w y r
      have h2 := he z w hz
      omega
  intro k z h
  have := key k z t h
  omega
/-- by rounds: after i rounds those are left that have a way of more than i steps down to t -/
theorem glong_rounds {E : Nat → Nat → Bool} {t c : Nat} (h0 : ∀ z k, c < k → ¬ gw E k z t) (h1 : 0 < c → ∃ z k, c ≤ k ∧ gw E k z t) : glong E t c := by
  have hle : ∀ k z, gw E k z t → k ≤ c := by
    intro k z h
    rcases Nat.lt_or_ge c k with q | q
    · exact absurd h (h0 z k q)
    · exact q
  refine ⟨?_, hle⟩
  rcases Nat.eq_zero_or_pos c with e | e
  · subst e
    exact ⟨t, rfl⟩
  · obtain ⟨z, k, h2, h3⟩ := h1 e
    have := hle k z h3
    have e : k = c := by omega
    subst e
    exact ⟨z, h3⟩
end
section
/-! what was told: a r, b r the two contexts of relation r; eq r: it counts and says that they are one; ab r: it counts and says that a r is above b r -/
def jnum (a b : Nat → Nat) (eq : Nat → Bool) : Nat → Nat → Nat
  | 0, c => c
  | r + 1, c => if eq r = true ∧ jnum a b eq r c = max (jnum a b eq r (a r)) (jnum a b eq r (b r)) then min (jnum a b eq r (a r)) (jnum a b eq r (b r)) else jnum a b eq r c
def jfix (a b : Nat → Nat) (eq : Nat → Bool) (R : Nat) (f : Nat → Nat) : Prop := ∀ r, r < R → eq r = true → f (a r) = f (b r)
def jok (a b : Nat → Nat) (eq : Nat → Bool) (R : Nat) (m : Nat → Nat) : Prop := jfix a b eq R m ∧ ∀ c, m c ≤ c ∧ ∀ f, jfix a b eq R f → f (m c) = f c
theorem jok_uniq {a b : Nat → Nat} {eq : Nat → Bool} {R : Nat} {m n : Nat → Nat} (h1 : jok a b eq R m) (h2 : jok a b eq R n) (c : Nat) : m c = n c := by
  have e1 := (h1.2 c).2 n h2.1
  have e2 := (h2.2 c).2 m h1.1
  have l1 := (h1.2 (n c)).1
  have l2 := (h2.2 (m c)).1
  omega
theorem jnum_ok {a b : Nat → Nat} {eq : Nat → Bool} : ∀ R, jok a b eq R (jnum a b eq R)
  | 0 => ⟨fun r h => absurd h (Nat.not_lt_zero _), fun c => ⟨Nat.le_refl c, fun _ _ => rfl⟩⟩
  | R + 1 => by
    obtain ⟨h1, h2⟩ := jnum_ok (a := a) (b := b) (eq := eq) R
    by_cases he : eq R = true
    · have hd : ∀ c, jnum a b eq (R + 1) c = if jnum a b eq R c = max (jnum a b eq R (a R)) (jnum a b eq R (b R)) then min (jnum a b eq R (a R)) (jnum a b eq R (b R)) else jnum a b eq R c := by
        intro c
        simp only [jnum, he, true_and]
      generalize hm : jnum a b eq R = m at h1 h2 hd
      refine ⟨fun r hr her => ?_, fun c => ⟨?_, fun f hf => ?_⟩⟩
      · rw [hd, hd]
        rcases Nat.lt_or_ge r R with q | q
        · rw [h1 r q her]
        · have e : r = R := by omega
          subst e
          by_cases g1 : m (a r) = max (m (a r)) (m (b r)) <;> by_cases g2 : m (b r) = max (m (a r)) (m (b r))
          · rw [if_pos g1, if_pos g2]
          · rw [if_pos g1, if_neg g2]
            omega
          · rw [if_neg g1, if_pos g2]
            omega
          · omega
      · rw [hd]
        have l := (h2 c).1
        by_cases g1 : m c = max (m (a R)) (m (b R))
        · rw [if_pos g1]
          omega
        · rw [if_neg g1]
          exact l
      · rw [hd]
        have hf' : jfix a b eq R f := fun r hr => hf r (by omega)
        have e1 := (h2 c).2 f hf'
        have e2 := (h2 (a R)).2 f hf'
        have e3 := (h2 (b R)).2 f hf'
        have e4 := hf R (by omega) he
        by_cases g1 : m c = max (m (a R)) (m (b R))
        · rw [if_pos g1]
          rw [← e1, g1]
          rcases Nat.le_total (m (a R)) (m (b R)) with q | q
          · rw [Nat.min_eq_left q, Nat.max_eq_right q, e2, e3, e4]
          · rw [Nat.min_eq_right q, Nat.max_eq_left q, e2, e3, e4]
        · rw [if_neg g1]
          exact e1
    · have hd : ∀ c, jnum a b eq (R + 1) c = jnum a b eq R c := by
        intro c
        simp [jnum, he]
      refine ⟨fun r hr her => ?_, fun c => ⟨?_, fun f hf => ?_⟩⟩
      · rw [hd, hd]
        rcases Nat.lt_or_ge r R with q | q
        · exact h1 r q her
        · have e : r = R := by omega
          subst e
          exact absurd her he
      · rw [hd]
        exact (h2 c).1
      · rw [hd]
        exact (h2 c).2 f (fun r hr => hf r (by omega))
theorem jnum_le {a b : Nat → Nat} {eq : Nat → Bool} (R c : Nat) : jnum a b eq R c ≤ c := ((jnum_ok R).2 c).1
theorem jnum_same {a b : Nat → Nat} {eq : Nat → Bool} {R : Nat} (h : eq R = false) (c : Nat) : jnum a b eq (R + 1) c = jnum a b eq R c := by
  simp [jnum, h]
/-- a joined one's number is its own -/
theorem jnum_idem {a b : Nat → Nat} {eq : Nat → Bool} (R c : Nat) : jnum a b eq R (jnum a b eq R c) = jnum a b eq R c :=
  ((jnum_ok (a := a) (b := b) (eq := eq) R).2 c).2 _ (jnum_ok R).1
theorem jnum_congr {a b a' b' : Nat → Nat} {eq eq' : Nat → Bool} : ∀ (R c : Nat), (∀ r, r < R → a r = a' r ∧ b r = b' r ∧ eq r = eq' r) → jnum a b eq R c = jnum a' b' eq' R c
  | 0, c, _ => rfl
  | R + 1, c, h => by
    obtain ⟨h1, h2, h3⟩ := h R (by omega)
    have ih : ∀ c, jnum a b eq R c = jnum a' b' eq' R c := fun c => jnum_congr R c (fun r hr => h r (by omega))
    simp only [jnum, h1, h2, h3, ih]
/-! the steps between the joined ones -/
def jst (a b m : Nat → Nat) (ab : Nat → Bool) : Nat → Nat → Nat → Bool
  | 0, _, _ => false
  | r + 1, x, y => jst a b m ab r x y || (ab r && decide (m (a r) = x) && decide (m (b r) = y))
theorem jst_iff {a b m : Nat → Nat} {ab : Nat → Bool} : ∀ (R x y : Nat), jst a b m ab R x y = true ↔ ∃ r, r < R ∧ ab r = true ∧ m (a r) = x ∧ m (b r) = y
  | 0, x, y => by
    constructor
    · intro h
      cases h
    · rintro ⟨r, h, -⟩
      exact absurd h (Nat.not_lt_zero _)
  | R + 1, x, y => by
    simp only [jst, Bool.or_eq_true, Bool.and_eq_true, decide_eq_true_eq, jst_iff R x y]
    constructor
    · rintro (⟨r, h1, h2⟩ | ⟨⟨h1, h2⟩, h3⟩)
      · exact ⟨r, by omega, h2⟩
      · exact ⟨R, by omega, h1, h2, h3⟩
    · rintro ⟨r, h1, h2, h3, h4⟩
      rcases Nat.lt_or_ge r R with q | q
      · exact Or.inl ⟨r, q, h2, h3, h4⟩
      · have e : r = R := by omega
        subst e
        exact Or.inr ⟨⟨h2, h3⟩, h4⟩
theorem jst_congr {a b a' b' m m' : Nat → Nat} {ab ab' : Nat → Bool} : ∀ (R x y : Nat), (∀ r, r < R → ab r = ab' r ∧ m (a r) = m' (a' r) ∧ m (b r) = m' (b' r)) → jst a b m ab R x y = jst a' b' m' ab' R x y
  | 0, x, y, _ => rfl
  | R + 1, x, y, h => by
    obtain ⟨h1, h2, h3⟩ := h R (by omega)
    have ih := jst_congr R x y (fun r hr => h r (by omega))
    simp only [jst, h1, h2, h3, ih]
theorem jst_in {a b m : Nat → Nat} {ab : Nat → Bool} {R n N : Nat} (hn : n ≤ N) (hm : ∀ c, m c ≤ c) (hr : ∀ r, r < R → a r < n ∧ b r < n) : gin (jst a b m ab R) N := by
  intro x y h
  obtain ⟨r, h1, -, h3, h4⟩ := (jst_iff R x y).mp h
  have h5 := hr r h1
  have h6 := hm (a r)
  have h7 := hm (b r)
  omega
/-! no rings: kept by an edge, by a joining, by an undoing -/
theorem acyc_edge {E : Nat → Nat → Bool} {x y : Nat} (hac : ∀ z, ¬ gov E z z) (hxy : x ≠ y) (hno : ¬ gov E y x) : ∀ z, ¬ gov (gadd E x y) z z := by
  have key : ∀ (k u v : Nat), gw (gadd E x y) (k + 1) u v → gov E u v ∨ ((u = x ∨ gov E u x) ∧ (v = y ∨ gov E y v)) := by
    apply gov_into
    · intro u v h
      rcases gadd_or h with h | ⟨h1, h2⟩
      · exact Or.inl (gov_one h)
      · exact Or.inr ⟨Or.inl h1, Or.inl h2⟩
    · rintro u v w (h1 | ⟨h1, h1'⟩) (h2 | ⟨h2, h2'⟩)
      · exact Or.inl (gov_trans h1 h2)
      · refine Or.inr ⟨Or.inr ?_, h2'⟩
        rcases h2 with h2 | h2
        · rw [← h2]; exact h1
        · exact gov_trans h1 h2
      · refine Or.inr ⟨h1, Or.inr ?_⟩
        rcases h1' with h1' | h1'
        · rw [← h1']; exact h2
        · exact gov_trans h1' h2
      · exact Or.inr ⟨h1, h2'⟩
  rintro z ⟨k, h⟩
  rcases key k z z h with h | ⟨h1, h2⟩
  · exact hac z h
  · rcases h1 with h1 | h1 <;> rcases h2 with h2 | h2
    · exact hxy (h1.symm.trans h2)
    · rw [h1] at h2
      exact hno h2
    · rw [h2] at h1
      exact hno h1
    · exact hno (gov_trans h2 h1)
/-- f puts y and x into one place, and moves nothing else -/
theorem acyc_join {E E' : Nat → Nat → Bool} {x y : Nat} {f : Nat → Nat} (hac : ∀ z, ¬ gov E z z) (h1 : ¬ gov E x y) (h2 : ¬ gov E y x) (hf : ∀ u v, f u = f v → u = v ∨ (u = x ∧ v = y) ∨ (u = y ∧ v = x)) (he : ∀ u v, E' u v = true → ∃ p q, f p = u ∧ f q = v ∧ E p q = true) : ∀ z, ¬ gov E' z z := by
  have out : ∀ p, (gov E x p ∨ gov E y p) → (gov E p x ∨ gov E p y) → False := by
    rintro p (a | a) (b | b)
    · exact hac x (gov_trans a b)
    · exact h1 (gov_trans a b)
    · exact h2 (gov_trans a b)
    · exact hac y (gov_trans a b)
  have key : ∀ (k u v : Nat), gw E' (k + 1) u v → ∃ p q, f p = u ∧ f q = v ∧ (gov E p q ∨ ((gov E p x ∨ gov E p y) ∧ (gov E x q ∨ gov E y q))) := by
    apply gov_into
    · intro u v h
      obtain ⟨p, q, e1, e2, h⟩ := he u v h
      exact ⟨p, q, e1, e2, Or.inl (gov_one h)⟩
    · rintro u v w ⟨p, q, e1, e2, g1⟩ ⟨p', q', e3, e4, g2⟩
      have hl : (gov E p x ∨ gov E p y) → (gov E x q' ∨ gov E y q') → ∃ p q, f p = u ∧ f q = w ∧ (gov E p q ∨ ((gov E p x ∨ gov E p y) ∧ (gov E x q ∨ gov E y q))) := fun c1 c2 => ⟨p, q', e1, e4, Or.inr ⟨c1, c2⟩⟩
      have left : ∀ z, z = x ∨ z = y → gov E p z → (gov E p x ∨ gov E p y) := by
        rintro z (rfl | rfl) h
        · exact Or.inl h
        · exact Or.inr h
      have right : ∀ z, z = x ∨ z = y → gov E z q' → (gov E x q' ∨ gov E y q') := by
        rintro z (rfl | rfl) h
        · exact Or.inl h
        · exact Or.inr h
      rcases hf q p' (e2.trans e3.symm) with e | e
      · subst e
        rcases g1 with g1 | ⟨g1, g1'⟩ <;> rcases g2 with g2 | ⟨g2, g2'⟩
        · exact ⟨p, q', e1, e4, Or.inl (gov_trans g1 g2)⟩
        · refine hl ?_ g2'
          rcases g2 with g2 | g2
          · exact Or.inl (gov_trans g1 g2)
          · exact Or.inr (gov_trans g1 g2)
        · refine hl g1 ?_
          rcases g1' with g1' | g1'
          · exact Or.inl (gov_trans g1' g2)
          · exact Or.inr (gov_trans g1' g2)
        · exact hl g1 g2'
      · have hq : q = x ∨ q = y := by
          rcases e with e | e
          · exact Or.inl e.1
          · exact Or.inr e.1
        have hp : p' = x ∨ p' = y := by
          rcases e with e | e
          · exact Or.inr e.2
          · exact Or.inl e.2
        rcases g1 with g1 | ⟨g1, g1'⟩ <;> rcases g2 with g2 | ⟨g2, g2'⟩
        · exact hl (left q hq g1) (right p' hp g2)
        · exact hl (left q hq g1) g2'
        · exact hl g1 (right p' hp g2)
        · exact hl g1 g2'
  rintro z ⟨k, h⟩
  obtain ⟨p, q, e1, e2, g⟩ := key k z z h
  rcases hf p q (e1.trans e2.symm) with e | e
  · subst e
    rcases g with g | ⟨g1, g2⟩
    · exact hac p g
    · exact out p g2 g1
  · rcases g with g | ⟨g1, g2⟩
    · rcases e with ⟨e3, e4⟩ | ⟨e3, e4⟩
      · rw [e3, e4] at g
        exact h1 g
      · rw [e3, e4] at g
        exact h2 g
    · rcases e with ⟨e3, e4⟩ | ⟨e3, e4⟩
      · rw [e3] at g1
        rcases g1 with g1 | g1
        · exact hac x g1
        · exact h1 g1
      · rw [e3] at g1
        rcases g1 with g1 | g1
        · exact h2 g1
        · exact hac y g1
theorem acyc_map {E E' : Nat → Nat → Bool} {f : Nat → Nat} (hac : ∀ z, ¬ gov E z z) (he : ∀ u v, E' u v = true → E (f u) (f v) = true) : ∀ z, ¬ gov E' z z := by
  rintro z ⟨k, h⟩
  exact hac _ (gov_map (f := f) (fun u v q => gov_one (he u v q)) k z z h)
end
section
/-! a long as a set of numbers below 64 -/
def lb (w : Int64) (j : Nat) : Bool := w.toBitVec.getLsbD j
theorem lb_ext {x y : Int64} (h : ∀ j, j < 64 → lb x j = lb y j) : x = y := by
  rw [← Int64.toBitVec_inj]
  exact BitVec.eq_of_getLsbD_eq (fun i hi => h i hi)
theorem lb_big {x : Int64} {j : Nat} (h : 64 ≤ j) : lb x j = false := BitVec.getLsbD_of_ge _ _ h
theorem lb_0 (j : Nat) : lb 0 j = false := by
  show (0#64).getLsbD j = false
  simp
theorem lb_and (x y : Int64) (j : Nat) : lb (x &&& y) j = (lb x j && lb y j) := by
  simp only [lb, Int64.toBitVec_and, BitVec.getLsbD_and]
theorem lb_or (x y : Int64) (j : Nat) : lb (x ||| y) j = (lb x j || lb y j) := by
  simp only [lb, Int64.toBitVec_or, BitVec.getLsbD_or]
theorem lb_not (x : Int64) {j : Nat} (hj : j < 64) : lb (x ^^^ (-1)) j = !lb x j := by
  have e : (-1 : Int64).toBitVec = BitVec.allOnes 64 := by decide +kernel
  simp only [lb, Int64.toBitVec_xor, BitVec.getLsbD_xor, e, BitVec.getLsbD_allOnes, hj, decide_true, Bool.xor_true]
theorem lb_pow : ∀ k, k < 64 → ((1 : Int64) <<< ((nI k).toInt64 &&& 63)).toBitVec = BitVec.twoPow 64 k := by decide +kernel
theorem lb_one {k : Nat} (hk : k < 64) (j : Nat) : lb ((1 : Int64) <<< ((nI k).toInt64 &&& 63)) j = decide (j = k) := by
  simp only [lb, lb_pow k hk, BitVec.getLsbD_twoPow, hk, decide_true, Bool.true_and]
  by_cases h : k = j
  · subst h; simp
  · simp [h, Ne.symm h]
theorem lb_cnt : ∀ k, k < 64 → ((nI k).toInt64.toUInt64 &&& Int64.toUInt64 63).toNat = k := by decide +kernel
theorem lb_shr {k : Nat} (hk : k < 64) (w : Int64) : ((w.toUInt64 >>> ((nI k).toInt64.toUInt64 &&& Int64.toUInt64 63)).toInt64 &&& 1) = 0 ↔ lb w k = false := by
  generalize hs : ((nI k).toInt64.toUInt64 &&& Int64.toUInt64 63) = s
  have hs2 : s.toNat = k := by rw [← hs]; exact lb_cnt k hk
  have e : (w.toUInt64 >>> s).toInt64.toBitVec = w.toBitVec >>> k := by
    apply BitVec.eq_of_toNat_eq
    show (w.toUInt64 >>> s).toNat = _
    rw [UInt64.toNat_shiftRight, hs2, Nat.mod_eq_of_lt hk, BitVec.toNat_ushiftRight]
    rfl
  rw [← Int64.toBitVec_inj, Int64.toBitVec_and, e]
  show w.toBitVec >>> k &&& 1#64 = 0#64 ↔ _
  constructor
  · intro h
    have t := congrArg (fun x => x.getLsbD 0) h
    simpa [lb] using t
  · intro h
    have h : w.toBitVec.getLsbD k = false := h
    apply BitVec.eq_of_getLsbD_eq
    intro i hi
    cases i with
    | zero => simp [h]
    | succ i => simp
theorem lcmp_eq {x y : Int64} : lg_cmp x y = 0 ↔ x = y := by
  unfold lg_cmp
  by_cases h1 : y < x
  · rw [if_pos h1]
    constructor
    · intro h; exact absurd h (by decide)
    · intro h; subst h; exact absurd h1 (Int64.lt_irrefl)
  · rw [if_neg h1]
    by_cases h2 : x = y
    · simp [h2]
    · rw [if_neg h2]
      constructor
      · intro h; exact absurd h (by decide)
      · intro h; exact absurd h h2
theorem lb_ne0 {x : Int64} (h : ¬ x = 0) : ∃ j, j < 64 ∧ lb x j = true := by
  refine Classical.byContradiction fun q => h (lb_ext fun j hj => ?_)
  rw [lb_0]
  cases hb : lb x j with
  | false => rfl
  | true => exact absurd ⟨j, hj, hb⟩ q
theorem lb_eq0 {x : Int64} (h : x = 0) (j : Nat) : lb x j = false := by rw [h]; exact lb_0 j
/-! how many numbers below n have a property -/
def cnt (P : Nat → Bool) : Nat → Nat
  | 0 => 0
  | n + 1 => cnt P n + (if P n = true then 1 else 0)
theorem cnt_t {P : Nat → Bool} {n : Nat} (h : P n = true) : cnt P (n + 1) = cnt P n + 1 := by simp [cnt, h]
theorem cnt_f {P : Nat → Bool} {n : Nat} (h : P n = false) : cnt P (n + 1) = cnt P n := by simp [cnt, h]
theorem cnt_le (P : Nat → Bool) : ∀ n, cnt P n ≤ n
  | 0 => Nat.le_refl 0
  | n + 1 => by
    have := cnt_le P n
    simp only [cnt]
    split <;> omega
theorem cnt_mono (P : Nat → Bool) {a b : Nat} (h : a ≤ b) : cnt P a ≤ cnt P b := by
  induction b with
  | zero =>
    have e : a = 0 := by omega
    subst e
    exact Nat.le_refl _
  | succ b ih =>
    rcases Nat.lt_or_ge b a with q | q
    · have e : a = b + 1 := by omega
      subst e
      exact Nat.le_refl _
    · have := ih q
      simp only [cnt]
      omega
theorem cnt_congr {P P' : Nat → Bool} : ∀ n, (∀ j, j < n → P j = P' j) → cnt P n = cnt P' n
  | 0, _ => rfl
  | n + 1, h => by simp only [cnt, h n (by omega), cnt_congr n (fun j hj => h j (by omega))]
theorem cnt_stop {P : Nat → Bool} {a : Nat} (h : ∀ j, a ≤ j → P j = false) : ∀ k, cnt P (a + k) = cnt P a
  | 0 => rfl
  | k + 1 => by
    show cnt P (a + k + 1) = _
    rw [cnt_f (h _ (by omega)), cnt_stop h k]
/-- the place of the k-th one is told by the count before it -/
theorem cnt_inj {P : Nat → Bool} {x y : Nat} (hx : P x = true) (hy : P y = true) (h : cnt P x = cnt P y) : x = y := by
  rcases Nat.lt_trichotomy x y with q | q | q
  · have h1 := cnt_mono P (show x + 1 ≤ y from q)
    rw [cnt_t hx] at h1
    omega
  · exact q
  · have h1 := cnt_mono P (show y + 1 ≤ x from q)
    rw [cnt_t hy] at h1
    omega
end
section
/-! Long.bitCount: its steps on numbers, byte by byte -/
def bs (d : Nat → Nat) : Nat → Nat
  | 0 => 0
  | k + 1 => d 0 + 256 * bs (fun i => d (i + 1)) k
/-- the mask of k bytes u -/
def bm (u : Nat) : Nat → Nat
  | 0 => 0
  | k + 1 => u + 256 * bm u k
theorem and_split {a u : Nat} (q m : Nat) (ha : a < 256) (hu : u < 256) : (a + 256 * q) &&& (u + 256 * m) = (a &&& u) + 256 * (q &&& m) := by
  have h1 : ((a + 256 * q) &&& (u + 256 * m)) % 2 ^ 8 = a &&& u := by
    rw [Nat.and_mod_two_pow, show (a + 256 * q) % 2 ^ 8 = a by omega, show (u + 256 * m) % 2 ^ 8 = u by omega]
  have h2 : ((a + 256 * q) &&& (u + 256 * m)) / 2 ^ 8 = q &&& m := by
    rw [Nat.and_div_two_pow, show (a + 256 * q) / 2 ^ 8 = q by omega, show (u + 256 * m) / 2 ^ 8 = m by omega]
  omega
theorem bs_f1 : ∀ (k : Nat) (d : Nat → Nat), (∀ i, d i < 256) → (bs d k / 2 &&& bm 85 k) ≤ bs d k ∧ bs d k - (bs d k / 2 &&& bm 85 k) = bs (fun i => d i - (d i / 2 &&& 85)) k
  | 0, d, h => by simp [bs, bm]
  | k + 1, d, h => by
    obtain ⟨h1, h2⟩ := bs_f1 k (fun i => d (i + 1)) (fun i => h (i + 1))
    have hd := h 0
    simp only [bs, bm]
    generalize bs (fun i => d (i + 1)) k = q at h1 h2 ⊢
    generalize d 0 = a at hd ⊢
    have e1 : (a + 256 * q) / 2 = (a / 2 + 128 * (q % 2)) + 256 * (q / 2) := by omega
    have e2 : ∀ a, a < 256 → (a / 2 + 128 * 0 &&& 85) = (a / 2 &&& 85) ∧ (a / 2 + 128 * 1 &&& 85) = (a / 2 &&& 85) ∧ (a / 2 &&& 85) ≤ a := by decide +kernel
    have e3 : (a / 2 + 128 * (q % 2) &&& 85) = (a / 2 &&& 85) := by
      rcases (show q % 2 = 0 ∨ q % 2 = 1 by omega) with z | z <;> rw [z]
      · exact (e2 a hd).1
      · exact (e2 a hd).2.1
    have e4 := (e2 a hd).2.2
    rw [e1, and_split _ _ (by omega) (by decide), e3]
    omega
theorem bs_f2 : ∀ (k : Nat) (d : Nat → Nat), (∀ i, d i < 256) → (bs d k &&& bm 51 k) + (bs d k / 4 &&& bm 51 k) = bs (fun i => (d i &&& 51) + (d i / 4 &&& 51)) k
  | 0, d, h => by simp [bs, bm]
  | k + 1, d, h => by
    have h2 := bs_f2 k (fun i => d (i + 1)) (fun i => h (i + 1))
    have hd := h 0
    simp only [bs, bm]
    generalize bs (fun i => d (i + 1)) k = q at h2 ⊢
    generalize d 0 = a at hd ⊢
    have e1 : (a + 256 * q) / 4 = (a / 4 + 64 * (q % 4)) + 256 * (q / 4) := by omega
    have e2 : ∀ a, a < 256 → ∀ z, z < 4 → (a / 4 + 64 * z &&& 51) = (a / 4 &&& 51) := by decide +kernel
    have e3 : (a / 4 + 64 * (q % 4) &&& 51) = (a / 4 &&& 51) := e2 a hd _ (by omega)
    rw [e1, and_split _ _ hd (by decide), and_split _ _ (by omega) (by decide), e3]
    omega
theorem bs_low (d : Nat → Nat) (k : Nat) (h : ∀ i, d i < 256) (hk : ∀ i, d i % 16 ≤ 4) : bs d k % 16 ≤ 4 := by
  cases k with
  | zero => simp [bs]
  | succ k =>
    have := hk 0
    simp only [bs]
    omega
theorem bs_f3 : ∀ (k : Nat) (d : Nat → Nat), (∀ i, d i < 256 ∧ d i % 16 ≤ 4 ∧ d i / 16 ≤ 4) → (bs d k + bs d k / 16 &&& bm 15 k) = bs (fun i => (d i + d i / 16) % 16) k
  | 0, d, h => by simp [bs, bm]
  | k + 1, d, h => by
    have h2 := bs_f3 k (fun i => d (i + 1)) (fun i => h (i + 1))
    have hl := bs_low (fun i => d (i + 1)) k (fun i => (h (i + 1)).1) (fun i => (h (i + 1)).2.1)
    obtain ⟨hd, hd1, hd2⟩ := h 0
    simp only [bs, bm]
    generalize bs (fun i => d (i + 1)) k = q at h2 hl ⊢
    generalize d 0 = a at hd hd1 hd2 ⊢
    have e1 : a + 256 * q + (a + 256 * q) / 16 = (a + a / 16 + 16 * (q % 16)) + 256 * (q + q / 16) := by omega
    have e3 : (a + a / 16 + 16 * (q % 16) &&& 15) = (a + a / 16) % 16 := by
      rw [show (15 : Nat) = 2 ^ 4 - 1 from rfl, Nat.and_two_pow_sub_one_eq_mod]
      omega
    rw [e1, and_split _ _ (by omega) (by decide), e3, h2]
def pb (a : Nat) : Nat := let y := a - (a / 2 &&& 85); let z := (y &&& 51) + (y / 4 &&& 51); (z + z / 16) % 16
theorem pb_ok : ∀ a, a < 256 → (a - (a / 2 &&& 85)) < 256 ∧ ((a - (a / 2 &&& 85) &&& 51) + ((a - (a / 2 &&& 85)) / 4 &&& 51)) < 256 ∧ ((a - (a / 2 &&& 85) &&& 51) + ((a - (a / 2 &&& 85)) / 4 &&& 51)) % 16 ≤ 4 ∧ ((a - (a / 2 &&& 85) &&& 51) + ((a - (a / 2 &&& 85)) / 4 &&& 51)) / 16 ≤ 4 ∧ pb a = cnt (fun j => a.testBit j) 8 ∧ pb a ≤ 8 := by decide +kernel
theorem bs_of : ∀ (k n : Nat), n < 256 ^ k → n = bs (fun i => n / 256 ^ i % 256) k
  | 0, n, h => by simp only [bs]; simp at h; exact h
  | k + 1, n, h => by
    have h1 : n / 256 < 256 ^ k := by
      rw [Nat.pow_succ] at h
      omega
    have h2 := bs_of k (n / 256) h1
    have e : (fun i => n / 256 ^ (i + 1) % 256) = (fun i => n / 256 / 256 ^ i % 256) := by
      funext i
      rw [Nat.div_div_eq_div_mul, Nat.pow_succ, Nat.mul_comm (256 ^ i) 256]
    simp only [bs]
    rw [e, ← h2]
    simp only [Nat.pow_zero, Nat.div_one]
    omega
theorem cnt_add (P : Nat → Bool) (a : Nat) : ∀ b, cnt P (a + b) = cnt P a + cnt (fun j => P (a + j)) b
  | 0 => rfl
  | b + 1 => by
    show cnt P (a + b + 1) = _
    simp only [cnt, cnt_add P a b]
    omega
theorem byte_cnt (n i : Nat) : cnt (fun j => (n / 256 ^ i % 256).testBit j) 8 = cnt (fun j => n.testBit (8 * i + j)) 8 := by
  refine cnt_congr 8 fun j hj => ?_
  show (n / 256 ^ i % 2 ^ 8).testBit j = _
  rw [Nat.testBit_mod_two_pow, show (256 : Nat) = 2 ^ 8 from rfl, ← Nat.pow_mul, Nat.testBit_div_two_pow]
  simp [hj, Nat.add_comm]
theorem pop_sum {x0 x1 x2 x3 x4 x5 x6 x7 c d e : Nat} (p0 : x0 ≤ 8) (p1 : x1 ≤ 8) (p2 : x2 ≤ 8) (p3 : x3 ≤ 8) (p4 : x4 ≤ 8) (p5 : x5 ≤ 8) (p6 : x6 ≤ 8) (p7 : x7 ≤ 8)
    (hc : c = x0 + 256 * (x1 + 256 * (x2 + 256 * (x3 + 256 * (x4 + 256 * (x5 + 256 * (x6 + 256 * x7))))))) (hd : d = c + c / 256) (he : e = d + d / 65536) : (e + e / 4294967296) % 128 = x0 + x1 + x2 + x3 + x4 + x5 + x6 + x7 := by
  have c1 : c / 256 = x1 + 256 * (x2 + 256 * (x3 + 256 * (x4 + 256 * (x5 + 256 * (x6 + 256 * x7))))) := by omega
  have d1 : d = (x0 + x1) + 256 * ((x1 + x2) + 256 * ((x2 + x3) + 256 * ((x3 + x4) + 256 * ((x4 + x5) + 256 * ((x5 + x6) + 256 * ((x6 + x7) + 256 * x7)))))) := by omega
  clear hd hc c1
  have d2 : d / 65536 = (x2 + x3) + 256 * ((x3 + x4) + 256 * ((x4 + x5) + 256 * ((x5 + x6) + 256 * ((x6 + x7) + 256 * x7)))) := by omega
  have e1 : e = (x0 + x1 + x2 + x3) + 256 * ((x1 + x2 + x3 + x4) + 256 * ((x2 + x3 + x4 + x5) + 256 * ((x3 + x4 + x5 + x6) + 256 * ((x4 + x5 + x6 + x7) + 256 * ((x5 + x6 + x7) + 256 * ((x6 + x7) + 256 * x7)))))) := by omega
  clear he d1 d2
  have e2 : e / 4294967296 = (x4 + x5 + x6 + x7) + 256 * ((x5 + x6 + x7) + 256 * ((x6 + x7) + 256 * x7)) := by omega
  have e3 : e % 256 = x0 + x1 + x2 + x3 := by omega
  have e4 : (e / 4294967296) % 256 = x4 + x5 + x6 + x7 := by omega
  clear e1 e2
  omega
def popA (n : Nat) : Nat := n - (n / 2 &&& 6148914691236517205)
def popB (a : Nat) : Nat := (a &&& 3689348814741910323) + (a / 4 &&& 3689348814741910323)
def popC (b : Nat) : Nat := b + b / 16 &&& 1085102592571150095
def popD (c : Nat) : Nat := c + c / 256
def popE (d : Nat) : Nat := d + d / 65536
def popF (e : Nat) : Nat := (e + e / 4294967296) % 128
def popN (n : Nat) : Nat := popF (popE (popD (popC (popB (popA n)))))
theorem popN_ok {n : Nat} (h : n < 2 ^ 64) : popN n = cnt (fun j => n.testBit j) 64 := by
  have h8 : n < 256 ^ 8 := h
  have hb := bs_of 8 n h8
  generalize hd : (fun i => n / 256 ^ i % 256) = d at hb
  have hdl : ∀ i, d i < 256 := fun i => by rw [← hd]; exact Nat.mod_lt _ (by decide)
  have f1 := (bs_f1 8 d hdl).2
  have f2 := bs_f2 8 (fun i => d i - (d i / 2 &&& 85)) (fun i => (pb_ok _ (hdl i)).1)
  have f3 := bs_f3 8 (fun i => (d i - (d i / 2 &&& 85) &&& 51) + ((d i - (d i / 2 &&& 85)) / 4 &&& 51)) (fun i => ⟨(pb_ok _ (hdl i)).2.1, (pb_ok _ (hdl i)).2.2.1, (pb_ok _ (hdl i)).2.2.2.1⟩)
  rw [← hb] at f1
  rw [← f1] at f2
  rw [← f2] at f3
  have m1 : bm 85 8 = 6148914691236517205 := by decide +kernel
  have m2 : bm 51 8 = 3689348814741910323 := by decide +kernel
  have m3 : bm 15 8 = 1085102592571150095 := by decide +kernel
  rw [m1] at f1 f2 f3
  rw [m2] at f2 f3
  rw [m3] at f3
  have hp : ∀ i, pb (d i) ≤ 8 := fun i => (pb_ok _ (hdl i)).2.2.2.2.2
  have hc : ∀ i, pb (d i) = cnt (fun j => n.testBit (8 * i + j)) 8 := fun i => by
    rw [(pb_ok _ (hdl i)).2.2.2.2.1, ← byte_cnt, ← hd]
  have f4 : popC (popB (popA n)) = bs (fun i => pb (d i)) 8 := f3
  have f5 : popN n = popF (popE (popD (bs (fun i => pb (d i)) 8))) := by rw [← f4]; rfl
  rw [f5]
  have p0 := hp 0
  have p1 := hp 1
  have p2 := hp 2
  have p3 := hp 3
  have p4 := hp 4
  have p5 := hp 5
  have p6 := hp 6
  have p7 := hp 7
  have g : cnt (fun j => n.testBit j) 64 = pb (d 0) + pb (d 1) + pb (d 2) + pb (d 3) + pb (d 4) + pb (d 5) + pb (d 6) + pb (d 7) := by
    rw [hc 0, hc 1, hc 2, hc 3, hc 4, hc 5, hc 6, hc 7]
    rw [show (64 : Nat) = 56 + 8 from rfl, cnt_add, show (56 : Nat) = 48 + 8 from rfl, cnt_add, show (48 : Nat) = 40 + 8 from rfl, cnt_add, show (40 : Nat) = 32 + 8 from rfl, cnt_add, show (32 : Nat) = 24 + 8 from rfl, cnt_add, show (24 : Nat) = 16 + 8 from rfl, cnt_add, show (16 : Nat) = 8 + 8 from rfl, cnt_add]
    simp
  rw [g]
  exact pop_sum (c := bs (fun i => pb (d i)) 8) p0 p1 p2 p3 p4 p5 p6 p7 rfl rfl rfl
end
section
/-! one judgement for world, locals, stack and place: G; a row an instruction -/
section GG
/-- what the tables say, and no cell: the classes, the array classes, the two links across the nest -/
def NW (U : State) : Prop := va_Nw (.methodLinkNest R_Ring 56 y_RO_nthOf R_RO) U ∧ va_Nw (.methodLinkNest R_Strata 114 y_RO_nthOf R_RO) U
def KK (D : va_G) (tys : List (ClassId × FieldType)) (U : State) : Prop := va_K D cls9 tys U ∧ NW U
theorem KK.warm {D : va_G} {tys : List (ClassId × FieldType)} {s U : State} (hW : s.WarmedH U.vm) (h : KK D tys s) : KK D tys U := ⟨va_K.moved hW.alike h.1, va_Nw.warmM hW h.2.1, va_Nw.warmM hW h.2.2⟩
theorem KK.same {D : va_G} {tys : List (ClassId × FieldType)} {s U : State} (hv : s.vm = U.vm) (h : KK D tys s) : KK D tys U := ⟨va_K.moved (by rw [hv]; exact Vm.Alike.refl U.vm) h.1, va_Nw.same rfl hv h.2.1, va_Nw.same rfl hv h.2.2⟩
variable {p : Program} {l : Launch} {e : Env} {R : Room} {s : State} {m : MethodId} {args : Array Value} {below : List Frame} {meth : Method} {c : Code} {cells slots : Nat} {Q : State → Prop}
variable {own : String} {cc : ByteArray} {nL : Nat} {D : va_G} {tys : List (ClassId × FieldType)} {A : Nat → Prop} {H0 : Heap}
variable {ws ws' : va_W} {lv lv' : List (Nat × Value)} {pc : Nat} {rest : List Value}
def G (p : Program) (l : Launch) (e : Env) (R : Room) (s : State) (m : MethodId) (args : Array Value) (below : List Frame) (meth : Method) (c : Code) (nL : Nat) (D : va_G) (A : Nat → Prop) (H0 : Heap) (Q : State → Prop) (cells slots : Nat) (ws : va_W) (lv : List (Nat × Value)) (pc : Nat) (st : List Value) : Prop :=
  ∀ (H : Heap) (locs : List Loc) (ls : Array Slot), va_P D cls9 ws H → va_D A ws → va_S A H0 H locs → lv_has ls nL lv → W p l e R s m args below meth c H locs cells slots Q (F0 m pc ls st)
def Cx (p : Program) (s : State) (m : MethodId) (args : Array Value) (c : Code) (own : String) (cc : ByteArray) (nL : Nat) (D : va_G) (tys : List (ClassId × FieldType)) (A : Nat → Prop) (H0 : Heap) : Prop :=
  p.tables.exec = Jvm.exec ∧ c.code = cc ∧ c.maxLocals = nL ∧ s.vm.findClass own = some m.cls ∧ (∀ w ∈ TB, w.before args s = true) ∧ KK D tys s ∧ ∀ q, H0.size ≤ q → A q
/-- a local by its place -/
def lvq : List (Nat × Value) → Nat → Option Value
  | [], _ => none
  | (j, v) :: t, i => match Nat.beq j i with
    | true => some v
    | false => lvq t i
theorem lvq_at {ls : Array Slot} {n : Nat} : ∀ (l : List (Nat × Value)) (i : Nat) (v : Value), (∀ q ∈ l, ls[q.1]? = some (.val q.2)) → lvq l i = some v → ls[i]? = some (.val v)
  | [], i, v, _, h => by cases h
  | (j, w) :: t, i, v, hm, h => by
    cases hb : Nat.beq j i with
    | true =>
      have e : j = i := Nat.eq_of_beq_eq_true hb
      subst e
      simp only [lvq, hb] at h
      cases h
      exact hm (j, w) List.mem_cons_self
    | false =>
      simp only [lvq, hb] at h
      exact lvq_at (n := n) t i v (fun q hq => hm q (List.mem_cons_of_mem _ hq)) h
theorem lvq_has {ls : Array Slot} {n i : Nat} {l : List (Nat × Value)} {v : Value} (h : lv_has ls n l) (hv : lvq l i = some v) : ls[i]? = some (.val v) := lvq_at (n := n) l i v h.2.2 hv
theorem g_iconst (X : Cx p s m args c own cc nL D tys A H0) {n : Int} {v : Int32} (hdg : decode cc pc = .ok (.iconst n, 1)) (hv : Int32.ofInt n = v) (kk : G p l e R s m args below meth c nL D A H0 Q cells slots ws lv (pc + 1) (.int v :: rest)) : G p l e R s m args below meth c nL D A H0 Q cells slots ws lv pc (rest) := fun H locs ls hP hD hS hl => lv_iconst X.1 X.2.1 hdg hv (kk H locs ls hP hD hS hl)
theorem g_bipush (X : Cx p s m args c own cc nL D tys A H0) {n : Int} {v : Int32} (hdg : decode cc pc = .ok (.bipush n, 2)) (hv : (Int8.ofInt n).toInt32 = v) (kk : G p l e R s m args below meth c nL D A H0 Q cells slots ws lv (pc + 2) (.int v :: rest)) : G p l e R s m args below meth c nL D A H0 Q cells slots ws lv pc (rest) := fun H locs ls hP hD hS hl => lv_bipush X.1 X.2.1 hdg hv (kk H locs ls hP hD hS hl)
theorem g_sipush (X : Cx p s m args c own cc nL D tys A H0) {n : Int} {v : Int32} (hdg : decode cc pc = .ok (.sipush n, 3)) (hv : (Int16.ofInt n).toInt32 = v) (kk : G p l e R s m args below meth c nL D A H0 Q cells slots ws lv (pc + 3) (.int v :: rest)) : G p l e R s m args below meth c nL D A H0 Q cells slots ws lv pc (rest) := fun H locs ls hP hD hS hl => lv_sipush X.1 X.2.1 hdg hv (kk H locs ls hP hD hS hl)
theorem g_lconst (X : Cx p s m args c own cc nL D tys A H0) {n : Fin 2} {v : Int64} (hdg : decode cc pc = .ok (.lconst n, 1)) (hv : Int64.ofNat (n : Nat) = v) (kk : G p l e R s m args below meth c nL D A H0 Q cells slots ws lv (pc + 1) (.long v :: rest)) : G p l e R s m args below meth c nL D A H0 Q cells slots ws lv pc (rest) := fun H locs ls hP hD hS hl => lv_lconst X.1 X.2.1 hdg hv (kk H locs ls hP hD hS hl)
theorem g_ldc2 (X : Cx p s m args c own cc nL D tys A H0) {index : Nat} {v : Int64} (hconst : Jvm.Cond.constantLong own index v ∈ TB) (hdg : decode cc pc = .ok (.ldc2_w index, 3)) (kk : G p l e R s m args below meth c nL D A H0 Q cells slots ws lv (pc + 3) (.long v :: rest)) : G p l e R s m args below meth c nL D A H0 Q cells slots ws lv pc (rest) := fun H locs ls hP hD hS hl => lv_ldc2 X.1 X.2.1 X.2.2.2.1 (X.2.2.2.2.1 _ hconst) hdg (kk H locs ls hP hD hS hl)
theorem g_null (X : Cx p s m args c own cc nL D tys A H0) (hdg : decode cc pc = .ok (.aconst_null, 1)) (kk : G p l e R s m args below meth c nL D A H0 Q cells slots ws lv (pc + 1) (.null :: rest)) : G p l e R s m args below meth c nL D A H0 Q cells slots ws lv pc (rest) := fun H locs ls hP hD hS hl => lv_null X.1 X.2.1 hdg (kk H locs ls hP hD hS hl)
theorem g_iload_n (X : Cx p s m args c own cc nL D tys A H0) {k : Fin 4} (i : Nat) {x : Int32} (hdg : decode cc pc = .ok (.iload_n k, 1)) (hi : (k : Nat) = i) (hv : lvq lv i = some (.int x)) (kk : G p l e R s m args below meth c nL D A H0 Q cells slots ws lv (pc + 1) (.int x :: rest)) : G p l e R s m args below meth c nL D A H0 Q cells slots ws lv pc (rest) := fun H locs ls hP hD hS hl => lv_iload_n X.1 X.2.1 hdg hi (lvq_has hl hv) (kk H locs ls hP hD hS hl)
theorem g_iload (X : Cx p s m args c own cc nL D tys A H0) (i : Nat) {x : Int32} (hdg : decode cc pc = .ok (.iload i, 2)) (hv : lvq lv i = some (.int x)) (kk : G p l e R s m args below meth c nL D A H0 Q cells slots ws lv (pc + 2) (.int x :: rest)) : G p l e R s m args below meth c nL D A H0 Q cells slots ws lv pc (rest) := fun H locs ls hP hD hS hl => lv_iload X.1 X.2.1 hdg (lvq_has hl hv) (kk H locs ls hP hD hS hl)
theorem g_lload_n (X : Cx p s m args c own cc nL D tys A H0) {k : Fin 4} (i : Nat) {x : Int64} (hdg : decode cc pc = .ok (.lload_n k, 1)) (hi : (k : Nat) = i) (hv : lvq lv i = some (.long x)) (kk : G p l e R s m args below meth c nL D A H0 Q cells slots ws lv (pc + 1) (.long x :: rest)) : G p l e R s m args below meth c nL D A H0 Q cells slots ws lv pc (rest) := fun H locs ls hP hD hS hl => lv_lload_n X.1 X.2.1 hdg hi (lvq_has hl hv) (kk H locs ls hP hD hS hl)
theorem g_lload (X : Cx p s m args c own cc nL D tys A H0) (i : Nat) {x : Int64} (hdg : decode cc pc = .ok (.lload i, 2)) (hv : lvq lv i = some (.long x)) (kk : G p l e R s m args below meth c nL D A H0 Q cells slots ws lv (pc + 2) (.long x :: rest)) : G p l e R s m args below meth c nL D A H0 Q cells slots ws lv pc (rest) := fun H locs ls hP hD hS hl => lv_lload X.1 X.2.1 hdg (lvq_has hl hv) (kk H locs ls hP hD hS hl)
theorem g_aload_n (X : Cx p s m args c own cc nL D tys A H0) {k : Fin 4} (i : Nat) {x : Nat} (hdg : decode cc pc = .ok (.aload_n k, 1)) (hi : (k : Nat) = i) (hv : lvq lv i = some (.ref x)) (kk : G p l e R s m args below meth c nL D A H0 Q cells slots ws lv (pc + 1) (.ref x :: rest)) : G p l e R s m args below meth c nL D A H0 Q cells slots ws lv pc (rest) := fun H locs ls hP hD hS hl => lv_aload_n X.1 X.2.1 hdg hi (lvq_has hl hv) (kk H locs ls hP hD hS hl)
theorem g_aload (X : Cx p s m args c own cc nL D tys A H0) (i : Nat) {x : Nat} (hdg : decode cc pc = .ok (.aload i, 2)) (hv : lvq lv i = some (.ref x)) (kk : G p l e R s m args below meth c nL D A H0 Q cells slots ws lv (pc + 2) (.ref x :: rest)) : G p l e R s m args below meth c nL D A H0 Q cells slots ws lv pc (rest) := fun H locs ls hP hD hS hl => lv_aload X.1 X.2.1 hdg (lvq_has hl hv) (kk H locs ls hP hD hS hl)
theorem g_istore_n (X : Cx p s m args c own cc nL D tys A H0) {k : Fin 4} {i : Nat} {x : Int32} (lv' : List (Nat × Value)) (hdg : decode cc pc = .ok (.istore_n k, 1)) (hi : (k : Nat) = i) (hn : i < nL) (hl' : (i, Value.int x) :: lv.filter (fun q => !(q.1 == i) && !(q.1 + 1 == i && q.2.category == 2)) = lv') (kk : G p l e R s m args below meth c nL D A H0 Q cells slots ws lv' (pc + 1) rest) : G p l e R s m args below meth c nL D A H0 Q cells slots ws lv pc (Value.int x :: rest) := fun H locs ls hP hD hS hl => lv_istore_n X.1 X.2.1 hdg hi hl hn hl' (fun ls hl => kk H locs ls hP hD hS hl)
theorem g_istore (X : Cx p s m args c own cc nL D tys A H0) {i : Nat} {x : Int32} (lv' : List (Nat × Value)) (hdg : decode cc pc = .ok (.istore i, 2)) (hn : i < nL) (hl' : (i, Value.int x) :: lv.filter (fun q => !(q.1 == i) && !(q.1 + 1 == i && q.2.category == 2)) = lv') (kk : G p l e R s m args below meth c nL D A H0 Q cells slots ws lv' (pc + 2) rest) : G p l e R s m args below meth c nL D A H0 Q cells slots ws lv pc (Value.int x :: rest) := fun H locs ls hP hD hS hl => lv_istore X.1 X.2.1 hdg hl hn hl' (fun ls hl => kk H locs ls hP hD hS hl)
theorem g_lstore_n (X : Cx p s m args c own cc nL D tys A H0) {k : Fin 4} {i : Nat} {x : Int64} (lv' : List (Nat × Value)) (hdg : decode cc pc = .ok (.lstore_n k, 1)) (hi : (k : Nat) = i) (hn : i + 1 < nL) (hl' : (i, Value.long x) :: lv.filter (fun q => !(q.1 == i) && (!(q.1 == i + 1) && !(q.1 + 1 == i && q.2.category == 2))) = lv') (kk : G p l e R s m args below meth c nL D A H0 Q cells slots ws lv' (pc + 1) rest) : G p l e R s m args below meth c nL D A H0 Q cells slots ws lv pc (Value.long x :: rest) := fun H locs ls hP hD hS hl => lv_lstore_n X.1 X.2.1 hdg hi hl hn hl' (fun ls hl => kk H locs ls hP hD hS hl)
theorem g_lstore (X : Cx p s m args c own cc nL D tys A H0) {i : Nat} {x : Int64} (lv' : List (Nat × Value)) (hdg : decode cc pc = .ok (.lstore i, 2)) (hn : i + 1 < nL) (hl' : (i, Value.long x) :: lv.filter (fun q => !(q.1 == i) && (!(q.1 == i + 1) && !(q.1 + 1 == i && q.2.category == 2))) = lv') (kk : G p l e R s m args below meth c nL D A H0 Q cells slots ws lv' (pc + 2) rest) : G p l e R s m args below meth c nL D A H0 Q cells slots ws lv pc (Value.long x :: rest) := fun H locs ls hP hD hS hl => lv_lstore X.1 X.2.1 hdg hl hn hl' (fun ls hl => kk H locs ls hP hD hS hl)
theorem g_astore_n (X : Cx p s m args c own cc nL D tys A H0) {k : Fin 4} {i : Nat} {x : Nat} (lv' : List (Nat × Value)) (hdg : decode cc pc = .ok (.astore_n k, 1)) (hi : (k : Nat) = i) (hn : i < nL) (hl' : (i, Value.ref x) :: lv.filter (fun q => !(q.1 == i) && !(q.1 + 1 == i && q.2.category == 2)) = lv') (kk : G p l e R s m args below meth c nL D A H0 Q cells slots ws lv' (pc + 1) rest) : G p l e R s m args below meth c nL D A H0 Q cells slots ws lv pc (Value.ref x :: rest) := fun H locs ls hP hD hS hl => lv_astore_n X.1 X.2.1 hdg hi hl hn hl' (fun ls hl => kk H locs ls hP hD hS hl)
theorem g_astore (X : Cx p s m args c own cc nL D tys A H0) {i : Nat} {x : Nat} (lv' : List (Nat × Value)) (hdg : decode cc pc = .ok (.astore i, 2)) (hn : i < nL) (hl' : (i, Value.ref x) :: lv.filter (fun q => !(q.1 == i) && !(q.1 + 1 == i && q.2.category == 2)) = lv') (kk : G p l e R s m args below meth c nL D A H0 Q cells slots ws lv' (pc + 2) rest) : G p l e R s m args below meth c nL D A H0 Q cells slots ws lv pc (Value.ref x :: rest) := fun H locs ls hP hD hS hl => lv_astore X.1 X.2.1 hdg hl hn hl' (fun ls hl => kk H locs ls hP hD hS hl)
theorem g_iinc (X : Cx p s m args c own cc nL D tys A H0) {i k : Nat} {n : Int} {x : Int32} (v : Int32) (lv' : List (Nat × Value)) (hdg : decode cc pc = .ok (.iinc i n, 3)) (hk : lv[k]? = some (i, .int x)) (hv : x + Int32.ofInt n = v) (hn : i < nL) (hl' : (i, Value.int v) :: lv.filter (fun q => !(q.1 == i) && !(q.1 + 1 == i && q.2.category == 2)) = lv') (kk : G p l e R s m args below meth c nL D A H0 Q cells slots ws lv' (pc + 3) rest) : G p l e R s m args below meth c nL D A H0 Q cells slots ws lv pc rest := fun H locs ls hP hD hS hl => lv_iinc X.1 X.2.1 hdg hl hk hv hn hl' (fun ls hl => kk H locs ls hP hD hS hl)
theorem g_iadd (X : Cx p s m args c own cc nL D tys A H0) {x y : Int32} (v : Int32) (hdg : decode cc pc = .ok (.iadd, 1)) (hv : x + y = v) (kk : G p l e R s m args below meth c nL D A H0 Q cells slots ws lv (pc + 1) (.int v :: rest)) : G p l e R s m args below meth c nL D A H0 Q cells slots ws lv pc (.int y :: .int x :: rest) := by
  subst hv
  exact fun H locs ls hP hD hS hl => lv_iadd X.1 X.2.1 hdg (kk H locs ls hP hD hS hl)
theorem g_isub (X : Cx p s m args c own cc nL D tys A H0) {x y : Int32} (v : Int32) (hdg : decode cc pc = .ok (.isub, 1)) (hv : x - y = v) (kk : G p l e R s m args below meth c nL D A H0 Q cells slots ws lv (pc + 1) (.int v :: rest)) : G p l e R s m args below meth c nL D A H0 Q cells slots ws lv pc (.int y :: .int x :: rest) := by
  subst hv
  exact fun H locs ls hP hD hS hl => lv_isub X.1 X.2.1 hdg (kk H locs ls hP hD hS hl)
theorem g_imul (X : Cx p s m args c own cc nL D tys A H0) {x y : Int32} (v : Int32) (hdg : decode cc pc = .ok (.imul, 1)) (hv : x * y = v) (kk : G p l e R s m args below meth c nL D A H0 Q cells slots ws lv (pc + 1) (.int v :: rest)) : G p l e R s m args below meth c nL D A H0 Q cells slots ws lv pc (.int y :: .int x :: rest) := by
  subst hv
  exact fun H locs ls hP hD hS hl => lv_imul X.1 X.2.1 hdg (kk H locs ls hP hD hS hl)
theorem g_iand (X : Cx p s m args c own cc nL D tys A H0) {x y : Int32} (v : Int32) (hdg : decode cc pc = .ok (.iand, 1)) (hv : x &&& y = v) (kk : G p l e R s m args below meth c nL D A H0 Q cells slots ws lv (pc + 1) (.int v :: rest)) : G p l e R s m args below meth c nL D A H0 Q cells slots ws lv pc (.int y :: .int x :: rest) := by
  subst hv
  exact fun H locs ls hP hD hS hl => lv_iand X.1 X.2.1 hdg (kk H locs ls hP hD hS hl)
theorem g_ior (X : Cx p s m args c own cc nL D tys A H0) {x y : Int32} (v : Int32) (hdg : decode cc pc = .ok (.ior, 1)) (hv : x ||| y = v) (kk : G p l e R s m args below meth c nL D A H0 Q cells slots ws lv (pc + 1) (.int v :: rest)) : G p l e R s m args below meth c nL D A H0 Q cells slots ws lv pc (.int y :: .int x :: rest) := by
  subst hv
  exact fun H locs ls hP hD hS hl => lv_ior X.1 X.2.1 hdg (kk H locs ls hP hD hS hl)
theorem g_ixor (X : Cx p s m args c own cc nL D tys A H0) {x y : Int32} (v : Int32) (hdg : decode cc pc = .ok (.ixor, 1)) (hv : x ^^^ y = v) (kk : G p l e R s m args below meth c nL D A H0 Q cells slots ws lv (pc + 1) (.int v :: rest)) : G p l e R s m args below meth c nL D A H0 Q cells slots ws lv pc (.int y :: .int x :: rest) := by
  subst hv
  exact fun H locs ls hP hD hS hl => lv_ixor X.1 X.2.1 hdg (kk H locs ls hP hD hS hl)
theorem g_ladd (X : Cx p s m args c own cc nL D tys A H0) {x y : Int64} (v : Int64) (hdg : decode cc pc = .ok (.ladd, 1)) (hv : x + y = v) (kk : G p l e R s m args below meth c nL D A H0 Q cells slots ws lv (pc + 1) (.long v :: rest)) : G p l e R s m args below meth c nL D A H0 Q cells slots ws lv pc (.long y :: .long x :: rest) := by
  subst hv
  exact fun H locs ls hP hD hS hl => lv_ladd X.1 X.2.1 hdg (kk H locs ls hP hD hS hl)
theorem g_lsub (X : Cx p s m args c own cc nL D tys A H0) {x y : Int64} (v : Int64) (hdg : decode cc pc = .ok (.lsub, 1)) (hv : x - y = v) (kk : G p l e R s m args below meth c nL D A H0 Q cells slots ws lv (pc + 1) (.long v :: rest)) : G p l e R s m args below meth c nL D A H0 Q cells slots ws lv pc (.long y :: .long x :: rest) := by
  subst hv
  exact fun H locs ls hP hD hS hl => lv_lsub X.1 X.2.1 hdg (kk H locs ls hP hD hS hl)
theorem g_lmul (X : Cx p s m args c own cc nL D tys A H0) {x y : Int64} (v : Int64) (hdg : decode cc pc = .ok (.lmul, 1)) (hv : x * y = v) (kk : G p l e R s m args below meth c nL D A H0 Q cells slots ws lv (pc + 1) (.long v :: rest)) : G p l e R s m args below meth c nL D A H0 Q cells slots ws lv pc (.long y :: .long x :: rest) := by
  subst hv
  exact fun H locs ls hP hD hS hl => lv_lmul X.1 X.2.1 hdg (kk H locs ls hP hD hS hl)
theorem g_land (X : Cx p s m args c own cc nL D tys A H0) {x y : Int64} (v : Int64) (hdg : decode cc pc = .ok (.land, 1)) (hv : x &&& y = v) (kk : G p l e R s m args below meth c nL D A H0 Q cells slots ws lv (pc + 1) (.long v :: rest)) : G p l e R s m args below meth c nL D A H0 Q cells slots ws lv pc (.long y :: .long x :: rest) := by
  subst hv
  exact fun H locs ls hP hD hS hl => lv_land X.1 X.2.1 hdg (kk H locs ls hP hD hS hl)
theorem g_lor (X : Cx p s m args c own cc nL D tys A H0) {x y : Int64} (v : Int64) (hdg : decode cc pc = .ok (.lor, 1)) (hv : x ||| y = v) (kk : G p l e R s m args below meth c nL D A H0 Q cells slots ws lv (pc + 1) (.long v :: rest)) : G p l e R s m args below meth c nL D A H0 Q cells slots ws lv pc (.long y :: .long x :: rest) := by
  subst hv
  exact fun H locs ls hP hD hS hl => lv_lor X.1 X.2.1 hdg (kk H locs ls hP hD hS hl)
theorem g_lxor (X : Cx p s m args c own cc nL D tys A H0) {x y : Int64} (v : Int64) (hdg : decode cc pc = .ok (.lxor, 1)) (hv : x ^^^ y = v) (kk : G p l e R s m args below meth c nL D A H0 Q cells slots ws lv (pc + 1) (.long v :: rest)) : G p l e R s m args below meth c nL D A H0 Q cells slots ws lv pc (.long y :: .long x :: rest) := by
  subst hv
  exact fun H locs ls hP hD hS hl => lv_lxor X.1 X.2.1 hdg (kk H locs ls hP hD hS hl)
theorem g_idiv (X : Cx p s m args c own cc nL D tys A H0) {x y : Int32} (v : Int32) (hdg : decode cc pc = .ok (.idiv, 1)) (hne : ¬ y = 0) (hv : x / y = v) (kk : G p l e R s m args below meth c nL D A H0 Q cells slots ws lv (pc + 1) (.int v :: rest)) : G p l e R s m args below meth c nL D A H0 Q cells slots ws lv pc (.int y :: .int x :: rest) := by
  subst hv
  exact fun H locs ls hP hD hS hl => lv_idiv X.1 X.2.1 hdg hne (kk H locs ls hP hD hS hl)
theorem g_irem (X : Cx p s m args c own cc nL D tys A H0) {x y : Int32} (v : Int32) (hdg : decode cc pc = .ok (.irem, 1)) (hne : ¬ y = 0) (hv : x - x / y * y = v) (kk : G p l e R s m args below meth c nL D A H0 Q cells slots ws lv (pc + 1) (.int v :: rest)) : G p l e R s m args below meth c nL D A H0 Q cells slots ws lv pc (.int y :: .int x :: rest) := by
  subst hv
  exact fun H locs ls hP hD hS hl => lv_irem X.1 X.2.1 hdg hne (kk H locs ls hP hD hS hl)
theorem g_lshl (X : Cx p s m args c own cc nL D tys A H0) {x : Int64} {y : Int32} (v : Int64) (hdg : decode cc pc = .ok (.lshl, 1)) (hv : x <<< (y.toInt64 &&& 63) = v) (kk : G p l e R s m args below meth c nL D A H0 Q cells slots ws lv (pc + 1) (.long v :: rest)) : G p l e R s m args below meth c nL D A H0 Q cells slots ws lv pc (.int y :: .long x :: rest) := fun H locs ls hP hD hS hl => lv_lshl X.1 X.2.1 hdg hv (kk H locs ls hP hD hS hl)
theorem g_lushr (X : Cx p s m args c own cc nL D tys A H0) {x : Int64} {y : Int32} (v : Int64) (hdg : decode cc pc = .ok (.lushr, 1)) (hv : (x.toUInt64 >>> (y.toInt64.toUInt64 &&& Int64.toUInt64 63)).toInt64 = v) (kk : G p l e R s m args below meth c nL D A H0 Q cells slots ws lv (pc + 1) (.long v :: rest)) : G p l e R s m args below meth c nL D A H0 Q cells slots ws lv pc (.int y :: .long x :: rest) := fun H locs ls hP hD hS hl => lv_lushr X.1 X.2.1 hdg hv (kk H locs ls hP hD hS hl)
theorem g_i2l (X : Cx p s m args c own cc nL D tys A H0) {x : Int32} (v : Int64) (hdg : decode cc pc = .ok (.i2l, 1)) (hv : x.toInt64 = v) (kk : G p l e R s m args below meth c nL D A H0 Q cells slots ws lv (pc + 1) (.long v :: rest)) : G p l e R s m args below meth c nL D A H0 Q cells slots ws lv pc (.int x :: rest) := fun H locs ls hP hD hS hl => lv_i2l X.1 X.2.1 hdg hv (kk H locs ls hP hD hS hl)
theorem g_l2i (X : Cx p s m args c own cc nL D tys A H0) {x : Int64} (v : Int32) (hdg : decode cc pc = .ok (.l2i, 1)) (hv : x.toInt32 = v) (kk : G p l e R s m args below meth c nL D A H0 Q cells slots ws lv (pc + 1) (.int v :: rest)) : G p l e R s m args below meth c nL D A H0 Q cells slots ws lv pc (.long x :: rest) := fun H locs ls hP hD hS hl => lv_l2i X.1 X.2.1 hdg hv (kk H locs ls hP hD hS hl)
theorem g_lcmp (X : Cx p s m args c own cc nL D tys A H0) {x y : Int64} (hdg : decode cc pc = .ok (.lcmp, 1)) (kk : G p l e R s m args below meth c nL D A H0 Q cells slots ws lv (pc + 1) (.int (lg_cmp x y) :: rest)) : G p l e R s m args below meth c nL D A H0 Q cells slots ws lv pc (.long y :: .long x :: rest) := fun H locs ls hP hD hS hl => W.lcmp X.1 X.2.1 hdg (kk H locs ls hP hD hS hl)
theorem g_dup (X : Cx p s m args c own cc nL D tys A H0) {va : Value} (hdg : decode cc pc = .ok (.dup, 1)) (hva : va.category = 1) (kk : G p l e R s m args below meth c nL D A H0 Q cells slots ws lv (pc + 1) (va :: va :: rest)) : G p l e R s m args below meth c nL D A H0 Q cells slots ws lv pc (va :: rest) := fun H locs ls hP hD hS hl => lv_dup X.1 X.2.1 hdg hva (kk H locs ls hP hD hS hl)
theorem g_dup2 (X : Cx p s m args c own cc nL D tys A H0) {va vb : Value} (hdg : decode cc pc = .ok (.dup2, 1)) (hva : va.category = 1) (hvb : vb.category = 1) (kk : G p l e R s m args below meth c nL D A H0 Q cells slots ws lv (pc + 1) (va :: vb :: va :: vb :: rest)) : G p l e R s m args below meth c nL D A H0 Q cells slots ws lv pc (va :: vb :: rest) := fun H locs ls hP hD hS hl => lv_dup2_11 X.1 X.2.1 hdg hva hvb (kk H locs ls hP hD hS hl)
theorem g_pop (X : Cx p s m args c own cc nL D tys A H0) {va : Value} (hdg : decode cc pc = .ok (.pop, 1)) (hva : va.category = 1) (kk : G p l e R s m args below meth c nL D A H0 Q cells slots ws lv (pc + 1) (rest)) : G p l e R s m args below meth c nL D A H0 Q cells slots ws lv pc (va :: rest) := fun H locs ls hP hD hS hl => lv_pop X.1 X.2.1 hdg hva (kk H locs ls hP hD hS hl)
theorem g_dup_x1 (X : Cx p s m args c own cc nL D tys A H0) {va vb : Value} (hdg : decode cc pc = .ok (.dup_x1, 1)) (hva : va.category = 1) (hvb : vb.category = 1) (kk : G p l e R s m args below meth c nL D A H0 Q cells slots ws lv (pc + 1) (va :: vb :: va :: rest)) : G p l e R s m args below meth c nL D A H0 Q cells slots ws lv pc (va :: vb :: rest) := fun H locs ls hP hD hS hl => lv_dup_x1 X.1 X.2.1 hdg hva hvb (kk H locs ls hP hD hS hl)
theorem g_if_eq (X : Cx p s m args c own cc nL D tys A H0) {x : Int32} {off : Int} (tgt : Nat) (hdg : decode cc pc = .ok (.ifCond .eq off, 3)) (ht : (pc : Int) + off = (tgt : Int)) (kt : x = 0 → G p l e R s m args below meth c nL D A H0 Q cells slots ws lv tgt rest) (kf : ¬ (x = 0) → G p l e R s m args below meth c nL D A H0 Q cells slots ws lv (pc + 3) rest) : G p l e R s m args below meth c nL D A H0 Q cells slots ws lv pc (.int x :: rest) := fun H locs ls hP hD hS hl => lv_if_eq X.1 X.2.1 hdg ht (fun h => kt h H locs ls hP hD hS hl) (fun h => kf h H locs ls hP hD hS hl)
theorem g_icmp_eq (X : Cx p s m args c own cc nL D tys A H0) {x y : Int32} {off : Int} (tgt : Nat) (hdg : decode cc pc = .ok (.if_icmp .eq off, 3)) (ht : (pc : Int) + off = (tgt : Int)) (kt : x = y → G p l e R s m args below meth c nL D A H0 Q cells slots ws lv tgt rest) (kf : ¬ (x = y) → G p l e R s m args below meth c nL D A H0 Q cells slots ws lv (pc + 3) rest) : G p l e R s m args below meth c nL D A H0 Q cells slots ws lv pc (.int y :: .int x :: rest) := fun H locs ls hP hD hS hl => lv_icmp_eq X.1 X.2.1 hdg ht (fun h => kt h H locs ls hP hD hS hl) (fun h => kf h H locs ls hP hD hS hl)
theorem g_if_ne (X : Cx p s m args c own cc nL D tys A H0) {x : Int32} {off : Int} (tgt : Nat) (hdg : decode cc pc = .ok (.ifCond .ne off, 3)) (ht : (pc : Int) + off = (tgt : Int)) (kt : ¬ x = 0 → G p l e R s m args below meth c nL D A H0 Q cells slots ws lv tgt rest) (kf : x = 0 → G p l e R s m args below meth c nL D A H0 Q cells slots ws lv (pc + 3) rest) : G p l e R s m args below meth c nL D A H0 Q cells slots ws lv pc (.int x :: rest) := fun H locs ls hP hD hS hl => lv_if_ne X.1 X.2.1 hdg ht (fun h => kt h H locs ls hP hD hS hl) (fun h => kf h H locs ls hP hD hS hl)
theorem g_icmp_ne (X : Cx p s m args c own cc nL D tys A H0) {x y : Int32} {off : Int} (tgt : Nat) (hdg : decode cc pc = .ok (.if_icmp .ne off, 3)) (ht : (pc : Int) + off = (tgt : Int)) (kt : ¬ x = y → G p l e R s m args below meth c nL D A H0 Q cells slots ws lv tgt rest) (kf : x = y → G p l e R s m args below meth c nL D A H0 Q cells slots ws lv (pc + 3) rest) : G p l e R s m args below meth c nL D A H0 Q cells slots ws lv pc (.int y :: .int x :: rest) := fun H locs ls hP hD hS hl => lv_icmp_ne X.1 X.2.1 hdg ht (fun h => kt h H locs ls hP hD hS hl) (fun h => kf h H locs ls hP hD hS hl)
theorem g_if_lt (X : Cx p s m args c own cc nL D tys A H0) {x : Int32} {off : Int} (tgt : Nat) (hdg : decode cc pc = .ok (.ifCond .lt off, 3)) (ht : (pc : Int) + off = (tgt : Int)) (kt : x < 0 → G p l e R s m args below meth c nL D A H0 Q cells slots ws lv tgt rest) (kf : ¬ (x < 0) → G p l e R s m args below meth c nL D A H0 Q cells slots ws lv (pc + 3) rest) : G p l e R s m args below meth c nL D A H0 Q cells slots ws lv pc (.int x :: rest) := fun H locs ls hP hD hS hl => lv_if_lt X.1 X.2.1 hdg ht (fun h => kt h H locs ls hP hD hS hl) (fun h => kf h H locs ls hP hD hS hl)
theorem g_icmp_lt (X : Cx p s m args c own cc nL D tys A H0) {x y : Int32} {off : Int} (tgt : Nat) (hdg : decode cc pc = .ok (.if_icmp .lt off, 3)) (ht : (pc : Int) + off = (tgt : Int)) (kt : x < y → G p l e R s m args below meth c nL D A H0 Q cells slots ws lv tgt rest) (kf : ¬ (x < y) → G p l e R s m args below meth c nL D A H0 Q cells slots ws lv (pc + 3) rest) : G p l e R s m args below meth c nL D A H0 Q cells slots ws lv pc (.int y :: .int x :: rest) := fun H locs ls hP hD hS hl => lv_icmp_lt X.1 X.2.1 hdg ht (fun h => kt h H locs ls hP hD hS hl) (fun h => kf h H locs ls hP hD hS hl)
theorem g_if_ge (X : Cx p s m args c own cc nL D tys A H0) {x : Int32} {off : Int} (tgt : Nat) (hdg : decode cc pc = .ok (.ifCond .ge off, 3)) (ht : (pc : Int) + off = (tgt : Int)) (kt : 0 ≤ x → G p l e R s m args below meth c nL D A H0 Q cells slots ws lv tgt rest) (kf : ¬ (0 ≤ x) → G p l e R s m args below meth c nL D A H0 Q cells slots ws lv (pc + 3) rest) : G p l e R s m args below meth c nL D A H0 Q cells slots ws lv pc (.int x :: rest) := fun H locs ls hP hD hS hl => lv_if_ge X.1 X.2.1 hdg ht (fun h => kt h H locs ls hP hD hS hl) (fun h => kf h H locs ls hP hD hS hl)
theorem g_icmp_ge (X : Cx p s m args c own cc nL D tys A H0) {x y : Int32} {off : Int} (tgt : Nat) (hdg : decode cc pc = .ok (.if_icmp .ge off, 3)) (ht : (pc : Int) + off = (tgt : Int)) (kt : y ≤ x → G p l e R s m args below meth c nL D A H0 Q cells slots ws lv tgt rest) (kf : ¬ (y ≤ x) → G p l e R s m args below meth c nL D A H0 Q cells slots ws lv (pc + 3) rest) : G p l e R s m args below meth c nL D A H0 Q cells slots ws lv pc (.int y :: .int x :: rest) := fun H locs ls hP hD hS hl => lv_icmp_ge X.1 X.2.1 hdg ht (fun h => kt h H locs ls hP hD hS hl) (fun h => kf h H locs ls hP hD hS hl)
theorem g_if_gt (X : Cx p s m args c own cc nL D tys A H0) {x : Int32} {off : Int} (tgt : Nat) (hdg : decode cc pc = .ok (.ifCond .gt off, 3)) (ht : (pc : Int) + off = (tgt : Int)) (kt : 0 < x → G p l e R s m args below meth c nL D A H0 Q cells slots ws lv tgt rest) (kf : ¬ (0 < x) → G p l e R s m args below meth c nL D A H0 Q cells slots ws lv (pc + 3) rest) : G p l e R s m args below meth c nL D A H0 Q cells slots ws lv pc (.int x :: rest) := fun H locs ls hP hD hS hl => lv_if_gt X.1 X.2.1 hdg ht (fun h => kt h H locs ls hP hD hS hl) (fun h => kf h H locs ls hP hD hS hl)
theorem g_icmp_gt (X : Cx p s m args c own cc nL D tys A H0) {x y : Int32} {off : Int} (tgt : Nat) (hdg : decode cc pc = .ok (.if_icmp .gt off, 3)) (ht : (pc : Int) + off = (tgt : Int)) (kt : y < x → G p l e R s m args below meth c nL D A H0 Q cells slots ws lv tgt rest) (kf : ¬ (y < x) → G p l e R s m args below meth c nL D A H0 Q cells slots ws lv (pc + 3) rest) : G p l e R s m args below meth c nL D A H0 Q cells slots ws lv pc (.int y :: .int x :: rest) := fun H locs ls hP hD hS hl => lv_icmp_gt X.1 X.2.1 hdg ht (fun h => kt h H locs ls hP hD hS hl) (fun h => kf h H locs ls hP hD hS hl)
theorem g_if_le (X : Cx p s m args c own cc nL D tys A H0) {x : Int32} {off : Int} (tgt : Nat) (hdg : decode cc pc = .ok (.ifCond .le off, 3)) (ht : (pc : Int) + off = (tgt : Int)) (kt : x ≤ 0 → G p l e R s m args below meth c nL D A H0 Q cells slots ws lv tgt rest) (kf : ¬ (x ≤ 0) → G p l e R s m args below meth c nL D A H0 Q cells slots ws lv (pc + 3) rest) : G p l e R s m args below meth c nL D A H0 Q cells slots ws lv pc (.int x :: rest) := fun H locs ls hP hD hS hl => lv_if_le X.1 X.2.1 hdg ht (fun h => kt h H locs ls hP hD hS hl) (fun h => kf h H locs ls hP hD hS hl)
theorem g_icmp_le (X : Cx p s m args c own cc nL D tys A H0) {x y : Int32} {off : Int} (tgt : Nat) (hdg : decode cc pc = .ok (.if_icmp .le off, 3)) (ht : (pc : Int) + off = (tgt : Int)) (kt : x ≤ y → G p l e R s m args below meth c nL D A H0 Q cells slots ws lv tgt rest) (kf : ¬ (x ≤ y) → G p l e R s m args below meth c nL D A H0 Q cells slots ws lv (pc + 3) rest) : G p l e R s m args below meth c nL D A H0 Q cells slots ws lv pc (.int y :: .int x :: rest) := fun H locs ls hP hD hS hl => lv_icmp_le X.1 X.2.1 hdg ht (fun h => kt h H locs ls hP hD hS hl) (fun h => kf h H locs ls hP hD hS hl)
theorem g_goto (X : Cx p s m args c own cc nL D tys A H0) {off : Int} (tgt : Nat) (hdg : decode cc pc = .ok (.goto off, 3)) (ht : (pc : Int) + off = (tgt : Int)) (kk : G p l e R s m args below meth c nL D A H0 Q cells slots ws lv tgt rest) : G p l e R s m args below meth c nL D A H0 Q cells slots ws lv pc rest := fun H locs ls hP hD hS hl => lv_goto X.1 X.2.1 hdg ht (kk H locs ls hP hD hS hl)
theorem n_icmp_eq (X : Cx p s m args c own cc nL D tys A H0) {a b : Nat} {off : Int} (tgt : Nat) (hdg : decode cc pc = .ok (.if_icmp .eq off, 3)) (ht : (pc : Int) + off = (tgt : Int)) (ha : a < 2 ^ 31) (hb : b < 2 ^ 31) (kt : a = b → G p l e R s m args below meth c nL D A H0 Q cells slots ws lv tgt rest) (kf : ¬ a = b → G p l e R s m args below meth c nL D A H0 Q cells slots ws lv (pc + 3) rest) : G p l e R s m args below meth c nL D A H0 Q cells slots ws lv pc (.int (nI b) :: .int (nI a) :: rest) := g_icmp_eq X tgt hdg ht (fun h => kt ((nI_eq ha hb).mp h)) (fun h => kf (fun q => h ((nI_eq ha hb).mpr q)))
theorem n_icmp_ne (X : Cx p s m args c own cc nL D tys A H0) {a b : Nat} {off : Int} (tgt : Nat) (hdg : decode cc pc = .ok (.if_icmp .ne off, 3)) (ht : (pc : Int) + off = (tgt : Int)) (ha : a < 2 ^ 31) (hb : b < 2 ^ 31) (kt : ¬ a = b → G p l e R s m args below meth c nL D A H0 Q cells slots ws lv tgt rest) (kf : a = b → G p l e R s m args below meth c nL D A H0 Q cells slots ws lv (pc + 3) rest) : G p l e R s m args below meth c nL D A H0 Q cells slots ws lv pc (.int (nI b) :: .int (nI a) :: rest) := g_icmp_ne X tgt hdg ht (fun h => kt (fun q => h ((nI_eq ha hb).mpr q))) (fun h => kf ((nI_eq ha hb).mp h))
theorem n_icmp_lt (X : Cx p s m args c own cc nL D tys A H0) {a b : Nat} {off : Int} (tgt : Nat) (hdg : decode cc pc = .ok (.if_icmp .lt off, 3)) (ht : (pc : Int) + off = (tgt : Int)) (ha : a < 2 ^ 31) (hb : b < 2 ^ 31) (kt : a < b → G p l e R s m args below meth c nL D A H0 Q cells slots ws lv tgt rest) (kf : b ≤ a → G p l e R s m args below meth c nL D A H0 Q cells slots ws lv (pc + 3) rest) : G p l e R s m args below meth c nL D A H0 Q cells slots ws lv pc (.int (nI b) :: .int (nI a) :: rest) := g_icmp_lt X tgt hdg ht (fun h => kt ((nI_ltI ha hb).mp h)) (fun h => kf (by have h9 := (not_congr (nI_ltI ha hb)).mp h; omega))
theorem n_icmp_ge (X : Cx p s m args c own cc nL D tys A H0) {a b : Nat} {off : Int} (tgt : Nat) (hdg : decode cc pc = .ok (.if_icmp .ge off, 3)) (ht : (pc : Int) + off = (tgt : Int)) (ha : a < 2 ^ 31) (hb : b < 2 ^ 31) (kt : b ≤ a → G p l e R s m args below meth c nL D A H0 Q cells slots ws lv tgt rest) (kf : a < b → G p l e R s m args below meth c nL D A H0 Q cells slots ws lv (pc + 3) rest) : G p l e R s m args below meth c nL D A H0 Q cells slots ws lv pc (.int (nI b) :: .int (nI a) :: rest) := g_icmp_ge X tgt hdg ht (fun h => kt ((nI_leI hb ha).mp h)) (fun h => kf (by have h9 := (not_congr (nI_leI hb ha)).mp h; omega))
theorem n_icmp_gt (X : Cx p s m args c own cc nL D tys A H0) {a b : Nat} {off : Int} (tgt : Nat) (hdg : decode cc pc = .ok (.if_icmp .gt off, 3)) (ht : (pc : Int) + off = (tgt : Int)) (ha : a < 2 ^ 31) (hb : b < 2 ^ 31) (kt : b < a → G p l e R s m args below meth c nL D A H0 Q cells slots ws lv tgt rest) (kf : a ≤ b → G p l e R s m args below meth c nL D A H0 Q cells slots ws lv (pc + 3) rest) : G p l e R s m args below meth c nL D A H0 Q cells slots ws lv pc (.int (nI b) :: .int (nI a) :: rest) := g_icmp_gt X tgt hdg ht (fun h => kt ((nI_ltI hb ha).mp h)) (fun h => kf (by have h9 := (not_congr (nI_ltI hb ha)).mp h; omega))
theorem n_icmp_le (X : Cx p s m args c own cc nL D tys A H0) {a b : Nat} {off : Int} (tgt : Nat) (hdg : decode cc pc = .ok (.if_icmp .le off, 3)) (ht : (pc : Int) + off = (tgt : Int)) (ha : a < 2 ^ 31) (hb : b < 2 ^ 31) (kt : a ≤ b → G p l e R s m args below meth c nL D A H0 Q cells slots ws lv tgt rest) (kf : b < a → G p l e R s m args below meth c nL D A H0 Q cells slots ws lv (pc + 3) rest) : G p l e R s m args below meth c nL D A H0 Q cells slots ws lv pc (.int (nI b) :: .int (nI a) :: rest) := g_icmp_le X tgt hdg ht (fun h => kt ((nI_leI ha hb).mp h)) (fun h => kf (by have h9 := (not_congr (nI_leI ha hb)).mp h; omega))
theorem g_get (X : Cx p s m args c own cc nL D tys A H0) {ref C : String} {T : u_T} {N ci index a : Nat} (q0 k : Nat) {fs : List Value} {v : Value} (hin : ∀ w ∈ u_ws C T N, w ∈ TB) (he : ws[q0]? = some (a, .inr (ci, fs))) (hc : cls9[ci]? = some (C, T, N)) (hk : k < N) (hlink : Cond.fieldLink own index ref (T k).2.1 (T k).2.2.1 ∈ TB) (hsame : (T k).1 = ref) (hv : fs[k]? = some v) (hdg : decode cc pc = .ok (.getfield index, 3)) (kk : G p l e R s m args below meth c nL D A H0 Q cells slots ws lv (pc + 3) (v :: rest)) : G p l e R s m args below meth c nL D A H0 Q cells slots ws lv pc (.ref a :: rest) := fun H locs ls hP hD hS hl => va_get (D := D) X.1 X.2.1 X.2.2.2.2.1 hin X.2.2.2.1 X.2.2.2.2.2.1.1 hP q0 he hc k hk (X.2.2.2.2.1 _ hlink) (fun _ h9 => by rw [← hsame]; exact h9) hv hdg (kk H locs ls hP hD hS hl)
theorem g_put (X : Cx p s m args c own cc nL D tys A H0) {ref C : String} {T : u_T} {N ci index a : Nat} (q0 k : Nat) {fs : List Value} {v : Value} {ty : FieldType} (ws' : va_W) (ty0 : Nat → FieldType) (hty : ∀ k, k < N → parseFieldDescriptor (T k).2.2.1 = some (ty0 k)) (hnm : ∀ a, a < N → ∀ b, b < N → a ≠ b → (T a).2.1 ≠ (T b).2.1) (hin : ∀ w ∈ u_ws C T N, w ∈ TB) (he : ws[q0]? = some (a, .inr (ci, fs))) (hc : cls9[ci]? = some (C, T, N)) (hk : k < N) (hlink : Cond.fieldLink own index ref (T k).2.1 (T k).2.2.1 ∈ TB) (hsame : (T k).1 = ref) (hfin : (T k).2.2.2 = false) (hd : parseFieldDescriptor (T k).2.2.1 = some ty) (hn : narrow ty v = v) (hfit : fits ty v = true) (hl0 : k < fs.length) (hw : ws.set q0 (a, .inr (ci, fs.set k v)) = ws') (hdg : decode cc pc = .ok (.putfield index, 3)) (kk : G p l e R s m args below meth c nL D A H0 Q cells slots ws' lv (pc + 3) rest) : G p l e R s m args below meth c nL D A H0 Q cells slots ws lv pc (v :: .ref a :: rest) := by
  subst hw
  exact fun H locs ls hP hD hS hl => va_put (D := D) X.1 X.2.1 X.2.2.2.2.1 hin ty0 hty hnm X.2.2.2.1 X.2.2.2.2.2.1.1 hP hD hS q0 he hc k hk (X.2.2.2.2.1 _ hlink) (fun _ h9 => by rw [← hsame]; exact h9) hfin hd hn hfit hl0 hdg (fun H1 locs1 hP1 hD1 hS1 => kk H1 locs1 ls hP1 hD1 hS1 hl)
theorem g_putF (X : Cx p s m args c own cc nL D tys A H0) {ref C : String} {T : u_T} {N ci index a : Nat} (q0 k : Nat) {fs : List Value} {v : Value} {ty : FieldType} (ws' : va_W) (ty0 : Nat → FieldType) (hty : ∀ k, k < N → parseFieldDescriptor (T k).2.2.1 = some (ty0 k)) (hnm : ∀ a, a < N → ∀ b, b < N → a ≠ b → (T a).2.1 ≠ (T b).2.1) (hin : ∀ w ∈ u_ws C T N, w ∈ TB) (he : ws[q0]? = some (a, .inr (ci, fs))) (hc : cls9[ci]? = some (C, T, N)) (hk : k < N) (hlink : Cond.fieldLink own index ref (T k).2.1 (T k).2.2.1 ∈ TB) (hsame : (T k).1 = ref) (hfin : (T k).2.2.2 = true) (hin2 : meth.name = "<init>") (hdecl : (T k).1 = own) (hd : parseFieldDescriptor (T k).2.2.1 = some ty) (hn : narrow ty v = v) (hfit : fits ty v = true) (hl0 : k < fs.length) (hw : ws.set q0 (a, .inr (ci, fs.set k v)) = ws') (hdg : decode cc pc = .ok (.putfield index, 3)) (kk : G p l e R s m args below meth c nL D A H0 Q cells slots ws' lv (pc + 3) rest) : G p l e R s m args below meth c nL D A H0 Q cells slots ws lv pc (v :: .ref a :: rest) := by
  subst hw
  exact fun H locs ls hP hD hS hl => va_putF (D := D) X.1 X.2.1 X.2.2.2.2.1 hin ty0 hty hnm X.2.2.2.1 X.2.2.2.2.2.1.1 hP hD hS q0 he hc k hk (X.2.2.2.2.1 _ hlink) (fun _ h9 => by rw [← hsame]; exact h9) hfin hin2 hdecl hd hn hfit hl0 hdg (fun H1 locs1 hP1 hD1 hS1 => kk H1 locs1 ls hP1 hD1 hS1 hl)
theorem g_iald (X : Cx p s m args c own cc nL D tys A H0) {a n j : Nat} (q0 t0 : Nat) {cA : ClassId} {f : Nat → Int32} (ha : ws[q0]? = some (a, .inl (cA, n, .inl f))) (ht : tys[t0]? = some (cA, .int)) (hj : j < n) (hn : n < 2 ^ 31) (hdg : decode cc pc = .ok (.iaload, 1)) (kk : G p l e R s m args below meth c nL D A H0 Q cells slots ws lv (pc + 1) (.int (f j) :: rest)) : G p l e R s m args below meth c nL D A H0 Q cells slots ws lv pc (.int (nI j) :: .ref a :: rest) := by
  refine fun H locs ls hP hD hS hl => va_iald X.1 X.2.1 X.2.2.2.2.2.1.1 hP q0 t0 ha ht (vp_in_nI hj hn) hdg ?_
  rw [nI_clamp (by omega)]
  exact kk H locs ls hP hD hS hl
theorem g_zald (X : Cx p s m args c own cc nL D tys A H0) {a n j : Nat} (q0 t0 : Nat) {cA : ClassId} {f : Nat → Int32} (ha : ws[q0]? = some (a, .inl (cA, n, .inl f))) (ht : tys[t0]? = some (cA, .boolean)) (hj : j < n) (hn : n < 2 ^ 31) (hdg : decode cc pc = .ok (.baload, 1)) (kk : G p l e R s m args below meth c nL D A H0 Q cells slots ws lv (pc + 1) (.int (f j) :: rest)) : G p l e R s m args below meth c nL D A H0 Q cells slots ws lv pc (.int (nI j) :: .ref a :: rest) := by
  refine fun H locs ls hP hD hS hl => va_zald X.1 X.2.1 X.2.2.2.2.2.1.1 hP q0 t0 ha ht (vp_in_nI hj hn) hdg ?_
  rw [nI_clamp (by omega)]
  exact kk H locs ls hP hD hS hl
theorem g_lald (X : Cx p s m args c own cc nL D tys A H0) {a n j : Nat} (q0 t0 : Nat) {cA : ClassId} {f : Nat → Int64} (ha : ws[q0]? = some (a, .inl (cA, n, .inr (.inl f)))) (ht : tys[t0]? = some (cA, .long)) (hj : j < n) (hn : n < 2 ^ 31) (hdg : decode cc pc = .ok (.laload, 1)) (kk : G p l e R s m args below meth c nL D A H0 Q cells slots ws lv (pc + 1) (.long (f j) :: rest)) : G p l e R s m args below meth c nL D A H0 Q cells slots ws lv pc (.int (nI j) :: .ref a :: rest) := by
  refine fun H locs ls hP hD hS hl => va_lald X.1 X.2.1 X.2.2.2.2.2.1.1 hP q0 t0 ha ht (vp_in_nI hj hn) hdg ?_
  rw [nI_clamp (by omega)]
  exact kk H locs ls hP hD hS hl
theorem g_iast (X : Cx p s m args c own cc nL D tys A H0) {a n j : Nat} (q0 t0 : Nat) {cA : ClassId} {f : Nat → Int32} {x : Int32} (ws' : va_W) (ha : ws[q0]? = some (a, .inl (cA, n, .inl f))) (ht : tys[t0]? = some (cA, .int)) (hj : j < n) (hn : n < 2 ^ 31) (hw : ws.set q0 (a, .inl (cA, n, .inl (upd f j x))) = ws') (hdg : decode cc pc = .ok (.iastore, 1)) (kk : G p l e R s m args below meth c nL D A H0 Q cells slots ws' lv (pc + 1) rest) : G p l e R s m args below meth c nL D A H0 Q cells slots ws lv pc (.int x :: .int (nI j) :: .ref a :: rest) := by
  subst hw
  refine fun H locs ls hP hD hS hl => va_iast X.1 X.2.1 X.2.2.2.2.2.1.1 hP hD hS q0 t0 ha ht (vp_in_nI hj hn) hdg (fun H1 locs1 hP1 hD1 hS1 => ?_)
  rw [nI_clamp (by omega)] at hP1 hD1
  exact kk H1 locs1 ls hP1 hD1 hS1 hl
theorem g_last (X : Cx p s m args c own cc nL D tys A H0) {a n j : Nat} (q0 t0 : Nat) {cA : ClassId} {f : Nat → Int64} {x : Int64} (ws' : va_W) (ha : ws[q0]? = some (a, .inl (cA, n, .inr (.inl f)))) (ht : tys[t0]? = some (cA, .long)) (hj : j < n) (hn : n < 2 ^ 31) (hw : ws.set q0 (a, .inl (cA, n, .inr (.inl (vp_updL f j x)))) = ws') (hdg : decode cc pc = .ok (.lastore, 1)) (kk : G p l e R s m args below meth c nL D A H0 Q cells slots ws' lv (pc + 1) rest) : G p l e R s m args below meth c nL D A H0 Q cells slots ws lv pc (.long x :: .int (nI j) :: .ref a :: rest) := by
  subst hw
  refine fun H locs ls hP hD hS hl => va_last X.1 X.2.1 X.2.2.2.2.2.1.1 hP hD hS q0 t0 ha ht (vp_in_nI hj hn) hdg (fun H1 locs1 hP1 hD1 hS1 => ?_)
  rw [nI_clamp (by omega)] at hP1 hD1
  exact kk H1 locs1 ls hP1 hD1 hS1 hl
theorem g_zast (X : Cx p s m args c own cc nL D tys A H0) {a n j : Nat} (q0 t0 : Nat) {cA : ClassId} {f : Nat → Int32} {x : Int32} (ws' : va_W) (ha : ws[q0]? = some (a, .inl (cA, n, .inl f))) (ht : tys[t0]? = some (cA, .boolean)) (hj : j < n) (hn : n < 2 ^ 31) (hw : ws.set q0 (a, .inl (cA, n, .inl (upd f j (vp_nar .boolean x)))) = ws') (hdg : decode cc pc = .ok (.bastore, 1)) (kk : G p l e R s m args below meth c nL D A H0 Q cells slots ws' lv (pc + 1) rest) : G p l e R s m args below meth c nL D A H0 Q cells slots ws lv pc (.int x :: .int (nI j) :: .ref a :: rest) := by
  subst hw
  refine fun H locs ls hP hD hS hl => va_zast X.1 X.2.1 X.2.2.2.2.2.1.1 hP hD hS q0 t0 ha ht (vp_in_nI hj hn) hdg (fun H1 locs1 hP1 hD1 hS1 => ?_)
  rw [nI_clamp (by omega)] at hP1 hD1
  exact kk H1 locs1 ls hP1 hD1 hS1 hl
theorem g_alen (X : Cx p s m args c own cc nL D tys A H0) {a n : Nat} (q0 t0 : Nat) {cA : ClassId} {y : (Nat → Int32) ⊕ (Nat → Int64) ⊕ (Nat → UInt32) ⊕ (Nat → UInt64) ⊕ (Nat → Option Nat)} {ty : FieldType} (ha : ws[q0]? = some (a, .inl (cA, n, y))) (ht : tys[t0]? = some (cA, ty)) (hdg : decode cc pc = .ok (.arraylength, 1)) (kk : G p l e R s m args below meth c nL D A H0 Q cells slots ws lv (pc + 1) (.int (nI n) :: rest)) : G p l e R s m args below meth c nL D A H0 Q cells slots ws lv pc (.ref a :: rest) := fun H locs ls hP hD hS hl => va_alen X.1 X.2.1 X.2.2.2.2.2.1.1 hP q0 t0 ha ht rfl hdg (kk H locs ls hP hD hS hl)
theorem g_widen {k n : Nat} (h1 : cells ≤ k) (h2 : slots ≤ n) (kk : G p l e R s m args below meth c nL D A H0 Q k n ws lv pc rest) : G p l e R s m args below meth c nL D A H0 Q cells slots ws lv pc rest := fun H locs ls hP hD hS hl => W.widen h1 h2 (kk H locs ls hP hD hS hl)
theorem g_lv (ks : List Nat) (hl' : lv_pick lv ks = lv') (kk : G p l e R s m args below meth c nL D A H0 Q cells slots ws lv' pc rest) : G p l e R s m args below meth c nL D A H0 Q cells slots ws lv pc rest := fun H locs ls hP hD hS hl => kk H locs ls hP hD hS (lv_sub hl ks hl')
theorem filterMap_of_map {α : Type} : ∀ (l : List (Option α)) (r : List α), l = r.map some → l.filterMap id = r
  | _, [], h => by subst h; rfl
  | _, a :: r, h => by subst h; simp [List.filterMap_map]
theorem g_ws (ws' : va_W) (is : List Nat) (hn : va_nd is = true) (hs : is.map (fun i => ws[i]?) = ws'.map some) (kk : G p l e R s m args below meth c nL D A H0 Q cells slots ws' lv pc rest) : G p l e R s m args below meth c nL D A H0 Q cells slots ws lv pc rest := fun H locs ls hP hD hS hl => kk H locs ls (hP.sub is (by rw [← filterMap_of_map _ _ hs, List.filterMap_map]; rfl)) (hD.sub is hn hs) hS hl
end GG
end
section
/-! contracts in terms of worlds alone; their beginning, their end, their use -/
section GC
variable {p : Program} {l : Launch} {e : Env} {R : Room} {s : State} {m : MethodId} {args : Array Value} {below : List Frame} {meth : Method} {c : Code} {cells slots : Nat} {Q : State → Prop}
variable {own : String} {cc : ByteArray} {nL : Nat} {D : va_G} {tys : List (ClassId × FieldType)} {A : Nat → Prop} {H0 : Heap}
variable {ws ws' : va_W} {lv lv' : List (Nat × Value)} {pc : Nat} {rest st : List Value}
variable {y : MethodName} {bytes : ByteArray} {maxL mc ms n index : Nat} {ret : Option FieldType} {wy : List Cond} {rm : Room} {C : String} {b : Nat} {As av : List Value} {wc wr : va_W} {S : Type}
def Pre (D : va_G) (tys : List (ClassId × FieldType)) (wc : va_W) (sz : Nat) (U : State) : Prop := U.heap.size = sz ∧ va_P D cls9 wc U.heap ∧ KK D tys U ∧ va_D (fun _ => True) wc
def Pos {S : Type} (D : va_G) (tys : List (ClassId × FieldType)) (wc : va_W) (sz : Nat) (w1 : S → va_W) (u : S) (t : State) : Prop := va_P D cls9 (w1 u) t.heap ∧ KK D tys t ∧ va_D (va_A wc sz) (w1 u)
def CtI {S : Type} (l : Launch) (y : MethodName) (wy : List Cond) (rm : Room) (D : va_G) (tys : List (ClassId × FieldType)) (av : List Value) (wc : va_W) (mc ms : Nat) (post : Int32 → S → Prop) (w1 : S → va_W) : Prop :=
  ∀ sz : Nat, Met l y wy rm (va_Pc av (Pre D tys wc sz)) (va_Qi post (Pos D tys wc sz w1) (va_A wc sz)) mc ms (va_A wc sz)
def CtL {S : Type} (l : Launch) (y : MethodName) (wy : List Cond) (rm : Room) (D : va_G) (tys : List (ClassId × FieldType)) (av : List Value) (wc : va_W) (mc ms : Nat) (post : Int64 → S → Prop) (w1 : S → va_W) : Prop :=
  ∀ sz : Nat, Met l y wy rm (va_Pc av (Pre D tys wc sz)) (va_Ql post (Pos D tys wc sz w1) (va_A wc sz)) mc ms (va_A wc sz)
def CtV {S : Type} (l : Launch) (y : MethodName) (wy : List Cond) (rm : Room) (D : va_G) (tys : List (ClassId × FieldType)) (av : List Value) (wc : va_W) (mc ms : Nat) (post : S → Prop) (w1 : S → va_W) : Prop :=
  ∀ sz : Nat, Met l y wy rm (va_Pc av (Pre D tys wc sz)) (va_Qv post (Pos D tys wc sz w1) (va_A wc sz)) mc ms (va_A wc sz)
theorem Pre.blind (sz : Nat) : FrameBlind (va_Pc av (Pre D tys wc sz)) := fun a U g mk q => by
  obtain ⟨q0, q1, qP, qK, qD⟩ := q
  exact ⟨q0, q1, qP, KK.same rfl qK, qD⟩
theorem CtI.of {post : Int32 → S → Prop} {w1 : S → va_W} (cc : ByteArray) (maxL : Nat) (ret : Option FieldType) (hy : plainName y.cls = true) (hw : wy = Cond.code y cc maxL ret :: TB) (hlen : (lg_sl av).length ≤ maxL)
    (body : ∀ (p : Program) (e : Env) (s : State) (m : MethodId) (args : Array Value) (below : List Frame) (meth : Method) (c : Code) (A : Nat → Prop) (Q : State → Prop), A = va_A wc s.heap.size → Q = MQ below (va_Qi post (Pos D tys wc s.heap.size w1) (va_A wc s.heap.size)) args s mc ms (va_A wc s.heap.size) → Cx p s m args c y.cls cc maxL D tys A s.heap → meth.sig.returnType = ret → meth.locks = false → meth.name = y.name →
      G p l e rm s m args below meth c maxL D A s.heap Q 0 0 wc (lv_args 0 av) 0 []) : CtI l y wy rm D tys av wc mc ms post w1 := by
  intro sz
  refine Met.ofW (cc := cc) (maxL := maxL) (ret := ret) hy hw ?_
  intro p e s m args below meth c s₁ B hml hv
  obtain ⟨rfl, hsz, hP, hK, hD0⟩ := hv
  have hts0 := atoms_spec (ws := wy) B.pre
  have hts : ∀ w ∈ TB, w.before av.toArray s = true := fun w h => hts0 w (by rw [hw]; exact List.mem_cons_of_mem _ h)
  have hown : s.vm.findClass y.cls = some m.cls := findClass_of_methodNamed B.named
  subst hsz
  have hD := hD0.self (sz := s.heap.size)
  have hA : ∀ q : Nat, s.heap.size ≤ q → va_A wc s.heap.size q := fun q h => Or.inr h
  have hl := lv_entry av (n := maxL) hlen
  rw [lg_entry_eq]
  exact body p e s m _ below meth c _ _ rfl rfl ⟨B.exec, B.bytes, hml, hown, hts, hK, hA⟩ B.returns B.notSynchronized (name_of_methodNamed B.named B.method).1 s.heap [] _ hP hD va_S.rf hl
theorem CtL.of {post : Int64 → S → Prop} {w1 : S → va_W} (cc : ByteArray) (maxL : Nat) (ret : Option FieldType) (hy : plainName y.cls = true) (hw : wy = Cond.code y cc maxL ret :: TB) (hlen : (lg_sl av).length ≤ maxL)
    (body : ∀ (p : Program) (e : Env) (s : State) (m : MethodId) (args : Array Value) (below : List Frame) (meth : Method) (c : Code) (A : Nat → Prop) (Q : State → Prop), A = va_A wc s.heap.size → Q = MQ below (va_Ql post (Pos D tys wc s.heap.size w1) (va_A wc s.heap.size)) args s mc ms (va_A wc s.heap.size) → Cx p s m args c y.cls cc maxL D tys A s.heap → meth.sig.returnType = ret → meth.locks = false → meth.name = y.name →
      G p l e rm s m args below meth c maxL D A s.heap Q 0 0 wc (lv_args 0 av) 0 []) : CtL l y wy rm D tys av wc mc ms post w1 := by
  intro sz
  refine Met.ofW (cc := cc) (maxL := maxL) (ret := ret) hy hw ?_
  intro p e s m args below meth c s₁ B hml hv
  obtain ⟨rfl, hsz, hP, hK, hD0⟩ := hv
  have hts0 := atoms_spec (ws := wy) B.pre
  have hts : ∀ w ∈ TB, w.before av.toArray s = true := fun w h => hts0 w (by rw [hw]; exact List.mem_cons_of_mem _ h)
  have hown : s.vm.findClass y.cls = some m.cls := findClass_of_methodNamed B.named
  subst hsz
  have hD := hD0.self (sz := s.heap.size)
  have hA : ∀ q : Nat, s.heap.size ≤ q → va_A wc s.heap.size q := fun q h => Or.inr h
  have hl := lv_entry av (n := maxL) hlen
  rw [lg_entry_eq]
  exact body p e s m _ below meth c _ _ rfl rfl ⟨B.exec, B.bytes, hml, hown, hts, hK, hA⟩ B.returns B.notSynchronized (name_of_methodNamed B.named B.method).1 s.heap [] _ hP hD va_S.rf hl
theorem CtV.of {post : S → Prop} {w1 : S → va_W} (cc : ByteArray) (maxL : Nat) (ret : Option FieldType) (hy : plainName y.cls = true) (hw : wy = Cond.code y cc maxL ret :: TB) (hlen : (lg_sl av).length ≤ maxL)
    (body : ∀ (p : Program) (e : Env) (s : State) (m : MethodId) (args : Array Value) (below : List Frame) (meth : Method) (c : Code) (A : Nat → Prop) (Q : State → Prop), A = va_A wc s.heap.size → Q = MQ below (va_Qv post (Pos D tys wc s.heap.size w1) (va_A wc s.heap.size)) args s mc ms (va_A wc s.heap.size) → Cx p s m args c y.cls cc maxL D tys A s.heap → meth.sig.returnType = ret → meth.locks = false → meth.name = y.name →
      G p l e rm s m args below meth c maxL D A s.heap Q 0 0 wc (lv_args 0 av) 0 []) : CtV l y wy rm D tys av wc mc ms post w1 := by
  intro sz
  refine Met.ofW (cc := cc) (maxL := maxL) (ret := ret) hy hw ?_
  intro p e s m args below meth c s₁ B hml hv
  obtain ⟨rfl, hsz, hP, hK, hD0⟩ := hv
  have hts0 := atoms_spec (ws := wy) B.pre
  have hts : ∀ w ∈ TB, w.before av.toArray s = true := fun w h => hts0 w (by rw [hw]; exact List.mem_cons_of_mem _ h)
  have hown : s.vm.findClass y.cls = some m.cls := findClass_of_methodNamed B.named
  subst hsz
  have hD := hD0.self (sz := s.heap.size)
  have hA : ∀ q : Nat, s.heap.size ≤ q → va_A wc s.heap.size q := fun q h => Or.inr h
  have hl := lv_entry av (n := maxL) hlen
  rw [lg_entry_eq]
  exact body p e s m _ below meth c _ _ rfl rfl ⟨B.exec, B.bytes, hml, hown, hts, hK, hA⟩ B.returns B.notSynchronized (name_of_methodNamed B.named B.method).1 s.heap [] _ hP hD va_S.rf hl
theorem g_iret (X : Cx p s m args c own cc nL D tys A s.heap) {post : Int32 → S → Prop} {w1 : S → va_W} {v : Int32} (hA : A = va_A wc s.heap.size) (hQ : Q = MQ below (va_Qi post (Pos D tys wc s.heap.size w1) (va_A wc s.heap.size)) args s cells slots (va_A wc s.heap.size)) (hr : meth.sig.returnType = some .int) (hlocks : meth.locks = false) (u : S) (is : List Nat) (hn : va_nd is = true) (hs : is.map (fun i => ws[i]?) = (w1 u).map some) (hdg : decode cc pc = .ok (.ireturn, 1)) (hpost : post v u) : G p l e R s m args below meth c nL D A s.heap Q cells slots ws lv pc [.int v] := by
  subst hA
  subst hQ
  exact fun H locs ls hP hD hS hl => W.iret (v := v) X.1 X.2.1 hr (fun t ht hW => ⟨⟨v, u, rfl, hpost, by rw [ht]; exact (hP.sub is (by rw [← filterMap_of_map _ _ hs, List.filterMap_map]; rfl)), KK.warm hW X.2.2.2.2.2.1, hD.sub is hn hs⟩, hS.F ht⟩) hS.2.2 hdg hlocks
theorem g_zret (X : Cx p s m args c own cc nL D tys A s.heap) {post : Int32 → S → Prop} {w1 : S → va_W} {v : Int32} (hA : A = va_A wc s.heap.size) (hQ : Q = MQ below (va_Qi post (Pos D tys wc s.heap.size w1) (va_A wc s.heap.size)) args s cells slots (va_A wc s.heap.size)) (hr : meth.sig.returnType = some .boolean) (hz : v = 0 ∨ v = 1) (hlocks : meth.locks = false) (u : S) (is : List Nat) (hn : va_nd is = true) (hs : is.map (fun i => ws[i]?) = (w1 u).map some) (hdg : decode cc pc = .ok (.ireturn, 1)) (hpost : post v u) : G p l e R s m args below meth c nL D A s.heap Q cells slots ws lv pc [.int v] := by
  subst hA
  subst hQ
  exact fun H locs ls hP hD hS hl => W.zret (v := v) X.1 X.2.1 hr (by rcases hz with h | h <;> subst h <;> rfl) (fun t ht hW => ⟨⟨v, u, rfl, hpost, by rw [ht]; exact (hP.sub is (by rw [← filterMap_of_map _ _ hs, List.filterMap_map]; rfl)), KK.warm hW X.2.2.2.2.2.1, hD.sub is hn hs⟩, hS.F ht⟩) hS.2.2 hdg hlocks
theorem g_lret (X : Cx p s m args c own cc nL D tys A s.heap) {post : Int64 → S → Prop} {w1 : S → va_W} {v : Int64} (hA : A = va_A wc s.heap.size) (hQ : Q = MQ below (va_Ql post (Pos D tys wc s.heap.size w1) (va_A wc s.heap.size)) args s cells slots (va_A wc s.heap.size)) (hr : meth.sig.returnType = some .long) (hlocks : meth.locks = false) (u : S) (is : List Nat) (hn : va_nd is = true) (hs : is.map (fun i => ws[i]?) = (w1 u).map some) (hdg : decode cc pc = .ok (.lreturn, 1)) (hpost : post v u) : G p l e R s m args below meth c nL D A s.heap Q cells slots ws lv pc [.long v] := by
  subst hA
  subst hQ
  exact fun H locs ls hP hD hS hl => W.lret (v := v) X.1 X.2.1 hr (fun t ht hW => ⟨⟨v, u, rfl, hpost, by rw [ht]; exact (hP.sub is (by rw [← filterMap_of_map _ _ hs, List.filterMap_map]; rfl)), KK.warm hW X.2.2.2.2.2.1, hD.sub is hn hs⟩, hS.F ht⟩) hS.2.2 hdg hlocks
theorem g_vret (X : Cx p s m args c own cc nL D tys A s.heap) {post : S → Prop} {w1 : S → va_W} (hA : A = va_A wc s.heap.size) (hQ : Q = MQ below (va_Qv post (Pos D tys wc s.heap.size w1) (va_A wc s.heap.size)) args s cells slots (va_A wc s.heap.size)) (hr : meth.sig.returnType = none) (hlocks : meth.locks = false) (u : S) (is : List Nat) (hn : va_nd is = true) (hs : is.map (fun i => ws[i]?) = (w1 u).map some) (hdg : decode cc pc = .ok (.return_, 1)) (hpost : post u) : G p l e R s m args below meth c nL D A s.heap Q cells slots ws lv pc [] := by
  subst hA
  subst hQ
  exact fun H locs ls hP hD hS hl => W.vret X.1 X.2.1 hr (fun t ht hW => ⟨⟨u, rfl, hpost, by rw [ht]; exact (hP.sub is (by rw [← filterMap_of_map _ _ hs, List.filterMap_map]; rfl)), KK.warm hW X.2.2.2.2.2.1, hD.sub is hn hs⟩, hS.F ht⟩) hS.2.2 hdg hlocks
theorem goodTB {w : Cond} (h : w ∈ TB) : GoodIn TB (w :: TB) := fun v hv => by
  have hm : v ∈ TB := by
    rcases List.mem_cons.mp hv with e | e
    · rw [e]; exact h
    · exact e
  exact ⟨hm, good_of_word (tb_good hm)⟩
theorem g_calliV (X : Cx p s m args c own cc nL D tys A H0) {post : Int32 → S → Prop} {w1 : S → va_W} (As : List Value) (hM : CtI l y (Cond.code y bytes maxL ret :: TB) rm D tys (.ref b :: As) wc mc ms post w1) (h1 : Cond.methodLink own index y ∈ TB) (h2 : Cond.instanceMethod y ∈ TB) (h3 : Cond.selects C y y ∈ TB) (h4 : Cond.initialized y.cls ∈ TB) (h5 : Cond.code y bytes maxL ret ∈ TB) (hrc : rm.cells = mc) (hrs : rm.slots = ms) (hd : y.cls ≠ "java/lang/invoke/MethodHandle" ∧ y.cls ≠ "java/lang/invoke/VarHandle" ∧ (parseMethodDescriptor y.desc).map (fun d => d.parameters.length) = some n) (hR : rm.frames + 1 ≤ R.frames ∧ 8 + (maxL + 11) + rm.locals ≤ R.locals) (isC isR : List Nat) (wr : va_W) (hC : isC.map (fun i => ws[i]?) = wc.map some) (hR' : isR.map (fun i => ws[i]?) = wr.map some) (hnC : va_nd isC = true) (hn : va_nd isR = true) (hdis : ∀ i ∈ isR, i ∉ isC) (q0 : Nat) {ci : Nat} {fs : List Value} {T : u_T} {N : Nat} (he : wc[q0]? = some (b, .inr (ci, fs))) (hc : cls9[ci]? = some (C, T, N)) (hlen : As.length = n) (hstk : st = As.reverse ++ .ref b :: rest) (hroom : (rest.map fun v => v.category).sum ≤ 8) (hdg : decode cc pc = .ok (.invokevirtual index, 3)) (hf : cells + mc ≤ R.cells ∧ slots + ms ≤ R.slots)
    (kk : ∀ (r : Int32) (u : S), post r u → G p l e R s m args below meth c nL D A H0 Q (cells + mc) (slots + ms) (wr ++ w1 u) lv (pc + 3) (.int r :: rest)) : G p l e R s m args below meth c nL D A H0 Q cells slots ws lv pc st := by
  intro H locs ls hP hD hS hl
  have hPc : va_P D cls9 wc H := hP.sub isC (by rw [← filterMap_of_map _ _ hC, List.filterMap_map]; rfl)
  have hDc : va_D A wc := hD.sub isC hnC hC
  have hFc := va_free (wc := wc) hD hS X.2.2.2.2.2.2 isC hC
  refine va_calli (va_runV (C := C) (As := As) (b := b) (rest := rest) ⟨X.1, X.2.1, X.2.2.1, X.2.2.2.1, X.2.2.2.2.1⟩ (hM H.size) ⟨callB_of n X.2.2.2.2.1 (goodTB h5) rfl hrc hrs (X.2.2.2.2.1 _ h4) (X.2.2.2.2.1 _ h1) hd hR, X.2.2.2.2.1 _ h2, X.2.2.2.2.1 _ h3⟩ ⟨Pre.blind _, va_recv X.2.2.2.2.2.1.1 hPc hc he, fun U hU hW => ⟨rfl, by rw [hU], by rw [hU]; exact hPc, KK.warm hW X.2.2.2.2.2.1, hDc.weaken (fun _ _ _ _ => trivial)⟩⟩ rfl hlen hl.1 hstk (lv_room hroom) hdg hf) hS (fun q _ h => hFc q h) hFc (fun r u t H1 locs1 ht hvm hw hB hz1 hk1 hS1 => ?_)
  obtain ⟨hP1, hK1, hD1⟩ := hB
  rw [ht] at hP1
  obtain ⟨hP2, hD2⟩ := va_join (wr := wr) (w1 := w1 u) hP hD isC isR hC hR' hn hdis hk1 hFc hP1 hD1
  exact kk r u hw H1 locs1 ls hP2 hD2 hS1 hl
theorem g_calliS (X : Cx p s m args c own cc nL D tys A H0) {post : Int32 → S → Prop} {w1 : S → va_W} (As : List Value) (hM : CtI l y (Cond.code y bytes maxL ret :: TB) rm D tys (As) wc mc ms post w1) (h1 : Cond.methodLink own index y ∈ TB) (h2 : Cond.static y ∈ TB) (h4 : Cond.initialized y.cls ∈ TB) (h5 : Cond.code y bytes maxL ret ∈ TB) (hrc : rm.cells = mc) (hrs : rm.slots = ms) (hd : y.cls ≠ "java/lang/invoke/MethodHandle" ∧ y.cls ≠ "java/lang/invoke/VarHandle" ∧ (parseMethodDescriptor y.desc).map (fun d => d.parameters.length) = some n) (hR : rm.frames + 1 ≤ R.frames ∧ 8 + (maxL + 11) + rm.locals ≤ R.locals) (isC isR : List Nat) (wr : va_W) (hC : isC.map (fun i => ws[i]?) = wc.map some) (hR' : isR.map (fun i => ws[i]?) = wr.map some) (hnC : va_nd isC = true) (hn : va_nd isR = true) (hdis : ∀ i ∈ isR, i ∉ isC) (hlen : As.length = n) (hstk : st = As.reverse ++ rest) (hroom : (rest.map fun v => v.category).sum ≤ 8) (hdg : decode cc pc = .ok (.invokestatic index, 3)) (hf : cells + mc ≤ R.cells ∧ slots + ms ≤ R.slots)
    (kk : ∀ (r : Int32) (u : S), post r u → G p l e R s m args below meth c nL D A H0 Q (cells + mc) (slots + ms) (wr ++ w1 u) lv (pc + 3) (.int r :: rest)) : G p l e R s m args below meth c nL D A H0 Q cells slots ws lv pc st := by
  intro H locs ls hP hD hS hl
  have hPc : va_P D cls9 wc H := hP.sub isC (by rw [← filterMap_of_map _ _ hC, List.filterMap_map]; rfl)
  have hDc : va_D A wc := hD.sub isC hnC hC
  have hFc := va_free (wc := wc) hD hS X.2.2.2.2.2.2 isC hC
  refine va_calli (va_runS (As := As) (rest := rest) ⟨X.1, X.2.1, X.2.2.1, X.2.2.2.1, X.2.2.2.2.1⟩ (hM H.size) ⟨callB_of n X.2.2.2.2.1 (goodTB h5) rfl hrc hrs (X.2.2.2.2.1 _ h4) (X.2.2.2.2.1 _ h1) hd hR, X.2.2.2.2.1 _ h2⟩ ⟨Pre.blind _,  fun U hU hW => ⟨rfl, by rw [hU], by rw [hU]; exact hPc, KK.warm hW X.2.2.2.2.2.1, hDc.weaken (fun _ _ _ _ => trivial)⟩⟩ rfl hlen hl.1 hstk (lv_room hroom) hdg hf) hS (fun q _ h => hFc q h) hFc (fun r u t H1 locs1 ht hvm hw hB hz1 hk1 hS1 => ?_)
  obtain ⟨hP1, hK1, hD1⟩ := hB
  rw [ht] at hP1
  obtain ⟨hP2, hD2⟩ := va_join (wr := wr) (w1 := w1 u) hP hD isC isR hC hR' hn hdis hk1 hFc hP1 hD1
  exact kk r u hw H1 locs1 ls hP2 hD2 hS1 hl
theorem g_calliN (X : Cx p s m args c own cc nL D tys A H0) {post : Int32 → S → Prop} {w1 : S → va_W} (As : List Value) (hM : CtI l y (Cond.code y bytes maxL ret :: TB) rm D tys (As) wc mc ms post w1) {host : String} (h1 : va_Nw (.methodLinkNest own index y host) s) (h2 : Cond.static y ∈ TB) (h4 : Cond.initialized y.cls ∈ TB) (h5 : Cond.code y bytes maxL ret ∈ TB) (hrc : rm.cells = mc) (hrs : rm.slots = ms) (hd : y.cls ≠ "java/lang/invoke/MethodHandle" ∧ y.cls ≠ "java/lang/invoke/VarHandle" ∧ (parseMethodDescriptor y.desc).map (fun d => d.parameters.length) = some n) (hR : rm.frames + 1 ≤ R.frames ∧ 8 + (maxL + 11) + rm.locals ≤ R.locals) (isC isR : List Nat) (wr : va_W) (hC : isC.map (fun i => ws[i]?) = wc.map some) (hR' : isR.map (fun i => ws[i]?) = wr.map some) (hnC : va_nd isC = true) (hn : va_nd isR = true) (hdis : ∀ i ∈ isR, i ∉ isC) (hlen : As.length = n) (hstk : st = As.reverse ++ rest) (hroom : (rest.map fun v => v.category).sum ≤ 8) (hdg : decode cc pc = .ok (.invokestatic index, 3)) (hf : cells + mc ≤ R.cells ∧ slots + ms ≤ R.slots)
    (kk : ∀ (r : Int32) (u : S), post r u → G p l e R s m args below meth c nL D A H0 Q (cells + mc) (slots + ms) (wr ++ w1 u) lv (pc + 3) (.int r :: rest)) : G p l e R s m args below meth c nL D A H0 Q cells slots ws lv pc st := by
  intro H locs ls hP hD hS hl
  have hPc : va_P D cls9 wc H := hP.sub isC (by rw [← filterMap_of_map _ _ hC, List.filterMap_map]; rfl)
  have hDc : va_D A wc := hD.sub isC hnC hC
  have hFc := va_free (wc := wc) hD hS X.2.2.2.2.2.2 isC hC
  refine va_calli (va_runSN (As := As) (rest := rest) ⟨X.1, X.2.1, X.2.2.1, X.2.2.2.1, X.2.2.2.2.1⟩ (hM H.size) ⟨va_cnB n X.2.2.2.2.1 (goodTB h5) rfl hrc hrs h1 (X.2.2.2.2.1 _ h4) hd hR, X.2.2.2.2.1 _ h2, trivial⟩ ⟨Pre.blind _,  fun U hU hW => ⟨rfl, by rw [hU], by rw [hU]; exact hPc, KK.warm hW X.2.2.2.2.2.1, hDc.weaken (fun _ _ _ _ => trivial)⟩⟩ rfl hlen hl.1 hstk (lv_room hroom) hdg hf) hS (fun q _ h => hFc q h) hFc (fun r u t H1 locs1 ht hvm hw hB hz1 hk1 hS1 => ?_)
  obtain ⟨hP1, hK1, hD1⟩ := hB
  rw [ht] at hP1
  obtain ⟨hP2, hD2⟩ := va_join (wr := wr) (w1 := w1 u) hP hD isC isR hC hR' hn hdis hk1 hFc hP1 hD1
  exact kk r u hw H1 locs1 ls hP2 hD2 hS1 hl
theorem g_calllV (X : Cx p s m args c own cc nL D tys A H0) {post : Int64 → S → Prop} {w1 : S → va_W} (As : List Value) (hM : CtL l y (Cond.code y bytes maxL ret :: TB) rm D tys (.ref b :: As) wc mc ms post w1) (h1 : Cond.methodLink own index y ∈ TB) (h2 : Cond.instanceMethod y ∈ TB) (h3 : Cond.selects C y y ∈ TB) (h4 : Cond.initialized y.cls ∈ TB) (h5 : Cond.code y bytes maxL ret ∈ TB) (hrc : rm.cells = mc) (hrs : rm.slots = ms) (hd : y.cls ≠ "java/lang/invoke/MethodHandle" ∧ y.cls ≠ "java/lang/invoke/VarHandle" ∧ (parseMethodDescriptor y.desc).map (fun d => d.parameters.length) = some n) (hR : rm.frames + 1 ≤ R.frames ∧ 8 + (maxL + 11) + rm.locals ≤ R.locals) (isC isR : List Nat) (wr : va_W) (hC : isC.map (fun i => ws[i]?) = wc.map some) (hR' : isR.map (fun i => ws[i]?) = wr.map some) (hnC : va_nd isC = true) (hn : va_nd isR = true) (hdis : ∀ i ∈ isR, i ∉ isC) (q0 : Nat) {ci : Nat} {fs : List Value} {T : u_T} {N : Nat} (he : wc[q0]? = some (b, .inr (ci, fs))) (hc : cls9[ci]? = some (C, T, N)) (hlen : As.length = n) (hstk : st = As.reverse ++ .ref b :: rest) (hroom : (rest.map fun v => v.category).sum ≤ 8) (hdg : decode cc pc = .ok (.invokevirtual index, 3)) (hf : cells + mc ≤ R.cells ∧ slots + ms ≤ R.slots)
    (kk : ∀ (r : Int64) (u : S), post r u → G p l e R s m args below meth c nL D A H0 Q (cells + mc) (slots + ms) (wr ++ w1 u) lv (pc + 3) (.long r :: rest)) : G p l e R s m args below meth c nL D A H0 Q cells slots ws lv pc st := by
  intro H locs ls hP hD hS hl
  have hPc : va_P D cls9 wc H := hP.sub isC (by rw [← filterMap_of_map _ _ hC, List.filterMap_map]; rfl)
  have hDc : va_D A wc := hD.sub isC hnC hC
  have hFc := va_free (wc := wc) hD hS X.2.2.2.2.2.2 isC hC
  refine va_calll (va_runV (C := C) (As := As) (b := b) (rest := rest) ⟨X.1, X.2.1, X.2.2.1, X.2.2.2.1, X.2.2.2.2.1⟩ (hM H.size) ⟨callB_of n X.2.2.2.2.1 (goodTB h5) rfl hrc hrs (X.2.2.2.2.1 _ h4) (X.2.2.2.2.1 _ h1) hd hR, X.2.2.2.2.1 _ h2, X.2.2.2.2.1 _ h3⟩ ⟨Pre.blind _, va_recv X.2.2.2.2.2.1.1 hPc hc he, fun U hU hW => ⟨rfl, by rw [hU], by rw [hU]; exact hPc, KK.warm hW X.2.2.2.2.2.1, hDc.weaken (fun _ _ _ _ => trivial)⟩⟩ rfl hlen hl.1 hstk (lv_room hroom) hdg hf) hS (fun q _ h => hFc q h) hFc (fun r u t H1 locs1 ht hvm hw hB hz1 hk1 hS1 => ?_)
  obtain ⟨hP1, hK1, hD1⟩ := hB
  rw [ht] at hP1
  obtain ⟨hP2, hD2⟩ := va_join (wr := wr) (w1 := w1 u) hP hD isC isR hC hR' hn hdis hk1 hFc hP1 hD1
  exact kk r u hw H1 locs1 ls hP2 hD2 hS1 hl
theorem g_calllS (X : Cx p s m args c own cc nL D tys A H0) {post : Int64 → S → Prop} {w1 : S → va_W} (As : List Value) (hM : CtL l y (Cond.code y bytes maxL ret :: TB) rm D tys (As) wc mc ms post w1) (h1 : Cond.methodLink own index y ∈ TB) (h2 : Cond.static y ∈ TB) (h4 : Cond.initialized y.cls ∈ TB) (h5 : Cond.code y bytes maxL ret ∈ TB) (hrc : rm.cells = mc) (hrs : rm.slots = ms) (hd : y.cls ≠ "java/lang/invoke/MethodHandle" ∧ y.cls ≠ "java/lang/invoke/VarHandle" ∧ (parseMethodDescriptor y.desc).map (fun d => d.parameters.length) = some n) (hR : rm.frames + 1 ≤ R.frames ∧ 8 + (maxL + 11) + rm.locals ≤ R.locals) (isC isR : List Nat) (wr : va_W) (hC : isC.map (fun i => ws[i]?) = wc.map some) (hR' : isR.map (fun i => ws[i]?) = wr.map some) (hnC : va_nd isC = true) (hn : va_nd isR = true) (hdis : ∀ i ∈ isR, i ∉ isC) (hlen : As.length = n) (hstk : st = As.reverse ++ rest) (hroom : (rest.map fun v => v.category).sum ≤ 8) (hdg : decode cc pc = .ok (.invokestatic index, 3)) (hf : cells + mc ≤ R.cells ∧ slots + ms ≤ R.slots)
    (kk : ∀ (r : Int64) (u : S), post r u → G p l e R s m args below meth c nL D A H0 Q (cells + mc) (slots + ms) (wr ++ w1 u) lv (pc + 3) (.long r :: rest)) : G p l e R s m args below meth c nL D A H0 Q cells slots ws lv pc st := by
  intro H locs ls hP hD hS hl
  have hPc : va_P D cls9 wc H := hP.sub isC (by rw [← filterMap_of_map _ _ hC, List.filterMap_map]; rfl)
  have hDc : va_D A wc := hD.sub isC hnC hC
  have hFc := va_free (wc := wc) hD hS X.2.2.2.2.2.2 isC hC
  refine va_calll (va_runS (As := As) (rest := rest) ⟨X.1, X.2.1, X.2.2.1, X.2.2.2.1, X.2.2.2.2.1⟩ (hM H.size) ⟨callB_of n X.2.2.2.2.1 (goodTB h5) rfl hrc hrs (X.2.2.2.2.1 _ h4) (X.2.2.2.2.1 _ h1) hd hR, X.2.2.2.2.1 _ h2⟩ ⟨Pre.blind _,  fun U hU hW => ⟨rfl, by rw [hU], by rw [hU]; exact hPc, KK.warm hW X.2.2.2.2.2.1, hDc.weaken (fun _ _ _ _ => trivial)⟩⟩ rfl hlen hl.1 hstk (lv_room hroom) hdg hf) hS (fun q _ h => hFc q h) hFc (fun r u t H1 locs1 ht hvm hw hB hz1 hk1 hS1 => ?_)
  obtain ⟨hP1, hK1, hD1⟩ := hB
  rw [ht] at hP1
  obtain ⟨hP2, hD2⟩ := va_join (wr := wr) (w1 := w1 u) hP hD isC isR hC hR' hn hdis hk1 hFc hP1 hD1
  exact kk r u hw H1 locs1 ls hP2 hD2 hS1 hl
theorem g_callvV (X : Cx p s m args c own cc nL D tys A H0) {post : S → Prop} {w1 : S → va_W} (As : List Value) (hM : CtV l y (Cond.code y bytes maxL ret :: TB) rm D tys (.ref b :: As) wc mc ms post w1) (h1 : Cond.methodLink own index y ∈ TB) (h2 : Cond.instanceMethod y ∈ TB) (h3 : Cond.selects C y y ∈ TB) (h4 : Cond.initialized y.cls ∈ TB) (h5 : Cond.code y bytes maxL ret ∈ TB) (hrc : rm.cells = mc) (hrs : rm.slots = ms) (hd : y.cls ≠ "java/lang/invoke/MethodHandle" ∧ y.cls ≠ "java/lang/invoke/VarHandle" ∧ (parseMethodDescriptor y.desc).map (fun d => d.parameters.length) = some n) (hR : rm.frames + 1 ≤ R.frames ∧ 8 + (maxL + 11) + rm.locals ≤ R.locals) (isC isR : List Nat) (wr : va_W) (hC : isC.map (fun i => ws[i]?) = wc.map some) (hR' : isR.map (fun i => ws[i]?) = wr.map some) (hnC : va_nd isC = true) (hn : va_nd isR = true) (hdis : ∀ i ∈ isR, i ∉ isC) (q0 : Nat) {ci : Nat} {fs : List Value} {T : u_T} {N : Nat} (he : wc[q0]? = some (b, .inr (ci, fs))) (hc : cls9[ci]? = some (C, T, N)) (hlen : As.length = n) (hstk : st = As.reverse ++ .ref b :: rest) (hroom : (rest.map fun v => v.category).sum ≤ 8) (hdg : decode cc pc = .ok (.invokevirtual index, 3)) (hf : cells + mc ≤ R.cells ∧ slots + ms ≤ R.slots)
    (kk : ∀ (u : S), post u → G p l e R s m args below meth c nL D A H0 Q (cells + mc) (slots + ms) (wr ++ w1 u) lv (pc + 3) (rest)) : G p l e R s m args below meth c nL D A H0 Q cells slots ws lv pc st := by
  intro H locs ls hP hD hS hl
  have hPc : va_P D cls9 wc H := hP.sub isC (by rw [← filterMap_of_map _ _ hC, List.filterMap_map]; rfl)
  have hDc : va_D A wc := hD.sub isC hnC hC
  have hFc := va_free (wc := wc) hD hS X.2.2.2.2.2.2 isC hC
  refine va_callv (va_runV (C := C) (As := As) (b := b) (rest := rest) ⟨X.1, X.2.1, X.2.2.1, X.2.2.2.1, X.2.2.2.2.1⟩ (hM H.size) ⟨callB_of n X.2.2.2.2.1 (goodTB h5) rfl hrc hrs (X.2.2.2.2.1 _ h4) (X.2.2.2.2.1 _ h1) hd hR, X.2.2.2.2.1 _ h2, X.2.2.2.2.1 _ h3⟩ ⟨Pre.blind _, va_recv X.2.2.2.2.2.1.1 hPc hc he, fun U hU hW => ⟨rfl, by rw [hU], by rw [hU]; exact hPc, KK.warm hW X.2.2.2.2.2.1, hDc.weaken (fun _ _ _ _ => trivial)⟩⟩ rfl hlen hl.1 hstk (lv_room hroom) hdg hf) hS (fun q _ h => hFc q h) hFc (fun u t H1 locs1 ht hvm hw hB hz1 hk1 hS1 => ?_)
  obtain ⟨hP1, hK1, hD1⟩ := hB
  rw [ht] at hP1
  obtain ⟨hP2, hD2⟩ := va_join (wr := wr) (w1 := w1 u) hP hD isC isR hC hR' hn hdis hk1 hFc hP1 hD1
  exact kk u hw H1 locs1 ls hP2 hD2 hS1 hl
theorem g_callvS (X : Cx p s m args c own cc nL D tys A H0) {post : S → Prop} {w1 : S → va_W} (As : List Value) (hM : CtV l y (Cond.code y bytes maxL ret :: TB) rm D tys (As) wc mc ms post w1) (h1 : Cond.methodLink own index y ∈ TB) (h2 : Cond.static y ∈ TB) (h4 : Cond.initialized y.cls ∈ TB) (h5 : Cond.code y bytes maxL ret ∈ TB) (hrc : rm.cells = mc) (hrs : rm.slots = ms) (hd : y.cls ≠ "java/lang/invoke/MethodHandle" ∧ y.cls ≠ "java/lang/invoke/VarHandle" ∧ (parseMethodDescriptor y.desc).map (fun d => d.parameters.length) = some n) (hR : rm.frames + 1 ≤ R.frames ∧ 8 + (maxL + 11) + rm.locals ≤ R.locals) (isC isR : List Nat) (wr : va_W) (hC : isC.map (fun i => ws[i]?) = wc.map some) (hR' : isR.map (fun i => ws[i]?) = wr.map some) (hnC : va_nd isC = true) (hn : va_nd isR = true) (hdis : ∀ i ∈ isR, i ∉ isC) (hlen : As.length = n) (hstk : st = As.reverse ++ rest) (hroom : (rest.map fun v => v.category).sum ≤ 8) (hdg : decode cc pc = .ok (.invokestatic index, 3)) (hf : cells + mc ≤ R.cells ∧ slots + ms ≤ R.slots)
    (kk : ∀ (u : S), post u → G p l e R s m args below meth c nL D A H0 Q (cells + mc) (slots + ms) (wr ++ w1 u) lv (pc + 3) (rest)) : G p l e R s m args below meth c nL D A H0 Q cells slots ws lv pc st := by
  intro H locs ls hP hD hS hl
  have hPc : va_P D cls9 wc H := hP.sub isC (by rw [← filterMap_of_map _ _ hC, List.filterMap_map]; rfl)
  have hDc : va_D A wc := hD.sub isC hnC hC
  have hFc := va_free (wc := wc) hD hS X.2.2.2.2.2.2 isC hC
  refine va_callv (va_runS (As := As) (rest := rest) ⟨X.1, X.2.1, X.2.2.1, X.2.2.2.1, X.2.2.2.2.1⟩ (hM H.size) ⟨callB_of n X.2.2.2.2.1 (goodTB h5) rfl hrc hrs (X.2.2.2.2.1 _ h4) (X.2.2.2.2.1 _ h1) hd hR, X.2.2.2.2.1 _ h2⟩ ⟨Pre.blind _,  fun U hU hW => ⟨rfl, by rw [hU], by rw [hU]; exact hPc, KK.warm hW X.2.2.2.2.2.1, hDc.weaken (fun _ _ _ _ => trivial)⟩⟩ rfl hlen hl.1 hstk (lv_room hroom) hdg hf) hS (fun q _ h => hFc q h) hFc (fun u t H1 locs1 ht hvm hw hB hz1 hk1 hS1 => ?_)
  obtain ⟨hP1, hK1, hD1⟩ := hB
  rw [ht] at hP1
  obtain ⟨hP2, hD2⟩ := va_join (wr := wr) (w1 := w1 u) hP hD isC isR hC hR' hn hdis hk1 hFc hP1 hD1
  exact kk u hw H1 locs1 ls hP2 hD2 hS1 hl
theorem g_callvI (X : Cx p s m args c own cc nL D tys A H0) {post : S → Prop} {w1 : S → va_W} (As : List Value) (hM : CtV l y (Cond.code y bytes maxL none :: TB) rm D tys (.ref b :: As) wc mc ms post w1) (h1 : Cond.methodLink own index y ∈ TB) (h2 : Cond.instanceMethod y ∈ TB) (h3 : y.name = "<init>") (h4 : Cond.initialized y.cls ∈ TB) (h5 : Cond.code y bytes maxL none ∈ TB) (hrc : rm.cells = mc) (hrs : rm.slots = ms) (hd : y.cls ≠ "java/lang/invoke/MethodHandle" ∧ y.cls ≠ "java/lang/invoke/VarHandle" ∧ (parseMethodDescriptor y.desc).map (fun d => d.parameters.length) = some n) (hR : rm.frames + 1 ≤ R.frames ∧ 8 + (maxL + 11) + rm.locals ≤ R.locals) (isC isR : List Nat) (wr : va_W) (hC : isC.map (fun i => ws[i]?) = wc.map some) (hR' : isR.map (fun i => ws[i]?) = wr.map some) (hnC : va_nd isC = true) (hn : va_nd isR = true) (hdis : ∀ i ∈ isR, i ∉ isC) (hlen : As.length = n) (hstk : st = As.reverse ++ .ref b :: rest) (hroom : (rest.map fun v => v.category).sum ≤ 8) (hdg : decode cc pc = .ok (.invokespecial index, 3)) (hf : cells + mc ≤ R.cells ∧ slots + ms ≤ R.slots)
    (kk : ∀ (u : S), post u → G p l e R s m args below meth c nL D A H0 Q (cells + mc) (slots + ms) (wr ++ w1 u) lv (pc + 3) (rest)) : G p l e R s m args below meth c nL D A H0 Q cells slots ws lv pc st := by
  intro H locs ls hP hD hS hl
  have hPc : va_P D cls9 wc H := hP.sub isC (by rw [← filterMap_of_map _ _ hC, List.filterMap_map]; rfl)
  have hDc : va_D A wc := hD.sub isC hnC hC
  have hFc := va_free (wc := wc) hD hS X.2.2.2.2.2.2 isC hC
  refine va_callv (va_runI (As := As) (b := b) (rest := rest) ⟨X.1, X.2.1, X.2.2.1, X.2.2.2.1, X.2.2.2.2.1⟩ (hM H.size) ⟨callB_of n X.2.2.2.2.1 (goodTB h5) rfl hrc hrs (X.2.2.2.2.1 _ h4) (X.2.2.2.2.1 _ h1) hd hR, h3, X.2.2.2.2.1 _ h2⟩ ⟨Pre.blind _,  fun U hU hW => ⟨rfl, by rw [hU], by rw [hU]; exact hPc, KK.warm hW X.2.2.2.2.2.1, hDc.weaken (fun _ _ _ _ => trivial)⟩⟩ rfl hlen hl.1 hstk (lv_room hroom) hdg hf) hS (fun q _ h => hFc q h) hFc (fun u t H1 locs1 ht hvm hw hB hz1 hk1 hS1 => ?_)
  obtain ⟨hP1, hK1, hD1⟩ := hB
  rw [ht] at hP1
  obtain ⟨hP2, hD2⟩ := va_join (wr := wr) (w1 := w1 u) hP hD isC isR hC hR' hn hdis hk1 hFc hP1 hD1
  exact kk u hw H1 locs1 ls hP2 hD2 hS1 hl
theorem g_objInit (X : Cx p s m args c own cc nL D tys A H0) {idx : Nat} {a : Nat} (h1 : Cond.methodLink own idx Lib.objectInit ∈ TB) (h2 : Cond.instanceMethod Lib.objectInit ∈ TB) (h3 : Cond.code Lib.objectInit ⟨#[0xb1]⟩ 1 none ∈ TB) (hd : decode cc pc = .ok (.invokespecial idx, 3)) (hf : 1 ≤ R.frames) (hlo : (rest.map fun v => v.category).sum + 12 ≤ R.locals) (kk : G p l e R s m args below meth c nL D A H0 Q cells slots ws lv (pc + 3) rest) : G p l e R s m args below meth c nL D A H0 Q cells slots ws lv pc (.ref a :: rest) := fun H locs ls hP hD hS hl => W.objInit X.1 X.2.1 X.2.2.2.1 (X.2.2.2.2.1 _ h1) (X.2.2.2.2.1 _ h2) (X.2.2.2.2.1 _ h3) rfl (hl.1.trans X.2.2.1.symm) rfl hd hf (by rw [show (F0 m pc ls (.ref a :: rest)).monitorRoom = 0 from rfl]; omega) (kk H locs ls hP hD hS hl)
theorem g_new (X : Cx p s m args c own cc nL D tys A H0) {C : String} {T : u_T} {N ci index : Nat} {fs : List Value} (ty0 : Nat → FieldType) (hty : ∀ k, k < N → parseFieldDescriptor (T k).2.2.1 = some (ty0 k)) (hin : ∀ w ∈ u_ws C T N, w ∈ TB) (h1 : Cond.classLink own index C ∈ TB) (h2 : Cond.instantiable C N ∈ TB) (h3 : Cond.initialized C ∈ TB) (hc : cls9[ci]? = some (C, T, N)) (hfs : ∀ j, j < N → defaultValue (ty0 j) = vp_V fs j) (hcells : cells + 1 ≤ R.cells) (hslots : slots + N ≤ R.slots) (hdg : decode cc pc = .ok (.new index, 3)) (kk : ∀ q : Nat, G p l e R s m args below meth c nL D A H0 Q (cells + 1) (slots + N) (ws ++ [(q, .inr (ci, fs))]) lv (pc + 3) (.ref q :: rest)) : G p l e R s m args below meth c nL D A H0 Q cells slots ws lv pc rest := fun H locs ls hP hD hS hl => va_new X.1 X.2.1 X.2.2.2.2.1 hin ty0 hty X.2.2.2.1 (X.2.2.2.2.1 _ h1) (X.2.2.2.2.1 _ h2) (X.2.2.2.2.1 _ h3) X.2.2.2.2.2.1.1 hP hD hS X.2.2.2.2.2.2 hc hfs hcells hslots hdg (fun q H1 hP1 hD1 hS1 => kk q H1 locs ls hP1 hD1 hS1 hl)
theorem g_newaI (X : Cx p s m args c own cc nL D tys A H0) {cA : ClassId} {n : Nat} (t0 : Nat) (ht : tys[t0]? = some (cA, .int)) (h1 : Cond.arrayClass .int ∈ TB) (hn : n < 2 ^ 20) (hcells : cells + 1 ≤ R.cells) (hslots : slots + n ≤ R.slots) (hdg : decode cc pc = .ok (.newarray .int, 2)) (kk : ∀ q : Nat, G p l e R s m args below meth c nL D A H0 Q (cells + 1) (slots + n) (ws ++ [(q, .inl (cA, n, .inl (fun _ => 0)))]) lv (pc + 2) (.ref q :: rest)) : G p l e R s m args below meth c nL D A H0 Q cells slots ws lv pc (.int (nI n) :: rest) := by
  intro H locs ls hP hD hS hl
  refine va_newa (atype := .int) (N' := n) (a0 := (n, .inl (fun _ => 0))) (ty := .int) X.1 X.2.1 (X.2.2.2.2.1 _ h1) rfl X.2.2.2.2.2.1.1 hP hD hS X.2.2.2.2.2.2 (fun _ => rfl) (nI_pos (by omega)) (nI_clamp (by omega)) (by show n * 4 ≤ 536870912; omega) hcells hslots hdg (fun q cB H1 hK1 hP1 hD1 hS1 => ?_)
  have e1 := (hK1.2 tys.length (cB, .int) (by simp)).2
  have e2 := (X.2.2.2.2.2.1.1.2 t0 (cA, .int) ht).2
  have e : cB = cA := Option.some.inj (e1.symm.trans e2)
  subst e
  exact kk q H1 locs ls hP1 hD1 hS1 hl
theorem g_newaJ (X : Cx p s m args c own cc nL D tys A H0) {cA : ClassId} {n : Nat} (t0 : Nat) (ht : tys[t0]? = some (cA, .long)) (h1 : Cond.arrayClass .long ∈ TB) (hn : n < 2 ^ 20) (hcells : cells + 1 ≤ R.cells) (hslots : slots + n ≤ R.slots) (hdg : decode cc pc = .ok (.newarray .long, 2)) (kk : ∀ q : Nat, G p l e R s m args below meth c nL D A H0 Q (cells + 1) (slots + n) (ws ++ [(q, .inl (cA, n, .inr (.inl (fun _ => 0))))]) lv (pc + 2) (.ref q :: rest)) : G p l e R s m args below meth c nL D A H0 Q cells slots ws lv pc (.int (nI n) :: rest) := by
  intro H locs ls hP hD hS hl
  refine va_newa (atype := .long) (N' := n) (a0 := (n, .inr (.inl (fun _ => 0)))) (ty := .long) X.1 X.2.1 (X.2.2.2.2.1 _ h1) rfl X.2.2.2.2.2.1.1 hP hD hS X.2.2.2.2.2.2 (fun _ => rfl) (nI_pos (by omega)) (nI_clamp (by omega)) (by show n * 8 ≤ 536870912; omega) hcells hslots hdg (fun q cB H1 hK1 hP1 hD1 hS1 => ?_)
  have e1 := (hK1.2 tys.length (cB, .long) (by simp)).2
  have e2 := (X.2.2.2.2.2.1.1.2 t0 (cA, .long) ht).2
  have e : cB = cA := Option.some.inj (e1.symm.trans e2)
  subst e
  exact kk q H1 locs ls hP1 hD1 hS1 hl
theorem g_newaZ (X : Cx p s m args c own cc nL D tys A H0) {cA : ClassId} {n : Nat} (t0 : Nat) (ht : tys[t0]? = some (cA, .boolean)) (h1 : Cond.arrayClass .boolean ∈ TB) (hn : n < 2 ^ 20) (hcells : cells + 1 ≤ R.cells) (hslots : slots + n ≤ R.slots) (hdg : decode cc pc = .ok (.newarray .boolean, 2)) (kk : ∀ q : Nat, G p l e R s m args below meth c nL D A H0 Q (cells + 1) (slots + n) (ws ++ [(q, .inl (cA, n, .inl (fun _ => 0)))]) lv (pc + 2) (.ref q :: rest)) : G p l e R s m args below meth c nL D A H0 Q cells slots ws lv pc (.int (nI n) :: rest) := by
  intro H locs ls hP hD hS hl
  refine va_newa (atype := .boolean) (N' := n) (a0 := (n, .inl (fun _ => 0))) (ty := .boolean) X.1 X.2.1 (X.2.2.2.2.1 _ h1) rfl X.2.2.2.2.2.1.1 hP hD hS X.2.2.2.2.2.2 (fun _ => rfl) (nI_pos (by omega)) (nI_clamp (by omega)) (by show n * 1 ≤ 536870912; omega) hcells hslots hdg (fun q cB H1 hK1 hP1 hD1 hS1 => ?_)
  have e1 := (hK1.2 tys.length (cB, .boolean) (by simp)).2
  have e2 := (X.2.2.2.2.2.1.1.2 t0 (cA, .boolean) ht).2
  have e : cB = cA := Option.some.inj (e1.symm.trans e2)
  subst e
  exact kk q H1 locs ls hP1 hD1 hS1 hl
theorem g_mmax (X : Cx p s m args c own cc nL D tys A H0) {index : Nat} {x y : Int32} (v : Int32) (hv : (if x < y then y else x) = v) (h1 : Cond.methodLink own index Lib.Math.max.name ∈ TB) (h2 : Cond.static Lib.Math.max.name ∈ TB) (h3 : Cond.initialized "java/lang/Math" ∈ TB) (h4 : Cond.code Lib.Math.max.name Lib.Math.max.code 2 (some .int) ∈ TB) (hf : 1 ≤ R.frames) (hlo : (rest.map fun v => v.category).sum + 13 ≤ R.locals) (hc : cells ≤ R.cells) (hs : slots ≤ R.slots) (hdg : decode cc pc = .ok (.invokestatic index, 3)) (kk : G p l e R s m args below meth c nL D A H0 Q cells slots ws lv (pc + 3) (.int v :: rest)) : G p l e R s m args below meth c nL D A H0 Q cells slots ws lv pc (.int y :: .int x :: rest) := by
  subst hv
  exact fun H locs ls hP hD hS hl => va_mmax X.1 X.2.1 (X.2.2.1.trans hl.1.symm) X.2.2.2.1 (X.2.2.2.2.1 _ h1) (X.2.2.2.2.1 _ h2) (X.2.2.2.2.1 _ h3) (X.2.2.2.2.1 _ h4) hf hlo hc hs hdg (kk H locs ls hP hD hS hl)
theorem g_mmin (X : Cx p s m args c own cc nL D tys A H0) {index : Nat} {x y : Int32} (v : Int32) (hv : (if y < x then y else x) = v) (h1 : Cond.methodLink own index Lib.Math.min.name ∈ TB) (h2 : Cond.static Lib.Math.min.name ∈ TB) (h3 : Cond.initialized "java/lang/Math" ∈ TB) (h4 : Cond.code Lib.Math.min.name Lib.Math.min.code 2 (some .int) ∈ TB) (hf : 1 ≤ R.frames) (hlo : (rest.map fun v => v.category).sum + 13 ≤ R.locals) (hc : cells ≤ R.cells) (hs : slots ≤ R.slots) (hdg : decode cc pc = .ok (.invokestatic index, 3)) (kk : G p l e R s m args below meth c nL D A H0 Q cells slots ws lv (pc + 3) (.int v :: rest)) : G p l e R s m args below meth c nL D A H0 Q cells slots ws lv pc (.int y :: .int x :: rest) := by
  subst hv
  exact fun H locs ls hP hD hS hl => va_mmin X.1 X.2.1 (X.2.2.1.trans hl.1.symm) X.2.2.2.1 (X.2.2.2.2.1 _ h1) (X.2.2.2.2.1 _ h2) (X.2.2.2.2.1 _ h3) (X.2.2.2.2.1 _ h4) hf hlo hc hs hdg (kk H locs ls hP hD hS hl)
end GC
end
section
/-! further rows: Bools as ints, bits of longs, numbers against 0, arrays of Bools -/
def bI (b : Bool) : Int32 := if b = true then 1 else 0
theorem bI_t : bI true = 1 := rfl
theorem bI_f : bI false = 0 := rfl
theorem bI_0 {b : Bool} : bI b = 0 ↔ b = false := by
  cases b
  · exact ⟨fun _ => rfl, fun _ => rfl⟩
  · exact ⟨fun h => absurd h (by decide), fun h => by cases h⟩
theorem bI_01 (b : Bool) : bI b = 0 ∨ bI b = 1 := by
  cases b
  · exact Or.inl rfl
  · exact Or.inr rfl
theorem bI_inj {a b : Bool} (h : bI a = bI b) : a = b := by
  cases a <;> cases b <;> first | rfl | exact absurd h (by decide)
theorem bI_nar (b : Bool) : vp_nar .boolean (bI b) = bI b := by
  cases b <;> rfl
def zf (P : Nat → Bool) : Nat → Int32 := fun k => bI (P k)
def updB (P : Nat → Bool) (j : Nat) (b : Bool) : Nat → Bool := fun k => if k = j then b else P k
theorem updB_s {P : Nat → Bool} {j : Nat} {b : Bool} : updB P j b j = b := by simp [updB]
theorem updB_n {P : Nat → Bool} {j k : Nat} {b : Bool} (h : k ≠ j) : updB P j b k = P k := by simp [updB, h]
theorem zf_upd (P : Nat → Bool) (j : Nat) (b : Bool) : upd (zf P) j (bI b) = zf (updB P j b) := by
  funext k
  by_cases h : k = j
  · subst h; rw [pk_us]; simp [zf, updB]
  · rw [pk_un h]; simp [zf, updB, h]
theorem nI_dec {n : Nat} (h : 0 < n) : nI n + Int32.ofInt (-1) = nI (n - 1) := sb_m1 h
abbrev tysv (cI cJ cZ cQ : ClassId) : List (ClassId × FieldType) := [(cI, .int), (cJ, .long), (cZ, .boolean), (cQ, .object R_Version)]
section GR
variable {p : Program} {l : Launch} {e : Env} {R : Room} {s : State} {m : MethodId} {args : Array Value} {below : List Frame} {meth : Method} {c : Code} {cells slots : Nat} {Q : State → Prop}
variable {own : String} {cc : ByteArray} {nL : Nat} {D : va_G} {tys : List (ClassId × FieldType)} {A : Nat → Prop} {H0 : Heap}
variable {ws ws' : va_W} {lv lv' : List (Nat × Value)} {pc : Nat} {rest : List Value}
theorem b_if_eq (X : Cx p s m args c own cc nL D tys A H0) {b : Bool} {off : Int} (tgt : Nat) (hdg : decode cc pc = .ok (.ifCond .eq off, 3)) (ht : (pc : Int) + off = (tgt : Int)) (kt : b = false → G p l e R s m args below meth c nL D A H0 Q cells slots ws lv tgt rest) (kf : b = true → G p l e R s m args below meth c nL D A H0 Q cells slots ws lv (pc + 3) rest) : G p l e R s m args below meth c nL D A H0 Q cells slots ws lv pc (.int (bI b) :: rest) := g_if_eq X tgt hdg ht (fun h => kt (bI_0.mp h)) (fun h => kf (by cases b with | false => exact absurd rfl h | true => rfl))
theorem b_if_ne (X : Cx p s m args c own cc nL D tys A H0) {b : Bool} {off : Int} (tgt : Nat) (hdg : decode cc pc = .ok (.ifCond .ne off, 3)) (ht : (pc : Int) + off = (tgt : Int)) (kt : b = true → G p l e R s m args below meth c nL D A H0 Q cells slots ws lv tgt rest) (kf : b = false → G p l e R s m args below meth c nL D A H0 Q cells slots ws lv (pc + 3) rest) : G p l e R s m args below meth c nL D A H0 Q cells slots ws lv pc (.int (bI b) :: rest) := g_if_ne X tgt hdg ht (fun h => kt (by cases b with | false => exact absurd rfl h | true => rfl)) (fun h => kf (bI_0.mp h))
theorem lc_if_eq (X : Cx p s m args c own cc nL D tys A H0) {x y : Int64} {off : Int} (tgt : Nat) (hdg : decode cc pc = .ok (.ifCond .eq off, 3)) (ht : (pc : Int) + off = (tgt : Int)) (kt : x = y → G p l e R s m args below meth c nL D A H0 Q cells slots ws lv tgt rest) (kf : ¬ x = y → G p l e R s m args below meth c nL D A H0 Q cells slots ws lv (pc + 3) rest) : G p l e R s m args below meth c nL D A H0 Q cells slots ws lv pc (.int (lg_cmp x y) :: rest) := g_if_eq X tgt hdg ht (fun h => kt (lcmp_eq.mp h)) (fun h => kf (fun q => h (lcmp_eq.mpr q)))
theorem lc_if_ne (X : Cx p s m args c own cc nL D tys A H0) {x y : Int64} {off : Int} (tgt : Nat) (hdg : decode cc pc = .ok (.ifCond .ne off, 3)) (ht : (pc : Int) + off = (tgt : Int)) (kt : ¬ x = y → G p l e R s m args below meth c nL D A H0 Q cells slots ws lv tgt rest) (kf : x = y → G p l e R s m args below meth c nL D A H0 Q cells slots ws lv (pc + 3) rest) : G p l e R s m args below meth c nL D A H0 Q cells slots ws lv pc (.int (lg_cmp x y) :: rest) := g_if_ne X tgt hdg ht (fun h => kt (fun q => h (lcmp_eq.mpr q))) (fun h => kf (lcmp_eq.mp h))
theorem bit_if_eq (X : Cx p s m args c own cc nL D tys A H0) {w : Int64} {k : Nat} {off : Int} (tgt : Nat) (hdg : decode cc pc = .ok (.ifCond .eq off, 3)) (ht : (pc : Int) + off = (tgt : Int)) (hk : k < 64) (kt : lb w k = false → G p l e R s m args below meth c nL D A H0 Q cells slots ws lv tgt rest) (kf : lb w k = true → G p l e R s m args below meth c nL D A H0 Q cells slots ws lv (pc + 3) rest) : G p l e R s m args below meth c nL D A H0 Q cells slots ws lv pc (.int (lg_cmp ((w.toUInt64 >>> ((nI k).toInt64.toUInt64 &&& Int64.toUInt64 63)).toInt64 &&& 1) 0) :: rest) := lc_if_eq X tgt hdg ht (fun h => kt ((lb_shr hk w).mp h)) (fun h => kf (by cases hb : lb w k with | false => exact absurd ((lb_shr hk w).mpr hb) h | true => rfl))
theorem bit_if_ne (X : Cx p s m args c own cc nL D tys A H0) {w : Int64} {k : Nat} {off : Int} (tgt : Nat) (hdg : decode cc pc = .ok (.ifCond .ne off, 3)) (ht : (pc : Int) + off = (tgt : Int)) (hk : k < 64) (kt : lb w k = true → G p l e R s m args below meth c nL D A H0 Q cells slots ws lv tgt rest) (kf : lb w k = false → G p l e R s m args below meth c nL D A H0 Q cells slots ws lv (pc + 3) rest) : G p l e R s m args below meth c nL D A H0 Q cells slots ws lv pc (.int (lg_cmp ((w.toUInt64 >>> ((nI k).toInt64.toUInt64 &&& Int64.toUInt64 63)).toInt64 &&& 1) 0) :: rest) := lc_if_ne X tgt hdg ht (fun h => kt (by cases hb : lb w k with | false => exact absurd ((lb_shr hk w).mpr hb) h | true => rfl)) (fun h => kf ((lb_shr hk w).mp h))
theorem n_if_eq (X : Cx p s m args c own cc nL D tys A H0) {a : Nat} {off : Int} (tgt : Nat) (hdg : decode cc pc = .ok (.ifCond .eq off, 3)) (ht : (pc : Int) + off = (tgt : Int)) (ha : a < 2 ^ 31) (kt : a = 0 → G p l e R s m args below meth c nL D A H0 Q cells slots ws lv tgt rest) (kf : ¬ a = 0 → G p l e R s m args below meth c nL D A H0 Q cells slots ws lv (pc + 3) rest) : G p l e R s m args below meth c nL D A H0 Q cells slots ws lv pc (.int (nI a) :: rest) := g_if_eq X tgt hdg ht (fun h => kt ((nI_eq ha (show 0 < 2 ^ 31 by decide)).mp h)) (fun h => kf (fun q => h ((nI_eq ha (show 0 < 2 ^ 31 by decide)).mpr q)))
theorem n_if_ne (X : Cx p s m args c own cc nL D tys A H0) {a : Nat} {off : Int} (tgt : Nat) (hdg : decode cc pc = .ok (.ifCond .ne off, 3)) (ht : (pc : Int) + off = (tgt : Int)) (ha : a < 2 ^ 31) (kt : ¬ a = 0 → G p l e R s m args below meth c nL D A H0 Q cells slots ws lv tgt rest) (kf : a = 0 → G p l e R s m args below meth c nL D A H0 Q cells slots ws lv (pc + 3) rest) : G p l e R s m args below meth c nL D A H0 Q cells slots ws lv pc (.int (nI a) :: rest) := g_if_ne X tgt hdg ht (fun h => kt (fun q => h ((nI_eq ha (show 0 < 2 ^ 31 by decide)).mpr q))) (fun h => kf ((nI_eq ha (show 0 < 2 ^ 31 by decide)).mp h))
theorem n_if_lt (X : Cx p s m args c own cc nL D tys A H0) {a : Nat} {off : Int} (tgt : Nat) (hdg : decode cc pc = .ok (.ifCond .lt off, 3)) (ht : (pc : Int) + off = (tgt : Int)) (ha : a < 2 ^ 31) (kt : a < 0 → G p l e R s m args below meth c nL D A H0 Q cells slots ws lv tgt rest) (kf : 0 ≤ a → G p l e R s m args below meth c nL D A H0 Q cells slots ws lv (pc + 3) rest) : G p l e R s m args below meth c nL D A H0 Q cells slots ws lv pc (.int (nI a) :: rest) := g_if_lt X tgt hdg ht (fun h => kt (absurd h (nI_pos ha))) (fun h => kf (Nat.zero_le a))
theorem n_if_ge (X : Cx p s m args c own cc nL D tys A H0) {a : Nat} {off : Int} (tgt : Nat) (hdg : decode cc pc = .ok (.ifCond .ge off, 3)) (ht : (pc : Int) + off = (tgt : Int)) (ha : a < 2 ^ 31) (kt : 0 ≤ a → G p l e R s m args below meth c nL D A H0 Q cells slots ws lv tgt rest) (kf : a < 0 → G p l e R s m args below meth c nL D A H0 Q cells slots ws lv (pc + 3) rest) : G p l e R s m args below meth c nL D A H0 Q cells slots ws lv pc (.int (nI a) :: rest) := g_if_ge X tgt hdg ht (fun h => kt (Nat.zero_le a)) (fun h => kf (absurd (nI_pos' ha) h))
theorem n_if_gt (X : Cx p s m args c own cc nL D tys A H0) {a : Nat} {off : Int} (tgt : Nat) (hdg : decode cc pc = .ok (.ifCond .gt off, 3)) (ht : (pc : Int) + off = (tgt : Int)) (ha : a < 2 ^ 31) (kt : 0 < a → G p l e R s m args below meth c nL D A H0 Q cells slots ws lv tgt rest) (kf : a = 0 → G p l e R s m args below meth c nL D A H0 Q cells slots ws lv (pc + 3) rest) : G p l e R s m args below meth c nL D A H0 Q cells slots ws lv pc (.int (nI a) :: rest) := g_if_gt X tgt hdg ht (fun h => kt ((nI_ltI (show 0 < 2 ^ 31 by decide) ha).mp h)) (fun h => kf (by
  have h9 := (not_congr (nI_ltI (show 0 < 2 ^ 31 by decide) ha)).mp h
  omega))
theorem n_if_le (X : Cx p s m args c own cc nL D tys A H0) {a : Nat} {off : Int} (tgt : Nat) (hdg : decode cc pc = .ok (.ifCond .le off, 3)) (ht : (pc : Int) + off = (tgt : Int)) (ha : a < 2 ^ 31) (kt : a = 0 → G p l e R s m args below meth c nL D A H0 Q cells slots ws lv tgt rest) (kf : 0 < a → G p l e R s m args below meth c nL D A H0 Q cells slots ws lv (pc + 3) rest) : G p l e R s m args below meth c nL D A H0 Q cells slots ws lv pc (.int (nI a) :: rest) := g_if_le X tgt hdg ht (fun h => kt (by
  have h9 := (nI_leI ha (show 0 < 2 ^ 31 by decide)).mp h
  omega)) (fun h => kf (by
  have h9 := (not_congr (nI_leI ha (show 0 < 2 ^ 31 by decide))).mp h
  omega))
theorem g_zaldB (X : Cx p s m args c own cc nL D tys A H0) {a n j : Nat} (q0 t0 : Nat) {cA : ClassId} {P : Nat → Bool} (ha : ws[q0]? = some (a, .inl (cA, n, .inl (zf P)))) (ht : tys[t0]? = some (cA, .boolean)) (hj : j < n) (hn : n < 2 ^ 31) (hdg : decode cc pc = .ok (.baload, 1)) (kk : G p l e R s m args below meth c nL D A H0 Q cells slots ws lv (pc + 1) (.int (bI (P j)) :: rest)) : G p l e R s m args below meth c nL D A H0 Q cells slots ws lv pc (.int (nI j) :: .ref a :: rest) := g_zald X q0 t0 ha ht hj hn hdg kk
theorem g_zastB (X : Cx p s m args c own cc nL D tys A H0) {a n j : Nat} (q0 t0 : Nat) {cA : ClassId} {P : Nat → Bool} {b : Bool} (ws' : va_W) (ha : ws[q0]? = some (a, .inl (cA, n, .inl (zf P)))) (ht : tys[t0]? = some (cA, .boolean)) (hj : j < n) (hn : n < 2 ^ 31) (hw : ws.set q0 (a, .inl (cA, n, .inl (zf (updB P j b)))) = ws') (hdg : decode cc pc = .ok (.bastore, 1)) (kk : G p l e R s m args below meth c nL D A H0 Q cells slots ws' lv (pc + 1) rest) : G p l e R s m args below meth c nL D A H0 Q cells slots ws lv pc (.int (bI b) :: .int (nI j) :: .ref a :: rest) := g_zast X q0 t0 ws' ha ht hj hn (by rw [bI_nar, zf_upd]; exact hw) hdg kk
end GR
end
section
variable {l : Launch} {D : va_G} {cI cJ cZ cQ : ClassId}
theorem repl_keep {f g : Nat → Int32} {x y : Int32} {i : Nat} (h1 : ∀ k, k < i → g k = if f k = x then y else f k) (h2 : ∀ k, i ≤ k → g k = f k) (hne : ¬ g i = x) : ∀ k, k < i + 1 → g k = if f k = x then y else f k := by
  intro k hk
  rcases Nat.lt_or_ge k i with q | q
  · exact h1 k q
  · have e : k = i := by omega
    subst e
    have e2 := h2 k (Nat.le_refl k)
    rw [e2] at hne ⊢
    rw [if_neg hne]
theorem repl_put {f g : Nat → Int32} {x y : Int32} {i : Nat} (h1 : ∀ k, k < i → g k = if f k = x then y else f k) (h2 : ∀ k, i ≤ k → g k = f k) (he : g i = x) : ∀ k, k < i + 1 → upd g i y k = if f k = x then y else f k := by
  intro k hk
  rcases Nat.lt_or_ge k i with q | q
  · rw [pk_un (by omega)]
    exact h1 k q
  · have e : k = i := by omega
    subst e
    have e2 := h2 k (Nat.le_refl k)
    rw [pk_us, if_pos (e2.symm.trans he)]
theorem fill_step {g : Nat → Int32} {i : Nat} {x : Int32} (h1 : ∀ k, k < i → g k = x) : ∀ k, k < i + 1 → upd g i x k = x := by
  intro k hk
  rcases Nat.lt_or_ge k i with q | q
  · rw [pk_un (by omega)]
    exact h1 k q
  · have e : k = i := by omega
    subst e
    exact pk_us
theorem fillL_step {g : Nat → Int64} {i : Nat} {x : Int64} (h1 : ∀ k, k < i → g k = x) : ∀ k, k < i + 1 → vp_updL g i x k = x := by
  intro k hk
  rcases Nat.lt_or_ge k i with q | q
  · rw [pk_uLn (by omega)]
    exact h1 k q
  · have e : k = i := by omega
    subst e
    exact pk_uLs
theorem copyL_step {g f : Nat → Int64} {i : Nat} (h1 : ∀ k, k < i → g k = f k) : ∀ k, k < i + 1 → vp_updL g i (f i) k = f k := by
  intro k hk
  rcases Nat.lt_or_ge k i with q | q
  · rw [pk_uLn (by omega)]
    exact h1 k q
  · have e : k = i := by omega
    subst e
    exact pk_uLs
theorem mmax0 {n : Nat} (h : n < 2 ^ 31) : (if nI 0 < nI n then nI n else nI 0) = nI n := by
  by_cases q : nI 0 < nI n
  · rw [if_pos q]
  · rw [if_neg q]
    have h9 := (not_congr (nI_ltI (show 0 < 2 ^ 31 by decide) h)).mp q
    have e : n = 0 := by omega
    rw [e]
theorem mmin48 {n : Nat} (h : n ≤ 48) : (if nI 48 < nI n then nI 48 else nI n) = nI n := by
  rw [if_neg (nI_nlt h (by decide))]

set_option maxHeartbeats 4000000 in
set_option maxRecDepth 100000 in
theorem k_Cells_at (h : Nat) (a : Nat) (n : Nat) (f : Nat → Int32) (j : Nat) (hj : j < n) (hn : n < 2 ^ 31) : CtI l y_Cells_at (Cond.code y_Cells_at c_Cells_at 2 (some .int) :: TB) ({ frames := 0, cells := 0, slots := 0, locals := 0 } : Room) D (tysv cI cJ cZ cQ) [.ref h, .int (nI j)] [(h, .inr (0, [.ref a])), (a, .inl (cI, n, .inl f))] 0 0 (fun (r : Int32) (_ : Unit) => r = f j) (fun (_ : Unit) => [(h, .inr (0, [.ref a])), (a, .inl (cI, n, .inl f))]) := by
  refine CtI.of c_Cells_at 2 (some .int) (by decide) rfl (Nat.le_of_ble_eq_true rfl) ?_
  intro p e s m args below meth c A Q hA9 hQ9 X hr9 hlk9 hin9
  refine g_iload_n X 1 d_Cells_at_0 rfl rfl ?_
  refine n_if_lt X 22 d_Cells_at_1 (by decide) (by omega) (fun h1 => absurd h1 (by omega)) (fun h1 => ?_)
  refine g_iload_n X 1 d_Cells_at_4 rfl rfl ?_
  refine g_aload_n X 0 d_Cells_at_5 rfl rfl ?_
  refine g_get (C := R_Cells) (T := T_Cells) (N := 1) X 0 0 in_Cells rfl rfl (by decide) t1_40 rfl rfl d_Cells_at_6 ?_
  refine g_alen X 1 0 rfl rfl d_Cells_at_9 ?_
  refine n_icmp_ge X 22 d_Cells_at_10 (by decide) (by omega) (by omega) (fun h10 => absurd h10 (by omega)) (fun h10 => ?_)
  refine g_aload_n X 0 d_Cells_at_13 rfl rfl ?_
  refine g_get (C := R_Cells) (T := T_Cells) (N := 1) X 0 0 in_Cells rfl rfl (by decide) t1_40 rfl rfl d_Cells_at_14 ?_
  refine g_iload_n X 1 d_Cells_at_17 rfl rfl ?_
  refine g_iald X 1 0 rfl rfl (by omega) (by omega) d_Cells_at_18 ?_
  refine g_goto X 23 d_Cells_at_19 (by decide) ?_
  exact g_iret X hA9 hQ9 hr9 hlk9 () [0, 1] rfl rfl d_Cells_at_23 (rfl)

set_option maxHeartbeats 4000000 in
set_option maxRecDepth 100000 in
theorem k_Cells_put (h : Nat) (a : Nat) (n : Nat) (f : Nat → Int32) (j : Nat) (x : Int32) (hj : j < n) (hn : n < 2 ^ 31) : CtV l y_Cells_put (Cond.code y_Cells_put c_Cells_put 3 none :: TB) ({ frames := 0, cells := 0, slots := 0, locals := 0 } : Room) D (tysv cI cJ cZ cQ) [.ref h, .int (nI j), .int x] [(h, .inr (0, [.ref a])), (a, .inl (cI, n, .inl f))] 0 0 (fun (_ : Unit) => True) (fun (_ : Unit) => [(h, .inr (0, [.ref a])), (a, .inl (cI, n, .inl (upd f j x)))]) := by
  refine CtV.of c_Cells_put 3 none (by decide) rfl (Nat.le_of_ble_eq_true rfl) ?_
  intro p e s m args below meth c A Q hA9 hQ9 X hr9 hlk9 hin9
  refine g_iload_n X 1 d_Cells_put_0 rfl rfl ?_
  refine n_if_lt X 20 d_Cells_put_1 (by decide) (by omega) (fun h1 => absurd h1 (by omega)) (fun h1 => ?_)
  refine g_iload_n X 1 d_Cells_put_4 rfl rfl ?_
  refine g_aload_n X 0 d_Cells_put_5 rfl rfl ?_
  refine g_get (C := R_Cells) (T := T_Cells) (N := 1) X 0 0 in_Cells rfl rfl (by decide) t1_40 rfl rfl d_Cells_put_6 ?_
  refine g_alen X 1 0 rfl rfl d_Cells_put_9 ?_
  refine n_icmp_ge X 20 d_Cells_put_10 (by decide) (by omega) (by omega) (fun h10 => absurd h10 (by omega)) (fun h10 => ?_)
  refine g_aload_n X 0 d_Cells_put_13 rfl rfl ?_
  refine g_get (C := R_Cells) (T := T_Cells) (N := 1) X 0 0 in_Cells rfl rfl (by decide) t1_40 rfl rfl d_Cells_put_14 ?_
  refine g_iload_n X 1 d_Cells_put_17 rfl rfl ?_
  refine g_iload_n X 2 d_Cells_put_18 rfl rfl ?_
  refine g_iast X 1 0 [(h, .inr (0, [.ref a])), (a, .inl (cI, n, .inl (upd f j x)))] rfl rfl (by omega) (by omega) rfl d_Cells_put_19 ?_
  exact g_vret X hA9 hQ9 hr9 hlk9 () [0, 1] rfl rfl d_Cells_put_20 (trivial)

set_option maxHeartbeats 4000000 in
set_option maxRecDepth 100000 in
theorem k_Cells_replace (h : Nat) (a : Nat) (n : Nat) (f : Nat → Int32) (x : Int32) (y : Int32) (hn : n < 2 ^ 31) : CtV l y_Cells_replace (Cond.code y_Cells_replace c_Cells_replace 4 none :: TB) ({ frames := 0, cells := 0, slots := 0, locals := 0 } : Room) D (tysv cI cJ cZ cQ) [.ref h, .int x, .int y] [(h, .inr (0, [.ref a])), (a, .inl (cI, n, .inl f))] 0 0 (fun (g : Nat → Int32) => ∀ i, i < n → g i = if f i = x then y else f i) (fun (g : Nat → Int32) => [(h, .inr (0, [.ref a])), (a, .inl (cI, n, .inl g))]) := by
  refine CtV.of c_Cells_replace 4 none (by decide) rfl (Nat.le_of_ble_eq_true rfl) ?_
  intro p e s m args below meth c A Q hA9 hQ9 X hr9 hlk9 hin9
  have L2 : ∀ (N2 : Nat) (i : Nat) (g : Nat → Int32), (n - i) < N2 → (i ≤ n) → (∀ k, k < i → g k = if f k = x then y else f k) → (∀ k, i ≤ k → g k = f k) → G p l e ({ frames := 0, cells := 0, slots := 0, locals := 0 } : Room) s m args below meth c 4 D A s.heap Q 0 0 [(h, .inr (0, [.ref a])), (a, .inl (cI, n, .inl g))] [(0, .ref h), (1, .int x), (2, .int y), (3, .int (nI i))] 2 [] := by
    intro N2
    induction N2 with
    | zero =>
      intro i g hN
      exact absurd hN (Nat.not_lt_zero _)
    | succ N2 ih2 =>
      intro i g hN2 hi h1 h2
      refine g_iload_n X 3 d_Cells_replace_2 rfl rfl ?_
      refine g_aload_n X 0 d_Cells_replace_3 rfl rfl ?_
      refine g_get (C := R_Cells) (T := T_Cells) (N := 1) X 0 0 in_Cells rfl rfl (by decide) t1_40 rfl rfl d_Cells_replace_4 ?_
      refine g_alen X 1 0 rfl rfl d_Cells_replace_7 ?_
      refine n_icmp_ge X 34 d_Cells_replace_8 (by decide) (by omega) (by omega) (fun h8 => ?_) (fun h8 => ?_)
      · exact g_vret X hA9 hQ9 hr9 hlk9 g [0, 1] rfl rfl d_Cells_replace_34 (fun k hk => h1 k (by omega))
      · refine g_aload_n X 0 d_Cells_replace_11 rfl rfl ?_
        refine g_get (C := R_Cells) (T := T_Cells) (N := 1) X 0 0 in_Cells rfl rfl (by decide) t1_40 rfl rfl d_Cells_replace_12 ?_
        refine g_iload_n X 3 d_Cells_replace_15 rfl rfl ?_
        refine g_iald X 1 0 rfl rfl (by omega) (by omega) d_Cells_replace_16 ?_
        refine g_iload_n X 1 d_Cells_replace_17 rfl rfl ?_
        refine g_icmp_ne X 28 d_Cells_replace_18 (by decide) (fun h18 => ?_) (fun h18 => ?_)
        · refine g_iinc X (nI (i + 1)) [(3, .int (nI (i + 1))), (0, .ref h), (1, .int x), (2, .int y)] d_Cells_replace_28 (k := 3) rfl (nI_1 i) (by decide) rfl ?_
          refine g_goto X 2 d_Cells_replace_31 (by decide) ?_
          refine g_lv [1, 2, 3, 0] rfl ?_
          exact ih2 (i + 1) g (by omega) (by omega) (by first | exact repl_keep h1 h2 h18 | exact repl_put h1 h2 h18) (by first | exact fun k hk => h2 k (by omega) | exact fun k hk => (pk_un (by omega)).trans (h2 k (by omega)))
        · refine g_aload_n X 0 d_Cells_replace_21 rfl rfl ?_
          refine g_get (C := R_Cells) (T := T_Cells) (N := 1) X 0 0 in_Cells rfl rfl (by decide) t1_40 rfl rfl d_Cells_replace_22 ?_
          refine g_iload_n X 3 d_Cells_replace_25 rfl rfl ?_
          refine g_iload_n X 2 d_Cells_replace_26 rfl rfl ?_
          refine g_iast X 1 0 [(h, .inr (0, [.ref a])), (a, .inl (cI, n, .inl (upd g i y)))] rfl rfl (by omega) (by omega) rfl d_Cells_replace_27 ?_
          refine g_iinc X (nI (i + 1)) [(3, .int (nI (i + 1))), (0, .ref h), (1, .int x), (2, .int y)] d_Cells_replace_28 (k := 3) rfl (nI_1 i) (by decide) rfl ?_
          refine g_goto X 2 d_Cells_replace_31 (by decide) ?_
          refine g_lv [1, 2, 3, 0] rfl ?_
          exact ih2 (i + 1) (upd g i y) (by omega) (by omega) (by first | exact repl_keep h1 h2 h18 | exact repl_put h1 h2 h18) (by first | exact fun k hk => h2 k (by omega) | exact fun k hk => (pk_un (by omega)).trans (h2 k (by omega)))
  refine g_iconst (v := nI 0) X d_Cells_replace_0 rfl ?_
  refine g_istore_n X [(3, .int (nI 0)), (0, .ref h), (1, .int x), (2, .int y)] d_Cells_replace_1 rfl (by decide) rfl ?_
  refine g_lv [1, 2, 3, 0] rfl ?_
  exact L2 ((n - 0) + 1) 0 f (Nat.lt_succ_self _) (by omega) (fun k hk => absurd hk (Nat.not_lt_zero k)) (fun k _ => rfl)

set_option maxHeartbeats 4000000 in
set_option maxRecDepth 100000 in
theorem k_Cells_init48 (h : Nat)  : CtV l y_Cells_init (Cond.code y_Cells_init c_Cells_init 3 none :: TB) ({ frames := 1, cells := 1, slots := 48, locals := 14 } : Room) D (tysv cI cJ cZ cQ) [.ref h, .int (nI 48)] [(h, .inr (0, [.null]))] 1 48 (fun (u : Nat × (Nat → Int32)) => ∀ k, k < 48 → u.2 k = -1) (fun (u : Nat × (Nat → Int32)) => [(h, .inr (0, [.ref u.1])), (u.1, .inl (cI, 48, .inl u.2))]) := by
  refine CtV.of c_Cells_init 3 none (by decide) rfl (Nat.le_of_ble_eq_true rfl) ?_
  intro p e s m args below meth c A Q hA9 hQ9 X hr9 hlk9 hin9
  refine g_aload_n X 0 d_Cells_init_0 rfl rfl ?_
  refine g_objInit X t1_36 t1_23 t1_24 d_Cells_init_1 (by decide) (Nat.le_of_ble_eq_true rfl) ?_
  refine g_aload_n X 0 d_Cells_init_4 rfl rfl ?_
  refine g_iconst (v := nI 0) X d_Cells_init_5 rfl ?_
  refine g_iload_n X 1 d_Cells_init_6 rfl rfl ?_
  refine g_mmax X (nI 48) (mmax0 (by decide)) t1_37 t1_38 t1_4 t1_39 (by decide) (Nat.le_of_ble_eq_true rfl) (by decide) (by decide) d_Cells_init_7 ?_
  refine g_newaI X 0 rfl t1_44 (by omega) (by decide) (by decide) d_Cells_init_10 (fun q1 => ?_)
  refine g_putF (C := R_Cells) (T := T_Cells) (N := 1) (ty := .array .int) X 0 0 [(h, .inr (0, [.ref q1])), (q1, .inl (cI, 48, .inl (fun _ => 0)))] t_Cells ty_Cells nm_Cells in_Cells rfl rfl (by decide) t1_40 rfl rfl hin9 rfl (by decide +kernel) rfl rfl (Nat.le_of_ble_eq_true rfl) rfl d_Cells_init_12 ?_
  have L17 : ∀ (N17 : Nat) (i : Nat) (g : Nat → Int32), (48 - i) < N17 → (i ≤ 48) → (∀ k, k < i → g k = -1) → G p l e ({ frames := 1, cells := 1, slots := 48, locals := 14 } : Room) s m args below meth c 3 D A s.heap Q 1 48 [(h, .inr (0, [.ref q1])), (q1, .inl (cI, 48, .inl g))] [(0, .ref h), (1, .int (nI 48)), (2, .int (nI i))] 17 [] := by
    intro N17
    induction N17 with
    | zero =>
      intro i g hN
      exact absurd hN (Nat.not_lt_zero _)
    | succ N17 ih17 =>
      intro i g hN17 hi h1
      refine g_iload_n X 2 d_Cells_init_17 rfl rfl ?_
      refine g_aload_n X 0 d_Cells_init_18 rfl rfl ?_
      refine g_get (C := R_Cells) (T := T_Cells) (N := 1) X 0 0 in_Cells rfl rfl (by decide) t1_40 rfl rfl d_Cells_init_19 ?_
      refine g_alen X 1 0 rfl rfl d_Cells_init_22 ?_
      refine n_icmp_ge X 39 d_Cells_init_23 (by decide) (by omega) (by omega) (fun h23 => ?_) (fun h23 => ?_)
      · exact g_vret X hA9 hQ9 hr9 hlk9 ⟨q1, g⟩ [0, 1] rfl rfl d_Cells_init_39 (by (try dsimp only); exact (fun k hk => h1 k (by omega)))
      · refine g_aload_n X 0 d_Cells_init_26 rfl rfl ?_
        refine g_get (C := R_Cells) (T := T_Cells) (N := 1) X 0 0 in_Cells rfl rfl (by decide) t1_40 rfl rfl d_Cells_init_27 ?_
        refine g_iload_n X 2 d_Cells_init_30 rfl rfl ?_
        refine g_iconst (v := -1) X d_Cells_init_31 rfl ?_
        refine g_iast X 1 0 [(h, .inr (0, [.ref q1])), (q1, .inl (cI, 48, .inl (upd g i (-1))))] rfl rfl (by omega) (by omega) rfl d_Cells_init_32 ?_
        refine g_iinc X (nI (i + 1)) [(2, .int (nI (i + 1))), (0, .ref h), (1, .int (nI 48))] d_Cells_init_33 (k := 2) rfl (nI_1 i) (by decide) rfl ?_
        refine g_goto X 17 d_Cells_init_36 (by decide) ?_
        refine g_lv [1, 2, 0] rfl ?_
        exact ih17 (i + 1) (upd g i (-1)) (by omega) (by omega) (fill_step h1)
  refine g_iconst (v := nI 0) X d_Cells_init_15 rfl ?_
  refine g_istore_n X [(2, .int (nI 0)), (0, .ref h), (1, .int (nI 48))] d_Cells_init_16 rfl (by decide) rfl ?_
  refine g_lv [1, 2, 0] rfl ?_
  exact L17 ((48 - 0) + 1) 0 (fun _ => 0) (Nat.lt_succ_self _) (by omega) (fun k hk => absurd hk (Nat.not_lt_zero k))

set_option maxHeartbeats 4000000 in
set_option maxRecDepth 100000 in
theorem k_Cells_init200 (h : Nat)  : CtV l y_Cells_init (Cond.code y_Cells_init c_Cells_init 3 none :: TB) ({ frames := 1, cells := 1, slots := 200, locals := 14 } : Room) D (tysv cI cJ cZ cQ) [.ref h, .int (nI 200)] [(h, .inr (0, [.null]))] 1 200 (fun (u : Nat × (Nat → Int32)) => ∀ k, k < 200 → u.2 k = -1) (fun (u : Nat × (Nat → Int32)) => [(h, .inr (0, [.ref u.1])), (u.1, .inl (cI, 200, .inl u.2))]) := by
  refine CtV.of c_Cells_init 3 none (by decide) rfl (Nat.le_of_ble_eq_true rfl) ?_
  intro p e s m args below meth c A Q hA9 hQ9 X hr9 hlk9 hin9
  refine g_aload_n X 0 d_Cells_init_0 rfl rfl ?_
  refine g_objInit X t1_36 t1_23 t1_24 d_Cells_init_1 (by decide) (Nat.le_of_ble_eq_true rfl) ?_
  refine g_aload_n X 0 d_Cells_init_4 rfl rfl ?_
  refine g_iconst (v := nI 0) X d_Cells_init_5 rfl ?_
  refine g_iload_n X 1 d_Cells_init_6 rfl rfl ?_
  refine g_mmax X (nI 200) (mmax0 (by decide)) t1_37 t1_38 t1_4 t1_39 (by decide) (Nat.le_of_ble_eq_true rfl) (by decide) (by decide) d_Cells_init_7 ?_
  refine g_newaI X 0 rfl t1_44 (by omega) (by decide) (by decide) d_Cells_init_10 (fun q1 => ?_)
  refine g_putF (C := R_Cells) (T := T_Cells) (N := 1) (ty := .array .int) X 0 0 [(h, .inr (0, [.ref q1])), (q1, .inl (cI, 200, .inl (fun _ => 0)))] t_Cells ty_Cells nm_Cells in_Cells rfl rfl (by decide) t1_40 rfl rfl hin9 rfl (by decide +kernel) rfl rfl (Nat.le_of_ble_eq_true rfl) rfl d_Cells_init_12 ?_
  have L17 : ∀ (N17 : Nat) (i : Nat) (g : Nat → Int32), (200 - i) < N17 → (i ≤ 200) → (∀ k, k < i → g k = -1) → G p l e ({ frames := 1, cells := 1, slots := 200, locals := 14 } : Room) s m args below meth c 3 D A s.heap Q 1 200 [(h, .inr (0, [.ref q1])), (q1, .inl (cI, 200, .inl g))] [(0, .ref h), (1, .int (nI 200)), (2, .int (nI i))] 17 [] := by
    intro N17
    induction N17 with
    | zero =>
      intro i g hN
      exact absurd hN (Nat.not_lt_zero _)
    | succ N17 ih17 =>
      intro i g hN17 hi h1
      refine g_iload_n X 2 d_Cells_init_17 rfl rfl ?_
      refine g_aload_n X 0 d_Cells_init_18 rfl rfl ?_
      refine g_get (C := R_Cells) (T := T_Cells) (N := 1) X 0 0 in_Cells rfl rfl (by decide) t1_40 rfl rfl d_Cells_init_19 ?_
      refine g_alen X 1 0 rfl rfl d_Cells_init_22 ?_
      refine n_icmp_ge X 39 d_Cells_init_23 (by decide) (by omega) (by omega) (fun h23 => ?_) (fun h23 => ?_)
      · exact g_vret X hA9 hQ9 hr9 hlk9 ⟨q1, g⟩ [0, 1] rfl rfl d_Cells_init_39 (by (try dsimp only); exact (fun k hk => h1 k (by omega)))
      · refine g_aload_n X 0 d_Cells_init_26 rfl rfl ?_
        refine g_get (C := R_Cells) (T := T_Cells) (N := 1) X 0 0 in_Cells rfl rfl (by decide) t1_40 rfl rfl d_Cells_init_27 ?_
        refine g_iload_n X 2 d_Cells_init_30 rfl rfl ?_
        refine g_iconst (v := -1) X d_Cells_init_31 rfl ?_
        refine g_iast X 1 0 [(h, .inr (0, [.ref q1])), (q1, .inl (cI, 200, .inl (upd g i (-1))))] rfl rfl (by omega) (by omega) rfl d_Cells_init_32 ?_
        refine g_iinc X (nI (i + 1)) [(2, .int (nI (i + 1))), (0, .ref h), (1, .int (nI 200))] d_Cells_init_33 (k := 2) rfl (nI_1 i) (by decide) rfl ?_
        refine g_goto X 17 d_Cells_init_36 (by decide) ?_
        refine g_lv [1, 2, 0] rfl ?_
        exact ih17 (i + 1) (upd g i (-1)) (by omega) (by omega) (fill_step h1)
  refine g_iconst (v := nI 0) X d_Cells_init_15 rfl ?_
  refine g_istore_n X [(2, .int (nI 0)), (0, .ref h), (1, .int (nI 200))] d_Cells_init_16 rfl (by decide) rfl ?_
  refine g_lv [1, 2, 0] rfl ?_
  exact L17 ((200 - 0) + 1) 0 (fun _ => 0) (Nat.lt_succ_self _) (by omega) (fun k hk => absurd hk (Nat.not_lt_zero k))
end
section
variable {l : Launch} {D : va_G} {cI cJ cZ cQ : ClassId}
/-- the graph that rows of longs tell -/
def rowE (n : Nat) (f : Nat → Int64) (x j : Nat) : Bool := decide (x < n) && lb (f x) j
theorem rowE_in {n : Nat} {f : Nat → Int64} {x : Nat} (h : x < n) (j : Nat) : rowE n f x j = lb (f x) j := by simp [rowE, h]
theorem above_0 {f : Nat → Int64} {set : Int64} : ∀ x, lb (0 : Int64) x = true ↔ x < 0 ∧ ¬ (f x &&& set) = 0 := by
  intro x
  rw [lb_0]
  constructor
  · intro h; cases h
  · rintro ⟨h, -⟩; exact absurd h (Nat.not_lt_zero _)
theorem above_keep {f : Nat → Int64} {set g : Int64} {i : Nat} (h : ∀ x, lb g x = true ↔ x < i ∧ ¬ (f x &&& set) = 0) (hz : f i &&& set = 0) : ∀ x, lb g x = true ↔ x < i + 1 ∧ ¬ (f x &&& set) = 0 := by
  intro x
  rw [h x]
  constructor
  · rintro ⟨h1, h2⟩; exact ⟨by omega, h2⟩
  · rintro ⟨h1, h2⟩
    rcases Nat.lt_or_ge x i with q | q
    · exact ⟨q, h2⟩
    · have e : x = i := by omega
      subst e
      exact absurd hz h2
theorem above_put {f : Nat → Int64} {set g : Int64} {i : Nat} (hi : i < 64) (h : ∀ x, lb g x = true ↔ x < i ∧ ¬ (f x &&& set) = 0) (hz : ¬ (f i &&& set) = 0) : ∀ x, lb (g ||| ((1 : Int64) <<< ((nI i).toInt64 &&& 63))) x = true ↔ x < i + 1 ∧ ¬ (f x &&& set) = 0 := by
  intro x
  rw [lb_or, lb_one hi, Bool.or_eq_true, h x, decide_eq_true_eq]
  constructor
  · rintro (⟨h1, h2⟩ | h1)
    · exact ⟨by omega, h2⟩
    · subst h1; exact ⟨by omega, hz⟩
  · rintro ⟨h1, h2⟩
    rcases Nat.lt_or_ge x i with q | q
    · exact Or.inl ⟨q, h2⟩
    · exact Or.inr (by omega)
theorem and_ne0 {x y : Int64} : ¬ (x &&& y) = 0 ↔ ∃ j, j < 64 ∧ lb x j = true ∧ lb y j = true := by
  constructor
  · intro h
    obtain ⟨j, hj, hb⟩ := lb_ne0 h
    rw [lb_and, Bool.and_eq_true] at hb
    exact ⟨j, hj, hb⟩
  · rintro ⟨j, hj, h1, h2⟩ h
    have := lb_eq0 h j
    rw [lb_and, h1, h2] at this
    cases this
theorem cl_start {n : Nat} {f g : Nat → Int64} (h : ∀ k, k < n → g k = f k) : ∀ x, x < n → ∀ j, lb (g x) j = gwar (rowE n f) 0 x j := by
  intro x hx j
  rw [h x hx]
  exact (rowE_in hx j).symm
theorem cl_keep {n z i : Nat} {E : Nat → Nat → Bool} {g0 g : Nat → Int64} (hz : ∀ x, x < n → ∀ j, lb (g0 x) j = gwar E z x j) (h1 : ∀ x, x < i → ∀ j, lb (g x) j = gwar E (z + 1) x j) (h2 : ∀ x, i ≤ x → g x = g0 x) (hi : i < n) (hb : lb (g i) z = false) : ∀ x, x < i + 1 → ∀ j, lb (g x) j = gwar E (z + 1) x j := by
  intro x hx j
  rcases Nat.lt_or_ge x i with q | q
  · exact h1 x q j
  · have e : x = i := by omega
    subst e
    have e2 := h2 x (Nat.le_refl x)
    rw [e2] at hb ⊢
    rw [hz x hi] at hb ⊢
    simp [gwar, hb]
theorem cl_put {n z i : Nat} {E : Nat → Nat → Bool} {g0 g : Nat → Int64} (hz : ∀ x, x < n → ∀ j, lb (g0 x) j = gwar E z x j) (h1 : ∀ x, x < i → ∀ j, lb (g x) j = gwar E (z + 1) x j) (h2 : ∀ x, i ≤ x → g x = g0 x) (hi : i < n) (hzn : z < n) (hb : lb (g i) z = true) : ∀ x, x < i + 1 → ∀ j, lb (vp_updL g i (g i ||| g0 z) x) j = gwar E (z + 1) x j := by
  intro x hx j
  rcases Nat.lt_or_ge x i with q | q
  · rw [pk_uLn (by omega)]
    exact h1 x q j
  · have e : x = i := by omega
    subst e
    have e2 := h2 x (Nat.le_refl x)
    rw [pk_uLs, lb_or]
    rw [e2] at hb ⊢
    rw [hz x hi] at hb
    rw [hz x hi, hz z hzn]
    simp [gwar, hb]
theorem cl_zero {n z i : Nat} {E : Nat → Nat → Bool} {g0 g : Nat → Int64} (hz : ∀ x, x < n → ∀ j, lb (g0 x) j = gwar E z x j) (h1 : ∀ x, x < i → ∀ j, lb (g x) j = gwar E (z + 1) x j) (h2 : ∀ x, i ≤ x → g x = g0 x) (hzn : z < n) (hb : g0 z = 0) : ∀ x, x < n → ∀ j, lb (g x) j = gwar E (z + 1) x j := by
  intro x hx j
  rcases Nat.lt_or_ge x i with q | q
  · exact h1 x q j
  · rw [h2 x q, hz x hx]
    have e := hz z hzn j
    rw [hb, lb_0] at e
    simp [gwar, ← e]
theorem updL_keep {g g0 : Nat → Int64} {i : Nat} {w : Int64} (h2 : ∀ x, i ≤ x → g x = g0 x) : ∀ x, i + 1 ≤ x → vp_updL g i w x = g0 x := fun x hx => (pk_uLn (by omega)).trans (h2 x (by omega))

set_option maxHeartbeats 4000000 in
set_option maxRecDepth 100000 in
theorem k_Rows_init48 (h : Nat)  : CtV l y_Rows_init (Cond.code y_Rows_init c_Rows_init 2 none :: TB) ({ frames := 1, cells := 1, slots := 48, locals := 14 } : Room) D (tysv cI cJ cZ cQ) [.ref h, .int (nI 48)] [(h, .inr (1, [.null]))] 1 48 (fun (q : Nat) => True) (fun (q : Nat) => [(h, .inr (1, [.ref q])), (q, .inl (cJ, 48, .inr (.inl (fun _ => 0))))]) := by
  refine CtV.of c_Rows_init 2 none (by decide) rfl (Nat.le_of_ble_eq_true rfl) ?_
  intro p e s m args below meth c A Q hA9 hQ9 X hr9 hlk9 hin9
  refine g_aload_n X 0 d_Rows_init_0 rfl rfl ?_
  refine g_objInit X t1_74 t1_23 t1_24 d_Rows_init_1 (by decide) (Nat.le_of_ble_eq_true rfl) ?_
  refine g_aload_n X 0 d_Rows_init_4 rfl rfl ?_
  refine g_iconst (v := nI 0) X d_Rows_init_5 rfl ?_
  refine g_iload_n X 1 d_Rows_init_6 rfl rfl ?_
  refine g_mmax X (nI 48) (mmax0 (by decide)) t1_75 t1_38 t1_4 t1_39 (by decide) (Nat.le_of_ble_eq_true rfl) (by decide) (by decide) d_Rows_init_7 ?_
  refine g_bipush (v := nI 48) X d_Rows_init_10 rfl ?_
  refine g_mmin X (nI 48) (mmin48 (by decide)) t1_76 t1_77 t1_4 t1_78 (by decide) (Nat.le_of_ble_eq_true rfl) (by decide) (by decide) d_Rows_init_12 ?_
  refine g_newaJ X 1 rfl t1_83 (by omega) (by decide) (by decide) d_Rows_init_15 (fun q1 => ?_)
  refine g_putF (C := R_Rows) (T := T_Rows) (N := 1) (ty := .array .long) X 0 0 [(h, .inr (1, [.ref q1])), (q1, .inl (cJ, 48, .inr (.inl (fun _ => 0))))] t_Rows ty_Rows nm_Rows in_Rows rfl rfl (by decide) t1_79 rfl rfl hin9 rfl (by decide +kernel) rfl rfl (Nat.le_of_ble_eq_true rfl) rfl d_Rows_init_17 ?_
  exact g_vret X hA9 hQ9 hr9 hlk9 q1 [0, 1] rfl rfl d_Rows_init_20 (trivial)

set_option maxHeartbeats 4000000 in
set_option maxRecDepth 100000 in
theorem k_Rows_init12 (h : Nat)  : CtV l y_Rows_init (Cond.code y_Rows_init c_Rows_init 2 none :: TB) ({ frames := 1, cells := 1, slots := 12, locals := 14 } : Room) D (tysv cI cJ cZ cQ) [.ref h, .int (nI 12)] [(h, .inr (1, [.null]))] 1 12 (fun (q : Nat) => True) (fun (q : Nat) => [(h, .inr (1, [.ref q])), (q, .inl (cJ, 12, .inr (.inl (fun _ => 0))))]) := by
  refine CtV.of c_Rows_init 2 none (by decide) rfl (Nat.le_of_ble_eq_true rfl) ?_
  intro p e s m args below meth c A Q hA9 hQ9 X hr9 hlk9 hin9
  refine g_aload_n X 0 d_Rows_init_0 rfl rfl ?_
  refine g_objInit X t1_74 t1_23 t1_24 d_Rows_init_1 (by decide) (Nat.le_of_ble_eq_true rfl) ?_
  refine g_aload_n X 0 d_Rows_init_4 rfl rfl ?_
  refine g_iconst (v := nI 0) X d_Rows_init_5 rfl ?_
  refine g_iload_n X 1 d_Rows_init_6 rfl rfl ?_
  refine g_mmax X (nI 12) (mmax0 (by decide)) t1_75 t1_38 t1_4 t1_39 (by decide) (Nat.le_of_ble_eq_true rfl) (by decide) (by decide) d_Rows_init_7 ?_
  refine g_bipush (v := nI 48) X d_Rows_init_10 rfl ?_
  refine g_mmin X (nI 12) (mmin48 (by decide)) t1_76 t1_77 t1_4 t1_78 (by decide) (Nat.le_of_ble_eq_true rfl) (by decide) (by decide) d_Rows_init_12 ?_
  refine g_newaJ X 1 rfl t1_83 (by omega) (by decide) (by decide) d_Rows_init_15 (fun q1 => ?_)
  refine g_putF (C := R_Rows) (T := T_Rows) (N := 1) (ty := .array .long) X 0 0 [(h, .inr (1, [.ref q1])), (q1, .inl (cJ, 12, .inr (.inl (fun _ => 0))))] t_Rows ty_Rows nm_Rows in_Rows rfl rfl (by decide) t1_79 rfl rfl hin9 rfl (by decide +kernel) rfl rfl (Nat.le_of_ble_eq_true rfl) rfl d_Rows_init_17 ?_
  exact g_vret X hA9 hQ9 hr9 hlk9 q1 [0, 1] rfl rfl d_Rows_init_20 (trivial)

set_option maxHeartbeats 4000000 in
set_option maxRecDepth 100000 in
theorem k_Rows_isPlace (h : Nat) (a : Nat) (n : Nat) (f : Nat → Int64) (j : Nat) (hj : j < n) (hn : n ≤ 48) : CtI l y_Rows_isPlace (Cond.code y_Rows_isPlace c_Rows_isPlace 2 (some .boolean) :: TB) ({ frames := 0, cells := 0, slots := 0, locals := 0 } : Room) D (tysv cI cJ cZ cQ) [.ref h, .int (nI j)] [(h, .inr (1, [.ref a])), (a, .inl (cJ, n, .inr (.inl f)))] 0 0 (fun (r : Int32) (_ : Unit) => r = bI true) (fun (_ : Unit) => [(h, .inr (1, [.ref a])), (a, .inl (cJ, n, .inr (.inl f)))]) := by
  refine CtI.of c_Rows_isPlace 2 (some .boolean) (by decide) rfl (Nat.le_of_ble_eq_true rfl) ?_
  intro p e s m args below meth c A Q hA9 hQ9 X hr9 hlk9 hin9
  refine g_iload_n X 1 d_Rows_isPlace_0 rfl rfl ?_
  refine n_if_lt X 17 d_Rows_isPlace_1 (by decide) (by omega) (fun h1 => absurd h1 (by omega)) (fun h1 => ?_)
  refine g_iload_n X 1 d_Rows_isPlace_4 rfl rfl ?_
  refine g_aload_n X 0 d_Rows_isPlace_5 rfl rfl ?_
  refine g_get (C := R_Rows) (T := T_Rows) (N := 1) X 0 0 in_Rows rfl rfl (by decide) t1_79 rfl rfl d_Rows_isPlace_6 ?_
  refine g_alen X 1 1 rfl rfl d_Rows_isPlace_9 ?_
  refine n_icmp_ge X 17 d_Rows_isPlace_10 (by decide) (by omega) (by omega) (fun h10 => absurd h10 (by omega)) (fun h10 => ?_)
  refine g_iconst (v := nI 1) X d_Rows_isPlace_13 rfl ?_
  refine g_goto X 18 d_Rows_isPlace_14 (by decide) ?_
  exact g_zret X hA9 hQ9 hr9 (by first | exact Or.inl rfl | exact Or.inr rfl) hlk9 () [0, 1] rfl rfl d_Rows_isPlace_18 (rfl)

set_option maxHeartbeats 4000000 in
set_option maxRecDepth 100000 in
theorem k_Rows_isPlaceM (h : Nat) (a : Nat) (n : Nat) (f : Nat → Int64) (hn : n ≤ 48) : CtI l y_Rows_isPlace (Cond.code y_Rows_isPlace c_Rows_isPlace 2 (some .boolean) :: TB) ({ frames := 0, cells := 0, slots := 0, locals := 0 } : Room) D (tysv cI cJ cZ cQ) [.ref h, .int (-1)] [(h, .inr (1, [.ref a])), (a, .inl (cJ, n, .inr (.inl f)))] 0 0 (fun (r : Int32) (_ : Unit) => r = bI false) (fun (_ : Unit) => [(h, .inr (1, [.ref a])), (a, .inl (cJ, n, .inr (.inl f)))]) := by
  refine CtI.of c_Rows_isPlace 2 (some .boolean) (by decide) rfl (Nat.le_of_ble_eq_true rfl) ?_
  intro p e s m args below meth c A Q hA9 hQ9 X hr9 hlk9 hin9
  refine g_iload_n X 1 d_Rows_isPlace_0 rfl rfl ?_
  refine g_if_lt X 17 d_Rows_isPlace_1 (by decide) (fun h1 => ?_) (fun h1 => absurd h1 (by decide))
  refine g_iconst (v := nI 0) X d_Rows_isPlace_17 rfl ?_
  exact g_zret X hA9 hQ9 hr9 (by first | exact Or.inl rfl | exact Or.inr rfl) hlk9 () [0, 1] rfl rfl d_Rows_isPlace_18 (rfl)

set_option maxHeartbeats 4000000 in
set_option maxRecDepth 100000 in
theorem k_Rows_row (h : Nat) (a : Nat) (n : Nat) (f : Nat → Int64) (j : Nat) (hj : j < n) (hn : n ≤ 48) : CtL l y_Rows_row (Cond.code y_Rows_row c_Rows_row 2 (some .long) :: TB) ({ frames := 1, cells := 0, slots := 0, locals := 21 } : Room) D (tysv cI cJ cZ cQ) [.ref h, .int (nI j)] [(h, .inr (1, [.ref a])), (a, .inl (cJ, n, .inr (.inl f)))] 0 0 (fun (r : Int64) (_ : Unit) => r = f j) (fun (_ : Unit) => [(h, .inr (1, [.ref a])), (a, .inl (cJ, n, .inr (.inl f)))]) := by
  refine CtL.of c_Rows_row 2 (some .long) (by decide) rfl (Nat.le_of_ble_eq_true rfl) ?_
  intro p e s m args below meth c A Q hA9 hQ9 X hr9 hlk9 hin9
  refine g_aload_n X 0 d_Rows_row_0 rfl rfl ?_
  refine g_iload_n X 1 d_Rows_row_1 rfl rfl ?_
  refine g_calliV (n := 1) X [.int (nI j)] (k_Rows_isPlace h a n f j (by omega) (by omega)) t1_177 t1_179 ts_1 t1_6 t1_180 rfl rfl (by decide +kernel) ⟨by decide, by decide⟩ [0, 1] [] [] rfl rfl rfl rfl (by decide) 0 rfl rfl rfl rfl (Nat.le_of_ble_eq_true rfl) d_Rows_row_2 ⟨by decide, by decide⟩ (fun r1 w9u1 hw1 => ?_)
  subst hw1
  refine b_if_eq X 17 d_Rows_row_5 (by decide) (fun h5 => absurd h5 (by decide)) (fun h5 => ?_)
  refine g_aload_n X 0 d_Rows_row_8 rfl rfl ?_
  refine g_get (C := R_Rows) (T := T_Rows) (N := 1) X 0 0 in_Rows rfl rfl (by decide) t1_79 rfl rfl d_Rows_row_9 ?_
  refine g_iload_n X 1 d_Rows_row_12 rfl rfl ?_
  refine g_lald X 1 1 rfl rfl (by omega) (by omega) d_Rows_row_13 ?_
  refine g_goto X 18 d_Rows_row_14 (by decide) ?_
  exact g_lret X hA9 hQ9 hr9 hlk9 () [0, 1] rfl rfl d_Rows_row_18 (rfl)

set_option maxHeartbeats 4000000 in
set_option maxRecDepth 100000 in
theorem k_Rows_put (h : Nat) (a : Nat) (n : Nat) (f : Nat → Int64) (j : Nat) (x : Int64) (hj : j < n) (hn : n ≤ 48) : CtV l y_Rows_put (Cond.code y_Rows_put c_Rows_put 4 none :: TB) ({ frames := 1, cells := 0, slots := 0, locals := 21 } : Room) D (tysv cI cJ cZ cQ) [.ref h, .int (nI j), .long x] [(h, .inr (1, [.ref a])), (a, .inl (cJ, n, .inr (.inl f)))] 0 0 (fun (_ : Unit) => True) (fun (_ : Unit) => [(h, .inr (1, [.ref a])), (a, .inl (cJ, n, .inr (.inl (vp_updL f j x))))]) := by
  refine CtV.of c_Rows_put 4 none (by decide) rfl (Nat.le_of_ble_eq_true rfl) ?_
  intro p e s m args below meth c A Q hA9 hQ9 X hr9 hlk9 hin9
  refine g_aload_n X 0 d_Rows_put_0 rfl rfl ?_
  refine g_iload_n X 1 d_Rows_put_1 rfl rfl ?_
  refine g_calliV (n := 1) X [.int (nI j)] (k_Rows_isPlace h a n f j (by omega) (by omega)) t1_177 t1_179 ts_1 t1_6 t1_180 rfl rfl (by decide +kernel) ⟨by decide, by decide⟩ [0, 1] [] [] rfl rfl rfl rfl (by decide) 0 rfl rfl rfl rfl (Nat.le_of_ble_eq_true rfl) d_Rows_put_2 ⟨by decide, by decide⟩ (fun r1 w9u1 hw1 => ?_)
  subst hw1
  refine b_if_eq X 15 d_Rows_put_5 (by decide) (fun h5 => absurd h5 (by decide)) (fun h5 => ?_)
  refine g_aload_n X 0 d_Rows_put_8 rfl rfl ?_
  refine g_get (C := R_Rows) (T := T_Rows) (N := 1) X 0 0 in_Rows rfl rfl (by decide) t1_79 rfl rfl d_Rows_put_9 ?_
  refine g_iload_n X 1 d_Rows_put_12 rfl rfl ?_
  refine g_lload_n X 2 d_Rows_put_13 rfl rfl ?_
  refine g_last X 1 1 [(h, .inr (1, [.ref a])), (a, .inl (cJ, n, .inr (.inl (vp_updL f j x))))] rfl rfl (by omega) (by omega) rfl d_Rows_put_14 ?_
  exact g_vret X hA9 hQ9 hr9 hlk9 () [0, 1] rfl rfl d_Rows_put_15 (trivial)

set_option maxHeartbeats 4000000 in
set_option maxRecDepth 100000 in
theorem k_Rows_has (h : Nat) (a : Nat) (n : Nat) (f : Nat → Int64) (j : Nat) (k : Nat) (hj : j < n) (hk : k < n) (hn : n ≤ 48) : CtI l y_Rows_has (Cond.code y_Rows_has c_Rows_has 3 (some .boolean) :: TB) ({ frames := 1, cells := 0, slots := 0, locals := 21 } : Room) D (tysv cI cJ cZ cQ) [.ref h, .int (nI j), .int (nI k)] [(h, .inr (1, [.ref a])), (a, .inl (cJ, n, .inr (.inl f)))] 0 0 (fun (r : Int32) (_ : Unit) => r = bI (lb (f j) k)) (fun (_ : Unit) => [(h, .inr (1, [.ref a])), (a, .inl (cJ, n, .inr (.inl f)))]) := by
  refine CtI.of c_Rows_has 3 (some .boolean) (by decide) rfl (Nat.le_of_ble_eq_true rfl) ?_
  intro p e s m args below meth c A Q hA9 hQ9 X hr9 hlk9 hin9
  refine g_aload_n X 0 d_Rows_has_0 rfl rfl ?_
  refine g_iload_n X 1 d_Rows_has_1 rfl rfl ?_
  refine g_calliV (n := 1) X [.int (nI j)] (k_Rows_isPlace h a n f j (by omega) (by omega)) t1_177 t1_179 ts_1 t1_6 t1_180 rfl rfl (by decide +kernel) ⟨by decide, by decide⟩ [0, 1] [] [] rfl rfl rfl rfl (by decide) 0 rfl rfl rfl rfl (Nat.le_of_ble_eq_true rfl) d_Rows_has_2 ⟨by decide, by decide⟩ (fun r1 w9u1 hw1 => ?_)
  subst hw1
  refine b_if_eq X 35 d_Rows_has_5 (by decide) (fun h5 => absurd h5 (by decide)) (fun h5 => ?_)
  refine g_aload_n X 0 d_Rows_has_8 rfl rfl ?_
  refine g_iload_n X 2 d_Rows_has_9 rfl rfl ?_
  refine g_calliV (n := 1) X [.int (nI k)] (k_Rows_isPlace h a n f k (by omega) (by omega)) t1_177 t1_179 ts_1 t1_6 t1_180 rfl rfl (by decide +kernel) ⟨by decide, by decide⟩ [0, 1] [] [] rfl rfl rfl rfl (by decide) 0 rfl rfl rfl rfl (Nat.le_of_ble_eq_true rfl) d_Rows_has_10 ⟨by decide, by decide⟩ (fun r2 w9u2 hw2 => ?_)
  subst hw2
  refine b_if_eq X 35 d_Rows_has_13 (by decide) (fun h13 => absurd h13 (by decide)) (fun h13 => ?_)
  refine g_aload_n X 0 d_Rows_has_16 rfl rfl ?_
  refine g_get (C := R_Rows) (T := T_Rows) (N := 1) X 0 0 in_Rows rfl rfl (by decide) t1_79 rfl rfl d_Rows_has_17 ?_
  refine g_iload_n X 1 d_Rows_has_20 rfl rfl ?_
  refine g_lald X 1 1 rfl rfl (by omega) (by omega) d_Rows_has_21 ?_
  refine g_iload_n X 2 d_Rows_has_22 rfl rfl ?_
  refine g_lushr X (((f j).toUInt64 >>> ((nI k).toInt64.toUInt64 &&& Int64.toUInt64 63)).toInt64) d_Rows_has_23 rfl ?_
  refine g_lconst (v := 1) X d_Rows_has_24 rfl ?_
  refine g_land X ((((f j).toUInt64 >>> ((nI k).toInt64.toUInt64 &&& Int64.toUInt64 63)).toInt64) &&& 1) d_Rows_has_25 rfl ?_
  refine g_lconst (v := 0) X d_Rows_has_26 rfl ?_
  refine g_lcmp X d_Rows_has_27 ?_
  refine bit_if_eq X 35 d_Rows_has_28 (by decide) (by omega) (fun h28 => ?_) (fun h28 => ?_)
  · refine g_iconst (v := nI 0) X d_Rows_has_35 rfl ?_
    exact g_zret X hA9 hQ9 hr9 (by first | exact Or.inl rfl | exact Or.inr rfl) hlk9 () [0, 1] rfl rfl d_Rows_has_36 (by rw [h28]; rfl)
  · refine g_iconst (v := nI 1) X d_Rows_has_31 rfl ?_
    refine g_goto X 36 d_Rows_has_32 (by decide) ?_
    exact g_zret X hA9 hQ9 hr9 (by first | exact Or.inl rfl | exact Or.inr rfl) hlk9 () [0, 1] rfl rfl d_Rows_has_36 (by rw [h28]; rfl)

set_option maxHeartbeats 4000000 in
set_option maxRecDepth 100000 in
theorem k_Rows_mark (h : Nat) (a : Nat) (n : Nat) (f : Nat → Int64) (j : Nat) (k : Nat) (hj : j < n) (hk : k < n) (hn : n ≤ 48) : CtV l y_Rows_mark (Cond.code y_Rows_mark c_Rows_mark 3 none :: TB) ({ frames := 1, cells := 0, slots := 0, locals := 21 } : Room) D (tysv cI cJ cZ cQ) [.ref h, .int (nI j), .int (nI k)] [(h, .inr (1, [.ref a])), (a, .inl (cJ, n, .inr (.inl f)))] 0 0 (fun (_ : Unit) => True) (fun (_ : Unit) => [(h, .inr (1, [.ref a])), (a, .inl (cJ, n, .inr (.inl (vp_updL f j (f j ||| ((1 : Int64) <<< ((nI k).toInt64 &&& 63)))))))]) := by
  refine CtV.of c_Rows_mark 3 none (by decide) rfl (Nat.le_of_ble_eq_true rfl) ?_
  intro p e s m args below meth c A Q hA9 hQ9 X hr9 hlk9 hin9
  refine g_aload_n X 0 d_Rows_mark_0 rfl rfl ?_
  refine g_iload_n X 1 d_Rows_mark_1 rfl rfl ?_
  refine g_calliV (n := 1) X [.int (nI j)] (k_Rows_isPlace h a n f j (by omega) (by omega)) t1_177 t1_179 ts_1 t1_6 t1_180 rfl rfl (by decide +kernel) ⟨by decide, by decide⟩ [0, 1] [] [] rfl rfl rfl rfl (by decide) 0 rfl rfl rfl rfl (Nat.le_of_ble_eq_true rfl) d_Rows_mark_2 ⟨by decide, by decide⟩ (fun r1 w9u1 hw1 => ?_)
  subst hw1
  refine b_if_eq X 28 d_Rows_mark_5 (by decide) (fun h5 => absurd h5 (by decide)) (fun h5 => ?_)
  refine g_aload_n X 0 d_Rows_mark_8 rfl rfl ?_
  refine g_iload_n X 2 d_Rows_mark_9 rfl rfl ?_
  refine g_calliV (n := 1) X [.int (nI k)] (k_Rows_isPlace h a n f k (by omega) (by omega)) t1_177 t1_179 ts_1 t1_6 t1_180 rfl rfl (by decide +kernel) ⟨by decide, by decide⟩ [0, 1] [] [] rfl rfl rfl rfl (by decide) 0 rfl rfl rfl rfl (Nat.le_of_ble_eq_true rfl) d_Rows_mark_10 ⟨by decide, by decide⟩ (fun r2 w9u2 hw2 => ?_)
  subst hw2
  refine b_if_eq X 28 d_Rows_mark_13 (by decide) (fun h13 => absurd h13 (by decide)) (fun h13 => ?_)
  refine g_aload_n X 0 d_Rows_mark_16 rfl rfl ?_
  refine g_get (C := R_Rows) (T := T_Rows) (N := 1) X 0 0 in_Rows rfl rfl (by decide) t1_79 rfl rfl d_Rows_mark_17 ?_
  refine g_iload_n X 1 d_Rows_mark_20 rfl rfl ?_
  refine g_dup2 X d_Rows_mark_21 rfl rfl ?_
  refine g_lald X 1 1 rfl rfl (by omega) (by omega) d_Rows_mark_22 ?_
  refine g_lconst (v := 1) X d_Rows_mark_23 rfl ?_
  refine g_iload_n X 2 d_Rows_mark_24 rfl rfl ?_
  refine g_lshl X (1 <<< ((nI k).toInt64 &&& 63)) d_Rows_mark_25 rfl ?_
  refine g_lor X ((f j) ||| (1 <<< ((nI k).toInt64 &&& 63))) d_Rows_mark_26 rfl ?_
  refine g_last X 1 1 [(h, .inr (1, [.ref a])), (a, .inl (cJ, n, .inr (.inl (vp_updL f j ((f j) ||| (1 <<< ((nI k).toInt64 &&& 63)))))))] rfl rfl (by omega) (by omega) rfl d_Rows_mark_27 ?_
  exact g_vret X hA9 hQ9 hr9 hlk9 () [0, 1] rfl rfl d_Rows_mark_28 (trivial)

set_option maxHeartbeats 4000000 in
set_option maxRecDepth 100000 in
theorem k_Rows_markM (h : Nat) (a : Nat) (n : Nat) (f : Nat → Int64) (j : Nat) (hj : j < n) (hn : n ≤ 48) : CtV l y_Rows_mark (Cond.code y_Rows_mark c_Rows_mark 3 none :: TB) ({ frames := 1, cells := 0, slots := 0, locals := 21 } : Room) D (tysv cI cJ cZ cQ) [.ref h, .int (nI j), .int (-1)] [(h, .inr (1, [.ref a])), (a, .inl (cJ, n, .inr (.inl f)))] 0 0 (fun (_ : Unit) => True) (fun (_ : Unit) => [(h, .inr (1, [.ref a])), (a, .inl (cJ, n, .inr (.inl f)))]) := by
  refine CtV.of c_Rows_mark 3 none (by decide) rfl (Nat.le_of_ble_eq_true rfl) ?_
  intro p e s m args below meth c A Q hA9 hQ9 X hr9 hlk9 hin9
  refine g_aload_n X 0 d_Rows_mark_0 rfl rfl ?_
  refine g_iload_n X 1 d_Rows_mark_1 rfl rfl ?_
  refine g_calliV (n := 1) X [.int (nI j)] (k_Rows_isPlace h a n f j (by omega) (by omega)) t1_177 t1_179 ts_1 t1_6 t1_180 rfl rfl (by decide +kernel) ⟨by decide, by decide⟩ [0, 1] [] [] rfl rfl rfl rfl (by decide) 0 rfl rfl rfl rfl (Nat.le_of_ble_eq_true rfl) d_Rows_mark_2 ⟨by decide, by decide⟩ (fun r1 w9u1 hw1 => ?_)
  subst hw1
  refine b_if_eq X 28 d_Rows_mark_5 (by decide) (fun h5 => absurd h5 (by decide)) (fun h5 => ?_)
  refine g_aload_n X 0 d_Rows_mark_8 rfl rfl ?_
  refine g_iload_n X 2 d_Rows_mark_9 rfl rfl ?_
  refine g_calliV (n := 1) X [.int (-1)] (k_Rows_isPlaceM h a n f (by omega)) t1_177 t1_179 ts_1 t1_6 t1_180 rfl rfl (by decide +kernel) ⟨by decide, by decide⟩ [0, 1] [] [] rfl rfl rfl rfl (by decide) 0 rfl rfl rfl rfl (Nat.le_of_ble_eq_true rfl) d_Rows_mark_10 ⟨by decide, by decide⟩ (fun r2 w9u2 hw2 => ?_)
  subst hw2
  refine b_if_eq X 28 d_Rows_mark_13 (by decide) (fun h13 => ?_) (fun h13 => absurd h13 (by decide))
  exact g_vret X hA9 hQ9 hr9 hlk9 () [0, 1] rfl rfl d_Rows_mark_28 (trivial)

set_option maxHeartbeats 4000000 in
set_option maxRecDepth 100000 in
theorem k_Rows_clear (h : Nat) (a : Nat) (n : Nat) (f : Nat → Int64) (hn : n ≤ 48) : CtV l y_Rows_clear (Cond.code y_Rows_clear c_Rows_clear 2 none :: TB) ({ frames := 0, cells := 0, slots := 0, locals := 0 } : Room) D (tysv cI cJ cZ cQ) [.ref h] [(h, .inr (1, [.ref a])), (a, .inl (cJ, n, .inr (.inl f)))] 0 0 (fun (g : Nat → Int64) => ∀ k, k < n → g k = 0) (fun (g : Nat → Int64) => [(h, .inr (1, [.ref a])), (a, .inl (cJ, n, .inr (.inl g)))]) := by
  refine CtV.of c_Rows_clear 2 none (by decide) rfl (Nat.le_of_ble_eq_true rfl) ?_
  intro p e s m args below meth c A Q hA9 hQ9 X hr9 hlk9 hin9
  have L2 : ∀ (N2 : Nat) (i : Nat) (g : Nat → Int64), (n - i) < N2 → (i ≤ n) → (∀ k, k < i → g k = 0) → G p l e ({ frames := 0, cells := 0, slots := 0, locals := 0 } : Room) s m args below meth c 2 D A s.heap Q 0 0 [(h, .inr (1, [.ref a])), (a, .inl (cJ, n, .inr (.inl g)))] [(0, .ref h), (1, .int (nI i))] 2 [] := by
    intro N2
    induction N2 with
    | zero =>
      intro i g hN
      exact absurd hN (Nat.not_lt_zero _)
    | succ N2 ih2 =>
      intro i g hN2 hi h1
      refine g_iload_n X 1 d_Rows_clear_2 rfl rfl ?_
      refine g_aload_n X 0 d_Rows_clear_3 rfl rfl ?_
      refine g_get (C := R_Rows) (T := T_Rows) (N := 1) X 0 0 in_Rows rfl rfl (by decide) t1_79 rfl rfl d_Rows_clear_4 ?_
      refine g_alen X 1 1 rfl rfl d_Rows_clear_7 ?_
      refine n_icmp_ge X 24 d_Rows_clear_8 (by decide) (by omega) (by omega) (fun h8 => ?_) (fun h8 => ?_)
      · exact g_vret X hA9 hQ9 hr9 hlk9 g [0, 1] rfl rfl d_Rows_clear_24 (fun k hk => h1 k (by omega))
      · refine g_aload_n X 0 d_Rows_clear_11 rfl rfl ?_
        refine g_get (C := R_Rows) (T := T_Rows) (N := 1) X 0 0 in_Rows rfl rfl (by decide) t1_79 rfl rfl d_Rows_clear_12 ?_
        refine g_iload_n X 1 d_Rows_clear_15 rfl rfl ?_
        refine g_lconst (v := 0) X d_Rows_clear_16 rfl ?_
        refine g_last X 1 1 [(h, .inr (1, [.ref a])), (a, .inl (cJ, n, .inr (.inl (vp_updL g i 0))))] rfl rfl (by omega) (by omega) rfl d_Rows_clear_17 ?_
        refine g_iinc X (nI (i + 1)) [(1, .int (nI (i + 1))), (0, .ref h)] d_Rows_clear_18 (k := 1) rfl (nI_1 i) (by decide) rfl ?_
        refine g_goto X 2 d_Rows_clear_21 (by decide) ?_
        refine g_lv [1, 0] rfl ?_
        exact ih2 (i + 1) (vp_updL g i 0) (by omega) (by omega) (fillL_step h1)
  refine g_iconst (v := nI 0) X d_Rows_clear_0 rfl ?_
  refine g_istore_n X [(1, .int (nI 0)), (0, .ref h)] d_Rows_clear_1 rfl (by decide) rfl ?_
  refine g_lv [1, 0] rfl ?_
  exact L2 ((n - 0) + 1) 0 f (Nat.lt_succ_self _) (by omega) (fun k hk => absurd hk (Nat.not_lt_zero k))

set_option maxHeartbeats 4000000 in
set_option maxRecDepth 100000 in
theorem k_Rows_above (h : Nat) (a : Nat) (n : Nat) (f : Nat → Int64) (set : Int64) (hn : n ≤ 48) : CtL l y_Rows_above (Cond.code y_Rows_above c_Rows_above 6 (some .long) :: TB) ({ frames := 0, cells := 0, slots := 0, locals := 0 } : Room) D (tysv cI cJ cZ cQ) [.ref h, .long set] [(h, .inr (1, [.ref a])), (a, .inl (cJ, n, .inr (.inl f)))] 0 0 (fun (r : Int64) (_ : Unit) => ∀ x, lb r x = true ↔ x < n ∧ ¬ (f x &&& set) = 0) (fun (_ : Unit) => [(h, .inr (1, [.ref a])), (a, .inl (cJ, n, .inr (.inl f)))]) := by
  refine CtL.of c_Rows_above 6 (some .long) (by decide) rfl (Nat.le_of_ble_eq_true rfl) ?_
  intro p e s m args below meth c A Q hA9 hQ9 X hr9 hlk9 hin9
  have L5 : ∀ (N5 : Nat) (i : Nat) (g : Int64), (n - i) < N5 → (i ≤ n) → (∀ x, lb g x = true ↔ x < i ∧ ¬ (f x &&& set) = 0) → G p l e ({ frames := 0, cells := 0, slots := 0, locals := 0 } : Room) s m args below meth c 6 D A s.heap Q 0 0 [(h, .inr (1, [.ref a])), (a, .inl (cJ, n, .inr (.inl f)))] [(0, .ref h), (1, .long set), (3, .long g), (5, .int (nI i))] 5 [] := by
    intro N5
    induction N5 with
    | zero =>
      intro i g hN
      exact absurd hN (Nat.not_lt_zero _)
    | succ N5 ih5 =>
      intro i g hN5 hi h1
      refine g_iload X 5 d_Rows_above_5 rfl ?_
      refine g_aload_n X 0 d_Rows_above_7 rfl rfl ?_
      refine g_get (C := R_Rows) (T := T_Rows) (N := 1) X 0 0 in_Rows rfl rfl (by decide) t1_79 rfl rfl d_Rows_above_8 ?_
      refine g_alen X 1 1 rfl rfl d_Rows_above_11 ?_
      refine n_icmp_ge X 42 d_Rows_above_12 (by decide) (by omega) (by omega) (fun h12 => ?_) (fun h12 => ?_)
      · refine g_lload_n X 3 d_Rows_above_42 rfl rfl ?_
        exact g_lret X hA9 hQ9 hr9 hlk9 () [0, 1] rfl rfl d_Rows_above_43 (by have e : i = n := (by omega); subst e; exact h1)
      · refine g_aload_n X 0 d_Rows_above_15 rfl rfl ?_
        refine g_get (C := R_Rows) (T := T_Rows) (N := 1) X 0 0 in_Rows rfl rfl (by decide) t1_79 rfl rfl d_Rows_above_16 ?_
        refine g_iload X 5 d_Rows_above_19 rfl ?_
        refine g_lald X 1 1 rfl rfl (by omega) (by omega) d_Rows_above_21 ?_
        refine g_lload_n X 1 d_Rows_above_22 rfl rfl ?_
        refine g_land X ((f i) &&& set) d_Rows_above_23 rfl ?_
        refine g_lconst (v := 0) X d_Rows_above_24 rfl ?_
        refine g_lcmp X d_Rows_above_25 ?_
        refine lc_if_eq X 36 d_Rows_above_26 (by decide) (fun h26 => ?_) (fun h26 => ?_)
        · refine g_iinc X (nI (i + 1)) [(5, .int (nI (i + 1))), (0, .ref h), (1, .long set), (3, .long g)] d_Rows_above_36 (k := 3) rfl (nI_1 i) (by decide) rfl ?_
          refine g_goto X 5 d_Rows_above_39 (by decide) ?_
          refine g_lv [1, 2, 3, 0] rfl ?_
          exact ih5 (i + 1) g (by omega) (by omega) (by first | exact above_keep h1 h26 | exact above_put (by omega) h1 h26)
        · refine g_lload_n X 3 d_Rows_above_29 rfl rfl ?_
          refine g_lconst (v := 1) X d_Rows_above_30 rfl ?_
          refine g_iload X 5 d_Rows_above_31 rfl ?_
          refine g_lshl X (1 <<< ((nI i).toInt64 &&& 63)) d_Rows_above_33 rfl ?_
          refine g_lor X (g ||| (1 <<< ((nI i).toInt64 &&& 63))) d_Rows_above_34 rfl ?_
          refine g_lstore_n X [(3, .long (g ||| (1 <<< ((nI i).toInt64 &&& 63)))), (0, .ref h), (1, .long set), (5, .int (nI i))] d_Rows_above_35 rfl (by decide) rfl ?_
          refine g_iinc X (nI (i + 1)) [(5, .int (nI (i + 1))), (3, .long (g ||| (1 <<< ((nI i).toInt64 &&& 63)))), (0, .ref h), (1, .long set)] d_Rows_above_36 (k := 3) rfl (nI_1 i) (by decide) rfl ?_
          refine g_goto X 5 d_Rows_above_39 (by decide) ?_
          refine g_lv [2, 3, 1, 0] rfl ?_
          exact ih5 (i + 1) (g ||| (1 <<< ((nI i).toInt64 &&& 63))) (by omega) (by omega) (by first | exact above_keep h1 h26 | exact above_put (by omega) h1 h26)
  refine g_lconst (v := 0) X d_Rows_above_0 rfl ?_
  refine g_lstore_n X [(3, .long 0), (0, .ref h), (1, .long set)] d_Rows_above_1 rfl (by decide) rfl ?_
  refine g_iconst (v := nI 0) X d_Rows_above_2 rfl ?_
  refine g_istore X [(5, .int (nI 0)), (3, .long 0), (0, .ref h), (1, .long set)] d_Rows_above_3 (by decide) rfl ?_
  refine g_lv [2, 3, 1, 0] rfl ?_
  exact L5 ((n - 0) + 1) 0 0 (Nat.lt_succ_self _) (by omega) (above_0)

set_option maxHeartbeats 4000000 in
set_option maxRecDepth 100000 in
theorem k_Rows_close (h : Nat) (a : Nat) (n : Nat) (f : Nat → Int64) (h2 : Nat) (a2 : Nat) (f2 : Nat → Int64) (hn : n ≤ 48) : CtV l y_Rows_close (Cond.code y_Rows_close c_Rows_close 6 none :: TB) ({ frames := 2, cells := 0, slots := 0, locals := 42 } : Room) D (tysv cI cJ cZ cQ) [.ref h, .ref h2] [(h, .inr (1, [.ref a])), (a, .inl (cJ, n, .inr (.inl f))), (h2, .inr (1, [.ref a2])), (a2, .inl (cJ, n, .inr (.inl f2)))] 0 0 (fun (g : Nat → Int64) => ∀ x, x < n → ∀ j, lb (g x) j = gwar (rowE n f2) n x j) (fun (g : Nat → Int64) => [(h, .inr (1, [.ref a])), (a, .inl (cJ, n, .inr (.inl g))), (h2, .inr (1, [.ref a2])), (a2, .inl (cJ, n, .inr (.inl f2)))]) := by
  refine CtV.of c_Rows_close 6 none (by decide) rfl (Nat.le_of_ble_eq_true rfl) ?_
  intro p e s m args below meth c A Q hA9 hQ9 X hr9 hlk9 hin9
  have L30 : ∀ (N30 : Nat) (z : Nat) (g0 : Nat → Int64), (n - z) < N30 → (z ≤ n) → (∀ x, x < n → ∀ j, lb (g0 x) j = gwar (rowE n f2) z x j) → G p l e ({ frames := 2, cells := 0, slots := 0, locals := 42 } : Room) s m args below meth c 6 D A s.heap Q 0 0 [(h, .inr (1, [.ref a])), (a, .inl (cJ, n, .inr (.inl g0))), (h2, .inr (1, [.ref a2])), (a2, .inl (cJ, n, .inr (.inl f2)))] [(0, .ref h), (1, .ref h2), (2, .int (nI z))] 30 [] := by
    intro N30
    induction N30 with
    | zero =>
      intro z g0 hN
      exact absurd hN (Nat.not_lt_zero _)
    | succ N30 ih30 =>
      intro z g0 hN30 hz hg
      refine g_iload_n X 2 d_Rows_close_30 rfl rfl ?_
      refine g_aload_n X 0 d_Rows_close_31 rfl rfl ?_
      refine g_get (C := R_Rows) (T := T_Rows) (N := 1) X 0 0 in_Rows rfl rfl (by decide) t1_79 rfl rfl d_Rows_close_32 ?_
      refine g_alen X 1 1 rfl rfl d_Rows_close_35 ?_
      refine n_icmp_ge X 104 d_Rows_close_36 (by decide) (by omega) (by omega) (fun h36 => ?_) (fun h36 => ?_)
      · exact g_vret X hA9 hQ9 hr9 hlk9 g0 [0, 1, 2, 3] rfl rfl d_Rows_close_104 (by have e : z = n := (by omega); subst e; exact hg)
      · refine g_aload_n X 0 d_Rows_close_39 rfl rfl ?_
        refine g_get (C := R_Rows) (T := T_Rows) (N := 1) X 0 0 in_Rows rfl rfl (by decide) t1_79 rfl rfl d_Rows_close_40 ?_
        refine g_iload_n X 2 d_Rows_close_43 rfl rfl ?_
        refine g_lald X 1 1 rfl rfl (by omega) (by omega) d_Rows_close_44 ?_
        refine g_lstore_n X [(3, .long (g0 z)), (0, .ref h), (1, .ref h2), (2, .int (nI z))] d_Rows_close_45 rfl (by decide) rfl ?_
        have L49 : ∀ (N49 : Nat) (i : Nat) (g : Nat → Int64), (n - i) < N49 → (i ≤ n) → (∀ x, x < i → ∀ j, lb (g x) j = gwar (rowE n f2) (z + 1) x j) → (∀ x, i ≤ x → g x = g0 x) → G p l e ({ frames := 2, cells := 0, slots := 0, locals := 42 } : Room) s m args below meth c 6 D A s.heap Q 0 0 [(h, .inr (1, [.ref a])), (a, .inl (cJ, n, .inr (.inl g))), (h2, .inr (1, [.ref a2])), (a2, .inl (cJ, n, .inr (.inl f2)))] [(0, .ref h), (1, .ref h2), (2, .int (nI z)), (3, .long (g0 z)), (5, .int (nI i))] 49 [] := by
          intro N49
          induction N49 with
          | zero =>
            intro i g hN
            exact absurd hN (Nat.not_lt_zero _)
          | succ N49 ih49 =>
            intro i g hN49 hi e1 e2
            refine g_iload X 5 d_Rows_close_49 rfl ?_
            refine g_aload_n X 0 d_Rows_close_51 rfl rfl ?_
            refine g_get (C := R_Rows) (T := T_Rows) (N := 1) X 0 0 in_Rows rfl rfl (by decide) t1_79 rfl rfl d_Rows_close_52 ?_
            refine g_alen X 1 1 rfl rfl d_Rows_close_55 ?_
            refine n_icmp_ge X 98 d_Rows_close_56 (by decide) (by omega) (by omega) (fun h56 => ?_) (fun h56 => ?_)
            · refine g_iinc X (nI (z + 1)) [(2, .int (nI (z + 1))), (0, .ref h), (1, .ref h2), (3, .long (g0 z)), (5, .int (nI i))] d_Rows_close_98 (k := 2) rfl (nI_1 z) (by decide) rfl ?_
              refine g_goto X 30 d_Rows_close_101 (by decide) ?_
              refine g_lv [1, 2, 0] rfl ?_
              exact ih30 (z + 1) g (by omega) (by omega) (by first | exact fun x hx j => e1 x (by omega) j | exact cl_zero hg e1 e2 (by omega) h62)
            · refine g_lload_n X 3 d_Rows_close_59 rfl rfl ?_
              refine g_lconst (v := 0) X d_Rows_close_60 rfl ?_
              refine g_lcmp X d_Rows_close_61 ?_
              refine lc_if_eq X 98 d_Rows_close_62 (by decide) (fun h62 => ?_) (fun h62 => ?_)
              · refine g_iinc X (nI (z + 1)) [(2, .int (nI (z + 1))), (0, .ref h), (1, .ref h2), (3, .long (g0 z)), (5, .int (nI i))] d_Rows_close_98 (k := 2) rfl (nI_1 z) (by decide) rfl ?_
                refine g_goto X 30 d_Rows_close_101 (by decide) ?_
                refine g_lv [1, 2, 0] rfl ?_
                exact ih30 (z + 1) g (by omega) (by omega) (by first | exact fun x hx j => e1 x (by omega) j | exact cl_zero hg e1 e2 (by omega) h62)
              · refine g_aload_n X 0 d_Rows_close_65 rfl rfl ?_
                refine g_get (C := R_Rows) (T := T_Rows) (N := 1) X 0 0 in_Rows rfl rfl (by decide) t1_79 rfl rfl d_Rows_close_66 ?_
                refine g_iload X 5 d_Rows_close_69 rfl ?_
                refine g_lald X 1 1 rfl rfl (by omega) (by omega) d_Rows_close_71 ?_
                refine g_iload_n X 2 d_Rows_close_72 rfl rfl ?_
                refine g_lushr X (((g i).toUInt64 >>> ((nI z).toInt64.toUInt64 &&& Int64.toUInt64 63)).toInt64) d_Rows_close_73 rfl ?_
                refine g_lconst (v := 1) X d_Rows_close_74 rfl ?_
                refine g_land X ((((g i).toUInt64 >>> ((nI z).toInt64.toUInt64 &&& Int64.toUInt64 63)).toInt64) &&& 1) d_Rows_close_75 rfl ?_
                refine g_lconst (v := 0) X d_Rows_close_76 rfl ?_
                refine g_lcmp X d_Rows_close_77 ?_
                refine bit_if_eq X 92 d_Rows_close_78 (by decide) (by omega) (fun h78 => ?_) (fun h78 => ?_)
                · refine g_iinc X (nI (i + 1)) [(5, .int (nI (i + 1))), (0, .ref h), (1, .ref h2), (2, .int (nI z)), (3, .long (g0 z))] d_Rows_close_92 (k := 4) rfl (nI_1 i) (by decide) rfl ?_
                  refine g_goto X 49 d_Rows_close_95 (by decide) ?_
                  refine g_lv [1, 2, 3, 4, 0] rfl ?_
                  exact ih49 (i + 1) g (by omega) (by omega) (by first | exact cl_keep hg e1 e2 (by omega) h78 | exact cl_put hg e1 e2 (by omega) (by omega) h78) (by first | exact fun x hx => e2 x (by omega) | exact updL_keep e2)
                · refine g_aload_n X 0 d_Rows_close_81 rfl rfl ?_
                  refine g_get (C := R_Rows) (T := T_Rows) (N := 1) X 0 0 in_Rows rfl rfl (by decide) t1_79 rfl rfl d_Rows_close_82 ?_
                  refine g_iload X 5 d_Rows_close_85 rfl ?_
                  refine g_dup2 X d_Rows_close_87 rfl rfl ?_
                  refine g_lald X 1 1 rfl rfl (by omega) (by omega) d_Rows_close_88 ?_
                  refine g_lload_n X 3 d_Rows_close_89 rfl rfl ?_
                  refine g_lor X ((g i) ||| (g0 z)) d_Rows_close_90 rfl ?_
                  refine g_last X 1 1 [(h, .inr (1, [.ref a])), (a, .inl (cJ, n, .inr (.inl (vp_updL g i ((g i) ||| (g0 z)))))), (h2, .inr (1, [.ref a2])), (a2, .inl (cJ, n, .inr (.inl f2)))] rfl rfl (by omega) (by omega) rfl d_Rows_close_91 ?_
                  refine g_iinc X (nI (i + 1)) [(5, .int (nI (i + 1))), (0, .ref h), (1, .ref h2), (2, .int (nI z)), (3, .long (g0 z))] d_Rows_close_92 (k := 4) rfl (nI_1 i) (by decide) rfl ?_
                  refine g_goto X 49 d_Rows_close_95 (by decide) ?_
                  refine g_lv [1, 2, 3, 4, 0] rfl ?_
                  exact ih49 (i + 1) (vp_updL g i ((g i) ||| (g0 z))) (by omega) (by omega) (by first | exact cl_keep hg e1 e2 (by omega) h78 | exact cl_put hg e1 e2 (by omega) (by omega) h78) (by first | exact fun x hx => e2 x (by omega) | exact updL_keep e2)
        refine g_iconst (v := nI 0) X d_Rows_close_46 rfl ?_
        refine g_istore X [(5, .int (nI 0)), (3, .long (g0 z)), (0, .ref h), (1, .ref h2), (2, .int (nI z))] d_Rows_close_47 (by decide) rfl ?_
        refine g_lv [2, 3, 4, 1, 0] rfl ?_
        exact L49 ((n - 0) + 1) 0 g0 (Nat.lt_succ_self _) (by omega) (fun k hk => absurd hk (Nat.not_lt_zero k)) (fun x _ => rfl)
  have L2 : ∀ (N2 : Nat) (i : Nat) (g : Nat → Int64), (n - i) < N2 → (i ≤ n) → (∀ k, k < i → g k = f2 k) → G p l e ({ frames := 2, cells := 0, slots := 0, locals := 42 } : Room) s m args below meth c 6 D A s.heap Q 0 0 [(h, .inr (1, [.ref a])), (a, .inl (cJ, n, .inr (.inl g))), (h2, .inr (1, [.ref a2])), (a2, .inl (cJ, n, .inr (.inl f2)))] [(0, .ref h), (1, .ref h2), (2, .int (nI i))] 2 [] := by
    intro N2
    induction N2 with
    | zero =>
      intro i g hN
      exact absurd hN (Nat.not_lt_zero _)
    | succ N2 ih2 =>
      intro i g hN2 hi g1
      refine g_iload_n X 2 d_Rows_close_2 rfl rfl ?_
      refine g_aload_n X 0 d_Rows_close_3 rfl rfl ?_
      refine g_get (C := R_Rows) (T := T_Rows) (N := 1) X 0 0 in_Rows rfl rfl (by decide) t1_79 rfl rfl d_Rows_close_4 ?_
      refine g_alen X 1 1 rfl rfl d_Rows_close_7 ?_
      refine n_icmp_ge X 28 d_Rows_close_8 (by decide) (by omega) (by omega) (fun h8 => ?_) (fun h8 => ?_)
      · refine g_iconst (v := nI 0) X d_Rows_close_28 rfl ?_
        refine g_istore_n X [(2, .int (nI 0)), (0, .ref h), (1, .ref h2)] d_Rows_close_29 rfl (by decide) rfl ?_
        refine g_lv [1, 2, 0] rfl ?_
        exact L30 ((n - 0) + 1) 0 g (Nat.lt_succ_self _) (by omega) (cl_start (fun k hk => g1 k (by omega)))
      · refine g_aload_n X 0 d_Rows_close_11 rfl rfl ?_
        refine g_get (C := R_Rows) (T := T_Rows) (N := 1) X 0 0 in_Rows rfl rfl (by decide) t1_79 rfl rfl d_Rows_close_12 ?_
        refine g_iload_n X 2 d_Rows_close_15 rfl rfl ?_
        refine g_aload_n X 1 d_Rows_close_16 rfl rfl ?_
        refine g_iload_n X 2 d_Rows_close_17 rfl rfl ?_
        refine g_calllV (n := 1) X [.int (nI i)] (k_Rows_row h2 a2 n f2 i (by omega) (by omega)) t2_160 t1_174 t1_175 t1_6 t1_176 rfl rfl (by decide +kernel) ⟨by decide, by decide⟩ [2, 3] [0, 1] [(h, .inr (1, [.ref a])), (a, .inl (cJ, n, .inr (.inl g)))] rfl rfl rfl rfl (by decide) 0 rfl rfl rfl rfl (Nat.le_of_ble_eq_true rfl) d_Rows_close_18 ⟨by decide, by decide⟩ (fun r1 w9u1 hw1 => ?_)
        subst hw1
        refine g_last X 1 1 [(h, .inr (1, [.ref a])), (a, .inl (cJ, n, .inr (.inl (vp_updL g i (f2 i))))), (h2, .inr (1, [.ref a2])), (a2, .inl (cJ, n, .inr (.inl f2)))] rfl rfl (by omega) (by omega) rfl d_Rows_close_21 ?_
        refine g_iinc X (nI (i + 1)) [(2, .int (nI (i + 1))), (0, .ref h), (1, .ref h2)] d_Rows_close_22 (k := 2) rfl (nI_1 i) (by decide) rfl ?_
        refine g_goto X 2 d_Rows_close_25 (by decide) ?_
        refine g_lv [1, 2, 0] rfl ?_
        exact ih2 (i + 1) (vp_updL g i (f2 i)) (by omega) (by omega) (copyL_step g1)
  refine g_iconst (v := nI 0) X d_Rows_close_0 rfl ?_
  refine g_istore_n X [(2, .int (nI 0)), (0, .ref h), (1, .ref h2)] d_Rows_close_1 rfl (by decide) rfl ?_
  refine g_lv [1, 2, 0] rfl ?_
  exact L2 ((n - 0) + 1) 0 f (Nat.lt_succ_self _) (by omega) (fun k hk => absurd hk (Nat.not_lt_zero k))
end
section
variable {l : Launch} {D : va_G} {cI cJ cZ cQ : ClassId}
theorem ring_ex {E : Nat → Nat → Bool} {t : Nat} : ∀ (k x : Nat), gD E t (k + 1) x → ∃ p : Nat → Nat, p 0 = x ∧ ∀ j, j < k → E (p j) (p (j + 1)) = true ∧ gD E t (k - j) (p (j + 1)) ∧ ∀ c, c < p (j + 1) → E (p j) c = true → ¬ gD E t (k - j) c
  | 0, x, _ => ⟨fun _ => x, rfl, fun j hj => absurd hj (Nat.not_lt_zero _)⟩
  | k + 1, x, h => by
    obtain ⟨y0, hy1, hy2⟩ := gD_next h
    obtain ⟨y, -, ⟨h1, h2⟩, h3⟩ := least_of (P := fun y => E x y = true ∧ gD E t (k + 1) y) ⟨hy1, hy2⟩
    obtain ⟨q, hq0, hq⟩ := ring_ex k y h2
    refine ⟨fun j => match j with
      | 0 => x
      | j + 1 => q j, rfl, fun j hj => ?_⟩
    cases j with
    | zero =>
      show E x (q 0) = true ∧ gD E t (k + 1) (q 0) ∧ ∀ c, c < q 0 → E x c = true → ¬ gD E t (k + 1) c
      rw [hq0]
      exact ⟨h1, h2, fun c hc he hd => h3 c hc ⟨he, hd⟩⟩
    | succ j =>
      have := hq j (by omega)
      rw [show k + 1 - (j + 1) = k - j by omega]
      exact this
theorem gring_ex {E : Nat → Nat → Bool} {t d : Nat} (h : gD E t d t) : ∃ p, gring E t d p := by
  obtain ⟨k, rfl⟩ : ∃ k, d = k + 1 := ⟨d - 1, by have := h.1; omega⟩
  obtain ⟨p, h0, hp⟩ := ring_ex k t h
  exact ⟨p, h, h0, fun j hj => hp j (by omega)⟩
/-! the k-th of a set -/
theorem nth_end {P : Nat → Bool} {n k : Nat} (h : ∃ x, x < n ∧ P x = true ∧ cnt P x = k) : k < cnt P n := by
  obtain ⟨x, h1, h2, h3⟩ := h
  have h4 := cnt_mono P (show x + 1 ≤ n from h1)
  rw [cnt_t h2] at h4
  omega
theorem cnt_none {P : Nat → Bool} {x : Nat} (h : cnt P x = 0) : ∀ y, y < x → P y = false := by
  intro y hy
  cases hb : P y with
  | false => rfl
  | true =>
    have h4 := cnt_mono P (show y + 1 ≤ x from hy)
    rw [cnt_t hb] at h4
    omega
theorem cnt_least {P : Nat → Bool} {n : Nat} (h : ∃ x, x < n ∧ P x = true) : ∃ x, x < n ∧ P x = true ∧ cnt P x = 0 := by
  obtain ⟨x, hx, hp⟩ := h
  obtain ⟨y, h1, h2, h3⟩ := least_of (P := fun y => P y = true) hp
  refine ⟨y, by omega, h2, ?_⟩
  have key : ∀ m, m ≤ y → cnt P m = 0 := by
    intro m
    induction m with
    | zero => intro _; rfl
    | succ m ih =>
      intro hm
      have hb : P m = false := by
        cases hb : P m with
        | false => rfl
        | true => exact absurd hb (h3 m (by omega))
      rw [cnt_f hb]
      exact ih (by omega)
  exact key y (Nat.le_refl y)
/-! layers -/
def lay (E : Nat → Nat → Bool) (t i : Nat) (w : Int64) : Prop := ∀ x, lb w x = true ↔ (if i = 0 then x = t else gD E t i x)
def seenL (E : Nat → Nat → Bool) (t i : Nat) (w : Int64) : Prop := ∀ x, lb w x = true ↔ ∃ j, j < i ∧ gD E t (j + 1) x
def layY (E : Nat → Nat → Bool) (t i : Nat) (Y : Nat → Int64) : Prop := ∀ j, j < i → ∀ x, lb (Y j) x = true ↔ gD E t (j + 1) x
theorem rowE_gin {n : Nat} {f : Nat → Int64} (hf : ∀ x, x < n → ∀ j, lb (f x) j = true → j < n) : gin (rowE n f) n := by
  intro x y h
  simp only [rowE, Bool.and_eq_true, decide_eq_true_eq] at h
  exact ⟨h.1, hf x h.1 y h.2⟩
theorem lay_0 {E : Nat → Nat → Bool} {t : Nat} (ht : t < 64) : lay E t 0 ((1 : Int64) <<< ((nI t).toInt64 &&& 63)) := by
  intro x
  rw [lb_one ht, decide_eq_true_eq]
  simp
theorem seen_0 {E : Nat → Nat → Bool} {t : Nat} : seenL E t 0 0 := by
  intro x
  rw [lb_0]
  constructor
  · intro h; cases h
  · rintro ⟨j, h, -⟩; exact absurd h (Nat.not_lt_zero _)
theorem lay_step {n t i : Nat} {f : Nat → Int64} {w seen r : Int64} (hw : lay (rowE n f) t i w) (hs : seenL (rowE n f) t i seen) (ht : t < 64) (hr : ∀ x, lb r x = true ↔ x < n ∧ ¬ (f x &&& w) = 0) (hf : ∀ x, x < n → ∀ j, lb (f x) j = true → j < n) (hn : n ≤ 48) : ∀ x, lb (r &&& (seen ^^^ (-1))) x = true ↔ gD (rowE n f) t (i + 1) x := by
  intro x
  have hab : lb r x = true ↔ ∃ y, rowE n f x y = true ∧ lb w y = true := by
    rw [hr x, and_ne0]
    constructor
    · rintro ⟨h1, j, hj, h2, h3⟩
      exact ⟨j, by rw [rowE_in h1]; exact h2, h3⟩
    · rintro ⟨y, h1, h2⟩
      simp only [rowE, Bool.and_eq_true, decide_eq_true_eq] at h1
      have := hf x h1.1 y h1.2
      exact ⟨h1.1, y, by omega, h1.2, h2⟩
  have hgD : gD (rowE n f) t (i + 1) x ↔ (∃ y, rowE n f x y = true ∧ lb w y = true) ∧ ∀ j, j < i → ¬ gD (rowE n f) t (j + 1) x := by
    cases i with
    | zero =>
      rw [gD_first]
      constructor
      · intro h
        exact ⟨⟨t, h, (hw t).mpr (by simp)⟩, fun j hj => absurd hj (Nat.not_lt_zero _)⟩
      · rintro ⟨⟨y, h1, h2⟩, -⟩
        have e : y = t := by
          have := (hw y).mp h2
          simpa using this
        rw [e] at h1
        exact h1
    | succ i =>
      rw [gD_layer]
      constructor
      · rintro ⟨⟨y, h1, h2⟩, h3⟩
        exact ⟨⟨y, h1, (hw y).mpr (by simpa using h2)⟩, fun j hj => h3 j (by omega)⟩
      · rintro ⟨⟨y, h1, h2⟩, h3⟩
        exact ⟨⟨y, h1, by simpa using (hw y).mp h2⟩, fun j hj => h3 j (by omega)⟩
  rw [lb_and, Bool.and_eq_true, hab, hgD]
  constructor
  · rintro ⟨h1, h2⟩
    refine ⟨h1, fun j hj hd => ?_⟩
    rcases Nat.lt_or_ge x 64 with q | q
    · rw [lb_not _ q] at h2
      have := (hs x).mpr ⟨j, hj, hd⟩
      rw [this] at h2
      cases h2
    · rw [lb_big q] at h2
      cases h2
  · rintro ⟨h1, h2⟩
    refine ⟨h1, ?_⟩
    have hx : x < n := ((hr x).mp (hab.mpr h1)).1
    rw [lb_not _ (by omega)]
    cases hb : lb seen x with
    | false => rfl
    | true =>
      obtain ⟨j, hj, hd⟩ := (hs x).mp hb
      exact absurd hd (h2 j hj)
theorem lay_next {E : Nat → Nat → Bool} {t i : Nat} {w : Int64} (h : ∀ x, lb w x = true ↔ gD E t (i + 1) x) : lay E t (i + 1) w := by
  intro x
  rw [h x]
  simp
theorem seen_next {E : Nat → Nat → Bool} {t i : Nat} {w seen : Int64} (hs : seenL E t i seen) (h : ∀ x, lb w x = true ↔ gD E t (i + 1) x) : seenL E t (i + 1) (seen ||| w) := by
  intro x
  rw [lb_or, Bool.or_eq_true, hs x, h x]
  constructor
  · rintro (⟨j, h1, h2⟩ | h1)
    · exact ⟨j, by omega, h2⟩
    · exact ⟨i, by omega, h1⟩
  · rintro ⟨j, h1, h2⟩
    rcases Nat.lt_or_ge j i with q | q
    · exact Or.inl ⟨j, q, h2⟩
    · have e : j = i := by omega
      subst e
      exact Or.inr h2
theorem layY_next {E : Nat → Nat → Bool} {t i : Nat} {w : Int64} {Y : Nat → Int64} (hY : layY E t i Y) (h : ∀ x, lb w x = true ↔ gD E t (i + 1) x) : layY E t (i + 1) (vp_updL Y i w) := by
  intro j hj x
  rcases Nat.lt_or_ge j i with q | q
  · rw [pk_uLn (by omega)]
    exact hY j q x
  · have e : j = i := by omega
    subst e
    rw [pk_uLs]
    exact h x
theorem no_next {E : Nat → Nat → Bool} {t i : Nat} {w : Int64} (hno : ∀ j, j < i → ¬ gD E t (j + 1) t) (h : ∀ x, lb w x = true ↔ gD E t (i + 1) x) (hb : lb w t = false) : ∀ j, j < i + 1 → ¬ gD E t (j + 1) t := by
  intro j hj hd
  rcases Nat.lt_or_ge j i with q | q
  · exact hno j q hd
  · have e : j = i := by omega
    subst e
    rw [(h t).mpr hd] at hb
    cases hb
/-- the search goes on as long as there is a ring to find -/
theorem lay_ne {E : Nat → Nat → Bool} {t i d : Nat} {w : Int64} (hw : lay E t i w) (hd : gD E t d t) (hno : ∀ j, j < i → ¬ gD E t (j + 1) t) : ¬ w = 0 := by
  intro h0
  have hz : ∀ x, lb w x = false := lb_eq0 h0
  have hpos := hd.1
  have hid : i < d := by
    rcases Nat.lt_or_ge i d with q | q
    · exact q
    · exact absurd (by rw [Nat.sub_add_cancel hpos]; exact hd) (hno (d - 1) (by omega))
  cases i with
  | zero =>
    have := (hw t).mpr (by simp)
    rw [hz t] at this
    cases this
  | succ i =>
    obtain ⟨k, rfl⟩ : ∃ k, d = k + 1 := ⟨d - 1, by omega⟩
    obtain ⟨y, hy⟩ := gD_all k t hd i (by omega)
    have := (hw y).mpr (by simpa using hy)
    rw [hz y] at this
    cases this
theorem lay_lt {E : Nat → Nat → Bool} {t i d n : Nat} (hE : gin E n) (hd : gD E t d t) (hno : ∀ j, j < i → ¬ gD E t (j + 1) t) : i < n := by
  have h1 := gD_le hE hd
  have hpos := hd.1
  rcases Nat.lt_or_ge i d with q | q
  · omega
  · exact absurd (by rw [Nat.sub_add_cancel hpos]; exact hd) (hno (d - 1) (by omega))
theorem lay_hit {E : Nat → Nat → Bool} {t i d : Nat} {w : Int64} (hd : gD E t d t) (h : ∀ x, lb w x = true ↔ gD E t (i + 1) x) (hb : lb w t = true) : i + 1 = d := gD_uniq ((h t).mp hb) hd
theorem sub2_in {d k : Nat} (hd : d < 2 ^ 20) (h : k + 1 < d) : nI d - nI 2 - nI k = nI (d - 2 - k) := by
  rw [pk_sub (by omega), pk_sub (by omega)]
theorem sub2_out {d k : Nat} (hd : 0 < d) (h : k + 1 = d) : nI d - nI 2 - nI k = -1 := by
  subst h
  have e : nI (k + 1) = nI k + 1 := nI_succ k
  rw [e, show nI 2 = 1 + 1 from rfl]
  have : ∀ x : Int32, x + 1 - (1 + 1) - x = -1 := by
    intro x
    rw [← Int32.toBitVec_inj]
    simp only [Int32.toBitVec_sub, Int32.toBitVec_add]
    generalize x.toBitVec = y
    show y + 1#32 - (1#32 + 1#32) - y = (-1 : Int32).toBitVec
    rw [show (-1 : Int32).toBitVec = -1#32 from rfl]
    simp only [BitVec.sub_eq_add_neg]
    rw [show -(1#32 + 1#32) = -1#32 + -1#32 by decide]
    have e9 : y + 1#32 + (-1#32 + -1#32) + -y = (y + -y) + (1#32 + (-1#32 + -1#32)) := by ac_rfl
    rw [e9, ← BitVec.sub_eq_add_neg y y, BitVec.sub_self]
    decide
  exact this (nI k)

set_option maxHeartbeats 4000000 in
set_option maxRecDepth 100000 in
theorem k_RO_nthOf (set : Int64) (k : Nat) (hk : k < 2 ^ 20) (hx : ∃ x, x < 48 ∧ lb set x = true ∧ cnt (lb set) x = k) : CtI l y_RO_nthOf (Cond.code y_RO_nthOf c_RO_nthOf 5 (some .int) :: TB) ({ frames := 0, cells := 0, slots := 0, locals := 0 } : Room) D (tysv cI cJ cZ cQ) [.long set, .int (nI k)] [] 0 0 (fun (r : Int32) (x : Nat) => r = nI x ∧ x < 48 ∧ lb set x = true ∧ cnt (lb set) x = k) (fun (x : Nat) => []) := by
  refine CtI.of c_RO_nthOf 5 (some .int) (by decide) rfl (Nat.le_of_ble_eq_true rfl) ?_
  intro p e s m args below meth c A Q hA9 hQ9 X hr9 hlk9 hin9
  have L5 : ∀ (N5 : Nat) (lf : Nat) (i : Nat), (48 - i) < N5 → (i ≤ 48) → (lf + cnt (lb set) i = k) → G p l e ({ frames := 0, cells := 0, slots := 0, locals := 0 } : Room) s m args below meth c 5 D A s.heap Q 0 0 [] [(0, .long set), (2, .int (nI k)), (3, .int (nI lf)), (4, .int (nI i))] 5 [] := by
    intro N5
    induction N5 with
    | zero =>
      intro lf i hN
      exact absurd hN (Nat.not_lt_zero _)
    | succ N5 ih5 =>
      intro lf i hN5 hi h1
      refine g_iload X 4 d_RO_nthOf_5 rfl ?_
      refine g_bipush (v := nI 48) X d_RO_nthOf_7 rfl ?_
      refine n_icmp_ge X 39 d_RO_nthOf_9 (by decide) (by omega) (by omega) (fun h9 => absurd h9 (fun q => absurd (nth_end hx) (by have e : i = 48 := (by omega); subst e; omega))) (fun h9 => ?_)
      refine g_lload_n X 0 d_RO_nthOf_12 rfl rfl ?_
      refine g_iload X 4 d_RO_nthOf_13 rfl ?_
      refine g_lushr X (((set).toUInt64 >>> ((nI i).toInt64.toUInt64 &&& Int64.toUInt64 63)).toInt64) d_RO_nthOf_15 rfl ?_
      refine g_lconst (v := 1) X d_RO_nthOf_16 rfl ?_
      refine g_land X ((((set).toUInt64 >>> ((nI i).toInt64.toUInt64 &&& Int64.toUInt64 63)).toInt64) &&& 1) d_RO_nthOf_17 rfl ?_
      refine g_lconst (v := 0) X d_RO_nthOf_18 rfl ?_
      refine g_lcmp X d_RO_nthOf_19 ?_
      refine bit_if_eq X 33 d_RO_nthOf_20 (by decide) (by omega) (fun h20 => ?_) (fun h20 => ?_)
      · refine g_iinc X (nI (i + 1)) [(4, .int (nI (i + 1))), (0, .long set), (2, .int (nI k)), (3, .int (nI lf))] d_RO_nthOf_33 (k := 3) rfl (nI_1 i) (by decide) rfl ?_
        refine g_goto X 5 d_RO_nthOf_36 (by decide) ?_
        refine g_lv [1, 2, 3, 0] rfl ?_
        exact ih5 lf (i + 1) (by omega) (by omega) (by first | (rw [cnt_f h20]; exact h1) | (rw [cnt_t h20]; omega))
      · refine g_iload_n X 3 d_RO_nthOf_23 rfl rfl ?_
        refine n_if_ne X 30 d_RO_nthOf_24 (by decide) (by omega) (fun h24 => ?_) (fun h24 => ?_)
        · refine g_iinc X (nI (lf - 1)) [(3, .int (nI (lf - 1))), (0, .long set), (2, .int (nI k)), (4, .int (nI i))] d_RO_nthOf_30 (k := 2) rfl (nI_dec (by omega)) (by decide) rfl ?_
          refine g_iinc X (nI (i + 1)) [(4, .int (nI (i + 1))), (3, .int (nI (lf - 1))), (0, .long set), (2, .int (nI k))] d_RO_nthOf_33 (k := 3) rfl (nI_1 i) (by decide) rfl ?_
          refine g_goto X 5 d_RO_nthOf_36 (by decide) ?_
          refine g_lv [2, 3, 1, 0] rfl ?_
          exact ih5 (lf - 1) (i + 1) (by omega) (by omega) (by first | (rw [cnt_f h20]; exact h1) | (rw [cnt_t h20]; omega))
        · refine g_iload X 4 d_RO_nthOf_27 rfl ?_
          exact g_iret X hA9 hQ9 hr9 hlk9 i [] rfl rfl d_RO_nthOf_29 (⟨rfl, by omega, h20, by omega⟩)
  refine g_iload_n X 2 d_RO_nthOf_0 rfl rfl ?_
  refine g_istore_n X [(3, .int (nI k)), (0, .long set), (2, .int (nI k))] d_RO_nthOf_1 rfl (by decide) rfl ?_
  refine g_iconst (v := nI 0) X d_RO_nthOf_2 rfl ?_
  refine g_istore X [(4, .int (nI 0)), (3, .int (nI k)), (0, .long set), (2, .int (nI k))] d_RO_nthOf_3 (by decide) rfl ?_
  refine g_lv [2, 3, 1, 0] rfl ?_
  exact L5 ((48 - 0) + 1) k 0 (Nat.lt_succ_self _) (by omega) (by simp [cnt])

set_option maxHeartbeats 4000000 in
set_option maxRecDepth 100000 in
theorem k_RO_nthOfN (set : Int64) (k : Nat) (hk : k < 2 ^ 20) (hx : cnt (lb set) 48 ≤ k) : CtI l y_RO_nthOf (Cond.code y_RO_nthOf c_RO_nthOf 5 (some .int) :: TB) ({ frames := 0, cells := 0, slots := 0, locals := 0 } : Room) D (tysv cI cJ cZ cQ) [.long set, .int (nI k)] [] 0 0 (fun (r : Int32) (_ : Unit) => r = -1) (fun (_ : Unit) => []) := by
  refine CtI.of c_RO_nthOf 5 (some .int) (by decide) rfl (Nat.le_of_ble_eq_true rfl) ?_
  intro p e s m args below meth c A Q hA9 hQ9 X hr9 hlk9 hin9
  have L5 : ∀ (N5 : Nat) (lf : Nat) (i : Nat), (48 - i) < N5 → (i ≤ 48) → (lf + cnt (lb set) i = k) → G p l e ({ frames := 0, cells := 0, slots := 0, locals := 0 } : Room) s m args below meth c 5 D A s.heap Q 0 0 [] [(0, .long set), (2, .int (nI k)), (3, .int (nI lf)), (4, .int (nI i))] 5 [] := by
    intro N5
    induction N5 with
    | zero =>
      intro lf i hN
      exact absurd hN (Nat.not_lt_zero _)
    | succ N5 ih5 =>
      intro lf i hN5 hi h1
      refine g_iload X 4 d_RO_nthOf_5 rfl ?_
      refine g_bipush (v := nI 48) X d_RO_nthOf_7 rfl ?_
      refine n_icmp_ge X 39 d_RO_nthOf_9 (by decide) (by omega) (by omega) (fun h9 => ?_) (fun h9 => ?_)
      · refine g_iconst (v := -1) X d_RO_nthOf_39 rfl ?_
        exact g_iret X hA9 hQ9 hr9 hlk9 () [] rfl rfl d_RO_nthOf_40 (rfl)
      · refine g_lload_n X 0 d_RO_nthOf_12 rfl rfl ?_
        refine g_iload X 4 d_RO_nthOf_13 rfl ?_
        refine g_lushr X (((set).toUInt64 >>> ((nI i).toInt64.toUInt64 &&& Int64.toUInt64 63)).toInt64) d_RO_nthOf_15 rfl ?_
        refine g_lconst (v := 1) X d_RO_nthOf_16 rfl ?_
        refine g_land X ((((set).toUInt64 >>> ((nI i).toInt64.toUInt64 &&& Int64.toUInt64 63)).toInt64) &&& 1) d_RO_nthOf_17 rfl ?_
        refine g_lconst (v := 0) X d_RO_nthOf_18 rfl ?_
        refine g_lcmp X d_RO_nthOf_19 ?_
        refine bit_if_eq X 33 d_RO_nthOf_20 (by decide) (by omega) (fun h20 => ?_) (fun h20 => ?_)
        · refine g_iinc X (nI (i + 1)) [(4, .int (nI (i + 1))), (0, .long set), (2, .int (nI k)), (3, .int (nI lf))] d_RO_nthOf_33 (k := 3) rfl (nI_1 i) (by decide) rfl ?_
          refine g_goto X 5 d_RO_nthOf_36 (by decide) ?_
          refine g_lv [1, 2, 3, 0] rfl ?_
          exact ih5 lf (i + 1) (by omega) (by omega) (by first | (rw [cnt_f h20]; exact h1) | (rw [cnt_t h20]; omega))
        · refine g_iload_n X 3 d_RO_nthOf_23 rfl rfl ?_
          refine n_if_ne X 30 d_RO_nthOf_24 (by decide) (by omega) (fun h24 => ?_) (fun h24 => absurd h24 (by have := cnt_mono (lb set) (show i + 1 ≤ 48 by omega); rw [cnt_t h20] at this; omega))
          refine g_iinc X (nI (lf - 1)) [(3, .int (nI (lf - 1))), (0, .long set), (2, .int (nI k)), (4, .int (nI i))] d_RO_nthOf_30 (k := 2) rfl (nI_dec (by omega)) (by decide) rfl ?_
          refine g_iinc X (nI (i + 1)) [(4, .int (nI (i + 1))), (3, .int (nI (lf - 1))), (0, .long set), (2, .int (nI k))] d_RO_nthOf_33 (k := 3) rfl (nI_1 i) (by decide) rfl ?_
          refine g_goto X 5 d_RO_nthOf_36 (by decide) ?_
          refine g_lv [2, 3, 1, 0] rfl ?_
          exact ih5 (lf - 1) (i + 1) (by omega) (by omega) (by first | (rw [cnt_f h20]; exact h1) | (rw [cnt_t h20]; omega))
  refine g_iload_n X 2 d_RO_nthOf_0 rfl rfl ?_
  refine g_istore_n X [(3, .int (nI k)), (0, .long set), (2, .int (nI k))] d_RO_nthOf_1 rfl (by decide) rfl ?_
  refine g_iconst (v := nI 0) X d_RO_nthOf_2 rfl ?_
  refine g_istore X [(4, .int (nI 0)), (3, .int (nI k)), (0, .long set), (2, .int (nI k))] d_RO_nthOf_3 (by decide) rfl ?_
  refine g_lv [2, 3, 1, 0] rfl ?_
  exact L5 ((48 - 0) + 1) k 0 (Nat.lt_succ_self _) (by omega) (by simp [cnt])
end
section
variable {l : Launch} {D : va_G} {cI cJ cZ cQ : ClassId}
section GT
variable {p : Program} {e : Env} {R : Room} {s : State} {m : MethodId} {args : Array Value} {below : List Frame} {meth : Method} {c : Code} {cells slots nL : Nat} {Q : State → Prop} {A : Nat → Prop} {H0 : Heap} {ws : va_W} {lv : List (Nat × Value)} {pc : Nat} {rest : List Value}
theorem g_topl {x : Int64} (kk : ∀ y : Int64, y = x → G p l e R s m args below meth c nL D A H0 Q cells slots ws lv pc (.long y :: rest)) : G p l e R s m args below meth c nL D A H0 Q cells slots ws lv pc (.long x :: rest) := kk x rfl
theorem g_topi {x : Int32} (kk : ∀ y : Int32, y = x → G p l e R s m args below meth c nL D A H0 Q cells slots ws lv pc (.int y :: rest)) : G p l e R s m args below meth c nL D A H0 Q cells slots ws lv pc (.int x :: rest) := kk x rfl
end GT
def un (w : Int64) : Nat := w.toBitVec.toNat
theorem un_lt (w : Int64) : un w < 2 ^ 64 := w.toBitVec.isLt
theorem un_lb (w : Int64) (j : Nat) : lb w j = (un w).testBit j := rfl
theorem un_shr {k : Nat} (hk : k < 64) (w : Int64) : un ((w.toUInt64 >>> ((nI k).toInt64.toUInt64 &&& Int64.toUInt64 63)).toInt64) = un w / 2 ^ k := by
  generalize hs : ((nI k).toInt64.toUInt64 &&& Int64.toUInt64 63) = s
  have hs2 : s.toNat = k := by rw [← hs]; exact lb_cnt k hk
  show (w.toUInt64 >>> s).toNat = _
  rw [UInt64.toNat_shiftRight, hs2, Nat.mod_eq_of_lt hk, Nat.shiftRight_eq_div_pow]
  rfl
theorem un_and (x y : Int64) : un (x &&& y) = un x &&& un y := by
  simp only [un, Int64.toBitVec_and, BitVec.toNat_and]
theorem un_add (x y : Int64) (h : un x + un y < 2 ^ 64) : un (x + y) = un x + un y := by
  simp only [un, Int64.toBitVec_add, BitVec.toNat_add]
  exact Nat.mod_eq_of_lt h
theorem un_sub (x y : Int64) (h : un y ≤ un x) : un (x - y) = un x - un y := by
  have h1 := un_lt x
  have h2 := un_lt y
  simp only [un, Int64.toBitVec_sub, BitVec.toNat_sub] at *
  omega
theorem un_low (x : Int64) : x.toInt32 &&& nI 127 = nI (un x % 128) := by
  rw [pk_and x.toInt32 7 (by decide)]
  have e : x.toInt32.toBitVec.toNat = un x % 2 ^ 32 := by
    show (x.toBitVec.signExtend 32).toNat = _
    rw [BitVec.signExtend_eq_setWidth_of_le _ (by decide), BitVec.toNat_setWidth]
    rfl
  rw [e]
  congr 1
  omega
theorem and_le {a b : Nat} : a &&& b ≤ b := Nat.and_le_right
theorem pop_end {w i1 i2 i3 i4 i5 i6 : Int64} (e1 : i1 = w - (((w).toUInt64 >>> ((nI 1).toInt64.toUInt64 &&& Int64.toUInt64 63)).toInt64 &&& 6148914691236517205))
    (e2 : i2 = (i1 &&& 3689348814741910323) + (((i1).toUInt64 >>> ((nI 2).toInt64.toUInt64 &&& Int64.toUInt64 63)).toInt64 &&& 3689348814741910323))
    (e3 : i3 = (i2 + ((i2).toUInt64 >>> ((nI 4).toInt64.toUInt64 &&& Int64.toUInt64 63)).toInt64) &&& 1085102592571150095)
    (e4 : i4 = i3 + ((i3).toUInt64 >>> ((nI 8).toInt64.toUInt64 &&& Int64.toUInt64 63)).toInt64)
    (e5 : i5 = i4 + ((i4).toUInt64 >>> ((nI 16).toInt64.toUInt64 &&& Int64.toUInt64 63)).toInt64)
    (e6 : i6 = i5 + ((i5).toUInt64 >>> ((nI 32).toInt64.toUInt64 &&& Int64.toUInt64 63)).toInt64) : (i6).toInt32 &&& nI 127 = nI (cnt (lb w) 64) := by
  have k1 : un (6148914691236517205 : Int64) = 6148914691236517205 := by decide +kernel
  have k2 : un (3689348814741910323 : Int64) = 3689348814741910323 := by decide +kernel
  have k3 : un (1085102592571150095 : Int64) = 1085102592571150095 := by decide +kernel
  have hw := un_lt w
  have g1 : un i1 = popA (un w) := by
    have hh : un ((((w).toUInt64 >>> ((nI 1).toInt64.toUInt64 &&& Int64.toUInt64 63)).toInt64 &&& 6148914691236517205)) = un w / 2 ^ 1 &&& 6148914691236517205 := by rw [un_and, un_shr (by decide), k1]
    have hle : (un w / 2 ^ 1 &&& 6148914691236517205) ≤ un w / 2 ^ 1 := Nat.and_le_left
    rw [e1, un_sub _ _ (by rw [hh]; omega), hh]
    rfl
  have g2 : un i2 = popB (un i1) ∧ un i2 ≤ 7378697629483820646 := by
    have hh : un ((((i1).toUInt64 >>> ((nI 2).toInt64.toUInt64 &&& Int64.toUInt64 63)).toInt64 &&& 3689348814741910323)) = un i1 / 2 ^ 2 &&& 3689348814741910323 := by rw [un_and, un_shr (by decide), k2]
    have h2 : un (i1 &&& 3689348814741910323) = un i1 &&& 3689348814741910323 := by rw [un_and, k2]
    have l1 : (un i1 / 2 ^ 2 &&& 3689348814741910323) ≤ 3689348814741910323 := and_le
    have l2 : (un i1 &&& 3689348814741910323) ≤ 3689348814741910323 := and_le
    rw [e2, un_add _ _ (by rw [hh, h2]; omega), hh, h2]
    exact ⟨rfl, by omega⟩
  have g3 : un i3 = popC (un i2) ∧ un i3 ≤ 1085102592571150095 := by
    have h2 := g2.2
    have hh : un (((i2).toUInt64 >>> ((nI 4).toInt64.toUInt64 &&& Int64.toUInt64 63)).toInt64) = un i2 / 2 ^ 4 := un_shr (by decide) _
    rw [e3, un_and, un_add _ _ (by rw [hh]; omega), hh, k3]
    exact ⟨rfl, and_le⟩
  have g4 : un i4 = popD (un i3) ∧ un i4 ≤ 1100000000000000000 := by
    have h2 := g3.2
    have hh : un (((i3).toUInt64 >>> ((nI 8).toInt64.toUInt64 &&& Int64.toUInt64 63)).toInt64) = un i3 / 2 ^ 8 := un_shr (by decide) _
    rw [e4, un_add _ _ (by rw [hh]; omega), hh]
    exact ⟨rfl, by omega⟩
  have g5 : un i5 = popE (un i4) ∧ un i5 ≤ 1200000000000000000 := by
    have h2 := g4.2
    have hh : un (((i4).toUInt64 >>> ((nI 16).toInt64.toUInt64 &&& Int64.toUInt64 63)).toInt64) = un i4 / 2 ^ 16 := un_shr (by decide) _
    rw [e5, un_add _ _ (by rw [hh]; omega), hh]
    exact ⟨rfl, by omega⟩
  have g6 : un i6 % 128 = popF (un i5) := by
    have h2 := g5.2
    have hh : un (((i5).toUInt64 >>> ((nI 32).toInt64.toUInt64 &&& Int64.toUInt64 63)).toInt64) = un i5 / 2 ^ 32 := un_shr (by decide) _
    rw [e6, un_add _ _ (by rw [hh]; omega), hh]
    rfl
  rw [un_low, g6, g5.1, g4.1, g3.1, g2.1, g1]
  have := popN_ok hw
  unfold popN at this
  rw [this]
  rfl

set_option maxHeartbeats 4000000 in
set_option maxRecDepth 100000 in
theorem k_Long_bitCount (w : Int64)  : CtI l y_Long_bitCount (Cond.code y_Long_bitCount c_Long_bitCount 2 (some .int) :: TB) ({ frames := 0, cells := 0, slots := 0, locals := 0 } : Room) D (tysv cI cJ cZ cQ) [.long w] [] 0 0 (fun (r : Int32) (_ : Unit) => r = nI (cnt (lb w) 64)) (fun (_ : Unit) => []) := by
  refine CtI.of c_Long_bitCount 2 (some .int) (by decide) rfl (Nat.le_of_ble_eq_true rfl) ?_
  intro p e s m args below meth c A Q hA9 hQ9 X hr9 hlk9 hin9
  refine g_lload_n X 0 d_Long_bitCount_0 rfl rfl ?_
  refine g_lload_n X 0 d_Long_bitCount_1 rfl rfl ?_
  refine g_iconst (v := nI 1) X d_Long_bitCount_2 rfl ?_
  refine g_lushr X (((w).toUInt64 >>> ((nI 1).toInt64.toUInt64 &&& Int64.toUInt64 63)).toInt64) d_Long_bitCount_3 rfl ?_
  refine g_ldc2 (v := 6148914691236517205) X t1_189 d_Long_bitCount_4 ?_
  refine g_land X ((((w).toUInt64 >>> ((nI 1).toInt64.toUInt64 &&& Int64.toUInt64 63)).toInt64) &&& 6148914691236517205) d_Long_bitCount_7 rfl ?_
  refine g_lsub X (w - ((((w).toUInt64 >>> ((nI 1).toInt64.toUInt64 &&& Int64.toUInt64 63)).toInt64) &&& 6148914691236517205)) d_Long_bitCount_8 rfl ?_
  refine g_topl (fun i1 e1 => ?_)
  refine g_lstore_n X [(0, .long i1)] d_Long_bitCount_9 rfl (by decide) rfl ?_
  refine g_lload_n X 0 d_Long_bitCount_10 rfl rfl ?_
  refine g_ldc2 (v := 3689348814741910323) X t1_190 d_Long_bitCount_11 ?_
  refine g_land X (i1 &&& 3689348814741910323) d_Long_bitCount_14 rfl ?_
  refine g_lload_n X 0 d_Long_bitCount_15 rfl rfl ?_
  refine g_iconst (v := nI 2) X d_Long_bitCount_16 rfl ?_
  refine g_lushr X (((i1).toUInt64 >>> ((nI 2).toInt64.toUInt64 &&& Int64.toUInt64 63)).toInt64) d_Long_bitCount_17 rfl ?_
  refine g_ldc2 (v := 3689348814741910323) X t1_190 d_Long_bitCount_18 ?_
  refine g_land X ((((i1).toUInt64 >>> ((nI 2).toInt64.toUInt64 &&& Int64.toUInt64 63)).toInt64) &&& 3689348814741910323) d_Long_bitCount_21 rfl ?_
  refine g_ladd X ((i1 &&& 3689348814741910323) + ((((i1).toUInt64 >>> ((nI 2).toInt64.toUInt64 &&& Int64.toUInt64 63)).toInt64) &&& 3689348814741910323)) d_Long_bitCount_22 rfl ?_
  refine g_topl (fun i2 e2 => ?_)
  refine g_lstore_n X [(0, .long i2)] d_Long_bitCount_23 rfl (by decide) rfl ?_
  refine g_lload_n X 0 d_Long_bitCount_24 rfl rfl ?_
  refine g_lload_n X 0 d_Long_bitCount_25 rfl rfl ?_
  refine g_iconst (v := nI 4) X d_Long_bitCount_26 rfl ?_
  refine g_lushr X (((i2).toUInt64 >>> ((nI 4).toInt64.toUInt64 &&& Int64.toUInt64 63)).toInt64) d_Long_bitCount_27 rfl ?_
  refine g_ladd X (i2 + (((i2).toUInt64 >>> ((nI 4).toInt64.toUInt64 &&& Int64.toUInt64 63)).toInt64)) d_Long_bitCount_28 rfl ?_
  refine g_ldc2 (v := 1085102592571150095) X t1_191 d_Long_bitCount_29 ?_
  refine g_land X ((i2 + (((i2).toUInt64 >>> ((nI 4).toInt64.toUInt64 &&& Int64.toUInt64 63)).toInt64)) &&& 1085102592571150095) d_Long_bitCount_32 rfl ?_
  refine g_topl (fun i3 e3 => ?_)
  refine g_lstore_n X [(0, .long i3)] d_Long_bitCount_33 rfl (by decide) rfl ?_
  refine g_lload_n X 0 d_Long_bitCount_34 rfl rfl ?_
  refine g_lload_n X 0 d_Long_bitCount_35 rfl rfl ?_
  refine g_bipush (v := nI 8) X d_Long_bitCount_36 rfl ?_
  refine g_lushr X (((i3).toUInt64 >>> ((nI 8).toInt64.toUInt64 &&& Int64.toUInt64 63)).toInt64) d_Long_bitCount_38 rfl ?_
  refine g_ladd X (i3 + (((i3).toUInt64 >>> ((nI 8).toInt64.toUInt64 &&& Int64.toUInt64 63)).toInt64)) d_Long_bitCount_39 rfl ?_
  refine g_topl (fun i4 e4 => ?_)
  refine g_lstore_n X [(0, .long i4)] d_Long_bitCount_40 rfl (by decide) rfl ?_
  refine g_lload_n X 0 d_Long_bitCount_41 rfl rfl ?_
  refine g_lload_n X 0 d_Long_bitCount_42 rfl rfl ?_
  refine g_bipush (v := nI 16) X d_Long_bitCount_43 rfl ?_
  refine g_lushr X (((i4).toUInt64 >>> ((nI 16).toInt64.toUInt64 &&& Int64.toUInt64 63)).toInt64) d_Long_bitCount_45 rfl ?_
  refine g_ladd X (i4 + (((i4).toUInt64 >>> ((nI 16).toInt64.toUInt64 &&& Int64.toUInt64 63)).toInt64)) d_Long_bitCount_46 rfl ?_
  refine g_topl (fun i5 e5 => ?_)
  refine g_lstore_n X [(0, .long i5)] d_Long_bitCount_47 rfl (by decide) rfl ?_
  refine g_lload_n X 0 d_Long_bitCount_48 rfl rfl ?_
  refine g_lload_n X 0 d_Long_bitCount_49 rfl rfl ?_
  refine g_bipush (v := nI 32) X d_Long_bitCount_50 rfl ?_
  refine g_lushr X (((i5).toUInt64 >>> ((nI 32).toInt64.toUInt64 &&& Int64.toUInt64 63)).toInt64) d_Long_bitCount_52 rfl ?_
  refine g_ladd X (i5 + (((i5).toUInt64 >>> ((nI 32).toInt64.toUInt64 &&& Int64.toUInt64 63)).toInt64)) d_Long_bitCount_53 rfl ?_
  refine g_topl (fun i6 e6 => ?_)
  refine g_lstore_n X [(0, .long i6)] d_Long_bitCount_54 rfl (by decide) rfl ?_
  refine g_lload_n X 0 d_Long_bitCount_55 rfl rfl ?_
  refine g_l2i X ((i6).toInt32) d_Long_bitCount_56 rfl ?_
  refine g_bipush (v := nI 127) X d_Long_bitCount_57 rfl ?_
  refine g_iand X (((i6).toInt32) &&& (nI 127)) d_Long_bitCount_59 rfl ?_
  exact g_iret X hA9 hQ9 hr9 hlk9 () [] rfl rfl d_Long_bitCount_60 (pop_end e1 e2 e3 e4 e5 e6)
end
section
variable {l : Launch} {D : va_G} {cI cJ cZ cQ : ClassId}
theorem gring_lt {E : Nat → Nat → Bool} {n t d : Nat} {pp : Nat → Nat} (hE : gin E n) (ht : t < n) (h : gring E t d pp) {k : Nat} (hk : k < d) : pp k < n := by
  cases k with
  | zero => rw [h.2.1]; exact ht
  | succ k => exact gD_lt hE (h.2.2 k hk).2.1
theorem ring_nth {n t d k v : Nat} {f Y : Nat → Int64} {pp : Nat → Nat} (hn : n ≤ 48) (hf : ∀ x, x < n → ∀ j, lb (f x) j = true → j < n) (h : gring (rowE n f) t d pp) (hY : layY (rowE n f) t d Y) (hk : k + 1 < d) (ea : v = pp k) (hat : v < n) : ∃ x, x < 48 ∧ lb (f v &&& Y (d - 2 - k)) x = true ∧ cnt (lb (f v &&& Y (d - 2 - k))) x = 0 := by
  obtain ⟨h1, h2, -⟩ := h.2.2 k hk
  rw [← ea, rowE_in hat] at h1
  refine cnt_least ⟨pp (k + 1), ?_, ?_⟩
  · have := hf v hat _ h1
    omega
  · rw [lb_and, h1, Bool.true_and]
    refine (hY (d - 2 - k) (by omega) _).mpr ?_
    rw [show d - 2 - k + 1 = d - 1 - k by omega]
    exact h2
theorem ring_nth_eq {n t d k v x : Nat} {f Y : Nat → Int64} {pp : Nat → Nat} (hn : n ≤ 48) (hf : ∀ x, x < n → ∀ j, lb (f x) j = true → j < n) (h : gring (rowE n f) t d pp) (hY : layY (rowE n f) t d Y) (hk : k + 1 < d) (ea : v = pp k) (hat : v < n) (hb : lb (f v &&& Y (d - 2 - k)) x = true) (hc : cnt (lb (f v &&& Y (d - 2 - k))) x = 0) : x = pp (k + 1) := by
  obtain ⟨h1, h2, h3⟩ := h.2.2 k hk
  have hl := hY (d - 2 - k) (by omega)
  rw [show d - 2 - k + 1 = d - 1 - k by omega] at hl
  rw [← ea] at h1 h3
  have g1 := h1
  rw [rowE_in hat] at h1
  rw [lb_and, Bool.and_eq_true] at hb
  rcases Nat.lt_trichotomy x (pp (k + 1)) with q | q | q
  · exact absurd ((hl x).mp hb.2) (h3 x q (by rw [rowE_in hat]; exact hb.1))
  · exact q
  · have := cnt_none hc _ q
    rw [lb_and, h1, Bool.true_and] at this
    rw [(hl _).mpr h2] at this
    cases this
theorem places_step {P : Nat → Int32} {pp : Nat → Nat} {k v : Nat} (h : ∀ j, j < k → P j = nI (pp j)) (e : v = pp k) : ∀ j, j < k + 1 → upd P k (nI v) j = nI (pp j) := by
  intro j hj
  rcases Nat.lt_or_ge j k with q | q
  · rw [pk_un (by omega)]
    exact h j q
  · have e2 : j = k := by omega
    subst e2
    rw [pk_us, e]

set_option maxHeartbeats 4000000 in
set_option maxRecDepth 100000 in
theorem k_Relations_made (hr : Nat) (ru : Nat) (rw : Nat) (rk : Nat) (R : Nat) (sd : Nat)  : CtI l y_Relations_made (Cond.code y_Relations_made c_Relations_made 1 (some .int) :: TB) ({ frames := 0, cells := 0, slots := 0, locals := 0 } : Room) D (tysv cI cJ cZ cQ) [.ref hr] [(hr, .inr (2, [.ref ru, .ref rw, .ref rk, .int (nI R), .int (nI sd)]))] 0 0 (fun (r : Int32) (_ : Unit) => r = nI R) (fun (_ : Unit) => [(hr, .inr (2, [.ref ru, .ref rw, .ref rk, .int (nI R), .int (nI sd)]))]) := by
  refine CtI.of c_Relations_made 1 (some .int) (by decide) rfl (Nat.le_of_ble_eq_true rfl) ?_
  intro p e s m args below meth c A Q hA9 hQ9 X hr9 hlk9 hin9
  refine g_aload_n X 0 d_Relations_made_0 rfl rfl ?_
  refine g_get (C := R_Relations) (T := T_Relations) (N := 5) X 0 3 in_Relations rfl rfl (by decide) t1_48 rfl rfl d_Relations_made_1 ?_
  exact g_iret X hA9 hQ9 hr9 hlk9 () [0] rfl rfl d_Relations_made_4 (rfl)

set_option maxHeartbeats 4000000 in
set_option maxRecDepth 100000 in
theorem k_Relations_standing (hr : Nat) (ru : Nat) (rw : Nat) (rk : Nat) (R : Nat) (sd : Nat)  : CtI l y_Relations_standing (Cond.code y_Relations_standing c_Relations_standing 1 (some .int) :: TB) ({ frames := 0, cells := 0, slots := 0, locals := 0 } : Room) D (tysv cI cJ cZ cQ) [.ref hr] [(hr, .inr (2, [.ref ru, .ref rw, .ref rk, .int (nI R), .int (nI sd)]))] 0 0 (fun (r : Int32) (_ : Unit) => r = nI sd) (fun (_ : Unit) => [(hr, .inr (2, [.ref ru, .ref rw, .ref rk, .int (nI R), .int (nI sd)]))]) := by
  refine CtI.of c_Relations_standing 1 (some .int) (by decide) rfl (Nat.le_of_ble_eq_true rfl) ?_
  intro p e s m args below meth c A Q hA9 hQ9 X hr9 hlk9 hin9
  refine g_aload_n X 0 d_Relations_standing_0 rfl rfl ?_
  refine g_get (C := R_Relations) (T := T_Relations) (N := 5) X 0 4 in_Relations rfl rfl (by decide) t1_49 rfl rfl d_Relations_standing_1 ?_
  exact g_iret X hA9 hQ9 hr9 hlk9 () [0] rfl rfl d_Relations_standing_4 (rfl)

set_option maxHeartbeats 4000000 in
set_option maxRecDepth 100000 in
theorem k_Relations_upperOf (hr : Nat) (ru : Nat) (rw : Nat) (rk : Nat) (R : Nat) (sd : Nat) (au : Nat) (fA : Nat → Int32) (j : Nat) (hj : j < 200) : CtI l y_Relations_upperOf (Cond.code y_Relations_upperOf c_Relations_upperOf 2 (some .int) :: TB) ({ frames := 1, cells := 0, slots := 0, locals := 21 } : Room) D (tysv cI cJ cZ cQ) [.ref hr, .int (nI j)] [(hr, .inr (2, [.ref ru, .ref rw, .ref rk, .int (nI R), .int (nI sd)])), (ru, .inr (0, [.ref au])), (au, .inl (cI, 200, .inl fA))] 0 0 (fun (r : Int32) (_ : Unit) => r = fA j) (fun (_ : Unit) => [(hr, .inr (2, [.ref ru, .ref rw, .ref rk, .int (nI R), .int (nI sd)])), (ru, .inr (0, [.ref au])), (au, .inl (cI, 200, .inl fA))]) := by
  refine CtI.of c_Relations_upperOf 2 (some .int) (by decide) rfl (Nat.le_of_ble_eq_true rfl) ?_
  intro p e s m args below meth c A Q hA9 hQ9 X hr9 hlk9 hin9
  refine g_aload_n X 0 d_Relations_upperOf_0 rfl rfl ?_
  refine g_get (C := R_Relations) (T := T_Relations) (N := 5) X 0 0 in_Relations rfl rfl (by decide) t1_45 rfl rfl d_Relations_upperOf_1 ?_
  refine g_iload_n X 1 d_Relations_upperOf_4 rfl rfl ?_
  refine g_calliV (n := 1) X [.int (nI j)] (k_Cells_at ru au 200 fA j (by omega) (by omega)) t2_137 t2_78 t2_79 t1_3 t2_80 rfl rfl (by decide +kernel) ⟨by decide, by decide⟩ [1, 2] [0] [(hr, .inr (2, [.ref ru, .ref rw, .ref rk, .int (nI R), .int (nI sd)]))] rfl rfl rfl rfl (by decide) 0 rfl rfl rfl rfl (Nat.le_of_ble_eq_true rfl) d_Relations_upperOf_5 ⟨by decide, by decide⟩ (fun r1 w9u1 hw1 => ?_)
  subst hw1
  exact g_iret X hA9 hQ9 hr9 hlk9 () [0, 1, 2] rfl rfl d_Relations_upperOf_8 (rfl)

set_option maxHeartbeats 4000000 in
set_option maxRecDepth 100000 in
theorem k_Relations_lowerOf (hr : Nat) (ru : Nat) (rw : Nat) (rk : Nat) (R : Nat) (sd : Nat) (aw : Nat) (fB : Nat → Int32) (j : Nat) (hj : j < 200) : CtI l y_Relations_lowerOf (Cond.code y_Relations_lowerOf c_Relations_lowerOf 2 (some .int) :: TB) ({ frames := 1, cells := 0, slots := 0, locals := 21 } : Room) D (tysv cI cJ cZ cQ) [.ref hr, .int (nI j)] [(hr, .inr (2, [.ref ru, .ref rw, .ref rk, .int (nI R), .int (nI sd)])), (rw, .inr (0, [.ref aw])), (aw, .inl (cI, 200, .inl fB))] 0 0 (fun (r : Int32) (_ : Unit) => r = fB j) (fun (_ : Unit) => [(hr, .inr (2, [.ref ru, .ref rw, .ref rk, .int (nI R), .int (nI sd)])), (rw, .inr (0, [.ref aw])), (aw, .inl (cI, 200, .inl fB))]) := by
  refine CtI.of c_Relations_lowerOf 2 (some .int) (by decide) rfl (Nat.le_of_ble_eq_true rfl) ?_
  intro p e s m args below meth c A Q hA9 hQ9 X hr9 hlk9 hin9
  refine g_aload_n X 0 d_Relations_lowerOf_0 rfl rfl ?_
  refine g_get (C := R_Relations) (T := T_Relations) (N := 5) X 0 1 in_Relations rfl rfl (by decide) t1_46 rfl rfl d_Relations_lowerOf_1 ?_
  refine g_iload_n X 1 d_Relations_lowerOf_4 rfl rfl ?_
  refine g_calliV (n := 1) X [.int (nI j)] (k_Cells_at rw aw 200 fB j (by omega) (by omega)) t2_137 t2_78 t2_79 t1_3 t2_80 rfl rfl (by decide +kernel) ⟨by decide, by decide⟩ [1, 2] [0] [(hr, .inr (2, [.ref ru, .ref rw, .ref rk, .int (nI R), .int (nI sd)]))] rfl rfl rfl rfl (by decide) 0 rfl rfl rfl rfl (Nat.le_of_ble_eq_true rfl) d_Relations_lowerOf_5 ⟨by decide, by decide⟩ (fun r1 w9u1 hw1 => ?_)
  subst hw1
  exact g_iret X hA9 hQ9 hr9 hlk9 () [0, 1, 2] rfl rfl d_Relations_lowerOf_8 (rfl)

set_option maxHeartbeats 4000000 in
set_option maxRecDepth 100000 in
theorem k_Relations_kindOf (hr : Nat) (ru : Nat) (rw : Nat) (rk : Nat) (R : Nat) (sd : Nat) (ak : Nat) (fK : Nat → Int32) (j : Nat) (hj : j < 200) : CtI l y_Relations_kindOf (Cond.code y_Relations_kindOf c_Relations_kindOf 2 (some .int) :: TB) ({ frames := 1, cells := 0, slots := 0, locals := 21 } : Room) D (tysv cI cJ cZ cQ) [.ref hr, .int (nI j)] [(hr, .inr (2, [.ref ru, .ref rw, .ref rk, .int (nI R), .int (nI sd)])), (rk, .inr (0, [.ref ak])), (ak, .inl (cI, 200, .inl fK))] 0 0 (fun (r : Int32) (_ : Unit) => r = fK j) (fun (_ : Unit) => [(hr, .inr (2, [.ref ru, .ref rw, .ref rk, .int (nI R), .int (nI sd)])), (rk, .inr (0, [.ref ak])), (ak, .inl (cI, 200, .inl fK))]) := by
  refine CtI.of c_Relations_kindOf 2 (some .int) (by decide) rfl (Nat.le_of_ble_eq_true rfl) ?_
  intro p e s m args below meth c A Q hA9 hQ9 X hr9 hlk9 hin9
  refine g_aload_n X 0 d_Relations_kindOf_0 rfl rfl ?_
  refine g_get (C := R_Relations) (T := T_Relations) (N := 5) X 0 2 in_Relations rfl rfl (by decide) t1_47 rfl rfl d_Relations_kindOf_1 ?_
  refine g_iload_n X 1 d_Relations_kindOf_4 rfl rfl ?_
  refine g_calliV (n := 1) X [.int (nI j)] (k_Cells_at rk ak 200 fK j (by omega) (by omega)) t2_137 t2_78 t2_79 t1_3 t2_80 rfl rfl (by decide +kernel) ⟨by decide, by decide⟩ [1, 2] [0] [(hr, .inr (2, [.ref ru, .ref rw, .ref rk, .int (nI R), .int (nI sd)]))] rfl rfl rfl rfl (by decide) 0 rfl rfl rfl rfl (Nat.le_of_ble_eq_true rfl) d_Relations_kindOf_5 ⟨by decide, by decide⟩ (fun r1 w9u1 hw1 => ?_)
  subst hw1
  exact g_iret X hA9 hQ9 hr9 hlk9 () [0, 1, 2] rfl rfl d_Relations_kindOf_8 (rfl)

set_option maxHeartbeats 4000000 in
set_option maxRecDepth 100000 in
theorem k_Relations_add (hr : Nat) (ru : Nat) (rw : Nat) (rk : Nat) (R : Nat) (sd : Nat) (au : Nat) (aw : Nat) (ak : Nat) (fA : Nat → Int32) (fB : Nat → Int32) (fK : Nat → Int32) (x : Int32) (y : Int32) (z : Int32) (hR : R < 200) (hs : sd ≤ 200) : CtI l y_Relations_add (Cond.code y_Relations_add c_Relations_add 4 (some .int) :: TB) ({ frames := 1, cells := 0, slots := 0, locals := 22 } : Room) D (tysv cI cJ cZ cQ) [.ref hr, .int x, .int y, .int z] [(hr, .inr (2, [.ref ru, .ref rw, .ref rk, .int (nI R), .int (nI sd)])), (ru, .inr (0, [.ref au])), (au, .inl (cI, 200, .inl fA)), (rw, .inr (0, [.ref aw])), (aw, .inl (cI, 200, .inl fB)), (rk, .inr (0, [.ref ak])), (ak, .inl (cI, 200, .inl fK))] 0 0 (fun (r : Int32) (_ : Unit) => r = nI R) (fun (_ : Unit) => [(hr, .inr (2, [.ref ru, .ref rw, .ref rk, .int (nI (R + 1)), .int (nI (sd + 1))])), (ru, .inr (0, [.ref au])), (au, .inl (cI, 200, .inl (upd fA R x))), (rw, .inr (0, [.ref aw])), (aw, .inl (cI, 200, .inl (upd fB R y))), (rk, .inr (0, [.ref ak])), (ak, .inl (cI, 200, .inl (upd fK R z)))]) := by
  refine CtI.of c_Relations_add 4 (some .int) (by decide) rfl (Nat.le_of_ble_eq_true rfl) ?_
  intro p e s m args below meth c A Q hA9 hQ9 X hr9 hlk9 hin9
  refine g_aload_n X 0 d_Relations_add_0 rfl rfl ?_
  refine g_get (C := R_Relations) (T := T_Relations) (N := 5) X 0 0 in_Relations rfl rfl (by decide) t1_45 rfl rfl d_Relations_add_1 ?_
  refine g_aload_n X 0 d_Relations_add_4 rfl rfl ?_
  refine g_get (C := R_Relations) (T := T_Relations) (N := 5) X 0 3 in_Relations rfl rfl (by decide) t1_48 rfl rfl d_Relations_add_5 ?_
  refine g_iload_n X 1 d_Relations_add_8 rfl rfl ?_
  refine g_callvV (n := 2) X [.int (nI R), .int x] (k_Cells_put ru au 200 fA R x (by omega) (by omega)) t2_123 t2_36 t2_37 t1_3 t2_38 rfl rfl (by decide +kernel) ⟨by decide, by decide⟩ [1, 2] [0, 3, 4, 5, 6] [(hr, .inr (2, [.ref ru, .ref rw, .ref rk, .int (nI R), .int (nI sd)])), (rw, .inr (0, [.ref aw])), (aw, .inl (cI, 200, .inl fB)), (rk, .inr (0, [.ref ak])), (ak, .inl (cI, 200, .inl fK))] rfl rfl rfl rfl (by decide) 0 rfl rfl rfl rfl (Nat.le_of_ble_eq_true rfl) d_Relations_add_9 ⟨by decide, by decide⟩ (fun w9u1 hw1 => ?_)
  refine g_aload_n X 0 d_Relations_add_12 rfl rfl ?_
  refine g_get (C := R_Relations) (T := T_Relations) (N := 5) X 0 1 in_Relations rfl rfl (by decide) t1_46 rfl rfl d_Relations_add_13 ?_
  refine g_aload_n X 0 d_Relations_add_16 rfl rfl ?_
  refine g_get (C := R_Relations) (T := T_Relations) (N := 5) X 0 3 in_Relations rfl rfl (by decide) t1_48 rfl rfl d_Relations_add_17 ?_
  refine g_iload_n X 2 d_Relations_add_20 rfl rfl ?_
  refine g_callvV (n := 2) X [.int (nI R), .int y] (k_Cells_put rw aw 200 fB R y (by omega) (by omega)) t2_123 t2_36 t2_37 t1_3 t2_38 rfl rfl (by decide +kernel) ⟨by decide, by decide⟩ [1, 2] [0, 3, 4, 5, 6] [(hr, .inr (2, [.ref ru, .ref rw, .ref rk, .int (nI R), .int (nI sd)])), (rk, .inr (0, [.ref ak])), (ak, .inl (cI, 200, .inl fK)), (ru, .inr (0, [.ref au])), (au, .inl (cI, 200, .inl (upd fA R x)))] rfl rfl rfl rfl (by decide) 0 rfl rfl rfl rfl (Nat.le_of_ble_eq_true rfl) d_Relations_add_21 ⟨by decide, by decide⟩ (fun w9u2 hw2 => ?_)
  refine g_aload_n X 0 d_Relations_add_24 rfl rfl ?_
  refine g_get (C := R_Relations) (T := T_Relations) (N := 5) X 0 2 in_Relations rfl rfl (by decide) t1_47 rfl rfl d_Relations_add_25 ?_
  refine g_aload_n X 0 d_Relations_add_28 rfl rfl ?_
  refine g_get (C := R_Relations) (T := T_Relations) (N := 5) X 0 3 in_Relations rfl rfl (by decide) t1_48 rfl rfl d_Relations_add_29 ?_
  refine g_iload_n X 3 d_Relations_add_32 rfl rfl ?_
  refine g_callvV (n := 2) X [.int (nI R), .int z] (k_Cells_put rk ak 200 fK R z (by omega) (by omega)) t2_123 t2_36 t2_37 t1_3 t2_38 rfl rfl (by decide +kernel) ⟨by decide, by decide⟩ [1, 2] [0, 3, 4, 5, 6] [(hr, .inr (2, [.ref ru, .ref rw, .ref rk, .int (nI R), .int (nI sd)])), (ru, .inr (0, [.ref au])), (au, .inl (cI, 200, .inl (upd fA R x))), (rw, .inr (0, [.ref aw])), (aw, .inl (cI, 200, .inl (upd fB R y)))] rfl rfl rfl rfl (by decide) 0 rfl rfl rfl rfl (Nat.le_of_ble_eq_true rfl) d_Relations_add_33 ⟨by decide, by decide⟩ (fun w9u3 hw3 => ?_)
  refine g_aload_n X 0 d_Relations_add_36 rfl rfl ?_
  refine g_dup X d_Relations_add_37 rfl ?_
  refine g_get (C := R_Relations) (T := T_Relations) (N := 5) X 0 3 in_Relations rfl rfl (by decide) t1_48 rfl rfl d_Relations_add_38 ?_
  refine g_iconst (v := nI 1) X d_Relations_add_41 rfl ?_
  refine g_iadd X (nI (R + 1)) d_Relations_add_42 (nI_add R 1) ?_
  refine g_put (C := R_Relations) (T := T_Relations) (N := 5) (ty := .int) X 0 3 [(hr, .inr (2, [.ref ru, .ref rw, .ref rk, .int (nI (R + 1)), .int (nI sd)])), (ru, .inr (0, [.ref au])), (au, .inl (cI, 200, .inl (upd fA R x))), (rw, .inr (0, [.ref aw])), (aw, .inl (cI, 200, .inl (upd fB R y))), (rk, .inr (0, [.ref ak])), (ak, .inl (cI, 200, .inl (upd fK R z)))] t_Relations ty_Relations nm_Relations in_Relations rfl rfl (by decide) t1_48 rfl rfl (by decide +kernel) rfl rfl (Nat.le_of_ble_eq_true rfl) rfl d_Relations_add_43 ?_
  refine g_aload_n X 0 d_Relations_add_46 rfl rfl ?_
  refine g_dup X d_Relations_add_47 rfl ?_
  refine g_get (C := R_Relations) (T := T_Relations) (N := 5) X 0 4 in_Relations rfl rfl (by decide) t1_49 rfl rfl d_Relations_add_48 ?_
  refine g_iconst (v := nI 1) X d_Relations_add_51 rfl ?_
  refine g_iadd X (nI (sd + 1)) d_Relations_add_52 (nI_add sd 1) ?_
  refine g_put (C := R_Relations) (T := T_Relations) (N := 5) (ty := .int) X 0 4 [(hr, .inr (2, [.ref ru, .ref rw, .ref rk, .int (nI (R + 1)), .int (nI (sd + 1))])), (ru, .inr (0, [.ref au])), (au, .inl (cI, 200, .inl (upd fA R x))), (rw, .inr (0, [.ref aw])), (aw, .inl (cI, 200, .inl (upd fB R y))), (rk, .inr (0, [.ref ak])), (ak, .inl (cI, 200, .inl (upd fK R z)))] t_Relations ty_Relations nm_Relations in_Relations rfl rfl (by decide) t1_49 rfl rfl (by decide +kernel) rfl rfl (Nat.le_of_ble_eq_true rfl) rfl d_Relations_add_53 ?_
  refine g_aload_n X 0 d_Relations_add_56 rfl rfl ?_
  refine g_get (C := R_Relations) (T := T_Relations) (N := 5) X 0 3 in_Relations rfl rfl (by decide) t1_48 rfl rfl d_Relations_add_57 ?_
  refine g_iconst (v := nI 1) X d_Relations_add_60 rfl ?_
  refine g_isub X (nI ((R + 1) - 1)) d_Relations_add_61 (pk_sub (by omega)) ?_
  exact g_iret X hA9 hQ9 hr9 hlk9 () [0, 1, 2, 3, 4, 5, 6] rfl rfl d_Relations_add_62 (by rw [Nat.add_sub_cancel])

set_option maxHeartbeats 4000000 in
set_option maxRecDepth 100000 in
theorem k_Relations_dropN (hr : Nat) (ru : Nat) (rw : Nat) (rk : Nat) (R : Nat) (sd : Nat) (ak : Nat) (fK : Nat → Int32) (j : Nat) (hj : j < 200) (hk : fK j = -1) : CtI l y_Relations_drop (Cond.code y_Relations_drop c_Relations_drop 2 (some .boolean) :: TB) ({ frames := 1, cells := 0, slots := 0, locals := 21 } : Room) D (tysv cI cJ cZ cQ) [.ref hr, .int (nI j)] [(hr, .inr (2, [.ref ru, .ref rw, .ref rk, .int (nI R), .int (nI sd)])), (rk, .inr (0, [.ref ak])), (ak, .inl (cI, 200, .inl fK))] 0 0 (fun (r : Int32) (_ : Unit) => r = bI false) (fun (_ : Unit) => [(hr, .inr (2, [.ref ru, .ref rw, .ref rk, .int (nI R), .int (nI sd)])), (rk, .inr (0, [.ref ak])), (ak, .inl (cI, 200, .inl fK))]) := by
  refine CtI.of c_Relations_drop 2 (some .boolean) (by decide) rfl (Nat.le_of_ble_eq_true rfl) ?_
  intro p e s m args below meth c A Q hA9 hQ9 X hr9 hlk9 hin9
  refine g_aload_n X 0 d_Relations_drop_0 rfl rfl ?_
  refine g_get (C := R_Relations) (T := T_Relations) (N := 5) X 0 2 in_Relations rfl rfl (by decide) t1_47 rfl rfl d_Relations_drop_1 ?_
  refine g_iload_n X 1 d_Relations_drop_4 rfl rfl ?_
  refine g_calliV (n := 1) X [.int (nI j)] (k_Cells_at rk ak 200 fK j (by omega) (by omega)) t2_137 t2_78 t2_79 t1_3 t2_80 rfl rfl (by decide +kernel) ⟨by decide, by decide⟩ [1, 2] [0] [(hr, .inr (2, [.ref ru, .ref rw, .ref rk, .int (nI R), .int (nI sd)]))] rfl rfl rfl rfl (by decide) 0 rfl rfl rfl rfl (Nat.le_of_ble_eq_true rfl) d_Relations_drop_5 ⟨by decide, by decide⟩ (fun r1 w9u1 hw1 => ?_)
  subst hw1
  refine g_iconst (v := -1) X d_Relations_drop_8 rfl ?_
  refine g_icmp_ne X 14 d_Relations_drop_9 (by decide) (fun h9 => absurd h9 (fun q => q hk)) (fun h9 => ?_)
  refine g_iconst (v := nI 0) X d_Relations_drop_12 rfl ?_
  exact g_zret X hA9 hQ9 hr9 (by first | exact Or.inl rfl | exact Or.inr rfl) hlk9 () [0, 1, 2] rfl rfl d_Relations_drop_13 (rfl)

set_option maxHeartbeats 4000000 in
set_option maxRecDepth 100000 in
theorem k_Relations_drop (hr : Nat) (ru : Nat) (rw : Nat) (rk : Nat) (R : Nat) (sd : Nat) (ak : Nat) (fK : Nat → Int32) (j : Nat) (hj : j < 200) (hk : ¬ fK j = -1) (hs : 0 < sd) : CtI l y_Relations_drop (Cond.code y_Relations_drop c_Relations_drop 2 (some .boolean) :: TB) ({ frames := 1, cells := 0, slots := 0, locals := 22 } : Room) D (tysv cI cJ cZ cQ) [.ref hr, .int (nI j)] [(hr, .inr (2, [.ref ru, .ref rw, .ref rk, .int (nI R), .int (nI sd)])), (rk, .inr (0, [.ref ak])), (ak, .inl (cI, 200, .inl fK))] 0 0 (fun (r : Int32) (_ : Unit) => r = bI true) (fun (_ : Unit) => [(hr, .inr (2, [.ref ru, .ref rw, .ref rk, .int (nI R), .int (nI (sd - 1))])), (rk, .inr (0, [.ref ak])), (ak, .inl (cI, 200, .inl (upd fK j (-1))))]) := by
  refine CtI.of c_Relations_drop 2 (some .boolean) (by decide) rfl (Nat.le_of_ble_eq_true rfl) ?_
  intro p e s m args below meth c A Q hA9 hQ9 X hr9 hlk9 hin9
  refine g_aload_n X 0 d_Relations_drop_0 rfl rfl ?_
  refine g_get (C := R_Relations) (T := T_Relations) (N := 5) X 0 2 in_Relations rfl rfl (by decide) t1_47 rfl rfl d_Relations_drop_1 ?_
  refine g_iload_n X 1 d_Relations_drop_4 rfl rfl ?_
  refine g_calliV (n := 1) X [.int (nI j)] (k_Cells_at rk ak 200 fK j (by omega) (by omega)) t2_137 t2_78 t2_79 t1_3 t2_80 rfl rfl (by decide +kernel) ⟨by decide, by decide⟩ [1, 2] [0] [(hr, .inr (2, [.ref ru, .ref rw, .ref rk, .int (nI R), .int (nI sd)]))] rfl rfl rfl rfl (by decide) 0 rfl rfl rfl rfl (Nat.le_of_ble_eq_true rfl) d_Relations_drop_5 ⟨by decide, by decide⟩ (fun r1 w9u1 hw1 => ?_)
  subst hw1
  refine g_iconst (v := -1) X d_Relations_drop_8 rfl ?_
  refine g_icmp_ne X 14 d_Relations_drop_9 (by decide) (fun h9 => ?_) (fun h9 => absurd h9 (hk))
  refine g_aload_n X 0 d_Relations_drop_14 rfl rfl ?_
  refine g_get (C := R_Relations) (T := T_Relations) (N := 5) X 0 2 in_Relations rfl rfl (by decide) t1_47 rfl rfl d_Relations_drop_15 ?_
  refine g_iload_n X 1 d_Relations_drop_18 rfl rfl ?_
  refine g_iconst (v := -1) X d_Relations_drop_19 rfl ?_
  refine g_callvV (n := 2) X [.int (nI j), .int (-1)] (k_Cells_put rk ak 200 fK j (-1) (by omega) (by omega)) t2_123 t2_36 t2_37 t1_3 t2_38 rfl rfl (by decide +kernel) ⟨by decide, by decide⟩ [1, 2] [0] [(hr, .inr (2, [.ref ru, .ref rw, .ref rk, .int (nI R), .int (nI sd)]))] rfl rfl rfl rfl (by decide) 0 rfl rfl rfl rfl (Nat.le_of_ble_eq_true rfl) d_Relations_drop_20 ⟨by decide, by decide⟩ (fun w9u2 hw2 => ?_)
  refine g_aload_n X 0 d_Relations_drop_23 rfl rfl ?_
  refine g_dup X d_Relations_drop_24 rfl ?_
  refine g_get (C := R_Relations) (T := T_Relations) (N := 5) X 0 4 in_Relations rfl rfl (by decide) t1_49 rfl rfl d_Relations_drop_25 ?_
  refine g_iconst (v := nI 1) X d_Relations_drop_28 rfl ?_
  refine g_isub X (nI (sd - 1)) d_Relations_drop_29 (pk_sub (by omega)) ?_
  refine g_put (C := R_Relations) (T := T_Relations) (N := 5) (ty := .int) X 0 4 [(hr, .inr (2, [.ref ru, .ref rw, .ref rk, .int (nI R), .int (nI (sd - 1))])), (rk, .inr (0, [.ref ak])), (ak, .inl (cI, 200, .inl (upd fK j (-1))))] t_Relations ty_Relations nm_Relations in_Relations rfl rfl (by decide) t1_49 rfl rfl (by decide +kernel) rfl rfl (Nat.le_of_ble_eq_true rfl) rfl d_Relations_drop_30 ?_
  refine g_iconst (v := nI 1) X d_Relations_drop_33 rfl ?_
  exact g_zret X hA9 hQ9 hr9 (by first | exact Or.inl rfl | exact Or.inr rfl) hlk9 () [0, 1, 2] rfl rfl d_Relations_drop_34 (rfl)

set_option maxHeartbeats 4000000 in
set_option maxRecDepth 100000 in
theorem k_Relations_init (hr : Nat)  : CtV l y_Relations_init (Cond.code y_Relations_init c_Relations_init 1 none :: TB) ({ frames := 2, cells := 6, slots := 603, locals := 36 } : Room) D (tysv cI cJ cZ cQ) [.ref hr] [(hr, .inr (2, [.null, .null, .null, .int (nI 0), .int (nI 0)]))] 6 603 (fun (u : Nat × Nat × Nat × Nat × Nat × Nat × (Nat → Int32) × (Nat → Int32) × (Nat → Int32)) => (∀ k, k < 200 → u.2.2.2.2.2.2.1 k = -1) ∧ (∀ k, k < 200 → u.2.2.2.2.2.2.2.1 k = -1) ∧ (∀ k, k < 200 → u.2.2.2.2.2.2.2.2 k = -1)) (fun (u : Nat × Nat × Nat × Nat × Nat × Nat × (Nat → Int32) × (Nat → Int32) × (Nat → Int32)) => [(hr, .inr (2, [.ref u.1, .ref u.2.2.1, .ref u.2.2.2.2.1, .int (nI 0), .int (nI 0)])), (u.1, .inr (0, [.ref u.2.1])), (u.2.1, .inl (cI, 200, .inl u.2.2.2.2.2.2.1)), (u.2.2.1, .inr (0, [.ref u.2.2.2.1])), (u.2.2.2.1, .inl (cI, 200, .inl u.2.2.2.2.2.2.2.1)), (u.2.2.2.2.1, .inr (0, [.ref u.2.2.2.2.2.1])), (u.2.2.2.2.2.1, .inl (cI, 200, .inl u.2.2.2.2.2.2.2.2))]) := by
  refine CtV.of c_Relations_init 1 none (by decide) rfl (Nat.le_of_ble_eq_true rfl) ?_
  intro p e s m args below meth c A Q hA9 hQ9 X hr9 hlk9 hin9
  refine g_aload_n X 0 d_Relations_init_0 rfl rfl ?_
  refine g_objInit X t1_30 t1_23 t1_24 d_Relations_init_1 (by decide) (Nat.le_of_ble_eq_true rfl) ?_
  refine g_aload_n X 0 d_Relations_init_4 rfl rfl ?_
  refine g_new (ci := 0) (fs := [.null]) (C := R_Cells) (T := T_Cells) (N := 1) X t_Cells ty_Cells in_Cells t1_31 t1_32 t1_3 rfl (fun j hj => by rcases (show j = 0 by omega) with rfl <;> rfl) (by decide) (by decide) d_Relations_init_5 (fun q1 => ?_)
  refine g_dup X d_Relations_init_8 rfl ?_
  refine g_sipush (v := nI 200) X d_Relations_init_9 rfl ?_
  refine g_callvI (n := 1) X [.int (nI 200)] (k_Cells_init200 q1 ) t1_33 t1_34 rfl t1_3 t1_35 rfl rfl (by decide +kernel) ⟨by decide, by decide⟩ [1] [0] [(hr, .inr (2, [.null, .null, .null, .int (nI 0), .int (nI 0)]))] rfl rfl rfl rfl (by decide) rfl rfl (Nat.le_of_ble_eq_true rfl) d_Relations_init_12 ⟨by decide, by decide⟩ (fun ⟨q_2, g_2⟩ w1 => ?_)
  refine g_putF (C := R_Relations) (T := T_Relations) (N := 5) (ty := .object "RelationOrder$Cells") X 0 0 [(hr, .inr (2, [.ref q1, .null, .null, .int (nI 0), .int (nI 0)])), (q1, .inr (0, [.ref q_2])), (q_2, .inl (cI, 200, .inl g_2))] t_Relations ty_Relations nm_Relations in_Relations rfl rfl (by decide) t1_45 rfl rfl hin9 rfl (by decide +kernel) rfl rfl (Nat.le_of_ble_eq_true rfl) rfl d_Relations_init_15 ?_
  refine g_aload_n X 0 d_Relations_init_18 rfl rfl ?_
  refine g_new (ci := 0) (fs := [.null]) (C := R_Cells) (T := T_Cells) (N := 1) X t_Cells ty_Cells in_Cells t1_31 t1_32 t1_3 rfl (fun j hj => by rcases (show j = 0 by omega) with rfl <;> rfl) (by decide) (by decide) d_Relations_init_19 (fun q3 => ?_)
  refine g_dup X d_Relations_init_22 rfl ?_
  refine g_sipush (v := nI 200) X d_Relations_init_23 rfl ?_
  refine g_callvI (n := 1) X [.int (nI 200)] (k_Cells_init200 q3 ) t1_33 t1_34 rfl t1_3 t1_35 rfl rfl (by decide +kernel) ⟨by decide, by decide⟩ [3] [0, 1, 2] [(hr, .inr (2, [.ref q1, .null, .null, .int (nI 0), .int (nI 0)])), (q1, .inr (0, [.ref q_2])), (q_2, .inl (cI, 200, .inl g_2))] rfl rfl rfl rfl (by decide) rfl rfl (Nat.le_of_ble_eq_true rfl) d_Relations_init_26 ⟨by decide, by decide⟩ (fun ⟨q_4, g_4⟩ w2 => ?_)
  refine g_putF (C := R_Relations) (T := T_Relations) (N := 5) (ty := .object "RelationOrder$Cells") X 0 1 [(hr, .inr (2, [.ref q1, .ref q3, .null, .int (nI 0), .int (nI 0)])), (q1, .inr (0, [.ref q_2])), (q_2, .inl (cI, 200, .inl g_2)), (q3, .inr (0, [.ref q_4])), (q_4, .inl (cI, 200, .inl g_4))] t_Relations ty_Relations nm_Relations in_Relations rfl rfl (by decide) t1_46 rfl rfl hin9 rfl (by decide +kernel) rfl rfl (Nat.le_of_ble_eq_true rfl) rfl d_Relations_init_29 ?_
  refine g_aload_n X 0 d_Relations_init_32 rfl rfl ?_
  refine g_new (ci := 0) (fs := [.null]) (C := R_Cells) (T := T_Cells) (N := 1) X t_Cells ty_Cells in_Cells t1_31 t1_32 t1_3 rfl (fun j hj => by rcases (show j = 0 by omega) with rfl <;> rfl) (by decide) (by decide) d_Relations_init_33 (fun q5 => ?_)
  refine g_dup X d_Relations_init_36 rfl ?_
  refine g_sipush (v := nI 200) X d_Relations_init_37 rfl ?_
  refine g_callvI (n := 1) X [.int (nI 200)] (k_Cells_init200 q5 ) t1_33 t1_34 rfl t1_3 t1_35 rfl rfl (by decide +kernel) ⟨by decide, by decide⟩ [5] [0, 1, 2, 3, 4] [(hr, .inr (2, [.ref q1, .ref q3, .null, .int (nI 0), .int (nI 0)])), (q1, .inr (0, [.ref q_2])), (q_2, .inl (cI, 200, .inl g_2)), (q3, .inr (0, [.ref q_4])), (q_4, .inl (cI, 200, .inl g_4))] rfl rfl rfl rfl (by decide) rfl rfl (Nat.le_of_ble_eq_true rfl) d_Relations_init_40 ⟨by decide, by decide⟩ (fun ⟨q_6, g_6⟩ w3 => ?_)
  refine g_putF (C := R_Relations) (T := T_Relations) (N := 5) (ty := .object "RelationOrder$Cells") X 0 2 [(hr, .inr (2, [.ref q1, .ref q3, .ref q5, .int (nI 0), .int (nI 0)])), (q1, .inr (0, [.ref q_2])), (q_2, .inl (cI, 200, .inl g_2)), (q3, .inr (0, [.ref q_4])), (q_4, .inl (cI, 200, .inl g_4)), (q5, .inr (0, [.ref q_6])), (q_6, .inl (cI, 200, .inl g_6))] t_Relations ty_Relations nm_Relations in_Relations rfl rfl (by decide) t1_47 rfl rfl hin9 rfl (by decide +kernel) rfl rfl (Nat.le_of_ble_eq_true rfl) rfl d_Relations_init_43 ?_
  refine g_aload_n X 0 d_Relations_init_46 rfl rfl ?_
  refine g_iconst (v := nI 0) X d_Relations_init_47 rfl ?_
  refine g_put (C := R_Relations) (T := T_Relations) (N := 5) (ty := .int) X 0 3 [(hr, .inr (2, [.ref q1, .ref q3, .ref q5, .int (nI 0), .int (nI 0)])), (q1, .inr (0, [.ref q_2])), (q_2, .inl (cI, 200, .inl g_2)), (q3, .inr (0, [.ref q_4])), (q_4, .inl (cI, 200, .inl g_4)), (q5, .inr (0, [.ref q_6])), (q_6, .inl (cI, 200, .inl g_6))] t_Relations ty_Relations nm_Relations in_Relations rfl rfl (by decide) t1_48 rfl rfl (by decide +kernel) rfl rfl (Nat.le_of_ble_eq_true rfl) rfl d_Relations_init_48 ?_
  refine g_aload_n X 0 d_Relations_init_51 rfl rfl ?_
  refine g_iconst (v := nI 0) X d_Relations_init_52 rfl ?_
  refine g_put (C := R_Relations) (T := T_Relations) (N := 5) (ty := .int) X 0 4 [(hr, .inr (2, [.ref q1, .ref q3, .ref q5, .int (nI 0), .int (nI 0)])), (q1, .inr (0, [.ref q_2])), (q_2, .inl (cI, 200, .inl g_2)), (q3, .inr (0, [.ref q_4])), (q_4, .inl (cI, 200, .inl g_4)), (q5, .inr (0, [.ref q_6])), (q_6, .inl (cI, 200, .inl g_6))] t_Relations ty_Relations nm_Relations in_Relations rfl rfl (by decide) t1_49 rfl rfl (by decide +kernel) rfl rfl (Nat.le_of_ble_eq_true rfl) rfl d_Relations_init_53 ?_
  exact g_vret X hA9 hQ9 hr9 hlk9 ⟨q1, q_2, q3, q_4, q5, q_6, g_2, g_4, g_6⟩ [0, 1, 2, 3, 4, 5, 6] rfl rfl d_Relations_init_56 (by (try dsimp only); exact (⟨w1, w2, w3⟩))

set_option maxHeartbeats 4000000 in
set_option maxRecDepth 100000 in
theorem k_Ring_init (h : Nat)  : CtV l y_Ring_init (Cond.code y_Ring_init c_Ring_init 1 none :: TB) ({ frames := 2, cells := 3, slots := 97, locals := 36 } : Room) D (tysv cI cJ cZ cQ) [.ref h] [(h, .inr (3, [.null, .null, .int (nI 0)]))] 3 97 (fun (u : Nat × Nat × Nat × (Nat → Int32)) => True) (fun (u : Nat × Nat × Nat × (Nat → Int32)) => [(h, .inr (3, [.ref u.1, .ref u.2.2.1, .int (nI 0)])), (u.1, .inr (0, [.ref u.2.1])), (u.2.1, .inl (cI, 48, .inl u.2.2.2)), (u.2.2.1, .inl (cJ, 48, .inr (.inl (fun _ => 0))))]) := by
  refine CtV.of c_Ring_init 1 none (by decide) rfl (Nat.le_of_ble_eq_true rfl) ?_
  intro p e s m args below meth c A Q hA9 hQ9 X hr9 hlk9 hin9
  refine g_aload_n X 0 d_Ring_init_0 rfl rfl ?_
  refine g_objInit X t1_102 t1_23 t1_24 d_Ring_init_1 (by decide) (Nat.le_of_ble_eq_true rfl) ?_
  refine g_aload_n X 0 d_Ring_init_4 rfl rfl ?_
  refine g_new (ci := 0) (fs := [.null]) (C := R_Cells) (T := T_Cells) (N := 1) X t_Cells ty_Cells in_Cells t1_103 t1_32 t1_3 rfl (fun j hj => by rcases (show j = 0 by omega) with rfl <;> rfl) (by decide) (by decide) d_Ring_init_5 (fun q1 => ?_)
  refine g_dup X d_Ring_init_8 rfl ?_
  refine g_bipush (v := nI 48) X d_Ring_init_9 rfl ?_
  refine g_callvI (n := 1) X [.int (nI 48)] (k_Cells_init48 q1 ) t1_104 t1_34 rfl t1_3 t1_35 rfl rfl (by decide +kernel) ⟨by decide, by decide⟩ [1] [0] [(h, .inr (3, [.null, .null, .int (nI 0)]))] rfl rfl rfl rfl (by decide) rfl rfl (Nat.le_of_ble_eq_true rfl) d_Ring_init_11 ⟨by decide, by decide⟩ (fun ⟨q_2, g_2⟩ hw2 => ?_)
  refine g_putF (C := R_Ring) (T := T_Ring) (N := 3) (ty := .object "RelationOrder$Cells") X 0 0 [(h, .inr (3, [.ref q1, .null, .int (nI 0)])), (q1, .inr (0, [.ref q_2])), (q_2, .inl (cI, 48, .inl g_2))] t_Ring ty_Ring nm_Ring in_Ring rfl rfl (by decide) t1_105 rfl rfl hin9 rfl (by decide +kernel) rfl rfl (Nat.le_of_ble_eq_true rfl) rfl d_Ring_init_14 ?_
  refine g_aload_n X 0 d_Ring_init_17 rfl rfl ?_
  refine g_bipush (v := nI 48) X d_Ring_init_18 rfl ?_
  refine g_newaJ X 1 rfl t1_83 (by omega) (by decide) (by decide) d_Ring_init_20 (fun q3 => ?_)
  refine g_putF (C := R_Ring) (T := T_Ring) (N := 3) (ty := .array .long) X 0 1 [(h, .inr (3, [.ref q1, .ref q3, .int (nI 0)])), (q1, .inr (0, [.ref q_2])), (q_2, .inl (cI, 48, .inl g_2)), (q3, .inl (cJ, 48, .inr (.inl (fun _ => 0))))] t_Ring ty_Ring nm_Ring in_Ring rfl rfl (by decide) t1_106 rfl rfl hin9 rfl (by decide +kernel) rfl rfl (Nat.le_of_ble_eq_true rfl) rfl d_Ring_init_22 ?_
  refine g_aload_n X 0 d_Ring_init_25 rfl rfl ?_
  refine g_iconst (v := nI 0) X d_Ring_init_26 rfl ?_
  refine g_put (C := R_Ring) (T := T_Ring) (N := 3) (ty := .int) X 0 2 [(h, .inr (3, [.ref q1, .ref q3, .int (nI 0)])), (q1, .inr (0, [.ref q_2])), (q_2, .inl (cI, 48, .inl g_2)), (q3, .inl (cJ, 48, .inr (.inl (fun _ => 0))))] t_Ring ty_Ring nm_Ring in_Ring rfl rfl (by decide) t1_107 rfl rfl (by decide +kernel) rfl rfl (Nat.le_of_ble_eq_true rfl) rfl d_Ring_init_27 ?_
  exact g_vret X hA9 hQ9 hr9 hlk9 ⟨q1, q_2, q3, g_2⟩ [0, 1, 2, 3] rfl rfl d_Ring_init_30 (trivial)

set_option maxHeartbeats 4000000 in
set_option maxRecDepth 100000 in
theorem k_Ring_place (h : Nat) (rp : Nat) (ly : Nat) (d : Nat) (ap : Nat) (P : Nat → Int32) (k : Nat) (hk : k < d) (hd : d ≤ 48) : CtI l y_Ring_place (Cond.code y_Ring_place c_Ring_place 2 (some .int) :: TB) ({ frames := 1, cells := 0, slots := 0, locals := 21 } : Room) D (tysv cI cJ cZ cQ) [.ref h, .int (nI k)] [(h, .inr (3, [.ref rp, .ref ly, .int (nI d)])), (rp, .inr (0, [.ref ap])), (ap, .inl (cI, 48, .inl P))] 0 0 (fun (r : Int32) (_ : Unit) => r = P k) (fun (_ : Unit) => [(h, .inr (3, [.ref rp, .ref ly, .int (nI d)])), (rp, .inr (0, [.ref ap])), (ap, .inl (cI, 48, .inl P))]) := by
  refine CtI.of c_Ring_place 2 (some .int) (by decide) rfl (Nat.le_of_ble_eq_true rfl) ?_
  intro p e s m args below meth c A Q hA9 hQ9 X hr9 hlk9 hin9
  refine g_iload_n X 1 d_Ring_place_0 rfl rfl ?_
  refine g_aload_n X 0 d_Ring_place_1 rfl rfl ?_
  refine g_get (C := R_Ring) (T := T_Ring) (N := 3) X 0 2 in_Ring rfl rfl (by decide) t1_107 rfl rfl d_Ring_place_2 ?_
  refine n_icmp_ge X 19 d_Ring_place_5 (by decide) (by omega) (by omega) (fun h5 => absurd h5 (by omega)) (fun h5 => ?_)
  refine g_aload_n X 0 d_Ring_place_8 rfl rfl ?_
  refine g_get (C := R_Ring) (T := T_Ring) (N := 3) X 0 0 in_Ring rfl rfl (by decide) t1_105 rfl rfl d_Ring_place_9 ?_
  refine g_iload_n X 1 d_Ring_place_12 rfl rfl ?_
  refine g_calliV (n := 1) X [.int (nI k)] (k_Cells_at rp ap 48 P k (by omega) (by omega)) t2_176 t2_78 t2_79 t1_3 t2_80 rfl rfl (by decide +kernel) ⟨by decide, by decide⟩ [1, 2] [0] [(h, .inr (3, [.ref rp, .ref ly, .int (nI d)]))] rfl rfl rfl rfl (by decide) 0 rfl rfl rfl rfl (Nat.le_of_ble_eq_true rfl) d_Ring_place_13 ⟨by decide, by decide⟩ (fun r1 w9u1 hw1 => ?_)
  subst hw1
  refine g_goto X 20 d_Ring_place_16 (by decide) ?_
  exact g_iret X hA9 hQ9 hr9 hlk9 () [0, 1, 2] rfl rfl d_Ring_place_20 (rfl)

set_option maxHeartbeats 4000000 in
set_option maxRecDepth 100000 in
theorem k_Ring_placeN (h : Nat) (rp : Nat) (ly : Nat) (d : Nat) (k : Nat) (hk : d ≤ k) (hk2 : k < 2 ^ 31) : CtI l y_Ring_place (Cond.code y_Ring_place c_Ring_place 2 (some .int) :: TB) ({ frames := 0, cells := 0, slots := 0, locals := 0 } : Room) D (tysv cI cJ cZ cQ) [.ref h, .int (nI k)] [(h, .inr (3, [.ref rp, .ref ly, .int (nI d)]))] 0 0 (fun (r : Int32) (_ : Unit) => r = -1) (fun (_ : Unit) => [(h, .inr (3, [.ref rp, .ref ly, .int (nI d)]))]) := by
  refine CtI.of c_Ring_place 2 (some .int) (by decide) rfl (Nat.le_of_ble_eq_true rfl) ?_
  intro p e s m args below meth c A Q hA9 hQ9 X hr9 hlk9 hin9
  refine g_iload_n X 1 d_Ring_place_0 rfl rfl ?_
  refine g_aload_n X 0 d_Ring_place_1 rfl rfl ?_
  refine g_get (C := R_Ring) (T := T_Ring) (N := 3) X 0 2 in_Ring rfl rfl (by decide) t1_107 rfl rfl d_Ring_place_2 ?_
  refine n_icmp_ge X 19 d_Ring_place_5 (by decide) (by omega) (by omega) (fun h5 => ?_) (fun h5 => absurd h5 (by omega))
  refine g_iconst (v := -1) X d_Ring_place_19 rfl ?_
  exact g_iret X hA9 hQ9 hr9 hlk9 () [0] rfl rfl d_Ring_place_20 (rfl)

set_option maxHeartbeats 4000000 in
set_option maxRecDepth 100000 in
theorem k_Ring_measure (h : Nat) (rp : Nat) (ly : Nat) (ln : Int32) (Y : Nat → Int64) (h2 : Nat) (a2 : Nat) (n : Nat) (f : Nat → Int64) (t : Nat) (d : Nat) (hn : n ≤ 48) (ht : t < n) (hf : ∀ x, x < n → ∀ j, lb (f x) j = true → j < n) (hd : gD (rowE n f) t d t) : CtI l y_Ring_measure (Cond.code y_Ring_measure c_Ring_measure 8 (some .int) :: TB) ({ frames := 1, cells := 0, slots := 0, locals := 25 } : Room) D (tysv cI cJ cZ cQ) [.ref h, .ref h2, .int (nI t)] [(h, .inr (3, [.ref rp, .ref ly, .int ln])), (ly, .inl (cJ, 48, .inr (.inl Y))), (h2, .inr (1, [.ref a2])), (a2, .inl (cJ, n, .inr (.inl f)))] 0 0 (fun (r : Int32) (Z : Nat → Int64) => r = nI d ∧ layY (rowE n f) t d Z) (fun (Z : Nat → Int64) => [(h, .inr (3, [.ref rp, .ref ly, .int ln])), (ly, .inl (cJ, 48, .inr (.inl Z))), (h2, .inr (1, [.ref a2])), (a2, .inl (cJ, n, .inr (.inl f)))]) := by
  refine CtI.of c_Ring_measure 8 (some .int) (by decide) rfl (Nat.le_of_ble_eq_true rfl) ?_
  intro p e s m args below meth c A Q hA9 hQ9 X hr9 hlk9 hin9
  have L10 : ∀ (N10 : Nat) (i : Nat) (Z : Nat → Int64) (w : Int64) (sn : Int64), (48 - i) < N10 → (i ≤ 48) → (lay (rowE n f) t i w) → (seenL (rowE n f) t i sn) → (layY (rowE n f) t i Z) → (∀ j, j < i → ¬ gD (rowE n f) t (j + 1) t) → G p l e ({ frames := 1, cells := 0, slots := 0, locals := 25 } : Room) s m args below meth c 8 D A s.heap Q 0 0 [(h, .inr (3, [.ref rp, .ref ly, .int ln])), (ly, .inl (cJ, 48, .inr (.inl Z))), (h2, .inr (1, [.ref a2])), (a2, .inl (cJ, n, .inr (.inl f)))] [(0, .ref h), (1, .ref h2), (2, .int (nI t)), (3, .long w), (5, .long sn), (7, .int (nI i))] 10 [] := by
    intro N10
    induction N10 with
    | zero =>
      intro i Z w sn hN
      exact absurd hN (Nat.not_lt_zero _)
    | succ N10 ih10 =>
      intro i Z w sn hN10 hi hw hs hY hno
      refine g_iload X 7 d_Ring_measure_10 rfl ?_
      refine g_aload_n X 0 d_Ring_measure_12 rfl rfl ?_
      refine g_get (C := R_Ring) (T := T_Ring) (N := 3) X 0 1 in_Ring rfl rfl (by decide) t1_106 rfl rfl d_Ring_measure_13 ?_
      refine g_alen X 1 1 rfl rfl d_Ring_measure_16 ?_
      refine n_icmp_ge X 74 d_Ring_measure_17 (by decide) (by omega) (by omega) (fun h17 => absurd h17 (by have := lay_lt (rowE_gin hf) hd hno; omega)) (fun h17 => ?_)
      refine g_lload_n X 3 d_Ring_measure_20 rfl rfl ?_
      refine g_lconst (v := 0) X d_Ring_measure_21 rfl ?_
      refine g_lcmp X d_Ring_measure_22 ?_
      refine lc_if_eq X 74 d_Ring_measure_23 (by decide) (fun h23 => absurd h23 (lay_ne hw hd hno)) (fun h23 => ?_)
      refine g_aload_n X 1 d_Ring_measure_26 rfl rfl ?_
      refine g_lload_n X 3 d_Ring_measure_27 rfl rfl ?_
      refine g_calllV (n := 1) X [.long w] (k_Rows_above h2 a2 n f w (by omega)) t2_101 t2_102 t2_103 t1_6 t2_104 rfl rfl (by decide +kernel) ⟨by decide, by decide⟩ [2, 3] [0, 1] [(h, .inr (3, [.ref rp, .ref ly, .int ln])), (ly, .inl (cJ, 48, .inr (.inl Z)))] rfl rfl rfl rfl (by decide) 0 rfl rfl rfl rfl (Nat.le_of_ble_eq_true rfl) d_Ring_measure_28 ⟨by decide, by decide⟩ (fun r1 w9u1 hab => ?_)
      refine g_lload X 5 d_Ring_measure_31 rfl ?_
      refine g_ldc2 (v := -1) X t2_105 d_Ring_measure_33 ?_
      refine g_lxor X (sn ^^^ (-1)) d_Ring_measure_36 rfl ?_
      refine g_land X (r1 &&& (sn ^^^ (-1))) d_Ring_measure_37 rfl ?_
      refine g_topl (fun w2 ew2 => ?_)
      have hl : ∀ x, lb w2 x = true ↔ gD (rowE n f) t (i + 1) x := by rw [ew2]; exact lay_step hw hs (by omega) hab hf hn
      refine g_lstore_n X [(3, .long w2), (0, .ref h), (1, .ref h2), (2, .int (nI t)), (5, .long sn), (7, .int (nI i))] d_Ring_measure_38 rfl (by decide) rfl ?_
      refine g_aload_n X 0 d_Ring_measure_39 rfl rfl ?_
      refine g_get (C := R_Ring) (T := T_Ring) (N := 3) X 0 1 in_Ring rfl rfl (by decide) t1_106 rfl rfl d_Ring_measure_40 ?_
      refine g_iload X 7 d_Ring_measure_43 rfl ?_
      refine g_lload_n X 3 d_Ring_measure_45 rfl rfl ?_
      refine g_last X 1 1 [(h, .inr (3, [.ref rp, .ref ly, .int ln])), (ly, .inl (cJ, 48, .inr (.inl (vp_updL Z i w2)))), (h2, .inr (1, [.ref a2])), (a2, .inl (cJ, n, .inr (.inl f)))] rfl rfl (by omega) (by omega) rfl d_Ring_measure_46 ?_
      refine g_lload X 5 d_Ring_measure_47 rfl ?_
      refine g_lload_n X 3 d_Ring_measure_49 rfl rfl ?_
      refine g_lor X (sn ||| w2) d_Ring_measure_50 rfl ?_
      refine g_lstore X [(5, .long (sn ||| w2)), (3, .long w2), (0, .ref h), (1, .ref h2), (2, .int (nI t)), (7, .int (nI i))] d_Ring_measure_51 (by decide) rfl ?_
      refine g_lload_n X 3 d_Ring_measure_53 rfl rfl ?_
      refine g_iload_n X 2 d_Ring_measure_54 rfl rfl ?_
      refine g_lushr X (((w2).toUInt64 >>> ((nI t).toInt64.toUInt64 &&& Int64.toUInt64 63)).toInt64) d_Ring_measure_55 rfl ?_
      refine g_lconst (v := 1) X d_Ring_measure_56 rfl ?_
      refine g_land X ((((w2).toUInt64 >>> ((nI t).toInt64.toUInt64 &&& Int64.toUInt64 63)).toInt64) &&& 1) d_Ring_measure_57 rfl ?_
      refine g_lconst (v := 0) X d_Ring_measure_58 rfl ?_
      refine g_lcmp X d_Ring_measure_59 ?_
      refine bit_if_eq X 68 d_Ring_measure_60 (by decide) (by omega) (fun h60 => ?_) (fun h60 => ?_)
      · refine g_iinc X (nI (i + 1)) [(7, .int (nI (i + 1))), (5, .long (sn ||| w2)), (3, .long w2), (0, .ref h), (1, .ref h2), (2, .int (nI t))] d_Ring_measure_68 (k := 5) rfl (nI_1 i) (by decide) rfl ?_
        refine g_goto X 10 d_Ring_measure_71 (by decide) ?_
        refine g_lv [3, 4, 5, 2, 1, 0] rfl ?_
        exact ih10 (i + 1) (vp_updL Z i w2) w2 (sn ||| w2) (by omega) (by omega) (lay_next hl) (seen_next hs hl) (layY_next hY hl) (no_next hno hl h60)
      · refine g_iload X 7 d_Ring_measure_63 rfl ?_
        refine g_iconst (v := nI 1) X d_Ring_measure_65 rfl ?_
        refine g_iadd X (nI (i + 1)) d_Ring_measure_66 (nI_add i 1) ?_
        have e9 := lay_hit hd hl h60
        subst e9
        exact g_iret X hA9 hQ9 hr9 hlk9 (vp_updL Z i w2) [0, 1, 2, 3] rfl rfl d_Ring_measure_67 (⟨rfl, layY_next hY hl⟩)
  refine g_lconst (v := 1) X d_Ring_measure_0 rfl ?_
  refine g_iload_n X 2 d_Ring_measure_1 rfl rfl ?_
  refine g_lshl X (1 <<< ((nI t).toInt64 &&& 63)) d_Ring_measure_2 rfl ?_
  refine g_lstore_n X [(3, .long (1 <<< ((nI t).toInt64 &&& 63))), (0, .ref h), (1, .ref h2), (2, .int (nI t))] d_Ring_measure_3 rfl (by decide) rfl ?_
  refine g_lconst (v := 0) X d_Ring_measure_4 rfl ?_
  refine g_lstore X [(5, .long 0), (3, .long (1 <<< ((nI t).toInt64 &&& 63))), (0, .ref h), (1, .ref h2), (2, .int (nI t))] d_Ring_measure_5 (by decide) rfl ?_
  refine g_iconst (v := nI 0) X d_Ring_measure_7 rfl ?_
  refine g_istore X [(7, .int (nI 0)), (5, .long 0), (3, .long (1 <<< ((nI t).toInt64 &&& 63))), (0, .ref h), (1, .ref h2), (2, .int (nI t))] d_Ring_measure_8 (by decide) rfl ?_
  refine g_lv [3, 4, 5, 2, 1, 0] rfl ?_
  exact L10 ((48 - 0) + 1) 0 Y (1 <<< ((nI t).toInt64 &&& 63)) 0 (Nat.lt_succ_self _) (by omega) (lay_0 (by omega)) (seen_0) (fun j hj => absurd hj (Nat.not_lt_zero j)) (fun j hj => absurd hj (Nat.not_lt_zero j))

set_option maxHeartbeats 4000000 in
set_option maxRecDepth 100000 in
theorem k_Ring_measureN (h : Nat) (rp : Nat) (ly : Nat) (ln : Int32) (Y : Nat → Int64) (h2 : Nat) (a2 : Nat) (n : Nat) (f : Nat → Int64) (t : Nat) (hn : n ≤ 48) (ht : t < n) (hf : ∀ x, x < n → ∀ j, lb (f x) j = true → j < n) (hd : ∀ k, ¬ gw (rowE n f) (k + 1) t t) : CtI l y_Ring_measure (Cond.code y_Ring_measure c_Ring_measure 8 (some .int) :: TB) ({ frames := 1, cells := 0, slots := 0, locals := 25 } : Room) D (tysv cI cJ cZ cQ) [.ref h, .ref h2, .int (nI t)] [(h, .inr (3, [.ref rp, .ref ly, .int ln])), (ly, .inl (cJ, 48, .inr (.inl Y))), (h2, .inr (1, [.ref a2])), (a2, .inl (cJ, n, .inr (.inl f)))] 0 0 (fun (r : Int32) (Z : Nat → Int64) => r = nI 0) (fun (Z : Nat → Int64) => [(h, .inr (3, [.ref rp, .ref ly, .int ln])), (ly, .inl (cJ, 48, .inr (.inl Z))), (h2, .inr (1, [.ref a2])), (a2, .inl (cJ, n, .inr (.inl f)))]) := by
  refine CtI.of c_Ring_measure 8 (some .int) (by decide) rfl (Nat.le_of_ble_eq_true rfl) ?_
  intro p e s m args below meth c A Q hA9 hQ9 X hr9 hlk9 hin9
  have L10 : ∀ (N10 : Nat) (i : Nat) (Z : Nat → Int64) (w : Int64) (sn : Int64), (48 - i) < N10 → (i ≤ 48) → (lay (rowE n f) t i w) → (seenL (rowE n f) t i sn) → G p l e ({ frames := 1, cells := 0, slots := 0, locals := 25 } : Room) s m args below meth c 8 D A s.heap Q 0 0 [(h, .inr (3, [.ref rp, .ref ly, .int ln])), (ly, .inl (cJ, 48, .inr (.inl Z))), (h2, .inr (1, [.ref a2])), (a2, .inl (cJ, n, .inr (.inl f)))] [(0, .ref h), (1, .ref h2), (2, .int (nI t)), (3, .long w), (5, .long sn), (7, .int (nI i))] 10 [] := by
    intro N10
    induction N10 with
    | zero =>
      intro i Z w sn hN
      exact absurd hN (Nat.not_lt_zero _)
    | succ N10 ih10 =>
      intro i Z w sn hN10 hi hw hs
      refine g_iload X 7 d_Ring_measure_10 rfl ?_
      refine g_aload_n X 0 d_Ring_measure_12 rfl rfl ?_
      refine g_get (C := R_Ring) (T := T_Ring) (N := 3) X 0 1 in_Ring rfl rfl (by decide) t1_106 rfl rfl d_Ring_measure_13 ?_
      refine g_alen X 1 1 rfl rfl d_Ring_measure_16 ?_
      refine n_icmp_ge X 74 d_Ring_measure_17 (by decide) (by omega) (by omega) (fun h17 => ?_) (fun h17 => ?_)
      · refine g_iconst (v := nI 0) X d_Ring_measure_74 rfl ?_
        exact g_iret X hA9 hQ9 hr9 hlk9 Z [0, 1, 2, 3] rfl rfl d_Ring_measure_75 (rfl)
      · refine g_lload_n X 3 d_Ring_measure_20 rfl rfl ?_
        refine g_lconst (v := 0) X d_Ring_measure_21 rfl ?_
        refine g_lcmp X d_Ring_measure_22 ?_
        refine lc_if_eq X 74 d_Ring_measure_23 (by decide) (fun h23 => ?_) (fun h23 => ?_)
        · refine g_iconst (v := nI 0) X d_Ring_measure_74 rfl ?_
          exact g_iret X hA9 hQ9 hr9 hlk9 Z [0, 1, 2, 3] rfl rfl d_Ring_measure_75 (rfl)
        · refine g_aload_n X 1 d_Ring_measure_26 rfl rfl ?_
          refine g_lload_n X 3 d_Ring_measure_27 rfl rfl ?_
          refine g_calllV (n := 1) X [.long w] (k_Rows_above h2 a2 n f w (by omega)) t2_101 t2_102 t2_103 t1_6 t2_104 rfl rfl (by decide +kernel) ⟨by decide, by decide⟩ [2, 3] [0, 1] [(h, .inr (3, [.ref rp, .ref ly, .int ln])), (ly, .inl (cJ, 48, .inr (.inl Z)))] rfl rfl rfl rfl (by decide) 0 rfl rfl rfl rfl (Nat.le_of_ble_eq_true rfl) d_Ring_measure_28 ⟨by decide, by decide⟩ (fun r1 w9u1 hab => ?_)
          refine g_lload X 5 d_Ring_measure_31 rfl ?_
          refine g_ldc2 (v := -1) X t2_105 d_Ring_measure_33 ?_
          refine g_lxor X (sn ^^^ (-1)) d_Ring_measure_36 rfl ?_
          refine g_land X (r1 &&& (sn ^^^ (-1))) d_Ring_measure_37 rfl ?_
          refine g_topl (fun w2 ew2 => ?_)
          have hl : ∀ x, lb w2 x = true ↔ gD (rowE n f) t (i + 1) x := by rw [ew2]; exact lay_step hw hs (by omega) hab hf hn
          refine g_lstore_n X [(3, .long w2), (0, .ref h), (1, .ref h2), (2, .int (nI t)), (5, .long sn), (7, .int (nI i))] d_Ring_measure_38 rfl (by decide) rfl ?_
          refine g_aload_n X 0 d_Ring_measure_39 rfl rfl ?_
          refine g_get (C := R_Ring) (T := T_Ring) (N := 3) X 0 1 in_Ring rfl rfl (by decide) t1_106 rfl rfl d_Ring_measure_40 ?_
          refine g_iload X 7 d_Ring_measure_43 rfl ?_
          refine g_lload_n X 3 d_Ring_measure_45 rfl rfl ?_
          refine g_last X 1 1 [(h, .inr (3, [.ref rp, .ref ly, .int ln])), (ly, .inl (cJ, 48, .inr (.inl (vp_updL Z i w2)))), (h2, .inr (1, [.ref a2])), (a2, .inl (cJ, n, .inr (.inl f)))] rfl rfl (by omega) (by omega) rfl d_Ring_measure_46 ?_
          refine g_lload X 5 d_Ring_measure_47 rfl ?_
          refine g_lload_n X 3 d_Ring_measure_49 rfl rfl ?_
          refine g_lor X (sn ||| w2) d_Ring_measure_50 rfl ?_
          refine g_lstore X [(5, .long (sn ||| w2)), (3, .long w2), (0, .ref h), (1, .ref h2), (2, .int (nI t)), (7, .int (nI i))] d_Ring_measure_51 (by decide) rfl ?_
          refine g_lload_n X 3 d_Ring_measure_53 rfl rfl ?_
          refine g_iload_n X 2 d_Ring_measure_54 rfl rfl ?_
          refine g_lushr X (((w2).toUInt64 >>> ((nI t).toInt64.toUInt64 &&& Int64.toUInt64 63)).toInt64) d_Ring_measure_55 rfl ?_
          refine g_lconst (v := 1) X d_Ring_measure_56 rfl ?_
          refine g_land X ((((w2).toUInt64 >>> ((nI t).toInt64.toUInt64 &&& Int64.toUInt64 63)).toInt64) &&& 1) d_Ring_measure_57 rfl ?_
          refine g_lconst (v := 0) X d_Ring_measure_58 rfl ?_
          refine g_lcmp X d_Ring_measure_59 ?_
          refine bit_if_eq X 68 d_Ring_measure_60 (by decide) (by omega) (fun h60 => ?_) (fun h60 => absurd h60 (fun q => hd i ((hl t).mp q).2.1))
          refine g_iinc X (nI (i + 1)) [(7, .int (nI (i + 1))), (5, .long (sn ||| w2)), (3, .long w2), (0, .ref h), (1, .ref h2), (2, .int (nI t))] d_Ring_measure_68 (k := 5) rfl (nI_1 i) (by decide) rfl ?_
          refine g_goto X 10 d_Ring_measure_71 (by decide) ?_
          refine g_lv [3, 4, 5, 2, 1, 0] rfl ?_
          exact ih10 (i + 1) (vp_updL Z i w2) w2 (sn ||| w2) (by omega) (by omega) (lay_next hl) (seen_next hs hl)
  refine g_lconst (v := 1) X d_Ring_measure_0 rfl ?_
  refine g_iload_n X 2 d_Ring_measure_1 rfl rfl ?_
  refine g_lshl X (1 <<< ((nI t).toInt64 &&& 63)) d_Ring_measure_2 rfl ?_
  refine g_lstore_n X [(3, .long (1 <<< ((nI t).toInt64 &&& 63))), (0, .ref h), (1, .ref h2), (2, .int (nI t))] d_Ring_measure_3 rfl (by decide) rfl ?_
  refine g_lconst (v := 0) X d_Ring_measure_4 rfl ?_
  refine g_lstore X [(5, .long 0), (3, .long (1 <<< ((nI t).toInt64 &&& 63))), (0, .ref h), (1, .ref h2), (2, .int (nI t))] d_Ring_measure_5 (by decide) rfl ?_
  refine g_iconst (v := nI 0) X d_Ring_measure_7 rfl ?_
  refine g_istore X [(7, .int (nI 0)), (5, .long 0), (3, .long (1 <<< ((nI t).toInt64 &&& 63))), (0, .ref h), (1, .ref h2), (2, .int (nI t))] d_Ring_measure_8 (by decide) rfl ?_
  refine g_lv [3, 4, 5, 2, 1, 0] rfl ?_
  exact L10 ((48 - 0) + 1) 0 Y (1 <<< ((nI t).toInt64 &&& 63)) 0 (Nat.lt_succ_self _) (by omega) (lay_0 (by omega)) (seen_0)

set_option maxHeartbeats 4000000 in
set_option maxRecDepth 100000 in
theorem k_Ring_write (h : Nat) (rp : Nat) (ly : Nat) (ln : Int32) (ap : Nat) (P : Nat → Int32) (Y : Nat → Int64) (h2 : Nat) (a2 : Nat) (n : Nat) (f : Nat → Int64) (t : Nat) (d : Nat) (pp : Nat → Nat) (hn : n ≤ 48) (ht : t < n) (hf : ∀ x, x < n → ∀ j, lb (f x) j = true → j < n) (hg : gring (rowE n f) t d pp) (hY : layY (rowE n f) t d Y) : CtV l y_Ring_write (Cond.code y_Ring_write c_Ring_write 7 none :: TB) ({ frames := 2, cells := 0, slots := 0, locals := 42 } : Room) D (tysv cI cJ cZ cQ) [.ref h, .ref h2, .int (nI t), .int (nI d)] [(h, .inr (3, [.ref rp, .ref ly, .int ln])), (rp, .inr (0, [.ref ap])), (ap, .inl (cI, 48, .inl P)), (ly, .inl (cJ, 48, .inr (.inl Y))), (h2, .inr (1, [.ref a2])), (a2, .inl (cJ, n, .inr (.inl f)))] 0 0 (fun (P2 : Nat → Int32) => ∀ j, j < d → P2 j = nI (pp j)) (fun (P2 : Nat → Int32) => [(h, .inr (3, [.ref rp, .ref ly, .int (nI d)])), (rp, .inr (0, [.ref ap])), (ap, .inl (cI, 48, .inl P2)), (ly, .inl (cJ, 48, .inr (.inl Y))), (h2, .inr (1, [.ref a2])), (a2, .inl (cJ, n, .inr (.inl f)))]) := by
  refine CtV.of c_Ring_write 7 none (by decide) rfl (Nat.le_of_ble_eq_true rfl) ?_
  intro p e s m args below meth c A Q hA9 hQ9 X hr9 hlk9 hin9
  have hd48 := gD_le (rowE_gin hf) hg.1
  have hd0 := hg.1.1
  have L6 : ∀ (N6 : Nat) (k : Nat) (v : Nat) (P2 : Nat → Int32), (d - k) < N6 → (k ≤ d) → (k < d → v = pp k) → (∀ j, j < k → P2 j = nI (pp j)) → G p l e ({ frames := 2, cells := 0, slots := 0, locals := 42 } : Room) s m args below meth c 7 D A s.heap Q 0 0 [(h, .inr (3, [.ref rp, .ref ly, .int ln])), (rp, .inr (0, [.ref ap])), (ap, .inl (cI, 48, .inl P2)), (ly, .inl (cJ, 48, .inr (.inl Y))), (h2, .inr (1, [.ref a2])), (a2, .inl (cJ, n, .inr (.inl f)))] [(0, .ref h), (1, .ref h2), (2, .int (nI t)), (3, .int (nI d)), (4, .int (nI v)), (5, .int (nI k))] 6 [] := by
    intro N6
    induction N6 with
    | zero =>
      intro k v P2 hN
      exact absurd hN (Nat.not_lt_zero _)
    | succ N6 ih6 =>
      intro k v P2 hN6 hk ha hP
      refine g_iload X 5 d_Ring_write_6 rfl ?_
      refine g_iload_n X 3 d_Ring_write_8 rfl rfl ?_
      refine n_icmp_ge X 72 d_Ring_write_9 (by decide) (by omega) (by omega) (fun h9 => ?_) (fun h9 => ?_)
      · refine g_aload_n X 0 d_Ring_write_72 rfl rfl ?_
        refine g_iload_n X 3 d_Ring_write_73 rfl rfl ?_
        refine g_put (C := R_Ring) (T := T_Ring) (N := 3) (ty := .int) X 0 2 [(h, .inr (3, [.ref rp, .ref ly, .int (nI d)])), (rp, .inr (0, [.ref ap])), (ap, .inl (cI, 48, .inl P2)), (ly, .inl (cJ, 48, .inr (.inl Y))), (h2, .inr (1, [.ref a2])), (a2, .inl (cJ, n, .inr (.inl f)))] t_Ring ty_Ring nm_Ring in_Ring rfl rfl (by decide) t1_107 rfl rfl (by decide +kernel) rfl rfl (Nat.le_of_ble_eq_true rfl) rfl d_Ring_write_74 ?_
        exact g_vret X hA9 hQ9 hr9 hlk9 P2 [0, 1, 2, 3, 4, 5] rfl rfl d_Ring_write_77 (fun j hj => hP j (by omega))
      · refine g_aload_n X 0 d_Ring_write_12 rfl rfl ?_
        refine g_get (C := R_Ring) (T := T_Ring) (N := 3) X 0 0 in_Ring rfl rfl (by decide) t1_105 rfl rfl d_Ring_write_13 ?_
        refine g_iload X 5 d_Ring_write_16 rfl ?_
        refine g_iload X 4 d_Ring_write_18 rfl ?_
        refine g_callvV (n := 2) X [.int (nI k), .int (nI v)] (k_Cells_put rp ap 48 P2 k (nI v) (by omega) (by omega)) t2_110 t2_36 t2_37 t1_3 t2_38 rfl rfl (by decide +kernel) ⟨by decide, by decide⟩ [1, 2] [0, 3, 4, 5] [(h, .inr (3, [.ref rp, .ref ly, .int ln])), (ly, .inl (cJ, 48, .inr (.inl Y))), (h2, .inr (1, [.ref a2])), (a2, .inl (cJ, n, .inr (.inl f)))] rfl rfl rfl rfl (by decide) 0 rfl rfl rfl rfl (Nat.le_of_ble_eq_true rfl) d_Ring_write_20 ⟨by decide, by decide⟩ (fun w9u1 hw1 => ?_)
        refine g_iload_n X 3 d_Ring_write_23 rfl rfl ?_
        refine g_iconst (v := nI 2) X d_Ring_write_24 rfl ?_
        refine g_isub X ((nI d) - (nI 2)) d_Ring_write_25 rfl ?_
        refine g_iload X 5 d_Ring_write_26 rfl ?_
        refine g_isub X (((nI d) - (nI 2)) - (nI k)) d_Ring_write_28 rfl ?_
        rcases Nat.lt_or_ge (k + 1) d with q | q
        · have ea : v = pp k := ha (by omega)
          have hat : v < n := by rw [ea]; exact gring_lt (rowE_gin hf) ht hg (by omega)
          rw [sub2_in (by omega) q]
          refine g_istore X [(6, .int (nI (d - 2 - k))), (0, .ref h), (1, .ref h2), (2, .int (nI t)), (3, .int (nI d)), (4, .int (nI v)), (5, .int (nI k))] d_Ring_write_29 (by decide) rfl ?_
          refine g_iload X 6 d_Ring_write_31 rfl ?_
          refine n_if_lt X 66 d_Ring_write_33 (by decide) (by omega) (fun h33 => absurd h33 (by omega)) (fun h33 => ?_)
          refine g_iload X 6 d_Ring_write_36 rfl ?_
          refine g_aload_n X 0 d_Ring_write_38 rfl rfl ?_
          refine g_get (C := R_Ring) (T := T_Ring) (N := 3) X 0 1 in_Ring rfl rfl (by decide) t1_106 rfl rfl d_Ring_write_39 ?_
          refine g_alen X 1 1 rfl rfl d_Ring_write_42 ?_
          refine n_icmp_ge X 66 d_Ring_write_43 (by decide) (by omega) (by omega) (fun h43 => absurd h43 (by omega)) (fun h43 => ?_)
          refine g_aload_n X 1 d_Ring_write_46 rfl rfl ?_
          refine g_iload X 4 d_Ring_write_47 rfl ?_
          refine g_calllV (n := 1) X [.int (nI v)] (k_Rows_row h2 a2 n f v (hat) (by omega)) t2_111 t1_174 t1_175 t1_6 t1_176 rfl rfl (by decide +kernel) ⟨by decide, by decide⟩ [2, 3] [0, 1, 4, 5] [(h, .inr (3, [.ref rp, .ref ly, .int ln])), (ly, .inl (cJ, 48, .inr (.inl Y))), (rp, .inr (0, [.ref ap])), (ap, .inl (cI, 48, .inl (upd P2 k (nI v))))] rfl rfl rfl rfl (by decide) 0 rfl rfl rfl rfl (Nat.le_of_ble_eq_true rfl) d_Ring_write_49 ⟨by decide, by decide⟩ (fun r2 w9u2 hw2 => ?_)
          subst hw2
          refine g_aload_n X 0 d_Ring_write_52 rfl rfl ?_
          refine g_get (C := R_Ring) (T := T_Ring) (N := 3) X 0 1 in_Ring rfl rfl (by decide) t1_106 rfl rfl d_Ring_write_53 ?_
          refine g_iload X 6 d_Ring_write_56 rfl ?_
          refine g_lald X 1 1 rfl rfl (by omega) (by omega) d_Ring_write_58 ?_
          refine g_land X ((f v) &&& (Y (d - 2 - k))) d_Ring_write_59 rfl ?_
          refine g_iconst (v := nI 0) X d_Ring_write_60 rfl ?_
          refine g_calliN (n := 2) X [.long ((f v) &&& (Y (d - 2 - k))), .int (nI 0)] (k_RO_nthOf ((f v) &&& (Y (d - 2 - k))) 0 (by omega) (ring_nth hn hf hg hY q ea hat)) X.2.2.2.2.2.1.2.1 t2_113 t1_1 t2_114 rfl rfl (by decide +kernel) ⟨by decide, by decide⟩ [] [0, 1, 2, 3, 4, 5] [(h, .inr (3, [.ref rp, .ref ly, .int ln])), (ly, .inl (cJ, 48, .inr (.inl Y))), (rp, .inr (0, [.ref ap])), (ap, .inl (cI, 48, .inl (upd P2 k (nI v)))), (h2, .inr (1, [.ref a2])), (a2, .inl (cJ, n, .inr (.inl f)))] rfl rfl rfl rfl (by decide) rfl rfl (Nat.le_of_ble_eq_true rfl) d_Ring_write_61 ⟨by decide, by decide⟩ (fun r3 x_3 hx9 => ?_)
          obtain ⟨rfl, hx9⟩ := hx9
          refine g_istore X [(4, .int (nI x_3)), (6, .int (nI (d - 2 - k))), (0, .ref h), (1, .ref h2), (2, .int (nI t)), (3, .int (nI d)), (5, .int (nI k))] d_Ring_write_64 (by decide) rfl ?_
          refine g_iinc X (nI (k + 1)) [(5, .int (nI (k + 1))), (4, .int (nI x_3)), (6, .int (nI (d - 2 - k))), (0, .ref h), (1, .ref h2), (2, .int (nI t)), (3, .int (nI d))] d_Ring_write_66 (k := 6) rfl (nI_1 k) (by decide) rfl ?_
          refine g_goto X 6 d_Ring_write_69 (by decide) ?_
          refine g_ws [(h, .inr (3, [.ref rp, .ref ly, .int ln])), (rp, .inr (0, [.ref ap])), (ap, .inl (cI, 48, .inl (upd P2 k (nI v)))), (ly, .inl (cJ, 48, .inr (.inl Y))), (h2, .inr (1, [.ref a2])), (a2, .inl (cJ, n, .inr (.inl f)))] [0, 2, 3, 1, 4, 5] rfl rfl ?_
          refine g_lv [3, 4, 5, 6, 1, 0] rfl ?_
          exact ih6 (k + 1) x_3 (upd P2 k (nI v)) (by omega) (by omega) (by first | exact fun _ => ring_nth_eq hn hf hg hY q ea hat hx9.2.1 hx9.2.2 | exact fun h => absurd h (by omega)) (places_step hP (ha (by omega)))
        · have eq9 : k + 1 = d := by omega
          rw [sub2_out (by omega) eq9]
          refine g_istore X [(6, .int (-1)), (0, .ref h), (1, .ref h2), (2, .int (nI t)), (3, .int (nI d)), (4, .int (nI v)), (5, .int (nI k))] d_Ring_write_29 (by decide) rfl ?_
          refine g_iload X 6 d_Ring_write_31 rfl ?_
          refine g_if_lt X 66 d_Ring_write_33 (by decide) (fun h33 => ?_) (fun h33 => absurd h33 (by decide))
          refine g_iinc X (nI (k + 1)) [(5, .int (nI (k + 1))), (6, .int (-1)), (0, .ref h), (1, .ref h2), (2, .int (nI t)), (3, .int (nI d)), (4, .int (nI v))] d_Ring_write_66 (k := 6) rfl (nI_1 k) (by decide) rfl ?_
          refine g_goto X 6 d_Ring_write_69 (by decide) ?_
          refine g_ws [(h, .inr (3, [.ref rp, .ref ly, .int ln])), (rp, .inr (0, [.ref ap])), (ap, .inl (cI, 48, .inl (upd P2 k (nI v)))), (ly, .inl (cJ, 48, .inr (.inl Y))), (h2, .inr (1, [.ref a2])), (a2, .inl (cJ, n, .inr (.inl f)))] [0, 4, 5, 1, 2, 3] rfl rfl ?_
          refine g_lv [2, 3, 4, 5, 6, 0] rfl ?_
          exact ih6 (k + 1) v (upd P2 k (nI v)) (by omega) (by omega) (by first | exact fun _ => ring_nth_eq hn hf hg hY q ea hat hx9.2.1 hx9.2.2 | exact fun h => absurd h (by omega)) (places_step hP (ha (by omega)))
  refine g_iload_n X 2 d_Ring_write_0 rfl rfl ?_
  refine g_istore X [(4, .int (nI t)), (0, .ref h), (1, .ref h2), (2, .int (nI t)), (3, .int (nI d))] d_Ring_write_1 (by decide) rfl ?_
  refine g_iconst (v := nI 0) X d_Ring_write_3 rfl ?_
  refine g_istore X [(5, .int (nI 0)), (4, .int (nI t)), (0, .ref h), (1, .ref h2), (2, .int (nI t)), (3, .int (nI d))] d_Ring_write_4 (by decide) rfl ?_
  refine g_lv [2, 3, 4, 5, 1, 0] rfl ?_
  exact L6 ((d - 0) + 1) 0 t P (Nat.lt_succ_self _) (by omega) (fun _ => hg.2.1.symm) (fun j hj => absurd hj (Nat.not_lt_zero j))

set_option maxHeartbeats 4000000 in
set_option maxRecDepth 100000 in
theorem k_Ring_tell (h : Nat) (rp : Nat) (ly : Nat) (ln : Int32) (ap : Nat) (P : Nat → Int32) (Y : Nat → Int64) (h2 : Nat) (a2 : Nat) (n : Nat) (f : Nat → Int64) (t : Nat) (d : Nat) (pp : Nat → Nat) (hn : n ≤ 48) (ht : t < n) (hf : ∀ x, x < n → ∀ j, lb (f x) j = true → j < n) (hg : gring (rowE n f) t d pp) : CtI l y_Ring_tell (Cond.code y_Ring_tell c_Ring_tell 4 (some .boolean) :: TB) ({ frames := 3, cells := 0, slots := 0, locals := 68 } : Room) D (tysv cI cJ cZ cQ) [.ref h, .ref h2, .int (nI t)] [(h, .inr (3, [.ref rp, .ref ly, .int ln])), (rp, .inr (0, [.ref ap])), (ap, .inl (cI, 48, .inl P)), (ly, .inl (cJ, 48, .inr (.inl Y))), (h2, .inr (1, [.ref a2])), (a2, .inl (cJ, n, .inr (.inl f)))] 0 0 (fun (r : Int32) (u : (Nat → Int32) × (Nat → Int64)) => r = bI true ∧ ∀ j, j < d → u.1 j = nI (pp j)) (fun (u : (Nat → Int32) × (Nat → Int64)) => [(h, .inr (3, [.ref rp, .ref ly, .int (nI d)])), (rp, .inr (0, [.ref ap])), (ap, .inl (cI, 48, .inl u.1)), (ly, .inl (cJ, 48, .inr (.inl u.2))), (h2, .inr (1, [.ref a2])), (a2, .inl (cJ, n, .inr (.inl f)))]) := by
  refine CtI.of c_Ring_tell 4 (some .boolean) (by decide) rfl (Nat.le_of_ble_eq_true rfl) ?_
  intro p e s m args below meth c A Q hA9 hQ9 X hr9 hlk9 hin9
  have hd48 := gD_le (rowE_gin hf) hg.1
  have hd0 := hg.1.1
  refine g_aload_n X 0 d_Ring_tell_0 rfl rfl ?_
  refine g_aload_n X 1 d_Ring_tell_1 rfl rfl ?_
  refine g_iload_n X 2 d_Ring_tell_2 rfl rfl ?_
  refine g_calliV (n := 2) X [.ref h2, .int (nI t)] (k_Ring_measure h rp ly ln Y h2 a2 n f t d (by omega) (by omega) (hf) (hg.1)) t2_97 t2_99 ts_5 t1_7 t2_100 rfl rfl (by decide +kernel) ⟨by decide, by decide⟩ [0, 3, 4, 5] [1, 2] [(rp, .inr (0, [.ref ap])), (ap, .inl (cI, 48, .inl P))] rfl rfl rfl rfl (by decide) 0 rfl rfl rfl rfl (Nat.le_of_ble_eq_true rfl) d_Ring_tell_3 ⟨by decide, by decide⟩ (fun r1 Z_1 hYY => ?_)
  obtain ⟨rfl, hYY⟩ := hYY
  refine g_istore_n X [(3, .int (nI d)), (0, .ref h), (1, .ref h2), (2, .int (nI t))] d_Ring_tell_6 rfl (by decide) rfl ?_
  refine g_iload_n X 3 d_Ring_tell_7 rfl rfl ?_
  refine n_if_ne X 13 d_Ring_tell_8 (by decide) (by omega) (fun h8 => ?_) (fun h8 => absurd h8 (by omega))
  refine g_aload_n X 0 d_Ring_tell_13 rfl rfl ?_
  refine g_aload_n X 1 d_Ring_tell_14 rfl rfl ?_
  refine g_iload_n X 2 d_Ring_tell_15 rfl rfl ?_
  refine g_iload_n X 3 d_Ring_tell_16 rfl rfl ?_
  refine g_callvV (n := 3) X [.ref h2, .int (nI t), .int (nI d)] (k_Ring_write h rp ly ln ap P Z_1 h2 a2 n f t d pp (by omega) (by omega) (hf) (hg) (hYY)) t2_106 t2_108 ts_6 t1_7 t2_109 rfl rfl (by decide +kernel) ⟨by decide, by decide⟩ [2, 0, 1, 3, 4, 5] [] [] rfl rfl rfl rfl (by decide) 0 rfl rfl rfl rfl (Nat.le_of_ble_eq_true rfl) d_Ring_tell_17 ⟨by decide, by decide⟩ (fun P2_2 hPP => ?_)
  refine g_iconst (v := nI 1) X d_Ring_tell_20 rfl ?_
  exact g_zret X hA9 hQ9 hr9 (by first | exact Or.inl rfl | exact Or.inr rfl) hlk9 ⟨P2_2, Z_1⟩ [0, 1, 2, 3, 4, 5] rfl rfl d_Ring_tell_21 (by (try dsimp only); exact (⟨rfl, hPP⟩))

set_option maxHeartbeats 4000000 in
set_option maxRecDepth 100000 in
theorem k_Ring_tellN (h : Nat) (rp : Nat) (ly : Nat) (ln : Int32) (Y : Nat → Int64) (h2 : Nat) (a2 : Nat) (n : Nat) (f : Nat → Int64) (t : Nat) (hn : n ≤ 48) (ht : t < n) (hf : ∀ x, x < n → ∀ j, lb (f x) j = true → j < n) (hd : ∀ k, ¬ gw (rowE n f) (k + 1) t t) : CtI l y_Ring_tell (Cond.code y_Ring_tell c_Ring_tell 4 (some .boolean) :: TB) ({ frames := 2, cells := 0, slots := 0, locals := 52 } : Room) D (tysv cI cJ cZ cQ) [.ref h, .ref h2, .int (nI t)] [(h, .inr (3, [.ref rp, .ref ly, .int ln])), (ly, .inl (cJ, 48, .inr (.inl Y))), (h2, .inr (1, [.ref a2])), (a2, .inl (cJ, n, .inr (.inl f)))] 0 0 (fun (r : Int32) (Z : Nat → Int64) => r = bI false) (fun (Z : Nat → Int64) => [(h, .inr (3, [.ref rp, .ref ly, .int ln])), (ly, .inl (cJ, 48, .inr (.inl Z))), (h2, .inr (1, [.ref a2])), (a2, .inl (cJ, n, .inr (.inl f)))]) := by
  refine CtI.of c_Ring_tell 4 (some .boolean) (by decide) rfl (Nat.le_of_ble_eq_true rfl) ?_
  intro p e s m args below meth c A Q hA9 hQ9 X hr9 hlk9 hin9
  refine g_aload_n X 0 d_Ring_tell_0 rfl rfl ?_
  refine g_aload_n X 1 d_Ring_tell_1 rfl rfl ?_
  refine g_iload_n X 2 d_Ring_tell_2 rfl rfl ?_
  refine g_calliV (n := 2) X [.ref h2, .int (nI t)] (k_Ring_measureN h rp ly ln Y h2 a2 n f t (by omega) (by omega) (hf) (hd)) t2_97 t2_99 ts_5 t1_7 t2_100 rfl rfl (by decide +kernel) ⟨by decide, by decide⟩ [0, 1, 2, 3] [] [] rfl rfl rfl rfl (by decide) 0 rfl rfl rfl rfl (Nat.le_of_ble_eq_true rfl) d_Ring_tell_3 ⟨by decide, by decide⟩ (fun r1 Z_1 hw1 => ?_)
  subst hw1
  refine g_istore_n X [(3, .int (nI 0)), (0, .ref h), (1, .ref h2), (2, .int (nI t))] d_Ring_tell_6 rfl (by decide) rfl ?_
  refine g_iload_n X 3 d_Ring_tell_7 rfl rfl ?_
  refine n_if_ne X 13 d_Ring_tell_8 (by decide) (by omega) (fun h8 => absurd h8 (by decide)) (fun h8 => ?_)
  refine g_iconst (v := nI 0) X d_Ring_tell_11 rfl ?_
  exact g_zret X hA9 hQ9 hr9 (by first | exact Or.inl rfl | exact Or.inr rfl) hlk9 Z_1 [0, 1, 2, 3] rfl rfl d_Ring_tell_12 (rfl)
end
section
variable {l : Launch} {D : va_G} {cI cJ cZ cQ : ClassId}
def isEq (k : Int32) : Bool := decide (k = nI 3)
def isAb (k : Int32) : Bool := !decide (k < 0) && !decide (nI 3 ≤ k)
def isCt (k : Int32) : Bool := decide (k = nI 4)
theorem iota_step {g : Nat → Int32} {i : Nat} (h1 : ∀ k, k < i → g k = nI k) : ∀ k, k < i + 1 → upd g i (nI i) k = nI k := by
  intro k hk
  rcases Nat.lt_or_ge k i with q | q
  · rw [pk_un (by omega)]
    exact h1 k q
  · have e : k = i := by omega
    subst e
    exact pk_us
theorem upd_far {g : Nat → Int32} {i K : Nat} {x y : Int32} (hi : i < K) (h : ∀ k, K ≤ k → k < 48 → g k = y) : ∀ k, K ≤ k → k < 48 → upd g i x k = y := fun k h1 h2 => (pk_un (by omega)).trans (h k h1 h2)
theorem mmaxN {a b : Nat} (ha : a < 2 ^ 31) (hb : b < 2 ^ 31) : (if nI a < nI b then nI b else nI a) = nI (max a b) := by
  by_cases q : a < b
  · rw [if_pos ((nI_ltI ha hb).mpr q), Nat.max_eq_right (by omega)]
  · rw [if_neg (fun h => q ((nI_ltI ha hb).mp h)), Nat.max_eq_left (by omega)]
theorem mminN {a b : Nat} (ha : a < 2 ^ 31) (hb : b < 2 ^ 31) : (if nI b < nI a then nI b else nI a) = nI (min a b) := by
  by_cases q : b < a
  · rw [if_pos ((nI_ltI hb ha).mpr q), Nat.min_eq_right (by omega)]
  · rw [if_neg (fun h => q ((nI_ltI hb ha).mp h)), Nat.min_eq_left (by omega)]
theorem jnum_lt {a b : Nat → Nat} {eq : Nat → Bool} {R x K : Nat} (h : x < K) : jnum a b eq R x < K := Nat.lt_of_le_of_lt (jnum_le R x) h
theorem join_keep {a b : Nat → Nat} {fK g : Nat → Int32} {q K : Nat} (g1 : ∀ x, x < K → g x = nI (jnum a b (fun r => isEq (fK r)) q x)) (h : ¬ fK q = nI 3) : ∀ x, x < K → g x = nI (jnum a b (fun r => isEq (fK r)) (q + 1) x) := by
  intro x hx
  rw [jnum_same (by simp [isEq, h])]
  exact g1 x hx
theorem join_put {a b : Nat → Nat} {fK g g' : Nat → Int32} {q K : Nat} (hK : K ≤ 48) (ha : a q < K) (hb : b q < K) (g1 : ∀ x, x < K → g x = nI (jnum a b (fun r => isEq (fK r)) q x)) (h : fK q = nI 3)
    (hw : ∀ i, i < 48 → g' i = if g i = nI (max (jnum a b (fun r => isEq (fK r)) q (a q)) (jnum a b (fun r => isEq (fK r)) q (b q))) then nI (min (jnum a b (fun r => isEq (fK r)) q (a q)) (jnum a b (fun r => isEq (fK r)) q (b q))) else g i) : ∀ x, x < K → g' x = nI (jnum a b (fun r => isEq (fK r)) (q + 1) x) := by
  intro x hx
  have hq : isEq (fK q) = true := by simp [isEq, h]
  have l1 : jnum a b (fun r => isEq (fK r)) q (a q) < K := jnum_lt ha
  have l2 : jnum a b (fun r => isEq (fK r)) q (b q) < K := jnum_lt hb
  have l3 : jnum a b (fun r => isEq (fK r)) q x < K := jnum_lt hx
  rw [hw x (by omega), g1 x hx]
  simp only [jnum, hq, true_and]
  generalize jnum a b (fun r => isEq (fK r)) q (a q) = M1 at l1 ⊢
  generalize jnum a b (fun r => isEq (fK r)) q (b q) = M2 at l2 ⊢
  generalize jnum a b (fun r => isEq (fK r)) q x = M3 at l3 ⊢
  by_cases e : M3 = max M1 M2
  · rw [if_pos (by rw [e]), if_pos e]
  · rw [if_neg (fun z => e ((nI_eq (by omega) (by omega)).mp z)), if_neg e]
theorem join_far {g g' : Nat → Int32} {K M : Nat} {y : Int32} (hM : M < 48) (g2 : ∀ k, K ≤ k → k < 48 → g k = -1) (hw : ∀ i, i < 48 → g' i = if g i = nI M then y else g i) : ∀ k, K ≤ k → k < 48 → g' k = -1 := by
  intro k h1 h2
  rw [hw k h2, g2 k h1 h2, if_neg]
  intro h
  have := nI_pos (n := M) (by omega)
  rw [← h] at this
  exact this (by decide)
/-! steps -/
theorem steps_0 {a b num : Nat → Nat} {ab : Nat → Bool} {fs : Nat → Int64} (h : ∀ k, k < 48 → fs k = 0) : ∀ x, x < 48 → ∀ j, lb (fs x) j = jst a b num ab 0 x j := by
  intro x hx j
  rw [h x hx, lb_0]
  rfl
theorem steps_keep {a b num : Nat → Nat} {fK : Nat → Int32} {fs : Nat → Int64} {q : Nat} (h : ∀ x, x < 48 → ∀ j, lb (fs x) j = jst a b num (fun r => isAb (fK r)) q x j) (hk : isAb (fK q) = false) : ∀ x, x < 48 → ∀ j, lb (fs x) j = jst a b num (fun r => isAb (fK r)) (q + 1) x j := by
  intro x hx j
  rw [h x hx]
  simp [jst, hk]
theorem lb_mark {f : Nat → Int64} {u w : Nat} (hw : w < 64) (x j : Nat) : lb (vp_updL f u (f u ||| ((1 : Int64) <<< ((nI w).toInt64 &&& 63))) x) j = (lb (f x) j || (decide (x = u) && decide (j = w))) := by
  by_cases e : x = u
  · subst e
    rw [pk_uLs, lb_or, lb_one hw]
    simp
  · rw [pk_uLn e]
    simp [e]
theorem steps_put {a b num : Nat → Nat} {fK : Nat → Int32} {fs : Nat → Int64} {q : Nat} (hb : num (b q) < 48) (h : ∀ x, x < 48 → ∀ j, lb (fs x) j = jst a b num (fun r => isAb (fK r)) q x j) (hk : isAb (fK q) = true) : ∀ x, x < 48 → ∀ j, lb (vp_updL fs (num (a q)) (fs (num (a q)) ||| ((1 : Int64) <<< ((nI (num (b q))).toInt64 &&& 63))) x) j = jst a b num (fun r => isAb (fK r)) (q + 1) x j := by
  intro x hx j
  rw [lb_mark (by omega), h x hx]
  simp only [jst, hk, Bool.true_and]
  rw [show decide (x = num (a q)) = decide (num (a q) = x) by rw [decide_eq_decide]; exact eq_comm, show decide (j = num (b q)) = decide (num (b q) = j) by rw [decide_eq_decide]; exact eq_comm]
theorem isAb_f1 {k : Int32} (h : k < 0) : isAb k = false := by simp [isAb, h]
theorem isAb_f2 {k : Int32} (h : nI 3 ≤ k) : isAb k = false := by simp [isAb, h]
theorem isAb_t {k : Int32} (h1 : ¬ k < 0) (h2 : ¬ nI 3 ≤ k) : isAb k = true := by
  simp only [isAb, Bool.and_eq_true, Bool.not_eq_true', decide_eq_false_iff_not]
  exact ⟨h1, h2⟩
theorem rowE_jst {a b num : Nat → Nat} {ab : Nat → Bool} {fs : Nat → Int64} {R : Nat} (hE : gin (jst a b num ab R) 48) (h : ∀ x, x < 48 → ∀ j, lb (fs x) j = jst a b num ab R x j) : rowE 48 fs = jst a b num ab R := by
  funext x j
  rcases Nat.lt_or_ge x 48 with q | q
  · rw [rowE_in q, h x q]
  · have e1 : rowE 48 fs x j = false := by simp [rowE, Nat.not_lt.mpr q]
    rw [e1]
    cases hb : jst a b num ab R x j with
    | false => rfl
    | true => exact absurd (hE x j hb).1 (by omega)
theorem rowE_mark {f : Nat → Int64} {n u w : Nat} (hu : u < n) (hw : w < 64) : rowE n (vp_updL f u (f u ||| ((1 : Int64) <<< ((nI w).toInt64 &&& 63)))) = gadd (rowE n f) u w := by
  funext x j
  unfold rowE gadd
  rw [lb_mark hw]
  by_cases hx : x < n
  · simp [hx]
  · have : x ≠ u := by omega
    simp [hx, this]
theorem updL_back (f : Nat → Int64) (u : Nat) (w : Int64) : vp_updL (vp_updL f u w) u (f u) = f := by
  funext x
  by_cases e : x = u
  · subst e; exact pk_uLs
  · rw [pk_uLn e, pk_uLn e]
theorem mark_in {f : Nat → Int64} {n u w : Nat} (hw : w < n) (hn : n ≤ 48) (hf : ∀ x, x < n → ∀ j, lb (f x) j = true → j < n) : ∀ x, x < n → ∀ j, lb (vp_updL f u (f u ||| ((1 : Int64) <<< ((nI w).toInt64 &&& 63))) x) j = true → j < n := by
  intro x hx j h
  rw [lb_mark (by omega), Bool.or_eq_true] at h
  rcases h with h | h
  · exact hf x hx j h
  · simp only [Bool.and_eq_true, decide_eq_true_eq] at h
    omega
/-! links -/
def anyB (P : Nat → Bool) : Nat → Bool
  | 0 => false
  | n + 1 => anyB P n || P n
theorem anyB_iff {P : Nat → Bool} : ∀ n, anyB P n = true ↔ ∃ k, k < n ∧ P k = true
  | 0 => by
    constructor
    · intro h; cases h
    · rintro ⟨k, h, -⟩; exact absurd h (Nat.not_lt_zero _)
  | n + 1 => by
    simp only [anyB, Bool.or_eq_true, anyB_iff n]
    constructor
    · rintro (⟨k, h1, h2⟩ | h)
      · exact ⟨k, by omega, h2⟩
      · exact ⟨n, by omega, h⟩
    · rintro ⟨k, h1, h2⟩
      rcases Nat.lt_or_ge k n with q | q
      · exact Or.inl ⟨k, q, h2⟩
      · have e : k = n := by omega
        subst e
        exact Or.inr h2
def lkB (fU : Nat → Int64) (K u x : Nat) : Bool := lb (fU u) x && !anyB (fun k => lb (fU u) k && lb (fU k) x) K
def lsum (F : Nat → Nat) : Nat → Nat
  | 0 => 0
  | n + 1 => lsum F n + F n
theorem lsum_mono (F : Nat → Nat) {a b : Nat} (h : a ≤ b) : lsum F a ≤ lsum F b := by
  induction b with
  | zero =>
    have e : a = 0 := by omega
    subst e
    exact Nat.le_refl _
  | succ b ih =>
    rcases Nat.lt_or_ge b a with q | q
    · have e : a = b + 1 := by omega
      subst e
      exact Nat.le_refl _
    · have := ih q
      simp only [lsum]
      omega
theorem lsum_le {F : Nat → Nat} {B : Nat} (h : ∀ i, F i ≤ B) : ∀ n, lsum F n ≤ n * B
  | 0 => by simp [lsum]
  | n + 1 => by
    have := lsum_le h n
    have := h n
    rw [Nat.succ_mul]
    simp only [lsum]
    omega
theorem any_0 {fU : Nat → Int64} {u : Nat} : ∀ x, lb (0 : Int64) x = anyB (fun k => lb (fU u) k && lb (fU k) x) 0 := fun x => lb_0 x
theorem any_keep {fU : Nat → Int64} {u i : Nat} {w : Int64} (h : ∀ x, lb w x = anyB (fun k => lb (fU u) k && lb (fU k) x) i) (hb : lb (fU u) i = false) : ∀ x, lb w x = anyB (fun k => lb (fU u) k && lb (fU k) x) (i + 1) := by
  intro x
  rw [h x]
  simp [anyB, hb]
theorem any_put {fU : Nat → Int64} {u i : Nat} {w : Int64} (h : ∀ x, lb w x = anyB (fun k => lb (fU u) k && lb (fU k) x) i) (hb : lb (fU u) i = true) : ∀ x, lb (w ||| fU i) x = anyB (fun k => lb (fU u) k && lb (fU k) x) (i + 1) := by
  intro x
  rw [lb_or, h x]
  simp [anyB, hb]
theorem lk_end {fU : Nat → Int64} {K u : Nat} {w : Int64} (h : ∀ x, lb w x = anyB (fun k => lb (fU u) k && lb (fU k) x) K) : lb (fU u &&& (w ^^^ (-1))) = lkB fU K u := by
  funext x
  rw [lb_and]
  unfold lkB
  rcases Nat.lt_or_ge x 64 with q | q
  · rw [lb_not _ q, h x]
  · rw [lb_big q]
    simp
theorem lk_le (fU : Nat → Int64) (K u : Nat) : cnt (lkB fU K u) 64 ≤ 64 := cnt_le _ 64
/-! the longest way -/
theorem ch_0 {E : Nat → Nat → Bool} {fU : Nat → Int64} {x : Nat} {w : Int64} (hx : x < 48) (hE : gin E 48) (hU : ∀ y, y < 48 → ∀ j, lb (fU y) j = true ↔ gov E y j) (hr : ∀ z, lb w z = true ↔ z < 48 ∧ ¬ (fU z &&& ((1 : Int64) <<< ((nI x).toInt64 &&& 63))) = 0) : ∀ z, lb w z = true ↔ ∃ k, 0 < k ∧ gw E k z x := by
  intro z
  rw [hr z, and_ne0]
  constructor
  · rintro ⟨h1, j, hj, h2, h3⟩
    rw [lb_one (by omega), decide_eq_true_eq] at h3
    subst h3
    obtain ⟨k, hk⟩ := (hU z h1 j).mp h2
    exact ⟨k + 1, by omega, hk⟩
  · rintro ⟨k, hk, hw⟩
    have h1 := (gov_lt hE (gov_of hw hk)).1
    exact ⟨h1, x, by omega, (hU z h1 x).mpr (gov_of hw hk), by rw [lb_one (by omega)]; simp⟩
theorem ch_step {E : Nat → Nat → Bool} {fU : Nat → Int64} {x ch : Nat} {w r : Int64} (hE : gin E 48) (hU : ∀ y, y < 48 → ∀ j, lb (fU y) j = true ↔ gov E y j) (hw : ∀ z, lb w z = true ↔ ∃ k, ch < k ∧ gw E k z x) (hr : ∀ z, lb r z = true ↔ z < 48 ∧ ¬ (fU z &&& w) = 0) : ∀ z, lb (w &&& r) z = true ↔ ∃ k, ch + 1 < k ∧ gw E k z x := by
  intro z
  rw [lb_and, Bool.and_eq_true, hr z, and_ne0]
  constructor
  · rintro ⟨-, h1, j, hj, h2, h3⟩
    obtain ⟨k, hk, g1⟩ := (hw j).mp h3
    obtain ⟨k2, g2⟩ := (hU z h1 j).mp h2
    exact ⟨k2 + 1 + k, by omega, gw_add _ _ _ _ _ g2 g1⟩
  · rintro ⟨k, hk, g⟩
    refine ⟨(hw z).mpr ⟨k, by omega, g⟩, ?_⟩
    obtain ⟨k', rfl⟩ : ∃ k', k = k' + 1 := ⟨k - 1, by omega⟩
    obtain ⟨y, hy, g'⟩ := g
    have h1 := (hE _ _ hy).1
    have h2 := (hE _ _ hy).2
    exact ⟨h1, y, by omega, (hU z h1 y).mpr (gov_one hy), (hw y).mpr ⟨k', by omega, g'⟩⟩
theorem ch_low {E : Nat → Nat → Bool} {x ch : Nat} {w : Int64} (hw : ∀ z, lb w z = true ↔ ∃ k, ch < k ∧ gw E k z x) (hne : ¬ w = 0) : 0 < ch + 1 → ∃ z k, ch + 1 ≤ k ∧ gw E k z x := by
  intro _
  obtain ⟨j, hj, hb⟩ := lb_ne0 hne
  obtain ⟨k, hk, g⟩ := (hw j).mp hb
  exact ⟨j, k, hk, g⟩
theorem ch_end {E : Nat → Nat → Bool} {x ch : Nat} {w : Int64} (hE : gin E 48) (hac : ∀ z, ¬ gov E z z) (hw : ∀ z, lb w z = true ↔ ∃ k, ch < k ∧ gw E k z x) (hl : 0 < ch → ∃ z k, ch ≤ k ∧ gw E k z x) (he : 48 ≤ ch ∨ w = 0) : glong E x ch := by
  refine glong_rounds (fun z k hk g => ?_) hl
  rcases he with he | he
  · have := gw_short hE hac (by omega) g
    omega
  · have := (hw z).mpr ⟨k, hk, g⟩
    rw [lb_eq0 he] at this
    cases this

set_option maxHeartbeats 4000000 in
set_option maxRecDepth 100000 in
theorem k_Strata_init (hs : Nat)  : CtV l y_Strata_init (Cond.code y_Strata_init c_Strata_init 1 none :: TB) ({ frames := 2, cells := 6, slots := 147, locals := 36 } : Room) D (tysv cI cJ cZ cQ) [.ref hs] [(hs, .inr (4, [.null, .null, .null, .int (nI 0)]))] 6 147 (fun (u : Nat × Nat × Nat × Nat × Nat × Nat × (Nat → Int32)) => ∀ k, k < 48 → u.2.2.2.2.2.2 k = -1) (fun (u : Nat × Nat × Nat × Nat × Nat × Nat × (Nat → Int32)) => [(hs, .inr (4, [.ref u.1, .ref u.2.2.1, .ref u.2.2.2.2.1, .int (nI 0)])), (u.1, .inr (0, [.ref u.2.1])), (u.2.1, .inl (cI, 48, .inl u.2.2.2.2.2.2)), (u.2.2.1, .inr (1, [.ref u.2.2.2.1])), (u.2.2.2.1, .inl (cJ, 48, .inr (.inl (fun _ => 0)))), (u.2.2.2.2.1, .inr (1, [.ref u.2.2.2.2.2.1])), (u.2.2.2.2.2.1, .inl (cJ, 48, .inr (.inl (fun _ => 0))))]) := by
  refine CtV.of c_Strata_init 1 none (by decide) rfl (Nat.le_of_ble_eq_true rfl) ?_
  intro p e s m args below meth c A Q hA9 hQ9 X hr9 hlk9 hin9
  refine g_aload_n X 0 d_Strata_init_0 rfl rfl ?_
  refine g_objInit X t1_66 t1_23 t1_24 d_Strata_init_1 (by decide) (Nat.le_of_ble_eq_true rfl) ?_
  refine g_aload_n X 0 d_Strata_init_4 rfl rfl ?_
  refine g_new (ci := 0) (fs := [.null]) (C := R_Cells) (T := T_Cells) (N := 1) X t_Cells ty_Cells in_Cells t1_67 t1_32 t1_3 rfl (fun j hj => by rcases (show j = 0 by omega) with rfl <;> rfl) (by decide) (by decide) d_Strata_init_5 (fun q1 => ?_)
  refine g_dup X d_Strata_init_8 rfl ?_
  refine g_bipush (v := nI 48) X d_Strata_init_9 rfl ?_
  refine g_callvI (n := 1) X [.int (nI 48)] (k_Cells_init48 q1 ) t1_68 t1_34 rfl t1_3 t1_35 rfl rfl (by decide +kernel) ⟨by decide, by decide⟩ [1] [0] [(hs, .inr (4, [.null, .null, .null, .int (nI 0)]))] rfl rfl rfl rfl (by decide) rfl rfl (Nat.le_of_ble_eq_true rfl) d_Strata_init_11 ⟨by decide, by decide⟩ (fun ⟨q_2, g_2⟩ w1 => ?_)
  refine g_putF (C := R_Strata) (T := T_Strata) (N := 4) (ty := .object "RelationOrder$Cells") X 0 0 [(hs, .inr (4, [.ref q1, .null, .null, .int (nI 0)])), (q1, .inr (0, [.ref q_2])), (q_2, .inl (cI, 48, .inl g_2))] t_Strata ty_Strata nm_Strata in_Strata rfl rfl (by decide) t1_84 rfl rfl hin9 rfl (by decide +kernel) rfl rfl (Nat.le_of_ble_eq_true rfl) rfl d_Strata_init_14 ?_
  refine g_aload_n X 0 d_Strata_init_17 rfl rfl ?_
  refine g_new (ci := 1) (fs := [.null]) (C := R_Rows) (T := T_Rows) (N := 1) X t_Rows ty_Rows in_Rows t1_69 t1_70 t1_6 rfl (fun j hj => by rcases (show j = 0 by omega) with rfl <;> rfl) (by decide) (by decide) d_Strata_init_18 (fun q3 => ?_)
  refine g_dup X d_Strata_init_21 rfl ?_
  refine g_bipush (v := nI 48) X d_Strata_init_22 rfl ?_
  refine g_callvI (n := 1) X [.int (nI 48)] (k_Rows_init48 q3 ) t1_71 t1_72 rfl t1_6 t1_73 rfl rfl (by decide +kernel) ⟨by decide, by decide⟩ [3] [0, 1, 2] [(hs, .inr (4, [.ref q1, .null, .null, .int (nI 0)])), (q1, .inr (0, [.ref q_2])), (q_2, .inl (cI, 48, .inl g_2))] rfl rfl rfl rfl (by decide) rfl rfl (Nat.le_of_ble_eq_true rfl) d_Strata_init_24 ⟨by decide, by decide⟩ (fun q_4 hw4 => ?_)
  refine g_putF (C := R_Strata) (T := T_Strata) (N := 4) (ty := .object "RelationOrder$Rows") X 0 1 [(hs, .inr (4, [.ref q1, .ref q3, .null, .int (nI 0)])), (q1, .inr (0, [.ref q_2])), (q_2, .inl (cI, 48, .inl g_2)), (q3, .inr (1, [.ref q_4])), (q_4, .inl (cJ, 48, .inr (.inl (fun _ => 0))))] t_Strata ty_Strata nm_Strata in_Strata rfl rfl (by decide) t1_85 rfl rfl hin9 rfl (by decide +kernel) rfl rfl (Nat.le_of_ble_eq_true rfl) rfl d_Strata_init_27 ?_
  refine g_aload_n X 0 d_Strata_init_30 rfl rfl ?_
  refine g_new (ci := 1) (fs := [.null]) (C := R_Rows) (T := T_Rows) (N := 1) X t_Rows ty_Rows in_Rows t1_69 t1_70 t1_6 rfl (fun j hj => by rcases (show j = 0 by omega) with rfl <;> rfl) (by decide) (by decide) d_Strata_init_31 (fun q5 => ?_)
  refine g_dup X d_Strata_init_34 rfl ?_
  refine g_bipush (v := nI 48) X d_Strata_init_35 rfl ?_
  refine g_callvI (n := 1) X [.int (nI 48)] (k_Rows_init48 q5 ) t1_71 t1_72 rfl t1_6 t1_73 rfl rfl (by decide +kernel) ⟨by decide, by decide⟩ [5] [0, 1, 2, 3, 4] [(hs, .inr (4, [.ref q1, .ref q3, .null, .int (nI 0)])), (q1, .inr (0, [.ref q_2])), (q_2, .inl (cI, 48, .inl g_2)), (q3, .inr (1, [.ref q_4])), (q_4, .inl (cJ, 48, .inr (.inl (fun _ => 0))))] rfl rfl rfl rfl (by decide) rfl rfl (Nat.le_of_ble_eq_true rfl) d_Strata_init_37 ⟨by decide, by decide⟩ (fun q_6 hw6 => ?_)
  refine g_putF (C := R_Strata) (T := T_Strata) (N := 4) (ty := .object "RelationOrder$Rows") X 0 2 [(hs, .inr (4, [.ref q1, .ref q3, .ref q5, .int (nI 0)])), (q1, .inr (0, [.ref q_2])), (q_2, .inl (cI, 48, .inl g_2)), (q3, .inr (1, [.ref q_4])), (q_4, .inl (cJ, 48, .inr (.inl (fun _ => 0)))), (q5, .inr (1, [.ref q_6])), (q_6, .inl (cJ, 48, .inr (.inl (fun _ => 0))))] t_Strata ty_Strata nm_Strata in_Strata rfl rfl (by decide) t1_86 rfl rfl hin9 rfl (by decide +kernel) rfl rfl (Nat.le_of_ble_eq_true rfl) rfl d_Strata_init_40 ?_
  refine g_aload_n X 0 d_Strata_init_43 rfl rfl ?_
  refine g_iconst (v := nI 0) X d_Strata_init_44 rfl ?_
  refine g_put (C := R_Strata) (T := T_Strata) (N := 4) (ty := .int) X 0 3 [(hs, .inr (4, [.ref q1, .ref q3, .ref q5, .int (nI 0)])), (q1, .inr (0, [.ref q_2])), (q_2, .inl (cI, 48, .inl g_2)), (q3, .inr (1, [.ref q_4])), (q_4, .inl (cJ, 48, .inr (.inl (fun _ => 0)))), (q5, .inr (1, [.ref q_6])), (q_6, .inl (cJ, 48, .inr (.inl (fun _ => 0))))] t_Strata ty_Strata nm_Strata in_Strata rfl rfl (by decide) t1_87 rfl rfl (by decide +kernel) rfl rfl (Nat.le_of_ble_eq_true rfl) rfl d_Strata_init_45 ?_
  exact g_vret X hA9 hQ9 hr9 hlk9 ⟨q1, q_2, q3, q_4, q5, q_6, g_2⟩ [0, 1, 2, 3, 4, 5, 6] rfl rfl d_Strata_init_48 (by (try dsimp only); exact (w1))

set_option maxHeartbeats 4000000 in
set_option maxRecDepth 100000 in
theorem k_Strata_contexts (hs : Nat) (sn : Nat) (ss : Nat) (su : Nat) (K : Nat)  : CtI l y_Strata_contexts (Cond.code y_Strata_contexts c_Strata_contexts 1 (some .int) :: TB) ({ frames := 0, cells := 0, slots := 0, locals := 0 } : Room) D (tysv cI cJ cZ cQ) [.ref hs] [(hs, .inr (4, [.ref sn, .ref ss, .ref su, .int (nI K)]))] 0 0 (fun (r : Int32) (_ : Unit) => r = nI K) (fun (_ : Unit) => [(hs, .inr (4, [.ref sn, .ref ss, .ref su, .int (nI K)]))]) := by
  refine CtI.of c_Strata_contexts 1 (some .int) (by decide) rfl (Nat.le_of_ble_eq_true rfl) ?_
  intro p e s m args below meth c A Q hA9 hQ9 X hr9 hlk9 hin9
  refine g_aload_n X 0 d_Strata_contexts_0 rfl rfl ?_
  refine g_get (C := R_Strata) (T := T_Strata) (N := 4) X 0 3 in_Strata rfl rfl (by decide) t1_87 rfl rfl d_Strata_contexts_1 ?_
  exact g_iret X hA9 hQ9 hr9 hlk9 () [0] rfl rfl d_Strata_contexts_4 (rfl)

set_option maxHeartbeats 4000000 in
set_option maxRecDepth 100000 in
theorem k_Strata_addContext (hs : Nat) (sn : Nat) (ss : Nat) (su : Nat) (K : Nat) (xn : Nat) (fN : Nat → Int32) (hK : K < 48) : CtI l y_Strata_addContext (Cond.code y_Strata_addContext c_Strata_addContext 1 (some .int) :: TB) ({ frames := 1, cells := 0, slots := 0, locals := 22 } : Room) D (tysv cI cJ cZ cQ) [.ref hs] [(hs, .inr (4, [.ref sn, .ref ss, .ref su, .int (nI K)])), (sn, .inr (0, [.ref xn])), (xn, .inl (cI, 48, .inl fN))] 0 0 (fun (r : Int32) (_ : Unit) => r = nI K) (fun (_ : Unit) => [(hs, .inr (4, [.ref sn, .ref ss, .ref su, .int (nI (K + 1))])), (sn, .inr (0, [.ref xn])), (xn, .inl (cI, 48, .inl (upd fN K (nI K))))]) := by
  refine CtI.of c_Strata_addContext 1 (some .int) (by decide) rfl (Nat.le_of_ble_eq_true rfl) ?_
  intro p e s m args below meth c A Q hA9 hQ9 X hr9 hlk9 hin9
  refine g_aload_n X 0 d_Strata_addContext_0 rfl rfl ?_
  refine g_get (C := R_Strata) (T := T_Strata) (N := 4) X 0 0 in_Strata rfl rfl (by decide) t1_84 rfl rfl d_Strata_addContext_1 ?_
  refine g_aload_n X 0 d_Strata_addContext_4 rfl rfl ?_
  refine g_get (C := R_Strata) (T := T_Strata) (N := 4) X 0 3 in_Strata rfl rfl (by decide) t1_87 rfl rfl d_Strata_addContext_5 ?_
  refine g_aload_n X 0 d_Strata_addContext_8 rfl rfl ?_
  refine g_get (C := R_Strata) (T := T_Strata) (N := 4) X 0 3 in_Strata rfl rfl (by decide) t1_87 rfl rfl d_Strata_addContext_9 ?_
  refine g_callvV (n := 2) X [.int (nI K), .int (nI K)] (k_Cells_put sn xn 48 fN K (nI K) (by omega) (by omega)) t2_35 t2_36 t2_37 t1_3 t2_38 rfl rfl (by decide +kernel) ⟨by decide, by decide⟩ [1, 2] [0] [(hs, .inr (4, [.ref sn, .ref ss, .ref su, .int (nI K)]))] rfl rfl rfl rfl (by decide) 0 rfl rfl rfl rfl (Nat.le_of_ble_eq_true rfl) d_Strata_addContext_12 ⟨by decide, by decide⟩ (fun w9u1 hw1 => ?_)
  refine g_aload_n X 0 d_Strata_addContext_15 rfl rfl ?_
  refine g_dup X d_Strata_addContext_16 rfl ?_
  refine g_get (C := R_Strata) (T := T_Strata) (N := 4) X 0 3 in_Strata rfl rfl (by decide) t1_87 rfl rfl d_Strata_addContext_17 ?_
  refine g_iconst (v := nI 1) X d_Strata_addContext_20 rfl ?_
  refine g_iadd X (nI (K + 1)) d_Strata_addContext_21 (nI_add K 1) ?_
  refine g_put (C := R_Strata) (T := T_Strata) (N := 4) (ty := .int) X 0 3 [(hs, .inr (4, [.ref sn, .ref ss, .ref su, .int (nI (K + 1))])), (sn, .inr (0, [.ref xn])), (xn, .inl (cI, 48, .inl (upd fN K (nI K))))] t_Strata ty_Strata nm_Strata in_Strata rfl rfl (by decide) t1_87 rfl rfl (by decide +kernel) rfl rfl (Nat.le_of_ble_eq_true rfl) rfl d_Strata_addContext_22 ?_
  refine g_aload_n X 0 d_Strata_addContext_25 rfl rfl ?_
  refine g_get (C := R_Strata) (T := T_Strata) (N := 4) X 0 3 in_Strata rfl rfl (by decide) t1_87 rfl rfl d_Strata_addContext_26 ?_
  refine g_iconst (v := nI 1) X d_Strata_addContext_29 rfl ?_
  refine g_isub X (nI ((K + 1) - 1)) d_Strata_addContext_30 (pk_sub (by omega)) ?_
  exact g_iret X hA9 hQ9 hr9 hlk9 () [0, 1, 2] rfl rfl d_Strata_addContext_31 (by rw [Nat.add_sub_cancel])

set_option maxHeartbeats 4000000 in
set_option maxRecDepth 100000 in
theorem k_Strata_numberOf (hs : Nat) (sn : Nat) (ss : Nat) (su : Nat) (K : Nat) (xn : Nat) (fN : Nat → Int32) (j : Nat) (hj : j < 48) : CtI l y_Strata_numberOf (Cond.code y_Strata_numberOf c_Strata_numberOf 2 (some .int) :: TB) ({ frames := 1, cells := 0, slots := 0, locals := 21 } : Room) D (tysv cI cJ cZ cQ) [.ref hs, .int (nI j)] [(hs, .inr (4, [.ref sn, .ref ss, .ref su, .int (nI K)])), (sn, .inr (0, [.ref xn])), (xn, .inl (cI, 48, .inl fN))] 0 0 (fun (r : Int32) (_ : Unit) => r = fN j) (fun (_ : Unit) => [(hs, .inr (4, [.ref sn, .ref ss, .ref su, .int (nI K)])), (sn, .inr (0, [.ref xn])), (xn, .inl (cI, 48, .inl fN))]) := by
  refine CtI.of c_Strata_numberOf 2 (some .int) (by decide) rfl (Nat.le_of_ble_eq_true rfl) ?_
  intro p e s m args below meth c A Q hA9 hQ9 X hr9 hlk9 hin9
  refine g_aload_n X 0 d_Strata_numberOf_0 rfl rfl ?_
  refine g_get (C := R_Strata) (T := T_Strata) (N := 4) X 0 0 in_Strata rfl rfl (by decide) t1_84 rfl rfl d_Strata_numberOf_1 ?_
  refine g_iload_n X 1 d_Strata_numberOf_4 rfl rfl ?_
  refine g_calliV (n := 1) X [.int (nI j)] (k_Cells_at sn xn 48 fN j (by omega) (by omega)) t2_77 t2_78 t2_79 t1_3 t2_80 rfl rfl (by decide +kernel) ⟨by decide, by decide⟩ [1, 2] [0] [(hs, .inr (4, [.ref sn, .ref ss, .ref su, .int (nI K)]))] rfl rfl rfl rfl (by decide) 0 rfl rfl rfl rfl (Nat.le_of_ble_eq_true rfl) d_Strata_numberOf_5 ⟨by decide, by decide⟩ (fun r1 w9u1 hw1 => ?_)
  subst hw1
  exact g_iret X hA9 hQ9 hr9 hlk9 () [0, 1, 2] rfl rfl d_Strata_numberOf_8 (rfl)

set_option maxHeartbeats 4000000 in
set_option maxRecDepth 100000 in
theorem k_Strata_isOver (hs : Nat) (sn : Nat) (ss : Nat) (su : Nat) (K : Nat) (xn : Nat) (fN : Nat → Int32) (xu : Nat) (fU : Nat → Int64) (i : Nat) (j : Nat) (x : Nat) (y : Nat) (hi : i < 48) (hj : j < 48) (hx : fN i = nI x) (hy : fN j = nI y) (hx2 : x < 48) (hy2 : y < 48) : CtI l y_Strata_isOver (Cond.code y_Strata_isOver c_Strata_isOver 3 (some .boolean) :: TB) ({ frames := 2, cells := 0, slots := 0, locals := 43 } : Room) D (tysv cI cJ cZ cQ) [.ref hs, .int (nI i), .int (nI j)] [(hs, .inr (4, [.ref sn, .ref ss, .ref su, .int (nI K)])), (sn, .inr (0, [.ref xn])), (xn, .inl (cI, 48, .inl fN)), (su, .inr (1, [.ref xu])), (xu, .inl (cJ, 48, .inr (.inl fU)))] 0 0 (fun (r : Int32) (_ : Unit) => r = bI (lb (fU x) y)) (fun (_ : Unit) => [(hs, .inr (4, [.ref sn, .ref ss, .ref su, .int (nI K)])), (sn, .inr (0, [.ref xn])), (xn, .inl (cI, 48, .inl fN)), (su, .inr (1, [.ref xu])), (xu, .inl (cJ, 48, .inr (.inl fU)))]) := by
  refine CtI.of c_Strata_isOver 3 (some .boolean) (by decide) rfl (Nat.le_of_ble_eq_true rfl) ?_
  intro p e s m args below meth c A Q hA9 hQ9 X hr9 hlk9 hin9
  refine g_aload_n X 0 d_Strata_isOver_0 rfl rfl ?_
  refine g_get (C := R_Strata) (T := T_Strata) (N := 4) X 0 2 in_Strata rfl rfl (by decide) t1_86 rfl rfl d_Strata_isOver_1 ?_
  refine g_aload_n X 0 d_Strata_isOver_4 rfl rfl ?_
  refine g_get (C := R_Strata) (T := T_Strata) (N := 4) X 0 0 in_Strata rfl rfl (by decide) t1_84 rfl rfl d_Strata_isOver_5 ?_
  refine g_iload_n X 1 d_Strata_isOver_8 rfl rfl ?_
  refine g_calliV (n := 1) X [.int (nI i)] (k_Cells_at sn xn 48 fN i (by omega) (by omega)) t2_77 t2_78 t2_79 t1_3 t2_80 rfl rfl (by decide +kernel) ⟨by decide, by decide⟩ [1, 2] [0, 3, 4] [(hs, .inr (4, [.ref sn, .ref ss, .ref su, .int (nI K)])), (su, .inr (1, [.ref xu])), (xu, .inl (cJ, 48, .inr (.inl fU)))] rfl rfl rfl rfl (by decide) 0 rfl rfl rfl rfl (Nat.le_of_ble_eq_true rfl) d_Strata_isOver_9 ⟨by decide, by decide⟩ (fun r1 w9u1 hw1 => ?_)
  subst hw1
  rw [hx]
  refine g_aload_n X 0 d_Strata_isOver_12 rfl rfl ?_
  refine g_get (C := R_Strata) (T := T_Strata) (N := 4) X 0 0 in_Strata rfl rfl (by decide) t1_84 rfl rfl d_Strata_isOver_13 ?_
  refine g_iload_n X 2 d_Strata_isOver_16 rfl rfl ?_
  refine g_calliV (n := 1) X [.int (nI j)] (k_Cells_at sn xn 48 fN j (by omega) (by omega)) t2_77 t2_78 t2_79 t1_3 t2_80 rfl rfl (by decide +kernel) ⟨by decide, by decide⟩ [3, 4] [0, 1, 2] [(hs, .inr (4, [.ref sn, .ref ss, .ref su, .int (nI K)])), (su, .inr (1, [.ref xu])), (xu, .inl (cJ, 48, .inr (.inl fU)))] rfl rfl rfl rfl (by decide) 0 rfl rfl rfl rfl (Nat.le_of_ble_eq_true rfl) d_Strata_isOver_17 ⟨by decide, by decide⟩ (fun r2 w9u2 hw2 => ?_)
  subst hw2
  rw [hy]
  refine g_calliV (n := 2) X [.int (nI x), .int (nI y)] (k_Rows_has su xu 48 fU x y (by omega) (by omega) (by omega)) t1_181 t1_182 t1_183 t1_6 t1_184 rfl rfl (by decide +kernel) ⟨by decide, by decide⟩ [1, 2] [0, 3, 4] [(hs, .inr (4, [.ref sn, .ref ss, .ref su, .int (nI K)])), (sn, .inr (0, [.ref xn])), (xn, .inl (cI, 48, .inl fN))] rfl rfl rfl rfl (by decide) 0 rfl rfl rfl rfl (Nat.le_of_ble_eq_true rfl) d_Strata_isOver_20 ⟨by decide, by decide⟩ (fun r3 w9u3 hw3 => ?_)
  subst hw3
  exact g_zret X hA9 hQ9 hr9 (bI_01 _) hlk9 () [0, 1, 2, 3, 4] rfl rfl d_Strata_isOver_23 (rfl)

set_option maxHeartbeats 4000000 in
set_option maxRecDepth 100000 in
theorem k_Strata_areJoined (hs : Nat) (sn : Nat) (ss : Nat) (su : Nat) (K : Nat) (xn : Nat) (fN : Nat → Int32) (i : Nat) (j : Nat) (x : Nat) (y : Nat) (hi : i < 48) (hj : j < 48) (hx : fN i = nI x) (hy : fN j = nI y) (hx2 : x < 48) (hy2 : y < 48) : CtI l y_Strata_areJoined (Cond.code y_Strata_areJoined c_Strata_areJoined 3 (some .boolean) :: TB) ({ frames := 1, cells := 0, slots := 0, locals := 21 } : Room) D (tysv cI cJ cZ cQ) [.ref hs, .int (nI i), .int (nI j)] [(hs, .inr (4, [.ref sn, .ref ss, .ref su, .int (nI K)])), (sn, .inr (0, [.ref xn])), (xn, .inl (cI, 48, .inl fN))] 0 0 (fun (r : Int32) (_ : Unit) => r = bI (decide (x = y))) (fun (_ : Unit) => [(hs, .inr (4, [.ref sn, .ref ss, .ref su, .int (nI K)])), (sn, .inr (0, [.ref xn])), (xn, .inl (cI, 48, .inl fN))]) := by
  refine CtI.of c_Strata_areJoined 3 (some .boolean) (by decide) rfl (Nat.le_of_ble_eq_true rfl) ?_
  intro p e s m args below meth c A Q hA9 hQ9 X hr9 hlk9 hin9
  refine g_aload_n X 0 d_Strata_areJoined_0 rfl rfl ?_
  refine g_get (C := R_Strata) (T := T_Strata) (N := 4) X 0 0 in_Strata rfl rfl (by decide) t1_84 rfl rfl d_Strata_areJoined_1 ?_
  refine g_iload_n X 1 d_Strata_areJoined_4 rfl rfl ?_
  refine g_calliV (n := 1) X [.int (nI i)] (k_Cells_at sn xn 48 fN i (by omega) (by omega)) t2_77 t2_78 t2_79 t1_3 t2_80 rfl rfl (by decide +kernel) ⟨by decide, by decide⟩ [1, 2] [0] [(hs, .inr (4, [.ref sn, .ref ss, .ref su, .int (nI K)]))] rfl rfl rfl rfl (by decide) 0 rfl rfl rfl rfl (Nat.le_of_ble_eq_true rfl) d_Strata_areJoined_5 ⟨by decide, by decide⟩ (fun r1 w9u1 hw1 => ?_)
  subst hw1
  rw [hx]
  refine g_aload_n X 0 d_Strata_areJoined_8 rfl rfl ?_
  refine g_get (C := R_Strata) (T := T_Strata) (N := 4) X 0 0 in_Strata rfl rfl (by decide) t1_84 rfl rfl d_Strata_areJoined_9 ?_
  refine g_iload_n X 2 d_Strata_areJoined_12 rfl rfl ?_
  refine g_calliV (n := 1) X [.int (nI j)] (k_Cells_at sn xn 48 fN j (by omega) (by omega)) t2_77 t2_78 t2_79 t1_3 t2_80 rfl rfl (by decide +kernel) ⟨by decide, by decide⟩ [1, 2] [0] [(hs, .inr (4, [.ref sn, .ref ss, .ref su, .int (nI K)]))] rfl rfl rfl rfl (by decide) 0 rfl rfl rfl rfl (Nat.le_of_ble_eq_true rfl) d_Strata_areJoined_13 ⟨by decide, by decide⟩ (fun r2 w9u2 hw2 => ?_)
  subst hw2
  rw [hy]
  refine n_icmp_ne X 23 d_Strata_areJoined_16 (by decide) (by omega) (by omega) (fun h16 => ?_) (fun h16 => ?_)
  · refine g_iconst (v := nI 0) X d_Strata_areJoined_23 rfl ?_
    exact g_zret X hA9 hQ9 hr9 (by first | exact Or.inl rfl | exact Or.inr rfl) hlk9 () [0, 1, 2] rfl rfl d_Strata_areJoined_24 (by simp [bI, h16] <;> rfl)
  · refine g_iconst (v := nI 1) X d_Strata_areJoined_19 rfl ?_
    refine g_goto X 24 d_Strata_areJoined_20 (by decide) ?_
    exact g_zret X hA9 hQ9 hr9 (by first | exact Or.inl rfl | exact Or.inr rfl) hlk9 () [0, 1, 2] rfl rfl d_Strata_areJoined_24 (by simp [bI, h16] <;> rfl)

set_option maxHeartbeats 4000000 in
set_option maxRecDepth 100000 in
theorem k_Strata_join (hs : Nat) (sn : Nat) (ss : Nat) (su : Nat) (K : Nat) (xn : Nat) (fN : Nat → Int32) (hr : Nat) (ru : Nat) (rw : Nat) (rk : Nat) (R : Nat) (sd : Nat) (au : Nat) (aw : Nat) (ak : Nat) (fA : Nat → Int32) (fB : Nat → Int32) (fK : Nat → Int32) (a : Nat → Nat) (b : Nat → Nat) (hK : K ≤ 48) (hR : R ≤ 200) (hA : ∀ r, r < R → fA r = nI (a r) ∧ a r < K) (hB : ∀ r, r < R → fB r = nI (b r) ∧ b r < K) (hN : ∀ k, K ≤ k → k < 48 → fN k = -1) : CtV l y_Strata_join (Cond.code y_Strata_join c_Strata_join 5 none :: TB) ({ frames := 2, cells := 0, slots := 0, locals := 42 } : Room) D (tysv cI cJ cZ cQ) [.ref hs, .ref hr] [(hs, .inr (4, [.ref sn, .ref ss, .ref su, .int (nI K)])), (sn, .inr (0, [.ref xn])), (xn, .inl (cI, 48, .inl fN)), (hr, .inr (2, [.ref ru, .ref rw, .ref rk, .int (nI R), .int (nI sd)])), (ru, .inr (0, [.ref au])), (au, .inl (cI, 200, .inl fA)), (rw, .inr (0, [.ref aw])), (aw, .inl (cI, 200, .inl fB)), (rk, .inr (0, [.ref ak])), (ak, .inl (cI, 200, .inl fK))] 0 0 (fun (g : Nat → Int32) => (∀ x, x < K → g x = nI (jnum a b (fun r => isEq (fK r)) R x)) ∧ ∀ k, K ≤ k → k < 48 → g k = -1) (fun (g : Nat → Int32) => [(hs, .inr (4, [.ref sn, .ref ss, .ref su, .int (nI K)])), (sn, .inr (0, [.ref xn])), (xn, .inl (cI, 48, .inl g)), (hr, .inr (2, [.ref ru, .ref rw, .ref rk, .int (nI R), .int (nI sd)])), (ru, .inr (0, [.ref au])), (au, .inl (cI, 200, .inl fA)), (rw, .inr (0, [.ref aw])), (aw, .inl (cI, 200, .inl fB)), (rk, .inr (0, [.ref ak])), (ak, .inl (cI, 200, .inl fK))]) := by
  refine CtV.of c_Strata_join 5 none (by decide) rfl (Nat.le_of_ble_eq_true rfl) ?_
  intro p e s m args below meth c A Q hA9 hQ9 X hr9 hlk9 hin9
  have L27 : ∀ (N27 : Nat) (q : Nat) (g : Nat → Int32), (R - q) < N27 → (q ≤ R) → (∀ x, x < K → g x = nI (jnum a b (fun r => isEq (fK r)) q x)) → (∀ k, K ≤ k → k < 48 → g k = -1) → G p l e ({ frames := 2, cells := 0, slots := 0, locals := 42 } : Room) s m args below meth c 5 D A s.heap Q 0 0 [(hs, .inr (4, [.ref sn, .ref ss, .ref su, .int (nI K)])), (sn, .inr (0, [.ref xn])), (xn, .inl (cI, 48, .inl g)), (hr, .inr (2, [.ref ru, .ref rw, .ref rk, .int (nI R), .int (nI sd)])), (ru, .inr (0, [.ref au])), (au, .inl (cI, 200, .inl fA)), (rw, .inr (0, [.ref aw])), (aw, .inl (cI, 200, .inl fB)), (rk, .inr (0, [.ref ak])), (ak, .inl (cI, 200, .inl fK))] [(0, .ref hs), (1, .ref hr), (2, .int (nI q))] 27 [] := by
    intro N27
    induction N27 with
    | zero =>
      intro q g hN
      exact absurd hN (Nat.not_lt_zero _)
    | succ N27 ih27 =>
      intro q g hN27 hq g1 g2
      refine g_iload_n X 2 d_Strata_join_27 rfl rfl ?_
      refine g_aload_n X 1 d_Strata_join_28 rfl rfl ?_
      refine g_calliV (n := 0) X [] (k_Relations_made hr ru rw rk R sd ) t2_132 t2_69 t2_70 t1_2 t2_71 rfl rfl (by decide +kernel) ⟨by decide, by decide⟩ [3] [0, 1, 2, 4, 5, 6, 7, 8, 9] [(hs, .inr (4, [.ref sn, .ref ss, .ref su, .int (nI K)])), (sn, .inr (0, [.ref xn])), (xn, .inl (cI, 48, .inl g)), (ru, .inr (0, [.ref au])), (au, .inl (cI, 200, .inl fA)), (rw, .inr (0, [.ref aw])), (aw, .inl (cI, 200, .inl fB)), (rk, .inr (0, [.ref ak])), (ak, .inl (cI, 200, .inl fK))] rfl rfl rfl rfl (by decide) 0 rfl rfl rfl rfl (Nat.le_of_ble_eq_true rfl) d_Strata_join_29 ⟨by decide, by decide⟩ (fun r1 w9u1 hw1 => ?_)
      subst hw1
      refine n_icmp_ge X 96 d_Strata_join_32 (by decide) (by omega) (by omega) (fun h32 => ?_) (fun h32 => ?_)
      · exact g_vret X hA9 hQ9 hr9 hlk9 g [0, 1, 2, 9, 3, 4, 5, 6, 7, 8] rfl rfl d_Strata_join_96 (by have e9 : q = R := (by omega); subst e9; exact ⟨g1, g2⟩)
      · refine g_aload_n X 1 d_Strata_join_35 rfl rfl ?_
        refine g_iload_n X 2 d_Strata_join_36 rfl rfl ?_
        refine g_calliV (n := 1) X [.int (nI q)] (k_Relations_kindOf hr ru rw rk R sd ak fK q (by omega)) t2_133 t2_134 t2_135 t1_2 t2_136 rfl rfl (by decide +kernel) ⟨by decide, by decide⟩ [9, 7, 8] [0, 1, 2, 3, 4, 5, 6] [(hs, .inr (4, [.ref sn, .ref ss, .ref su, .int (nI K)])), (sn, .inr (0, [.ref xn])), (xn, .inl (cI, 48, .inl g)), (ru, .inr (0, [.ref au])), (au, .inl (cI, 200, .inl fA)), (rw, .inr (0, [.ref aw])), (aw, .inl (cI, 200, .inl fB))] rfl rfl rfl rfl (by decide) 0 rfl rfl rfl rfl (Nat.le_of_ble_eq_true rfl) d_Strata_join_37 ⟨by decide, by decide⟩ (fun r2 w9u2 hw2 => ?_)
        subst hw2
        refine g_iconst (v := nI 3) X d_Strata_join_40 rfl ?_
        refine g_icmp_ne X 90 d_Strata_join_41 (by decide) (fun h41 => ?_) (fun h41 => ?_)
        · refine g_iinc X (nI (q + 1)) [(2, .int (nI (q + 1))), (0, .ref hs), (1, .ref hr)] d_Strata_join_90 (k := 2) rfl (nI_1 q) (by decide) rfl ?_
          refine g_goto X 27 d_Strata_join_93 (by decide) ?_
          refine g_ws [(hs, .inr (4, [.ref sn, .ref ss, .ref su, .int (nI K)])), (sn, .inr (0, [.ref xn])), (xn, .inl (cI, 48, .inl g)), (hr, .inr (2, [.ref ru, .ref rw, .ref rk, .int (nI R), .int (nI sd)])), (ru, .inr (0, [.ref au])), (au, .inl (cI, 200, .inl fA)), (rw, .inr (0, [.ref aw])), (aw, .inl (cI, 200, .inl fB)), (rk, .inr (0, [.ref ak])), (ak, .inl (cI, 200, .inl fK))] [0, 1, 2, 7, 3, 4, 5, 6, 8, 9] rfl rfl ?_
          refine g_lv [1, 2, 0] rfl ?_
          exact ih27 (q + 1) g (by omega) (by omega) (by first | exact join_keep g1 h41 | exact join_put hK la lb9 g1 h41 hrep) (by first | exact g2 | exact join_far (Nat.max_lt.mpr ⟨by omega, by omega⟩) g2 hrep)
        · have la := (hA q (by omega)).2
          have lb9 := (hB q (by omega)).2
          have l1 : jnum a b (fun r => isEq (fK r)) q (a q) < K := jnum_lt la
          have l2 : jnum a b (fun r => isEq (fK r)) q (b q) < K := jnum_lt lb9
          refine g_aload_n X 0 d_Strata_join_44 rfl rfl ?_
          refine g_get (C := R_Strata) (T := T_Strata) (N := 4) X 0 0 in_Strata rfl rfl (by decide) t1_84 rfl rfl d_Strata_join_45 ?_
          refine g_aload_n X 1 d_Strata_join_48 rfl rfl ?_
          refine g_iload_n X 2 d_Strata_join_49 rfl rfl ?_
          refine g_calliV (n := 1) X [.int (nI q)] (k_Relations_upperOf hr ru rw rk R sd au fA q (by omega)) t2_138 t2_139 t2_140 t1_2 t2_141 rfl rfl (by decide +kernel) ⟨by decide, by decide⟩ [7, 3, 4] [0, 1, 2, 5, 6, 8, 9] [(hs, .inr (4, [.ref sn, .ref ss, .ref su, .int (nI K)])), (sn, .inr (0, [.ref xn])), (xn, .inl (cI, 48, .inl g)), (rw, .inr (0, [.ref aw])), (aw, .inl (cI, 200, .inl fB)), (rk, .inr (0, [.ref ak])), (ak, .inl (cI, 200, .inl fK))] rfl rfl rfl rfl (by decide) 0 rfl rfl rfl rfl (Nat.le_of_ble_eq_true rfl) d_Strata_join_50 ⟨by decide, by decide⟩ (fun r3 w9u3 hw3 => ?_)
          subst hw3
          rw [(hA q (by omega)).1]
          refine g_calliV (n := 1) X [.int (nI (a q))] (k_Cells_at sn xn 48 g (a q) (by omega) (by omega)) t2_77 t2_78 t2_79 t1_3 t2_80 rfl rfl (by decide +kernel) ⟨by decide, by decide⟩ [1, 2] [0, 3, 4, 5, 6, 7, 8, 9] [(hs, .inr (4, [.ref sn, .ref ss, .ref su, .int (nI K)])), (rw, .inr (0, [.ref aw])), (aw, .inl (cI, 200, .inl fB)), (rk, .inr (0, [.ref ak])), (ak, .inl (cI, 200, .inl fK)), (hr, .inr (2, [.ref ru, .ref rw, .ref rk, .int (nI R), .int (nI sd)])), (ru, .inr (0, [.ref au])), (au, .inl (cI, 200, .inl fA))] rfl rfl rfl rfl (by decide) 0 rfl rfl rfl rfl (Nat.le_of_ble_eq_true rfl) d_Strata_join_53 ⟨by decide, by decide⟩ (fun r4 w9u4 hw4 => ?_)
          subst hw4
          rw [g1 _ la]
          refine g_istore_n X [(3, .int (nI (jnum a b (fun r => isEq (fK r)) q (a q)))), (0, .ref hs), (1, .ref hr), (2, .int (nI q))] d_Strata_join_56 rfl (by decide) rfl ?_
          refine g_aload_n X 0 d_Strata_join_57 rfl rfl ?_
          refine g_get (C := R_Strata) (T := T_Strata) (N := 4) X 0 0 in_Strata rfl rfl (by decide) t1_84 rfl rfl d_Strata_join_58 ?_
          refine g_aload_n X 1 d_Strata_join_61 rfl rfl ?_
          refine g_iload_n X 2 d_Strata_join_62 rfl rfl ?_
          refine g_calliV (n := 1) X [.int (nI q)] (k_Relations_lowerOf hr ru rw rk R sd aw fB q (by omega)) t2_142 t2_143 t2_144 t1_2 t2_145 rfl rfl (by decide +kernel) ⟨by decide, by decide⟩ [5, 1, 2] [0, 3, 4, 6, 7, 8, 9] [(hs, .inr (4, [.ref sn, .ref ss, .ref su, .int (nI K)])), (rk, .inr (0, [.ref ak])), (ak, .inl (cI, 200, .inl fK)), (ru, .inr (0, [.ref au])), (au, .inl (cI, 200, .inl fA)), (sn, .inr (0, [.ref xn])), (xn, .inl (cI, 48, .inl g))] rfl rfl rfl rfl (by decide) 0 rfl rfl rfl rfl (Nat.le_of_ble_eq_true rfl) d_Strata_join_63 ⟨by decide, by decide⟩ (fun r5 w9u5 hw5 => ?_)
          subst hw5
          rw [(hB q (by omega)).1]
          refine g_calliV (n := 1) X [.int (nI (b q))] (k_Cells_at sn xn 48 g (b q) (by omega) (by omega)) t2_77 t2_78 t2_79 t1_3 t2_80 rfl rfl (by decide +kernel) ⟨by decide, by decide⟩ [5, 6] [0, 1, 2, 3, 4, 7, 8, 9] [(hs, .inr (4, [.ref sn, .ref ss, .ref su, .int (nI K)])), (rk, .inr (0, [.ref ak])), (ak, .inl (cI, 200, .inl fK)), (ru, .inr (0, [.ref au])), (au, .inl (cI, 200, .inl fA)), (hr, .inr (2, [.ref ru, .ref rw, .ref rk, .int (nI R), .int (nI sd)])), (rw, .inr (0, [.ref aw])), (aw, .inl (cI, 200, .inl fB))] rfl rfl rfl rfl (by decide) 0 rfl rfl rfl rfl (Nat.le_of_ble_eq_true rfl) d_Strata_join_66 ⟨by decide, by decide⟩ (fun r6 w9u6 hw6 => ?_)
          subst hw6
          rw [g1 _ lb9]
          refine g_istore X [(4, .int (nI (jnum a b (fun r => isEq (fK r)) q (b q)))), (3, .int (nI (jnum a b (fun r => isEq (fK r)) q (a q)))), (0, .ref hs), (1, .ref hr), (2, .int (nI q))] d_Strata_join_69 (by decide) rfl ?_
          refine g_aload_n X 0 d_Strata_join_71 rfl rfl ?_
          refine g_get (C := R_Strata) (T := T_Strata) (N := 4) X 0 0 in_Strata rfl rfl (by decide) t1_84 rfl rfl d_Strata_join_72 ?_
          refine g_iload_n X 3 d_Strata_join_75 rfl rfl ?_
          refine g_iload X 4 d_Strata_join_76 rfl ?_
          refine g_mmax X (nI (max (jnum a b (fun r => isEq (fK r)) q (a q)) (jnum a b (fun r => isEq (fK r)) q (b q)))) (mmaxN (by omega) (by omega)) t2_146 t1_38 t1_4 t1_39 (by decide) (Nat.le_of_ble_eq_true rfl) (by decide) (by decide) d_Strata_join_78 ?_
          refine g_iload_n X 3 d_Strata_join_81 rfl rfl ?_
          refine g_iload X 4 d_Strata_join_82 rfl ?_
          refine g_mmin X (nI (min (jnum a b (fun r => isEq (fK r)) q (a q)) (jnum a b (fun r => isEq (fK r)) q (b q)))) (mminN (by omega) (by omega)) t2_147 t1_77 t1_4 t1_78 (by decide) (Nat.le_of_ble_eq_true rfl) (by decide) (by decide) d_Strata_join_84 ?_
          refine g_callvV (n := 2) X [.int (nI (max (jnum a b (fun r => isEq (fK r)) q (a q)) (jnum a b (fun r => isEq (fK r)) q (b q)))), .int (nI (min (jnum a b (fun r => isEq (fK r)) q (a q)) (jnum a b (fun r => isEq (fK r)) q (b q))))] (k_Cells_replace sn xn 48 g (nI (max (jnum a b (fun r => isEq (fK r)) q (a q)) (jnum a b (fun r => isEq (fK r)) q (b q)))) (nI (min (jnum a b (fun r => isEq (fK r)) q (a q)) (jnum a b (fun r => isEq (fK r)) q (b q)))) (by omega)) t2_148 t2_149 t2_150 t1_3 t2_151 rfl rfl (by decide +kernel) ⟨by decide, by decide⟩ [8, 9] [0, 1, 2, 3, 4, 5, 6, 7] [(hs, .inr (4, [.ref sn, .ref ss, .ref su, .int (nI K)])), (rk, .inr (0, [.ref ak])), (ak, .inl (cI, 200, .inl fK)), (ru, .inr (0, [.ref au])), (au, .inl (cI, 200, .inl fA)), (hr, .inr (2, [.ref ru, .ref rw, .ref rk, .int (nI R), .int (nI sd)])), (rw, .inr (0, [.ref aw])), (aw, .inl (cI, 200, .inl fB))] rfl rfl rfl rfl (by decide) 0 rfl rfl rfl rfl (Nat.le_of_ble_eq_true rfl) d_Strata_join_87 ⟨by decide, by decide⟩ (fun g_7 hrep => ?_)
          refine g_iinc X (nI (q + 1)) [(2, .int (nI (q + 1))), (4, .int (nI (jnum a b (fun r => isEq (fK r)) q (b q)))), (3, .int (nI (jnum a b (fun r => isEq (fK r)) q (a q)))), (0, .ref hs), (1, .ref hr)] d_Strata_join_90 (k := 4) rfl (nI_1 q) (by decide) rfl ?_
          refine g_goto X 27 d_Strata_join_93 (by decide) ?_
          refine g_ws [(hs, .inr (4, [.ref sn, .ref ss, .ref su, .int (nI K)])), (sn, .inr (0, [.ref xn])), (xn, .inl (cI, 48, .inl g_7)), (hr, .inr (2, [.ref ru, .ref rw, .ref rk, .int (nI R), .int (nI sd)])), (ru, .inr (0, [.ref au])), (au, .inl (cI, 200, .inl fA)), (rw, .inr (0, [.ref aw])), (aw, .inl (cI, 200, .inl fB)), (rk, .inr (0, [.ref ak])), (ak, .inl (cI, 200, .inl fK))] [0, 8, 9, 5, 3, 4, 6, 7, 1, 2] rfl rfl ?_
          refine g_lv [3, 4, 0] rfl ?_
          exact ih27 (q + 1) g_7 (by omega) (by omega) (by first | exact join_keep g1 h41 | exact join_put hK la lb9 g1 h41 hrep) (by first | exact g2 | exact join_far (Nat.max_lt.mpr ⟨by omega, by omega⟩) g2 hrep)
  have L2 : ∀ (N2 : Nat) (i : Nat) (g : Nat → Int32), (K - i) < N2 → (i ≤ K) → (∀ k, k < i → g k = nI k) → (∀ k, K ≤ k → k < 48 → g k = -1) → G p l e ({ frames := 2, cells := 0, slots := 0, locals := 42 } : Room) s m args below meth c 5 D A s.heap Q 0 0 [(hs, .inr (4, [.ref sn, .ref ss, .ref su, .int (nI K)])), (sn, .inr (0, [.ref xn])), (xn, .inl (cI, 48, .inl g)), (hr, .inr (2, [.ref ru, .ref rw, .ref rk, .int (nI R), .int (nI sd)])), (ru, .inr (0, [.ref au])), (au, .inl (cI, 200, .inl fA)), (rw, .inr (0, [.ref aw])), (aw, .inl (cI, 200, .inl fB)), (rk, .inr (0, [.ref ak])), (ak, .inl (cI, 200, .inl fK))] [(0, .ref hs), (1, .ref hr), (2, .int (nI i))] 2 [] := by
    intro N2
    induction N2 with
    | zero =>
      intro i g hN
      exact absurd hN (Nat.not_lt_zero _)
    | succ N2 ih2 =>
      intro i g hN2 hi g1 g2
      refine g_iload_n X 2 d_Strata_join_2 rfl rfl ?_
      refine g_aload_n X 0 d_Strata_join_3 rfl rfl ?_
      refine g_get (C := R_Strata) (T := T_Strata) (N := 4) X 0 3 in_Strata rfl rfl (by decide) t1_87 rfl rfl d_Strata_join_4 ?_
      refine n_icmp_ge X 25 d_Strata_join_7 (by decide) (by omega) (by omega) (fun h7 => ?_) (fun h7 => ?_)
      · refine g_iconst (v := nI 0) X d_Strata_join_25 rfl ?_
        refine g_istore_n X [(2, .int (nI 0)), (0, .ref hs), (1, .ref hr)] d_Strata_join_26 rfl (by decide) rfl ?_
        refine g_lv [1, 2, 0] rfl ?_
        exact L27 ((R - 0) + 1) 0 g (Nat.lt_succ_self _) (by omega) (fun x hx => g1 x (by omega)) (g2)
      · refine g_aload_n X 0 d_Strata_join_10 rfl rfl ?_
        refine g_get (C := R_Strata) (T := T_Strata) (N := 4) X 0 0 in_Strata rfl rfl (by decide) t1_84 rfl rfl d_Strata_join_11 ?_
        refine g_iload_n X 2 d_Strata_join_14 rfl rfl ?_
        refine g_iload_n X 2 d_Strata_join_15 rfl rfl ?_
        refine g_callvV (n := 2) X [.int (nI i), .int (nI i)] (k_Cells_put sn xn 48 g i (nI i) (by omega) (by omega)) t2_35 t2_36 t2_37 t1_3 t2_38 rfl rfl (by decide +kernel) ⟨by decide, by decide⟩ [1, 2] [0, 3, 4, 5, 6, 7, 8, 9] [(hs, .inr (4, [.ref sn, .ref ss, .ref su, .int (nI K)])), (hr, .inr (2, [.ref ru, .ref rw, .ref rk, .int (nI R), .int (nI sd)])), (ru, .inr (0, [.ref au])), (au, .inl (cI, 200, .inl fA)), (rw, .inr (0, [.ref aw])), (aw, .inl (cI, 200, .inl fB)), (rk, .inr (0, [.ref ak])), (ak, .inl (cI, 200, .inl fK))] rfl rfl rfl rfl (by decide) 0 rfl rfl rfl rfl (Nat.le_of_ble_eq_true rfl) d_Strata_join_16 ⟨by decide, by decide⟩ (fun w9u8 hw8 => ?_)
        refine g_iinc X (nI (i + 1)) [(2, .int (nI (i + 1))), (0, .ref hs), (1, .ref hr)] d_Strata_join_19 (k := 2) rfl (nI_1 i) (by decide) rfl ?_
        refine g_goto X 2 d_Strata_join_22 (by decide) ?_
        refine g_ws [(hs, .inr (4, [.ref sn, .ref ss, .ref su, .int (nI K)])), (sn, .inr (0, [.ref xn])), (xn, .inl (cI, 48, .inl (upd g i (nI i)))), (hr, .inr (2, [.ref ru, .ref rw, .ref rk, .int (nI R), .int (nI sd)])), (ru, .inr (0, [.ref au])), (au, .inl (cI, 200, .inl fA)), (rw, .inr (0, [.ref aw])), (aw, .inl (cI, 200, .inl fB)), (rk, .inr (0, [.ref ak])), (ak, .inl (cI, 200, .inl fK))] [0, 8, 9, 1, 2, 3, 4, 5, 6, 7] rfl rfl ?_
        refine g_lv [1, 2, 0] rfl ?_
        exact ih2 (i + 1) (upd g i (nI i)) (by omega) (by omega) (iota_step g1) (upd_far (by omega) g2)
  refine g_iconst (v := nI 0) X d_Strata_join_0 rfl ?_
  refine g_istore_n X [(2, .int (nI 0)), (0, .ref hs), (1, .ref hr)] d_Strata_join_1 rfl (by decide) rfl ?_
  refine g_lv [1, 2, 0] rfl ?_
  exact L2 ((K - 0) + 1) 0 fN (Nat.lt_succ_self _) (by omega) (fun j hj => absurd hj (Nat.not_lt_zero j)) (hN)

set_option maxHeartbeats 4000000 in
set_option maxRecDepth 100000 in
theorem k_Strata_rebuild (hs : Nat) (sn : Nat) (ss : Nat) (su : Nat) (K : Nat) (xn : Nat) (fN : Nat → Int32) (xs : Nat) (fS : Nat → Int64) (xu : Nat) (fU : Nat → Int64) (hr : Nat) (ru : Nat) (rw : Nat) (rk : Nat) (R : Nat) (sd : Nat) (au : Nat) (aw : Nat) (ak : Nat) (fA : Nat → Int32) (fB : Nat → Int32) (fK : Nat → Int32) (a : Nat → Nat) (b : Nat → Nat) (hK : K ≤ 48) (hR : R ≤ 200) (hA : ∀ r, r < R → fA r = nI (a r) ∧ a r < K) (hB : ∀ r, r < R → fB r = nI (b r) ∧ b r < K) (hN : ∀ k, K ≤ k → k < 48 → fN k = -1) : CtV l y_Strata_rebuild (Cond.code y_Strata_rebuild c_Strata_rebuild 4 none :: TB) ({ frames := 3, cells := 0, slots := 0, locals := 67 } : Room) D (tysv cI cJ cZ cQ) [.ref hs, .ref hr] [(hs, .inr (4, [.ref sn, .ref ss, .ref su, .int (nI K)])), (sn, .inr (0, [.ref xn])), (xn, .inl (cI, 48, .inl fN)), (ss, .inr (1, [.ref xs])), (xs, .inl (cJ, 48, .inr (.inl fS))), (su, .inr (1, [.ref xu])), (xu, .inl (cJ, 48, .inr (.inl fU))), (hr, .inr (2, [.ref ru, .ref rw, .ref rk, .int (nI R), .int (nI sd)])), (ru, .inr (0, [.ref au])), (au, .inl (cI, 200, .inl fA)), (rw, .inr (0, [.ref aw])), (aw, .inl (cI, 200, .inl fB)), (rk, .inr (0, [.ref ak])), (ak, .inl (cI, 200, .inl fK))] 0 0 (fun (u : (Nat → Int32) × (Nat → Int64) × (Nat → Int64)) => (∀ x, x < K → u.1 x = nI (jnum a b (fun r => isEq (fK r)) R x)) ∧ (∀ k, K ≤ k → k < 48 → u.1 k = -1) ∧ (∀ x, x < 48 → ∀ j, lb (u.2.1 x) j = (jst a b (jnum a b (fun r => isEq (fK r)) R) (fun r => isAb (fK r)) R) x j) ∧ ∀ x, x < 48 → ∀ j, lb (u.2.2 x) j = gwar (jst a b (jnum a b (fun r => isEq (fK r)) R) (fun r => isAb (fK r)) R) 48 x j) (fun (u : (Nat → Int32) × (Nat → Int64) × (Nat → Int64)) => [(hs, .inr (4, [.ref sn, .ref ss, .ref su, .int (nI K)])), (sn, .inr (0, [.ref xn])), (xn, .inl (cI, 48, .inl u.1)), (ss, .inr (1, [.ref xs])), (xs, .inl (cJ, 48, .inr (.inl u.2.1))), (su, .inr (1, [.ref xu])), (xu, .inl (cJ, 48, .inr (.inl u.2.2))), (hr, .inr (2, [.ref ru, .ref rw, .ref rk, .int (nI R), .int (nI sd)])), (ru, .inr (0, [.ref au])), (au, .inl (cI, 200, .inl fA)), (rw, .inr (0, [.ref aw])), (aw, .inl (cI, 200, .inl fB)), (rk, .inr (0, [.ref ak])), (ak, .inl (cI, 200, .inl fK))]) := by
  refine CtV.of c_Strata_rebuild 4 none (by decide) rfl (Nat.le_of_ble_eq_true rfl) ?_
  intro p e s m args below meth c A Q hA9 hQ9 X hr9 hlk9 hin9
  refine g_aload_n X 0 d_Strata_rebuild_0 rfl rfl ?_
  refine g_aload_n X 1 d_Strata_rebuild_1 rfl rfl ?_
  refine g_callvV (n := 1) X [.ref hr] (k_Strata_join hs sn ss su K xn fN hr ru rw rk R sd au aw ak fA fB fK a b (by omega) (by omega) (hA) (hB) (hN)) t2_128 t2_130 ts_7 t1_5 t2_131 rfl rfl (by decide +kernel) ⟨by decide, by decide⟩ [0, 1, 2, 7, 8, 9, 10, 11, 12, 13] [3, 4, 5, 6] [(ss, .inr (1, [.ref xs])), (xs, .inl (cJ, 48, .inr (.inl fS))), (su, .inr (1, [.ref xu])), (xu, .inl (cJ, 48, .inr (.inl fU)))] rfl rfl rfl rfl (by decide) 0 rfl rfl rfl rfl (Nat.le_of_ble_eq_true rfl) d_Strata_rebuild_2 ⟨by decide, by decide⟩ (fun g_1 hj9 => ?_)
  obtain ⟨g1, g2⟩ := hj9
  refine g_aload_n X 0 d_Strata_rebuild_5 rfl rfl ?_
  refine g_get (C := R_Strata) (T := T_Strata) (N := 4) X 4 1 in_Strata rfl rfl (by decide) t1_85 rfl rfl d_Strata_rebuild_6 ?_
  refine g_callvV (n := 0) X [] (k_Rows_clear ss xs 48 fS (by omega)) t2_152 t2_153 t2_154 t1_6 t2_155 rfl rfl (by decide +kernel) ⟨by decide, by decide⟩ [0, 1] [2, 3, 4, 5, 6, 7, 8, 9, 10, 11, 12, 13] [(su, .inr (1, [.ref xu])), (xu, .inl (cJ, 48, .inr (.inl fU))), (hs, .inr (4, [.ref sn, .ref ss, .ref su, .int (nI K)])), (sn, .inr (0, [.ref xn])), (xn, .inl (cI, 48, .inl g_1)), (hr, .inr (2, [.ref ru, .ref rw, .ref rk, .int (nI R), .int (nI sd)])), (ru, .inr (0, [.ref au])), (au, .inl (cI, 200, .inl fA)), (rw, .inr (0, [.ref aw])), (aw, .inl (cI, 200, .inl fB)), (rk, .inr (0, [.ref ak])), (ak, .inl (cI, 200, .inl fK))] rfl rfl rfl rfl (by decide) 0 rfl rfl rfl rfl (Nat.le_of_ble_eq_true rfl) d_Strata_rebuild_9 ⟨by decide, by decide⟩ (fun g_2 hc9 => ?_)
  have L14 : ∀ (N14 : Nat) (q : Nat) (fs : Nat → Int64), (R - q) < N14 → (q ≤ R) → (∀ x, x < 48 → ∀ j, lb (fs x) j = jst a b (jnum a b (fun r => isEq (fK r)) R) (fun r => isAb (fK r)) q x j) → G p l e ({ frames := 3, cells := 0, slots := 0, locals := 67 } : Room) s m args below meth c 4 D A s.heap Q 0 0 [(hs, .inr (4, [.ref sn, .ref ss, .ref su, .int (nI K)])), (sn, .inr (0, [.ref xn])), (xn, .inl (cI, 48, .inl g_1)), (ss, .inr (1, [.ref xs])), (xs, .inl (cJ, 48, .inr (.inl fs))), (su, .inr (1, [.ref xu])), (xu, .inl (cJ, 48, .inr (.inl fU))), (hr, .inr (2, [.ref ru, .ref rw, .ref rk, .int (nI R), .int (nI sd)])), (ru, .inr (0, [.ref au])), (au, .inl (cI, 200, .inl fA)), (rw, .inr (0, [.ref aw])), (aw, .inl (cI, 200, .inl fB)), (rk, .inr (0, [.ref ak])), (ak, .inl (cI, 200, .inl fK))] [(0, .ref hs), (1, .ref hr), (2, .int (nI q))] 14 [] := by
    intro N14
    induction N14 with
    | zero =>
      intro q fs hN
      exact absurd hN (Nat.not_lt_zero _)
    | succ N14 ih14 =>
      intro q fs hN14 hq s1
      refine g_iload_n X 2 d_Strata_rebuild_14 rfl rfl ?_
      refine g_aload_n X 1 d_Strata_rebuild_15 rfl rfl ?_
      refine g_calliV (n := 0) X [] (k_Relations_made hr ru rw rk R sd ) t2_132 t2_69 t2_70 t1_2 t2_71 rfl rfl (by decide +kernel) ⟨by decide, by decide⟩ [7] [0, 1, 2, 3, 4, 5, 6, 8, 9, 10, 11, 12, 13] [(hs, .inr (4, [.ref sn, .ref ss, .ref su, .int (nI K)])), (sn, .inr (0, [.ref xn])), (xn, .inl (cI, 48, .inl g_1)), (ss, .inr (1, [.ref xs])), (xs, .inl (cJ, 48, .inr (.inl fs))), (su, .inr (1, [.ref xu])), (xu, .inl (cJ, 48, .inr (.inl fU))), (ru, .inr (0, [.ref au])), (au, .inl (cI, 200, .inl fA)), (rw, .inr (0, [.ref aw])), (aw, .inl (cI, 200, .inl fB)), (rk, .inr (0, [.ref ak])), (ak, .inl (cI, 200, .inl fK))] rfl rfl rfl rfl (by decide) 0 rfl rfl rfl rfl (Nat.le_of_ble_eq_true rfl) d_Strata_rebuild_16 ⟨by decide, by decide⟩ (fun r3 w9u3 hw3 => ?_)
      subst hw3
      refine n_icmp_ge X 74 d_Strata_rebuild_19 (by decide) (by omega) (by omega) (fun h19 => ?_) (fun h19 => ?_)
      · refine g_aload_n X 0 d_Strata_rebuild_74 rfl rfl ?_
        refine g_get (C := R_Strata) (T := T_Strata) (N := 4) X 0 2 in_Strata rfl rfl (by decide) t1_86 rfl rfl d_Strata_rebuild_75 ?_
        refine g_aload_n X 0 d_Strata_rebuild_78 rfl rfl ?_
        refine g_get (C := R_Strata) (T := T_Strata) (N := 4) X 0 1 in_Strata rfl rfl (by decide) t1_85 rfl rfl d_Strata_rebuild_79 ?_
        refine g_callvV (n := 1) X [.ref ss] (k_Rows_close su xu 48 fU ss xs fs (by omega)) t2_156 t2_157 t2_158 t1_6 t2_159 rfl rfl (by decide +kernel) ⟨by decide, by decide⟩ [5, 6, 3, 4] [0, 1, 2, 7, 8, 9, 10, 11, 12, 13] [(hs, .inr (4, [.ref sn, .ref ss, .ref su, .int (nI K)])), (sn, .inr (0, [.ref xn])), (xn, .inl (cI, 48, .inl g_1)), (ru, .inr (0, [.ref au])), (au, .inl (cI, 200, .inl fA)), (rw, .inr (0, [.ref aw])), (aw, .inl (cI, 200, .inl fB)), (rk, .inr (0, [.ref ak])), (ak, .inl (cI, 200, .inl fK)), (hr, .inr (2, [.ref ru, .ref rw, .ref rk, .int (nI R), .int (nI sd)]))] rfl rfl rfl rfl (by decide) 0 rfl rfl rfl rfl (Nat.le_of_ble_eq_true rfl) d_Strata_rebuild_82 ⟨by decide, by decide⟩ (fun g_4 hcl => ?_)
        have e9 : q = R := by omega
        subst e9
        have hgin : gin (jst a b (jnum a b (fun r => isEq (fK r)) q) (fun r => isAb (fK r)) q) 48 := jst_in hK (fun c9 => jnum_le q c9) (fun r hr8 => ⟨(hA r hr8).2, (hB r hr8).2⟩)
        exact g_vret X hA9 hQ9 hr9 hlk9 ⟨g_1, fs, g_4⟩ [0, 1, 2, 12, 13, 10, 11, 9, 3, 4, 5, 6, 7, 8] rfl rfl d_Strata_rebuild_85 (by (try dsimp only); exact (⟨g1, g2, s1, fun x hx j => by rw [hcl x hx j, rowE_jst hgin s1]⟩))
      · refine g_aload_n X 1 d_Strata_rebuild_22 rfl rfl ?_
        refine g_iload_n X 2 d_Strata_rebuild_23 rfl rfl ?_
        refine g_calliV (n := 1) X [.int (nI q)] (k_Relations_kindOf hr ru rw rk R sd ak fK q (by omega)) t2_133 t2_134 t2_135 t1_2 t2_136 rfl rfl (by decide +kernel) ⟨by decide, by decide⟩ [13, 11, 12] [0, 1, 2, 3, 4, 5, 6, 7, 8, 9, 10] [(hs, .inr (4, [.ref sn, .ref ss, .ref su, .int (nI K)])), (sn, .inr (0, [.ref xn])), (xn, .inl (cI, 48, .inl g_1)), (ss, .inr (1, [.ref xs])), (xs, .inl (cJ, 48, .inr (.inl fs))), (su, .inr (1, [.ref xu])), (xu, .inl (cJ, 48, .inr (.inl fU))), (ru, .inr (0, [.ref au])), (au, .inl (cI, 200, .inl fA)), (rw, .inr (0, [.ref aw])), (aw, .inl (cI, 200, .inl fB))] rfl rfl rfl rfl (by decide) 0 rfl rfl rfl rfl (Nat.le_of_ble_eq_true rfl) d_Strata_rebuild_24 ⟨by decide, by decide⟩ (fun r5 w9u5 hw5 => ?_)
        subst hw5
        refine g_istore_n X [(3, .int (fK q)), (0, .ref hs), (1, .ref hr), (2, .int (nI q))] d_Strata_rebuild_27 rfl (by decide) rfl ?_
        refine g_iload_n X 3 d_Strata_rebuild_28 rfl rfl ?_
        refine g_if_lt X 68 d_Strata_rebuild_29 (by decide) (fun h29 => ?_) (fun h29 => ?_)
        · refine g_iinc X (nI (q + 1)) [(2, .int (nI (q + 1))), (3, .int (fK q)), (0, .ref hs), (1, .ref hr)] d_Strata_rebuild_68 (k := 3) rfl (nI_1 q) (by decide) rfl ?_
          refine g_goto X 14 d_Strata_rebuild_71 (by decide) ?_
          refine g_ws [(hs, .inr (4, [.ref sn, .ref ss, .ref su, .int (nI K)])), (sn, .inr (0, [.ref xn])), (xn, .inl (cI, 48, .inl g_1)), (ss, .inr (1, [.ref xs])), (xs, .inl (cJ, 48, .inr (.inl fs))), (su, .inr (1, [.ref xu])), (xu, .inl (cJ, 48, .inr (.inl fU))), (hr, .inr (2, [.ref ru, .ref rw, .ref rk, .int (nI R), .int (nI sd)])), (ru, .inr (0, [.ref au])), (au, .inl (cI, 200, .inl fA)), (rw, .inr (0, [.ref aw])), (aw, .inl (cI, 200, .inl fB)), (rk, .inr (0, [.ref ak])), (ak, .inl (cI, 200, .inl fK))] [0, 1, 2, 3, 4, 5, 6, 11, 7, 8, 9, 10, 12, 13] rfl rfl ?_
          refine g_lv [2, 3, 0] rfl ?_
          exact ih14 (q + 1) fs (by omega) (by omega) (by first | exact steps_keep s1 (isAb_f1 h29) | exact steps_keep s1 (isAb_f2 h34) | exact steps_put (by omega) s1 (isAb_t h29 h34))
        · refine g_iload_n X 3 d_Strata_rebuild_32 rfl rfl ?_
          refine g_iconst (v := nI 3) X d_Strata_rebuild_33 rfl ?_
          refine g_icmp_ge X 68 d_Strata_rebuild_34 (by decide) (fun h34 => ?_) (fun h34 => ?_)
          · refine g_iinc X (nI (q + 1)) [(2, .int (nI (q + 1))), (3, .int (fK q)), (0, .ref hs), (1, .ref hr)] d_Strata_rebuild_68 (k := 3) rfl (nI_1 q) (by decide) rfl ?_
            refine g_goto X 14 d_Strata_rebuild_71 (by decide) ?_
            refine g_ws [(hs, .inr (4, [.ref sn, .ref ss, .ref su, .int (nI K)])), (sn, .inr (0, [.ref xn])), (xn, .inl (cI, 48, .inl g_1)), (ss, .inr (1, [.ref xs])), (xs, .inl (cJ, 48, .inr (.inl fs))), (su, .inr (1, [.ref xu])), (xu, .inl (cJ, 48, .inr (.inl fU))), (hr, .inr (2, [.ref ru, .ref rw, .ref rk, .int (nI R), .int (nI sd)])), (ru, .inr (0, [.ref au])), (au, .inl (cI, 200, .inl fA)), (rw, .inr (0, [.ref aw])), (aw, .inl (cI, 200, .inl fB)), (rk, .inr (0, [.ref ak])), (ak, .inl (cI, 200, .inl fK))] [0, 1, 2, 3, 4, 5, 6, 11, 7, 8, 9, 10, 12, 13] rfl rfl ?_
            refine g_lv [2, 3, 0] rfl ?_
            exact ih14 (q + 1) fs (by omega) (by omega) (by first | exact steps_keep s1 (isAb_f1 h29) | exact steps_keep s1 (isAb_f2 h34) | exact steps_put (by omega) s1 (isAb_t h29 h34))
          · have la := (hA q (by omega)).2
            have lb9 := (hB q (by omega)).2
            have l1 : (jnum a b (fun r => isEq (fK r)) R) (a q) < K := jnum_lt la
            have l2 : (jnum a b (fun r => isEq (fK r)) R) (b q) < K := jnum_lt lb9
            refine g_aload_n X 0 d_Strata_rebuild_37 rfl rfl ?_
            refine g_get (C := R_Strata) (T := T_Strata) (N := 4) X 0 1 in_Strata rfl rfl (by decide) t1_85 rfl rfl d_Strata_rebuild_38 ?_
            refine g_aload_n X 0 d_Strata_rebuild_41 rfl rfl ?_
            refine g_get (C := R_Strata) (T := T_Strata) (N := 4) X 0 0 in_Strata rfl rfl (by decide) t1_84 rfl rfl d_Strata_rebuild_42 ?_
            refine g_aload_n X 1 d_Strata_rebuild_45 rfl rfl ?_
            refine g_iload_n X 2 d_Strata_rebuild_46 rfl rfl ?_
            refine g_calliV (n := 1) X [.int (nI q)] (k_Relations_upperOf hr ru rw rk R sd au fA q (by omega)) t2_138 t2_139 t2_140 t1_2 t2_141 rfl rfl (by decide +kernel) ⟨by decide, by decide⟩ [11, 7, 8] [0, 1, 2, 3, 4, 5, 6, 9, 10, 12, 13] [(hs, .inr (4, [.ref sn, .ref ss, .ref su, .int (nI K)])), (sn, .inr (0, [.ref xn])), (xn, .inl (cI, 48, .inl g_1)), (ss, .inr (1, [.ref xs])), (xs, .inl (cJ, 48, .inr (.inl fs))), (su, .inr (1, [.ref xu])), (xu, .inl (cJ, 48, .inr (.inl fU))), (rw, .inr (0, [.ref aw])), (aw, .inl (cI, 200, .inl fB)), (rk, .inr (0, [.ref ak])), (ak, .inl (cI, 200, .inl fK))] rfl rfl rfl rfl (by decide) 0 rfl rfl rfl rfl (Nat.le_of_ble_eq_true rfl) d_Strata_rebuild_47 ⟨by decide, by decide⟩ (fun r6 w9u6 hw6 => ?_)
            subst hw6
            rw [(hA q (by omega)).1]
            refine g_calliV (n := 1) X [.int (nI (a q))] (k_Cells_at sn xn 48 g_1 (a q) (by omega) (by omega)) t2_77 t2_78 t2_79 t1_3 t2_80 rfl rfl (by decide +kernel) ⟨by decide, by decide⟩ [1, 2] [0, 3, 4, 5, 6, 7, 8, 9, 10, 11, 12, 13] [(hs, .inr (4, [.ref sn, .ref ss, .ref su, .int (nI K)])), (ss, .inr (1, [.ref xs])), (xs, .inl (cJ, 48, .inr (.inl fs))), (su, .inr (1, [.ref xu])), (xu, .inl (cJ, 48, .inr (.inl fU))), (rw, .inr (0, [.ref aw])), (aw, .inl (cI, 200, .inl fB)), (rk, .inr (0, [.ref ak])), (ak, .inl (cI, 200, .inl fK)), (hr, .inr (2, [.ref ru, .ref rw, .ref rk, .int (nI R), .int (nI sd)])), (ru, .inr (0, [.ref au])), (au, .inl (cI, 200, .inl fA))] rfl rfl rfl rfl (by decide) 0 rfl rfl rfl rfl (Nat.le_of_ble_eq_true rfl) d_Strata_rebuild_50 ⟨by decide, by decide⟩ (fun r7 w9u7 hw7 => ?_)
            subst hw7
            rw [g1 _ la]
            refine g_aload_n X 0 d_Strata_rebuild_53 rfl rfl ?_
            refine g_get (C := R_Strata) (T := T_Strata) (N := 4) X 0 0 in_Strata rfl rfl (by decide) t1_84 rfl rfl d_Strata_rebuild_54 ?_
            refine g_aload_n X 1 d_Strata_rebuild_57 rfl rfl ?_
            refine g_iload_n X 2 d_Strata_rebuild_58 rfl rfl ?_
            refine g_calliV (n := 1) X [.int (nI q)] (k_Relations_lowerOf hr ru rw rk R sd aw fB q (by omega)) t2_142 t2_143 t2_144 t1_2 t2_145 rfl rfl (by decide +kernel) ⟨by decide, by decide⟩ [9, 5, 6] [0, 1, 2, 3, 4, 7, 8, 10, 11, 12, 13] [(hs, .inr (4, [.ref sn, .ref ss, .ref su, .int (nI K)])), (ss, .inr (1, [.ref xs])), (xs, .inl (cJ, 48, .inr (.inl fs))), (su, .inr (1, [.ref xu])), (xu, .inl (cJ, 48, .inr (.inl fU))), (rk, .inr (0, [.ref ak])), (ak, .inl (cI, 200, .inl fK)), (ru, .inr (0, [.ref au])), (au, .inl (cI, 200, .inl fA)), (sn, .inr (0, [.ref xn])), (xn, .inl (cI, 48, .inl g_1))] rfl rfl rfl rfl (by decide) 0 rfl rfl rfl rfl (Nat.le_of_ble_eq_true rfl) d_Strata_rebuild_59 ⟨by decide, by decide⟩ (fun r8 w9u8 hw8 => ?_)
            subst hw8
            rw [(hB q (by omega)).1]
            refine g_calliV (n := 1) X [.int (nI (b q))] (k_Cells_at sn xn 48 g_1 (b q) (by omega) (by omega)) t2_77 t2_78 t2_79 t1_3 t2_80 rfl rfl (by decide +kernel) ⟨by decide, by decide⟩ [9, 10] [0, 1, 2, 3, 4, 5, 6, 7, 8, 11, 12, 13] [(hs, .inr (4, [.ref sn, .ref ss, .ref su, .int (nI K)])), (ss, .inr (1, [.ref xs])), (xs, .inl (cJ, 48, .inr (.inl fs))), (su, .inr (1, [.ref xu])), (xu, .inl (cJ, 48, .inr (.inl fU))), (rk, .inr (0, [.ref ak])), (ak, .inl (cI, 200, .inl fK)), (ru, .inr (0, [.ref au])), (au, .inl (cI, 200, .inl fA)), (hr, .inr (2, [.ref ru, .ref rw, .ref rk, .int (nI R), .int (nI sd)])), (rw, .inr (0, [.ref aw])), (aw, .inl (cI, 200, .inl fB))] rfl rfl rfl rfl (by decide) 0 rfl rfl rfl rfl (Nat.le_of_ble_eq_true rfl) d_Strata_rebuild_62 ⟨by decide, by decide⟩ (fun r9 w9u9 hw9 => ?_)
            subst hw9
            rw [g1 _ lb9]
            refine g_callvV (n := 2) X [.int (nI ((jnum a b (fun r => isEq (fK r)) R) (a q))), .int (nI ((jnum a b (fun r => isEq (fK r)) R) (b q)))] (k_Rows_mark ss xs 48 fs ((jnum a b (fun r => isEq (fK r)) R) (a q)) ((jnum a b (fun r => isEq (fK r)) R) (b q)) (by omega) (by omega) (by omega)) t2_89 t2_90 t2_91 t1_6 t2_92 rfl rfl (by decide +kernel) ⟨by decide, by decide⟩ [1, 2] [0, 3, 4, 5, 6, 7, 8, 9, 10, 11, 12, 13] [(hs, .inr (4, [.ref sn, .ref ss, .ref su, .int (nI K)])), (su, .inr (1, [.ref xu])), (xu, .inl (cJ, 48, .inr (.inl fU))), (rk, .inr (0, [.ref ak])), (ak, .inl (cI, 200, .inl fK)), (ru, .inr (0, [.ref au])), (au, .inl (cI, 200, .inl fA)), (hr, .inr (2, [.ref ru, .ref rw, .ref rk, .int (nI R), .int (nI sd)])), (rw, .inr (0, [.ref aw])), (aw, .inl (cI, 200, .inl fB)), (sn, .inr (0, [.ref xn])), (xn, .inl (cI, 48, .inl g_1))] rfl rfl rfl rfl (by decide) 0 rfl rfl rfl rfl (Nat.le_of_ble_eq_true rfl) d_Strata_rebuild_65 ⟨by decide, by decide⟩ (fun w9u10 hw10 => ?_)
            refine g_iinc X (nI (q + 1)) [(2, .int (nI (q + 1))), (3, .int (fK q)), (0, .ref hs), (1, .ref hr)] d_Strata_rebuild_68 (k := 3) rfl (nI_1 q) (by decide) rfl ?_
            refine g_goto X 14 d_Strata_rebuild_71 (by decide) ?_
            refine g_ws [(hs, .inr (4, [.ref sn, .ref ss, .ref su, .int (nI K)])), (sn, .inr (0, [.ref xn])), (xn, .inl (cI, 48, .inl g_1)), (ss, .inr (1, [.ref xs])), (xs, .inl (cJ, 48, .inr (.inl (vp_updL fs ((jnum a b (fun r => isEq (fK r)) R) (a q)) (fs ((jnum a b (fun r => isEq (fK r)) R) (a q)) ||| ((1 : Int64) <<< ((nI ((jnum a b (fun r => isEq (fK r)) R) (b q))).toInt64 &&& 63))))))), (su, .inr (1, [.ref xu])), (xu, .inl (cJ, 48, .inr (.inl fU))), (hr, .inr (2, [.ref ru, .ref rw, .ref rk, .int (nI R), .int (nI sd)])), (ru, .inr (0, [.ref au])), (au, .inl (cI, 200, .inl fA)), (rw, .inr (0, [.ref aw])), (aw, .inl (cI, 200, .inl fB)), (rk, .inr (0, [.ref ak])), (ak, .inl (cI, 200, .inl fK))] [0, 10, 11, 12, 13, 1, 2, 7, 5, 6, 8, 9, 3, 4] rfl rfl ?_
            refine g_lv [2, 3, 0] rfl ?_
            exact ih14 (q + 1) (vp_updL fs ((jnum a b (fun r => isEq (fK r)) R) (a q)) (fs ((jnum a b (fun r => isEq (fK r)) R) (a q)) ||| ((1 : Int64) <<< ((nI ((jnum a b (fun r => isEq (fK r)) R) (b q))).toInt64 &&& 63)))) (by omega) (by omega) (by first | exact steps_keep s1 (isAb_f1 h29) | exact steps_keep s1 (isAb_f2 h34) | exact steps_put (by omega) s1 (isAb_t h29 h34))
  refine g_iconst (v := nI 0) X d_Strata_rebuild_12 rfl ?_
  refine g_istore_n X [(2, .int (nI 0)), (0, .ref hs), (1, .ref hr)] d_Strata_rebuild_13 rfl (by decide) rfl ?_
  refine g_ws [(hs, .inr (4, [.ref sn, .ref ss, .ref su, .int (nI K)])), (sn, .inr (0, [.ref xn])), (xn, .inl (cI, 48, .inl g_1)), (ss, .inr (1, [.ref xs])), (xs, .inl (cJ, 48, .inr (.inl g_2))), (su, .inr (1, [.ref xu])), (xu, .inl (cJ, 48, .inr (.inl fU))), (hr, .inr (2, [.ref ru, .ref rw, .ref rk, .int (nI R), .int (nI sd)])), (ru, .inr (0, [.ref au])), (au, .inl (cI, 200, .inl fA)), (rw, .inr (0, [.ref aw])), (aw, .inl (cI, 200, .inl fB)), (rk, .inr (0, [.ref ak])), (ak, .inl (cI, 200, .inl fK))] [2, 3, 4, 12, 13, 0, 1, 5, 6, 7, 8, 9, 10, 11] rfl rfl ?_
  refine g_lv [1, 2, 0] rfl ?_
  exact L14 ((R - 0) + 1) 0 g_2 (Nat.lt_succ_self _) (by omega) (steps_0 hc9)

set_option maxHeartbeats 4000000 in
set_option maxRecDepth 100000 in
theorem k_Strata_tellRingWith (hs : Nat) (sn : Nat) (ss : Nat) (su : Nat) (K : Nat) (xs : Nat) (fS : Nat → Int64) (h : Nat) (rp : Nat) (ly : Nat) (ln : Int32) (ap : Nat) (P : Nat → Int32) (Y : Nat → Int64) (u : Nat) (v : Nat) (t : Nat) (d : Nat) (pp : Nat → Nat) (hu : u < 48) (hv : v < 48) (ht : t < 48) (hf : ∀ x, x < 48 → ∀ j, lb (fS x) j = true → j < 48) (hg : gring (gadd (rowE 48 fS) u v) t d pp) : CtI l y_Strata_tellRingWith (Cond.code y_Strata_tellRingWith c_Strata_tellRingWith 8 (some .boolean) :: TB) ({ frames := 4, cells := 0, slots := 0, locals := 91 } : Room) D (tysv cI cJ cZ cQ) [.ref hs, .int (nI u), .int (nI v), .int (nI t), .ref h] [(hs, .inr (4, [.ref sn, .ref ss, .ref su, .int (nI K)])), (ss, .inr (1, [.ref xs])), (xs, .inl (cJ, 48, .inr (.inl fS))), (h, .inr (3, [.ref rp, .ref ly, .int ln])), (rp, .inr (0, [.ref ap])), (ap, .inl (cI, 48, .inl P)), (ly, .inl (cJ, 48, .inr (.inl Y)))] 0 0 (fun (r : Int32) (u : (Nat → Int32) × (Nat → Int64)) => r = bI true ∧ ∀ j, j < d → u.1 j = nI (pp j)) (fun (u : (Nat → Int32) × (Nat → Int64)) => [(hs, .inr (4, [.ref sn, .ref ss, .ref su, .int (nI K)])), (ss, .inr (1, [.ref xs])), (xs, .inl (cJ, 48, .inr (.inl fS))), (h, .inr (3, [.ref rp, .ref ly, .int (nI d)])), (rp, .inr (0, [.ref ap])), (ap, .inl (cI, 48, .inl u.1)), (ly, .inl (cJ, 48, .inr (.inl u.2)))]) := by
  refine CtI.of c_Strata_tellRingWith 8 (some .boolean) (by decide) rfl (Nat.le_of_ble_eq_true rfl) ?_
  intro p e s m args below meth c A Q hA9 hQ9 X hr9 hlk9 hin9
  refine g_aload_n X 0 d_Strata_tellRingWith_0 rfl rfl ?_
  refine g_get (C := R_Strata) (T := T_Strata) (N := 4) X 0 1 in_Strata rfl rfl (by decide) t1_85 rfl rfl d_Strata_tellRingWith_1 ?_
  refine g_iload_n X 1 d_Strata_tellRingWith_4 rfl rfl ?_
  refine g_calllV (n := 1) X [.int (nI u)] (k_Rows_row ss xs 48 fS u (by omega) (by omega)) t1_173 t1_174 t1_175 t1_6 t1_176 rfl rfl (by decide +kernel) ⟨by decide, by decide⟩ [1, 2] [0, 3, 4, 5, 6] [(hs, .inr (4, [.ref sn, .ref ss, .ref su, .int (nI K)])), (h, .inr (3, [.ref rp, .ref ly, .int ln])), (rp, .inr (0, [.ref ap])), (ap, .inl (cI, 48, .inl P)), (ly, .inl (cJ, 48, .inr (.inl Y)))] rfl rfl rfl rfl (by decide) 0 rfl rfl rfl rfl (Nat.le_of_ble_eq_true rfl) d_Strata_tellRingWith_5 ⟨by decide, by decide⟩ (fun r1 w9u1 hw1 => ?_)
  subst hw1
  refine g_lstore X [(5, .long (fS u)), (0, .ref hs), (1, .int (nI u)), (2, .int (nI v)), (3, .int (nI t)), (4, .ref h)] d_Strata_tellRingWith_8 (by decide) rfl ?_
  refine g_aload_n X 0 d_Strata_tellRingWith_10 rfl rfl ?_
  refine g_get (C := R_Strata) (T := T_Strata) (N := 4) X 0 1 in_Strata rfl rfl (by decide) t1_85 rfl rfl d_Strata_tellRingWith_11 ?_
  refine g_iload_n X 1 d_Strata_tellRingWith_14 rfl rfl ?_
  refine g_iload_n X 2 d_Strata_tellRingWith_15 rfl rfl ?_
  refine g_callvV (n := 2) X [.int (nI u), .int (nI v)] (k_Rows_mark ss xs 48 fS u v (by omega) (by omega) (by omega)) t2_89 t2_90 t2_91 t1_6 t2_92 rfl rfl (by decide +kernel) ⟨by decide, by decide⟩ [5, 6] [0, 1, 2, 3, 4] [(hs, .inr (4, [.ref sn, .ref ss, .ref su, .int (nI K)])), (h, .inr (3, [.ref rp, .ref ly, .int ln])), (rp, .inr (0, [.ref ap])), (ap, .inl (cI, 48, .inl P)), (ly, .inl (cJ, 48, .inr (.inl Y)))] rfl rfl rfl rfl (by decide) 0 rfl rfl rfl rfl (Nat.le_of_ble_eq_true rfl) d_Strata_tellRingWith_16 ⟨by decide, by decide⟩ (fun w9u2 hw2 => ?_)
  refine g_aload X 4 d_Strata_tellRingWith_19 rfl ?_
  refine g_aload_n X 0 d_Strata_tellRingWith_21 rfl rfl ?_
  refine g_get (C := R_Strata) (T := T_Strata) (N := 4) X 0 1 in_Strata rfl rfl (by decide) t1_85 rfl rfl d_Strata_tellRingWith_22 ?_
  refine g_iload_n X 3 d_Strata_tellRingWith_25 rfl rfl ?_
  refine g_calliV (n := 2) X [.ref ss, .int (nI t)] (k_Ring_tell h rp ly ln ap P Y ss xs 48 (vp_updL fS u (fS u ||| ((1 : Int64) <<< ((nI v).toInt64 &&& 63)))) t d pp (Nat.le_refl 48) (by omega) (mark_in hv (Nat.le_refl 48) hf) (by rw [rowE_mark hu (by omega)]; exact hg)) t2_93 t2_94 t2_95 t1_7 t2_96 rfl rfl (by decide +kernel) ⟨by decide, by decide⟩ [1, 2, 3, 4, 5, 6] [0] [(hs, .inr (4, [.ref sn, .ref ss, .ref su, .int (nI K)]))] rfl rfl rfl rfl (by decide) 0 rfl rfl rfl rfl (Nat.le_of_ble_eq_true rfl) d_Strata_tellRingWith_26 ⟨by decide, by decide⟩ (fun r3 ⟨P2_3, Z_3⟩ hPP => ?_)
  obtain ⟨rfl, hPP⟩ := hPP
  refine g_istore X [(7, .int (bI true)), (5, .long (fS u)), (0, .ref hs), (1, .int (nI u)), (2, .int (nI v)), (3, .int (nI t)), (4, .ref h)] d_Strata_tellRingWith_29 (by decide) rfl ?_
  refine g_aload_n X 0 d_Strata_tellRingWith_31 rfl rfl ?_
  refine g_get (C := R_Strata) (T := T_Strata) (N := 4) X 0 1 in_Strata rfl rfl (by decide) t1_85 rfl rfl d_Strata_tellRingWith_32 ?_
  refine g_iload_n X 1 d_Strata_tellRingWith_35 rfl rfl ?_
  refine g_lload X 5 d_Strata_tellRingWith_36 rfl ?_
  refine g_callvV (n := 2) X [.int (nI u), .long (fS u)] (k_Rows_put ss xs 48 (vp_updL fS u (fS u ||| ((1 : Int64) <<< ((nI v).toInt64 &&& 63)))) u (fS u) (by omega) (by omega)) t2_115 t2_116 t2_117 t1_6 t2_118 rfl rfl (by decide +kernel) ⟨by decide, by decide⟩ [5, 6] [0, 1, 2, 3, 4] [(hs, .inr (4, [.ref sn, .ref ss, .ref su, .int (nI K)])), (h, .inr (3, [.ref rp, .ref ly, .int (nI d)])), (rp, .inr (0, [.ref ap])), (ap, .inl (cI, 48, .inl P2_3)), (ly, .inl (cJ, 48, .inr (.inl Z_3)))] rfl rfl rfl rfl (by decide) 0 rfl rfl rfl rfl (Nat.le_of_ble_eq_true rfl) d_Strata_tellRingWith_38 ⟨by decide, by decide⟩ (fun w9u4 hw4 => ?_)
  rw [updL_back]
  refine g_iload X 7 d_Strata_tellRingWith_41 rfl ?_
  exact g_zret X hA9 hQ9 hr9 (by first | exact Or.inl rfl | exact Or.inr rfl) hlk9 ⟨P2_3, Z_3⟩ [0, 5, 6, 1, 2, 3, 4] rfl rfl d_Strata_tellRingWith_43 (by (try dsimp only); exact (⟨rfl, hPP⟩))

set_option maxHeartbeats 4000000 in
set_option maxRecDepth 100000 in
theorem k_Strata_tellRingWithN (hs : Nat) (sn : Nat) (ss : Nat) (su : Nat) (K : Nat) (xs : Nat) (fS : Nat → Int64) (h : Nat) (rp : Nat) (ly : Nat) (ln : Int32) (Y : Nat → Int64) (u : Nat) (v : Nat) (t : Nat) (hu : u < 48) (hv : v < 48) (ht : t < 48) (hf : ∀ x, x < 48 → ∀ j, lb (fS x) j = true → j < 48) (hd : ∀ k, ¬ gw (gadd (rowE 48 fS) u v) (k + 1) t t) : CtI l y_Strata_tellRingWith (Cond.code y_Strata_tellRingWith c_Strata_tellRingWith 8 (some .boolean) :: TB) ({ frames := 3, cells := 0, slots := 0, locals := 75 } : Room) D (tysv cI cJ cZ cQ) [.ref hs, .int (nI u), .int (nI v), .int (nI t), .ref h] [(hs, .inr (4, [.ref sn, .ref ss, .ref su, .int (nI K)])), (ss, .inr (1, [.ref xs])), (xs, .inl (cJ, 48, .inr (.inl fS))), (h, .inr (3, [.ref rp, .ref ly, .int ln])), (ly, .inl (cJ, 48, .inr (.inl Y)))] 0 0 (fun (r : Int32) (Z : Nat → Int64) => r = bI false) (fun (Z : Nat → Int64) => [(hs, .inr (4, [.ref sn, .ref ss, .ref su, .int (nI K)])), (ss, .inr (1, [.ref xs])), (xs, .inl (cJ, 48, .inr (.inl fS))), (h, .inr (3, [.ref rp, .ref ly, .int ln])), (ly, .inl (cJ, 48, .inr (.inl Z)))]) := by
  refine CtI.of c_Strata_tellRingWith 8 (some .boolean) (by decide) rfl (Nat.le_of_ble_eq_true rfl) ?_
  intro p e s m args below meth c A Q hA9 hQ9 X hr9 hlk9 hin9
  refine g_aload_n X 0 d_Strata_tellRingWith_0 rfl rfl ?_
  refine g_get (C := R_Strata) (T := T_Strata) (N := 4) X 0 1 in_Strata rfl rfl (by decide) t1_85 rfl rfl d_Strata_tellRingWith_1 ?_
  refine g_iload_n X 1 d_Strata_tellRingWith_4 rfl rfl ?_
  refine g_calllV (n := 1) X [.int (nI u)] (k_Rows_row ss xs 48 fS u (by omega) (by omega)) t1_173 t1_174 t1_175 t1_6 t1_176 rfl rfl (by decide +kernel) ⟨by decide, by decide⟩ [1, 2] [0, 3, 4] [(hs, .inr (4, [.ref sn, .ref ss, .ref su, .int (nI K)])), (h, .inr (3, [.ref rp, .ref ly, .int ln])), (ly, .inl (cJ, 48, .inr (.inl Y)))] rfl rfl rfl rfl (by decide) 0 rfl rfl rfl rfl (Nat.le_of_ble_eq_true rfl) d_Strata_tellRingWith_5 ⟨by decide, by decide⟩ (fun r1 w9u1 hw1 => ?_)
  subst hw1
  refine g_lstore X [(5, .long (fS u)), (0, .ref hs), (1, .int (nI u)), (2, .int (nI v)), (3, .int (nI t)), (4, .ref h)] d_Strata_tellRingWith_8 (by decide) rfl ?_
  refine g_aload_n X 0 d_Strata_tellRingWith_10 rfl rfl ?_
  refine g_get (C := R_Strata) (T := T_Strata) (N := 4) X 0 1 in_Strata rfl rfl (by decide) t1_85 rfl rfl d_Strata_tellRingWith_11 ?_
  refine g_iload_n X 1 d_Strata_tellRingWith_14 rfl rfl ?_
  refine g_iload_n X 2 d_Strata_tellRingWith_15 rfl rfl ?_
  refine g_callvV (n := 2) X [.int (nI u), .int (nI v)] (k_Rows_mark ss xs 48 fS u v (by omega) (by omega) (by omega)) t2_89 t2_90 t2_91 t1_6 t2_92 rfl rfl (by decide +kernel) ⟨by decide, by decide⟩ [3, 4] [0, 1, 2] [(hs, .inr (4, [.ref sn, .ref ss, .ref su, .int (nI K)])), (h, .inr (3, [.ref rp, .ref ly, .int ln])), (ly, .inl (cJ, 48, .inr (.inl Y)))] rfl rfl rfl rfl (by decide) 0 rfl rfl rfl rfl (Nat.le_of_ble_eq_true rfl) d_Strata_tellRingWith_16 ⟨by decide, by decide⟩ (fun w9u2 hw2 => ?_)
  refine g_aload X 4 d_Strata_tellRingWith_19 rfl ?_
  refine g_aload_n X 0 d_Strata_tellRingWith_21 rfl rfl ?_
  refine g_get (C := R_Strata) (T := T_Strata) (N := 4) X 0 1 in_Strata rfl rfl (by decide) t1_85 rfl rfl d_Strata_tellRingWith_22 ?_
  refine g_iload_n X 3 d_Strata_tellRingWith_25 rfl rfl ?_
  refine g_calliV (n := 2) X [.ref ss, .int (nI t)] (k_Ring_tellN h rp ly ln Y ss xs 48 (vp_updL fS u (fS u ||| ((1 : Int64) <<< ((nI v).toInt64 &&& 63)))) t (Nat.le_refl 48) (by omega) (mark_in hv (Nat.le_refl 48) hf) (by rw [rowE_mark hu (by omega)]; exact hd)) t2_93 t2_94 t2_95 t1_7 t2_96 rfl rfl (by decide +kernel) ⟨by decide, by decide⟩ [1, 2, 3, 4] [0] [(hs, .inr (4, [.ref sn, .ref ss, .ref su, .int (nI K)]))] rfl rfl rfl rfl (by decide) 0 rfl rfl rfl rfl (Nat.le_of_ble_eq_true rfl) d_Strata_tellRingWith_26 ⟨by decide, by decide⟩ (fun r3 Z_3 hw3 => ?_)
  subst hw3
  refine g_istore X [(7, .int (bI false)), (5, .long (fS u)), (0, .ref hs), (1, .int (nI u)), (2, .int (nI v)), (3, .int (nI t)), (4, .ref h)] d_Strata_tellRingWith_29 (by decide) rfl ?_
  refine g_aload_n X 0 d_Strata_tellRingWith_31 rfl rfl ?_
  refine g_get (C := R_Strata) (T := T_Strata) (N := 4) X 0 1 in_Strata rfl rfl (by decide) t1_85 rfl rfl d_Strata_tellRingWith_32 ?_
  refine g_iload_n X 1 d_Strata_tellRingWith_35 rfl rfl ?_
  refine g_lload X 5 d_Strata_tellRingWith_36 rfl ?_
  refine g_callvV (n := 2) X [.int (nI u), .long (fS u)] (k_Rows_put ss xs 48 (vp_updL fS u (fS u ||| ((1 : Int64) <<< ((nI v).toInt64 &&& 63)))) u (fS u) (by omega) (by omega)) t2_115 t2_116 t2_117 t1_6 t2_118 rfl rfl (by decide +kernel) ⟨by decide, by decide⟩ [3, 4] [0, 1, 2] [(hs, .inr (4, [.ref sn, .ref ss, .ref su, .int (nI K)])), (h, .inr (3, [.ref rp, .ref ly, .int ln])), (ly, .inl (cJ, 48, .inr (.inl Z_3)))] rfl rfl rfl rfl (by decide) 0 rfl rfl rfl rfl (Nat.le_of_ble_eq_true rfl) d_Strata_tellRingWith_38 ⟨by decide, by decide⟩ (fun w9u4 hw4 => ?_)
  rw [updL_back]
  refine g_iload X 7 d_Strata_tellRingWith_41 rfl ?_
  exact g_zret X hA9 hQ9 hr9 (by first | exact Or.inl rfl | exact Or.inr rfl) hlk9 Z_3 [0, 3, 4, 1, 2] rfl rfl d_Strata_tellRingWith_43 (rfl)
end
section
variable {l : Launch} {D : va_G} {cI cJ cZ cQ : ClassId}
def ctQ (k a1 a2 b1 b2 : Bool) : Bool := k && ((a1 && a2) || (b1 && b2))
def ctP (fK : Nat → Int32) (a b nm : Nat → Nat) (i j r : Nat) : Bool := ctQ (isCt (fK r)) (decide (nm i = nm (a r))) (decide (nm j = nm (b r))) (decide (nm i = nm (b r))) (decide (nm j = nm (a r)))
theorem any_f {P : Nat → Bool} {q : Nat} (h : anyB P q = false) (h2 : P q = false) : anyB P (q + 1) = false := by simp [anyB, h, h2]
theorem any_t {P : Nat → Bool} {q n : Nat} (hq : q < n) (h2 : P q = true) : anyB P n = true := (anyB_iff n).mpr ⟨q, hq, h2⟩
theorem isCt_t {k : Int32} (h : k = nI 4) : isCt k = true := by simp [isCt, h]
theorem isCt_f {k : Int32} (h : ¬ k = nI 4) : isCt k = false := by simp [isCt, h]
theorem le_end {F : Nat → Nat} {k lf i : Nat} (h : lf + lsum F i = k) (hk : k < lsum F i) : False := by omega
theorem cnt_pos_nth {P : Nat → Bool} : ∀ (n k : Nat), k < cnt P n → ∃ x, x < n ∧ P x = true ∧ cnt P x = k
  | 0, k, h => absurd h (Nat.not_lt_zero _)
  | n + 1, k, h => by
    cases hb : P n with
    | false =>
      rw [cnt_f hb] at h
      obtain ⟨x, h1, h2⟩ := cnt_pos_nth n k h
      exact ⟨x, by omega, h2⟩
    | true =>
      rw [cnt_t hb] at h
      rcases Nat.lt_or_ge k (cnt P n) with q | q
      · obtain ⟨x, h1, h2⟩ := cnt_pos_nth n k q
        exact ⟨x, by omega, h2⟩
      · exact ⟨n, by omega, hb, by omega⟩
theorem nth48 {P : Nat → Bool} {k : Nat} (hP : ∀ x, P x = true → x < 48) (h : k < cnt P 64) : ∃ x, x < 48 ∧ P x = true ∧ cnt P x = k := by
  obtain ⟨x, h1, h2, h3⟩ := cnt_pos_nth 64 k h
  exact ⟨x, hP x h2, h2, h3⟩
section CTF
variable {fK : Nat → Int32} {a b nm : Nat → Nat} {i j q : Nat}
theorem ctF0 (h : ¬ fK q = nI 4) : ctP fK a b nm i j q = false := by simp [ctP, ctQ, isCt_f h]
theorem ctF1 (h1 : decide (nm i = nm (a q)) = false) (h2 : decide (nm i = nm (b q)) = false) : ctP fK a b nm i j q = false := by simp [ctP, ctQ, h1, h2]
theorem ctF2 (h1 : decide (nm i = nm (a q)) = false) (h2 : decide (nm j = nm (a q)) = false) : ctP fK a b nm i j q = false := by simp [ctP, ctQ, h1, h2]
theorem ctF3 (h1 : decide (nm j = nm (b q)) = false) (h2 : decide (nm i = nm (b q)) = false) : ctP fK a b nm i j q = false := by simp [ctP, ctQ, h1, h2]
theorem ctF4 (h1 : decide (nm j = nm (b q)) = false) (h2 : decide (nm j = nm (a q)) = false) : ctP fK a b nm i j q = false := by simp [ctP, ctQ, h1, h2]
theorem ctT1 (h : fK q = nI 4) (h1 : decide (nm i = nm (a q)) = true) (h2 : decide (nm j = nm (b q)) = true) : ctP fK a b nm i j q = true := by
  unfold ctP ctQ
  rw [isCt_t h, h1, h2]
  rfl
theorem ctT2 (h : fK q = nI 4) (h1 : decide (nm i = nm (b q)) = true) (h2 : decide (nm j = nm (a q)) = true) : ctP fK a b nm i j q = true := by
  unfold ctP ctQ
  rw [isCt_t h, h1, h2]
  simp
theorem ct_end {P : Nat → Bool} {R : Nat} {d : Bool} (hq : q < R) (h : P q = true) : nI 1 = bI (d || anyB P R) := by
  rw [any_t hq h, Bool.or_true]
  rfl
end CTF
theorem cntN_t {fN : Nat → Int32} {i n : Nat} (h : fN i = nI i) (h1 : n = cnt (fun z => decide (fN z = nI z)) i) : n + 1 = cnt (fun z => decide (fN z = nI z)) (i + 1) := by
  rw [cnt_t (by simp [h]), h1]
theorem cntN_f {fN : Nat → Int32} {i n : Nat} (h : ¬ fN i = nI i) (h1 : n = cnt (fun z => decide (fN z = nI z)) i) : n = cnt (fun z => decide (fN z = nI z)) (i + 1) := by
  rw [cnt_f (by simp [h]), h1]

set_option maxHeartbeats 4000000 in
set_option maxRecDepth 100000 in
theorem k_Strata_areContemporary (hs : Nat) (sn : Nat) (ss : Nat) (su : Nat) (K : Nat) (xn : Nat) (fN : Nat → Int32) (hr : Nat) (ru : Nat) (rw : Nat) (rk : Nat) (R : Nat) (sd : Nat) (au : Nat) (aw : Nat) (ak : Nat) (fA : Nat → Int32) (fB : Nat → Int32) (fK : Nat → Int32) (a : Nat → Nat) (b : Nat → Nat) (nm : Nat → Nat) (i : Nat) (j : Nat) (hK : K ≤ 48) (hR : R ≤ 200) (hA : ∀ r, r < R → fA r = nI (a r) ∧ a r < K) (hB : ∀ r, r < R → fB r = nI (b r) ∧ b r < K) (hN : ∀ z, z < K → fN z = nI (nm z) ∧ nm z < 48) (hi : i < K) (hj : j < K) : CtI l y_Strata_areContemporary (Cond.code y_Strata_areContemporary c_Strata_areContemporary 7 (some .boolean) :: TB) ({ frames := 2, cells := 0, slots := 0, locals := 43 } : Room) D (tysv cI cJ cZ cQ) [.ref hs, .int (nI i), .int (nI j), .ref hr] [(hs, .inr (4, [.ref sn, .ref ss, .ref su, .int (nI K)])), (sn, .inr (0, [.ref xn])), (xn, .inl (cI, 48, .inl fN)), (hr, .inr (2, [.ref ru, .ref rw, .ref rk, .int (nI R), .int (nI sd)])), (ru, .inr (0, [.ref au])), (au, .inl (cI, 200, .inl fA)), (rw, .inr (0, [.ref aw])), (aw, .inl (cI, 200, .inl fB)), (rk, .inr (0, [.ref ak])), (ak, .inl (cI, 200, .inl fK))] 0 0 (fun (r : Int32) (_ : Unit) => r = bI (decide (nm i = nm j) || anyB (ctP fK a b nm i j) R)) (fun (_ : Unit) => [(hs, .inr (4, [.ref sn, .ref ss, .ref su, .int (nI K)])), (sn, .inr (0, [.ref xn])), (xn, .inl (cI, 48, .inl fN)), (hr, .inr (2, [.ref ru, .ref rw, .ref rk, .int (nI R), .int (nI sd)])), (ru, .inr (0, [.ref au])), (au, .inl (cI, 200, .inl fA)), (rw, .inr (0, [.ref aw])), (aw, .inl (cI, 200, .inl fB)), (rk, .inr (0, [.ref ak])), (ak, .inl (cI, 200, .inl fK))]) := by
  refine CtI.of c_Strata_areContemporary 7 (some .boolean) (by decide) rfl (Nat.le_of_ble_eq_true rfl) ?_
  intro p e s m args below meth c A Q hA9 hQ9 X hr9 hlk9 hin9
  refine g_aload_n X 0 d_Strata_areContemporary_0 rfl rfl ?_
  refine g_iload_n X 1 d_Strata_areContemporary_1 rfl rfl ?_
  refine g_iload_n X 2 d_Strata_areContemporary_2 rfl rfl ?_
  refine g_calliV (n := 2) X [.int (nI i), .int (nI j)] (k_Strata_areJoined hs sn ss su K xn fN i j (nm i) (nm j) (by omega) (by omega) ((hN _ (by omega)).1) ((hN _ (by omega)).1) ((hN _ (by omega)).2) ((hN _ (by omega)).2)) t2_232 t2_234 ts_8 t1_5 t2_235 rfl rfl (by decide +kernel) ⟨by decide, by decide⟩ [0, 1, 2] [3, 4, 5, 6, 7, 8, 9] [(hr, .inr (2, [.ref ru, .ref rw, .ref rk, .int (nI R), .int (nI sd)])), (ru, .inr (0, [.ref au])), (au, .inl (cI, 200, .inl fA)), (rw, .inr (0, [.ref aw])), (aw, .inl (cI, 200, .inl fB)), (rk, .inr (0, [.ref ak])), (ak, .inl (cI, 200, .inl fK))] rfl rfl rfl rfl (by decide) 0 rfl rfl rfl rfl (Nat.le_of_ble_eq_true rfl) d_Strata_areContemporary_3 ⟨by decide, by decide⟩ (fun r1 w9u1 hw1 => ?_)
  subst hw1
  refine b_if_eq X 11 d_Strata_areContemporary_6 (by decide) (fun h6 => ?_) (fun h6 => ?_)
  · have L14 : ∀ (N14 : Nat) (q : Nat), (R - q) < N14 → (q ≤ R) → (anyB (ctP fK a b nm i j) q = false) → G p l e ({ frames := 2, cells := 0, slots := 0, locals := 43 } : Room) s m args below meth c 7 D A s.heap Q 0 0 [(hs, .inr (4, [.ref sn, .ref ss, .ref su, .int (nI K)])), (sn, .inr (0, [.ref xn])), (xn, .inl (cI, 48, .inl fN)), (hr, .inr (2, [.ref ru, .ref rw, .ref rk, .int (nI R), .int (nI sd)])), (ru, .inr (0, [.ref au])), (au, .inl (cI, 200, .inl fA)), (rw, .inr (0, [.ref aw])), (aw, .inl (cI, 200, .inl fB)), (rk, .inr (0, [.ref ak])), (ak, .inl (cI, 200, .inl fK))] [(0, .ref hs), (1, .int (nI i)), (2, .int (nI j)), (3, .ref hr), (4, .int (nI q))] 14 [] := by
      intro N14
      induction N14 with
      | zero =>
        intro q hN
        exact absurd hN (Nat.not_lt_zero _)
      | succ N14 ih14 =>
        intro q hN14 hq h1
        refine g_iload X 4 d_Strata_areContemporary_14 rfl ?_
        refine g_aload_n X 3 d_Strata_areContemporary_16 rfl rfl ?_
        refine g_calliV (n := 0) X [] (k_Relations_made hr ru rw rk R sd ) t2_132 t2_69 t2_70 t1_2 t2_71 rfl rfl (by decide +kernel) ⟨by decide, by decide⟩ [3] [0, 1, 2, 4, 5, 6, 7, 8, 9] [(hs, .inr (4, [.ref sn, .ref ss, .ref su, .int (nI K)])), (sn, .inr (0, [.ref xn])), (xn, .inl (cI, 48, .inl fN)), (ru, .inr (0, [.ref au])), (au, .inl (cI, 200, .inl fA)), (rw, .inr (0, [.ref aw])), (aw, .inl (cI, 200, .inl fB)), (rk, .inr (0, [.ref ak])), (ak, .inl (cI, 200, .inl fK))] rfl rfl rfl rfl (by decide) 0 rfl rfl rfl rfl (Nat.le_of_ble_eq_true rfl) d_Strata_areContemporary_17 ⟨by decide, by decide⟩ (fun r2 w9u2 hw2 => ?_)
        subst hw2
        refine n_icmp_ge X 97 d_Strata_areContemporary_20 (by decide) (by omega) (by omega) (fun h20 => ?_) (fun h20 => ?_)
        · refine g_iconst (v := nI 0) X d_Strata_areContemporary_97 rfl ?_
          exact g_zret X hA9 hQ9 hr9 (by first | exact Or.inl rfl | exact Or.inr rfl) hlk9 () [0, 1, 2, 9, 3, 4, 5, 6, 7, 8] rfl rfl d_Strata_areContemporary_98 (by have e9 : q = R := (by omega); subst e9; rw [h6, h1]; rfl)
        · refine g_aload_n X 3 d_Strata_areContemporary_23 rfl rfl ?_
          refine g_iload X 4 d_Strata_areContemporary_24 rfl ?_
          refine g_calliV (n := 1) X [.int (nI q)] (k_Relations_kindOf hr ru rw rk R sd ak fK q (by omega)) t2_133 t2_134 t2_135 t1_2 t2_136 rfl rfl (by decide +kernel) ⟨by decide, by decide⟩ [9, 7, 8] [0, 1, 2, 3, 4, 5, 6] [(hs, .inr (4, [.ref sn, .ref ss, .ref su, .int (nI K)])), (sn, .inr (0, [.ref xn])), (xn, .inl (cI, 48, .inl fN)), (ru, .inr (0, [.ref au])), (au, .inl (cI, 200, .inl fA)), (rw, .inr (0, [.ref aw])), (aw, .inl (cI, 200, .inl fB))] rfl rfl rfl rfl (by decide) 0 rfl rfl rfl rfl (Nat.le_of_ble_eq_true rfl) d_Strata_areContemporary_26 ⟨by decide, by decide⟩ (fun r3 w9u3 hw3 => ?_)
          subst hw3
          refine g_iconst (v := nI 4) X d_Strata_areContemporary_29 rfl ?_
          refine g_icmp_ne X 91 d_Strata_areContemporary_30 (by decide) (fun h30 => ?_) (fun h30 => ?_)
          · refine g_iinc X (nI (q + 1)) [(4, .int (nI (q + 1))), (0, .ref hs), (1, .int (nI i)), (2, .int (nI j)), (3, .ref hr)] d_Strata_areContemporary_91 (k := 4) rfl (nI_1 q) (by decide) rfl ?_
            refine g_goto X 14 d_Strata_areContemporary_94 (by decide) ?_
            refine g_ws [(hs, .inr (4, [.ref sn, .ref ss, .ref su, .int (nI K)])), (sn, .inr (0, [.ref xn])), (xn, .inl (cI, 48, .inl fN)), (hr, .inr (2, [.ref ru, .ref rw, .ref rk, .int (nI R), .int (nI sd)])), (ru, .inr (0, [.ref au])), (au, .inl (cI, 200, .inl fA)), (rw, .inr (0, [.ref aw])), (aw, .inl (cI, 200, .inl fB)), (rk, .inr (0, [.ref ak])), (ak, .inl (cI, 200, .inl fK))] [0, 1, 2, 7, 3, 4, 5, 6, 8, 9] rfl rfl ?_
            refine g_lv [1, 2, 3, 4, 0] rfl ?_
            exact ih14 (q + 1) (by omega) (by omega) (by first | exact any_f h1 (ctF0 h30) | exact any_f h1 (ctF1 h56 h76) | exact any_f h1 (ctF2 h56 h86) | exact any_f h1 (ctF3 h66 h76) | exact any_f h1 (ctF4 h66 h86))
          · have la := (hA q (by omega)).2
            have lb9 := (hB q (by omega)).2
            refine g_aload_n X 3 d_Strata_areContemporary_33 rfl rfl ?_
            refine g_iload X 4 d_Strata_areContemporary_34 rfl ?_
            refine g_calliV (n := 1) X [.int (nI q)] (k_Relations_upperOf hr ru rw rk R sd au fA q (by omega)) t2_138 t2_139 t2_140 t1_2 t2_141 rfl rfl (by decide +kernel) ⟨by decide, by decide⟩ [7, 3, 4] [0, 1, 2, 5, 6, 8, 9] [(hs, .inr (4, [.ref sn, .ref ss, .ref su, .int (nI K)])), (sn, .inr (0, [.ref xn])), (xn, .inl (cI, 48, .inl fN)), (rw, .inr (0, [.ref aw])), (aw, .inl (cI, 200, .inl fB)), (rk, .inr (0, [.ref ak])), (ak, .inl (cI, 200, .inl fK))] rfl rfl rfl rfl (by decide) 0 rfl rfl rfl rfl (Nat.le_of_ble_eq_true rfl) d_Strata_areContemporary_36 ⟨by decide, by decide⟩ (fun r4 w9u4 hw4 => ?_)
            subst hw4
            rw [(hA q (by omega)).1]
            refine g_istore X [(5, .int (nI (a q))), (0, .ref hs), (1, .int (nI i)), (2, .int (nI j)), (3, .ref hr), (4, .int (nI q))] d_Strata_areContemporary_39 (by decide) rfl ?_
            refine g_aload_n X 3 d_Strata_areContemporary_41 rfl rfl ?_
            refine g_iload X 4 d_Strata_areContemporary_42 rfl ?_
            refine g_calliV (n := 1) X [.int (nI q)] (k_Relations_lowerOf hr ru rw rk R sd aw fB q (by omega)) t2_142 t2_143 t2_144 t1_2 t2_145 rfl rfl (by decide +kernel) ⟨by decide, by decide⟩ [7, 3, 4] [0, 1, 2, 5, 6, 8, 9] [(hs, .inr (4, [.ref sn, .ref ss, .ref su, .int (nI K)])), (sn, .inr (0, [.ref xn])), (xn, .inl (cI, 48, .inl fN)), (rk, .inr (0, [.ref ak])), (ak, .inl (cI, 200, .inl fK)), (ru, .inr (0, [.ref au])), (au, .inl (cI, 200, .inl fA))] rfl rfl rfl rfl (by decide) 0 rfl rfl rfl rfl (Nat.le_of_ble_eq_true rfl) d_Strata_areContemporary_44 ⟨by decide, by decide⟩ (fun r5 w9u5 hw5 => ?_)
            subst hw5
            rw [(hB q (by omega)).1]
            refine g_istore X [(6, .int (nI (b q))), (5, .int (nI (a q))), (0, .ref hs), (1, .int (nI i)), (2, .int (nI j)), (3, .ref hr), (4, .int (nI q))] d_Strata_areContemporary_47 (by decide) rfl ?_
            refine g_aload_n X 0 d_Strata_areContemporary_49 rfl rfl ?_
            refine g_iload_n X 1 d_Strata_areContemporary_50 rfl rfl ?_
            refine g_iload X 5 d_Strata_areContemporary_51 rfl ?_
            refine g_calliV (n := 2) X [.int (nI i), .int (nI (a q))] (k_Strata_areJoined hs sn ss su K xn fN i (a q) (nm i) (nm (a q)) (by omega) (by omega) ((hN _ (by omega)).1) ((hN _ (by omega)).1) ((hN _ (by omega)).2) ((hN _ (by omega)).2)) t2_232 t2_234 ts_8 t1_5 t2_235 rfl rfl (by decide +kernel) ⟨by decide, by decide⟩ [0, 1, 2] [3, 4, 5, 6, 7, 8, 9] [(rk, .inr (0, [.ref ak])), (ak, .inl (cI, 200, .inl fK)), (ru, .inr (0, [.ref au])), (au, .inl (cI, 200, .inl fA)), (hr, .inr (2, [.ref ru, .ref rw, .ref rk, .int (nI R), .int (nI sd)])), (rw, .inr (0, [.ref aw])), (aw, .inl (cI, 200, .inl fB))] rfl rfl rfl rfl (by decide) 0 rfl rfl rfl rfl (Nat.le_of_ble_eq_true rfl) d_Strata_areContemporary_53 ⟨by decide, by decide⟩ (fun r6 w9u6 hw6 => ?_)
            subst hw6
            refine b_if_eq X 69 d_Strata_areContemporary_56 (by decide) (fun h56 => ?_) (fun h56 => ?_)
            · refine g_aload_n X 0 d_Strata_areContemporary_69 rfl rfl ?_
              refine g_iload_n X 1 d_Strata_areContemporary_70 rfl rfl ?_
              refine g_iload X 6 d_Strata_areContemporary_71 rfl ?_
              refine g_calliV (n := 2) X [.int (nI i), .int (nI (b q))] (k_Strata_areJoined hs sn ss su K xn fN i (b q) (nm i) (nm (b q)) (by omega) (by omega) ((hN _ (by omega)).1) ((hN _ (by omega)).1) ((hN _ (by omega)).2) ((hN _ (by omega)).2)) t2_232 t2_234 ts_8 t1_5 t2_235 rfl rfl (by decide +kernel) ⟨by decide, by decide⟩ [7, 8, 9] [0, 1, 2, 3, 4, 5, 6] [(rk, .inr (0, [.ref ak])), (ak, .inl (cI, 200, .inl fK)), (ru, .inr (0, [.ref au])), (au, .inl (cI, 200, .inl fA)), (hr, .inr (2, [.ref ru, .ref rw, .ref rk, .int (nI R), .int (nI sd)])), (rw, .inr (0, [.ref aw])), (aw, .inl (cI, 200, .inl fB))] rfl rfl rfl rfl (by decide) 0 rfl rfl rfl rfl (Nat.le_of_ble_eq_true rfl) d_Strata_areContemporary_73 ⟨by decide, by decide⟩ (fun r7 w9u7 hw7 => ?_)
              subst hw7
              refine b_if_eq X 91 d_Strata_areContemporary_76 (by decide) (fun h76 => ?_) (fun h76 => ?_)
              · refine g_iinc X (nI (q + 1)) [(4, .int (nI (q + 1))), (6, .int (nI (b q))), (5, .int (nI (a q))), (0, .ref hs), (1, .int (nI i)), (2, .int (nI j)), (3, .ref hr)] d_Strata_areContemporary_91 (k := 6) rfl (nI_1 q) (by decide) rfl ?_
                refine g_goto X 14 d_Strata_areContemporary_94 (by decide) ?_
                refine g_ws [(hs, .inr (4, [.ref sn, .ref ss, .ref su, .int (nI K)])), (sn, .inr (0, [.ref xn])), (xn, .inl (cI, 48, .inl fN)), (hr, .inr (2, [.ref ru, .ref rw, .ref rk, .int (nI R), .int (nI sd)])), (ru, .inr (0, [.ref au])), (au, .inl (cI, 200, .inl fA)), (rw, .inr (0, [.ref aw])), (aw, .inl (cI, 200, .inl fB)), (rk, .inr (0, [.ref ak])), (ak, .inl (cI, 200, .inl fK))] [7, 8, 9, 4, 2, 3, 5, 6, 0, 1] rfl rfl ?_
                refine g_lv [3, 4, 5, 6, 0] rfl ?_
                exact ih14 (q + 1) (by omega) (by omega) (by first | exact any_f h1 (ctF0 h30) | exact any_f h1 (ctF1 h56 h76) | exact any_f h1 (ctF2 h56 h86) | exact any_f h1 (ctF3 h66 h76) | exact any_f h1 (ctF4 h66 h86))
              · refine g_aload_n X 0 d_Strata_areContemporary_79 rfl rfl ?_
                refine g_iload_n X 2 d_Strata_areContemporary_80 rfl rfl ?_
                refine g_iload X 5 d_Strata_areContemporary_81 rfl ?_
                refine g_calliV (n := 2) X [.int (nI j), .int (nI (a q))] (k_Strata_areJoined hs sn ss su K xn fN j (a q) (nm j) (nm (a q)) (by omega) (by omega) ((hN _ (by omega)).1) ((hN _ (by omega)).1) ((hN _ (by omega)).2) ((hN _ (by omega)).2)) t2_232 t2_234 ts_8 t1_5 t2_235 rfl rfl (by decide +kernel) ⟨by decide, by decide⟩ [7, 8, 9] [0, 1, 2, 3, 4, 5, 6] [(rk, .inr (0, [.ref ak])), (ak, .inl (cI, 200, .inl fK)), (ru, .inr (0, [.ref au])), (au, .inl (cI, 200, .inl fA)), (hr, .inr (2, [.ref ru, .ref rw, .ref rk, .int (nI R), .int (nI sd)])), (rw, .inr (0, [.ref aw])), (aw, .inl (cI, 200, .inl fB))] rfl rfl rfl rfl (by decide) 0 rfl rfl rfl rfl (Nat.le_of_ble_eq_true rfl) d_Strata_areContemporary_83 ⟨by decide, by decide⟩ (fun r8 w9u8 hw8 => ?_)
                subst hw8
                refine b_if_eq X 91 d_Strata_areContemporary_86 (by decide) (fun h86 => ?_) (fun h86 => ?_)
                · refine g_iinc X (nI (q + 1)) [(4, .int (nI (q + 1))), (6, .int (nI (b q))), (5, .int (nI (a q))), (0, .ref hs), (1, .int (nI i)), (2, .int (nI j)), (3, .ref hr)] d_Strata_areContemporary_91 (k := 6) rfl (nI_1 q) (by decide) rfl ?_
                  refine g_goto X 14 d_Strata_areContemporary_94 (by decide) ?_
                  refine g_ws [(hs, .inr (4, [.ref sn, .ref ss, .ref su, .int (nI K)])), (sn, .inr (0, [.ref xn])), (xn, .inl (cI, 48, .inl fN)), (hr, .inr (2, [.ref ru, .ref rw, .ref rk, .int (nI R), .int (nI sd)])), (ru, .inr (0, [.ref au])), (au, .inl (cI, 200, .inl fA)), (rw, .inr (0, [.ref aw])), (aw, .inl (cI, 200, .inl fB)), (rk, .inr (0, [.ref ak])), (ak, .inl (cI, 200, .inl fK))] [7, 8, 9, 4, 2, 3, 5, 6, 0, 1] rfl rfl ?_
                  refine g_lv [3, 4, 5, 6, 0] rfl ?_
                  exact ih14 (q + 1) (by omega) (by omega) (by first | exact any_f h1 (ctF0 h30) | exact any_f h1 (ctF1 h56 h76) | exact any_f h1 (ctF2 h56 h86) | exact any_f h1 (ctF3 h66 h76) | exact any_f h1 (ctF4 h66 h86))
                · refine g_iconst (v := nI 1) X d_Strata_areContemporary_89 rfl ?_
                  exact g_zret X hA9 hQ9 hr9 (by first | exact Or.inl rfl | exact Or.inr rfl) hlk9 () [7, 8, 9, 4, 2, 3, 5, 6, 0, 1] rfl rfl d_Strata_areContemporary_90 (by first | exact ct_end (q := q) (by omega) (ctT1 h30 h56 h66) | exact ct_end (q := q) (by omega) (ctT2 h30 h76 h86))
            · refine g_aload_n X 0 d_Strata_areContemporary_59 rfl rfl ?_
              refine g_iload_n X 2 d_Strata_areContemporary_60 rfl rfl ?_
              refine g_iload X 6 d_Strata_areContemporary_61 rfl ?_
              refine g_calliV (n := 2) X [.int (nI j), .int (nI (b q))] (k_Strata_areJoined hs sn ss su K xn fN j (b q) (nm j) (nm (b q)) (by omega) (by omega) ((hN _ (by omega)).1) ((hN _ (by omega)).1) ((hN _ (by omega)).2) ((hN _ (by omega)).2)) t2_232 t2_234 ts_8 t1_5 t2_235 rfl rfl (by decide +kernel) ⟨by decide, by decide⟩ [7, 8, 9] [0, 1, 2, 3, 4, 5, 6] [(rk, .inr (0, [.ref ak])), (ak, .inl (cI, 200, .inl fK)), (ru, .inr (0, [.ref au])), (au, .inl (cI, 200, .inl fA)), (hr, .inr (2, [.ref ru, .ref rw, .ref rk, .int (nI R), .int (nI sd)])), (rw, .inr (0, [.ref aw])), (aw, .inl (cI, 200, .inl fB))] rfl rfl rfl rfl (by decide) 0 rfl rfl rfl rfl (Nat.le_of_ble_eq_true rfl) d_Strata_areContemporary_63 ⟨by decide, by decide⟩ (fun r9 w9u9 hw9 => ?_)
              subst hw9
              refine b_if_ne X 89 d_Strata_areContemporary_66 (by decide) (fun h66 => ?_) (fun h66 => ?_)
              · refine g_iconst (v := nI 1) X d_Strata_areContemporary_89 rfl ?_
                exact g_zret X hA9 hQ9 hr9 (by first | exact Or.inl rfl | exact Or.inr rfl) hlk9 () [7, 8, 9, 4, 2, 3, 5, 6, 0, 1] rfl rfl d_Strata_areContemporary_90 (by first | exact ct_end (q := q) (by omega) (ctT1 h30 h56 h66) | exact ct_end (q := q) (by omega) (ctT2 h30 h76 h86))
              · refine g_aload_n X 0 d_Strata_areContemporary_69 rfl rfl ?_
                refine g_iload_n X 1 d_Strata_areContemporary_70 rfl rfl ?_
                refine g_iload X 6 d_Strata_areContemporary_71 rfl ?_
                refine g_calliV (n := 2) X [.int (nI i), .int (nI (b q))] (k_Strata_areJoined hs sn ss su K xn fN i (b q) (nm i) (nm (b q)) (by omega) (by omega) ((hN _ (by omega)).1) ((hN _ (by omega)).1) ((hN _ (by omega)).2) ((hN _ (by omega)).2)) t2_232 t2_234 ts_8 t1_5 t2_235 rfl rfl (by decide +kernel) ⟨by decide, by decide⟩ [7, 8, 9] [0, 1, 2, 3, 4, 5, 6] [(rk, .inr (0, [.ref ak])), (ak, .inl (cI, 200, .inl fK)), (ru, .inr (0, [.ref au])), (au, .inl (cI, 200, .inl fA)), (hr, .inr (2, [.ref ru, .ref rw, .ref rk, .int (nI R), .int (nI sd)])), (rw, .inr (0, [.ref aw])), (aw, .inl (cI, 200, .inl fB))] rfl rfl rfl rfl (by decide) 0 rfl rfl rfl rfl (Nat.le_of_ble_eq_true rfl) d_Strata_areContemporary_73 ⟨by decide, by decide⟩ (fun r10 w9u10 hw10 => ?_)
                subst hw10
                refine b_if_eq X 91 d_Strata_areContemporary_76 (by decide) (fun h76 => ?_) (fun h76 => ?_)
                · refine g_iinc X (nI (q + 1)) [(4, .int (nI (q + 1))), (6, .int (nI (b q))), (5, .int (nI (a q))), (0, .ref hs), (1, .int (nI i)), (2, .int (nI j)), (3, .ref hr)] d_Strata_areContemporary_91 (k := 6) rfl (nI_1 q) (by decide) rfl ?_
                  refine g_goto X 14 d_Strata_areContemporary_94 (by decide) ?_
                  refine g_ws [(hs, .inr (4, [.ref sn, .ref ss, .ref su, .int (nI K)])), (sn, .inr (0, [.ref xn])), (xn, .inl (cI, 48, .inl fN)), (hr, .inr (2, [.ref ru, .ref rw, .ref rk, .int (nI R), .int (nI sd)])), (ru, .inr (0, [.ref au])), (au, .inl (cI, 200, .inl fA)), (rw, .inr (0, [.ref aw])), (aw, .inl (cI, 200, .inl fB)), (rk, .inr (0, [.ref ak])), (ak, .inl (cI, 200, .inl fK))] [7, 8, 9, 4, 2, 3, 5, 6, 0, 1] rfl rfl ?_
                  refine g_lv [3, 4, 5, 6, 0] rfl ?_
                  exact ih14 (q + 1) (by omega) (by omega) (by first | exact any_f h1 (ctF0 h30) | exact any_f h1 (ctF1 h56 h76) | exact any_f h1 (ctF2 h56 h86) | exact any_f h1 (ctF3 h66 h76) | exact any_f h1 (ctF4 h66 h86))
                · refine g_aload_n X 0 d_Strata_areContemporary_79 rfl rfl ?_
                  refine g_iload_n X 2 d_Strata_areContemporary_80 rfl rfl ?_
                  refine g_iload X 5 d_Strata_areContemporary_81 rfl ?_
                  refine g_calliV (n := 2) X [.int (nI j), .int (nI (a q))] (k_Strata_areJoined hs sn ss su K xn fN j (a q) (nm j) (nm (a q)) (by omega) (by omega) ((hN _ (by omega)).1) ((hN _ (by omega)).1) ((hN _ (by omega)).2) ((hN _ (by omega)).2)) t2_232 t2_234 ts_8 t1_5 t2_235 rfl rfl (by decide +kernel) ⟨by decide, by decide⟩ [7, 8, 9] [0, 1, 2, 3, 4, 5, 6] [(rk, .inr (0, [.ref ak])), (ak, .inl (cI, 200, .inl fK)), (ru, .inr (0, [.ref au])), (au, .inl (cI, 200, .inl fA)), (hr, .inr (2, [.ref ru, .ref rw, .ref rk, .int (nI R), .int (nI sd)])), (rw, .inr (0, [.ref aw])), (aw, .inl (cI, 200, .inl fB))] rfl rfl rfl rfl (by decide) 0 rfl rfl rfl rfl (Nat.le_of_ble_eq_true rfl) d_Strata_areContemporary_83 ⟨by decide, by decide⟩ (fun r11 w9u11 hw11 => ?_)
                  subst hw11
                  refine b_if_eq X 91 d_Strata_areContemporary_86 (by decide) (fun h86 => ?_) (fun h86 => ?_)
                  · refine g_iinc X (nI (q + 1)) [(4, .int (nI (q + 1))), (6, .int (nI (b q))), (5, .int (nI (a q))), (0, .ref hs), (1, .int (nI i)), (2, .int (nI j)), (3, .ref hr)] d_Strata_areContemporary_91 (k := 6) rfl (nI_1 q) (by decide) rfl ?_
                    refine g_goto X 14 d_Strata_areContemporary_94 (by decide) ?_
                    refine g_ws [(hs, .inr (4, [.ref sn, .ref ss, .ref su, .int (nI K)])), (sn, .inr (0, [.ref xn])), (xn, .inl (cI, 48, .inl fN)), (hr, .inr (2, [.ref ru, .ref rw, .ref rk, .int (nI R), .int (nI sd)])), (ru, .inr (0, [.ref au])), (au, .inl (cI, 200, .inl fA)), (rw, .inr (0, [.ref aw])), (aw, .inl (cI, 200, .inl fB)), (rk, .inr (0, [.ref ak])), (ak, .inl (cI, 200, .inl fK))] [7, 8, 9, 4, 2, 3, 5, 6, 0, 1] rfl rfl ?_
                    refine g_lv [3, 4, 5, 6, 0] rfl ?_
                    exact ih14 (q + 1) (by omega) (by omega) (by first | exact any_f h1 (ctF0 h30) | exact any_f h1 (ctF1 h56 h76) | exact any_f h1 (ctF2 h56 h86) | exact any_f h1 (ctF3 h66 h76) | exact any_f h1 (ctF4 h66 h86))
                  · refine g_iconst (v := nI 1) X d_Strata_areContemporary_89 rfl ?_
                    exact g_zret X hA9 hQ9 hr9 (by first | exact Or.inl rfl | exact Or.inr rfl) hlk9 () [7, 8, 9, 4, 2, 3, 5, 6, 0, 1] rfl rfl d_Strata_areContemporary_90 (by first | exact ct_end (q := q) (by omega) (ctT1 h30 h56 h66) | exact ct_end (q := q) (by omega) (ctT2 h30 h76 h86))
    refine g_iconst (v := nI 0) X d_Strata_areContemporary_11 rfl ?_
    refine g_istore X [(4, .int (nI 0)), (0, .ref hs), (1, .int (nI i)), (2, .int (nI j)), (3, .ref hr)] d_Strata_areContemporary_12 (by decide) rfl ?_
    refine g_ws [(hs, .inr (4, [.ref sn, .ref ss, .ref su, .int (nI K)])), (sn, .inr (0, [.ref xn])), (xn, .inl (cI, 48, .inl fN)), (hr, .inr (2, [.ref ru, .ref rw, .ref rk, .int (nI R), .int (nI sd)])), (ru, .inr (0, [.ref au])), (au, .inl (cI, 200, .inl fA)), (rw, .inr (0, [.ref aw])), (aw, .inl (cI, 200, .inl fB)), (rk, .inr (0, [.ref ak])), (ak, .inl (cI, 200, .inl fK))] [7, 8, 9, 0, 1, 2, 3, 4, 5, 6] rfl rfl ?_
    refine g_lv [1, 2, 3, 4, 0] rfl ?_
    exact L14 ((R - 0) + 1) 0 (Nat.lt_succ_self _) (by omega) (rfl)
  · refine g_iconst (v := nI 1) X d_Strata_areContemporary_9 rfl ?_
    exact g_zret X hA9 hQ9 hr9 (by first | exact Or.inl rfl | exact Or.inr rfl) hlk9 () [7, 8, 9, 0, 1, 2, 3, 4, 5, 6] rfl rfl d_Strata_areContemporary_10 (by rw [h6]; rfl)

set_option maxHeartbeats 4000000 in
set_option maxRecDepth 100000 in
theorem k_Strata_linksUnder (hs : Nat) (sn : Nat) (ss : Nat) (su : Nat) (K : Nat) (xu : Nat) (fU : Nat → Int64) (u : Nat) (hK : K ≤ 48) (hu : u < 48) : CtL l y_Strata_linksUnder (Cond.code y_Strata_linksUnder c_Strata_linksUnder 7 (some .long) :: TB) ({ frames := 2, cells := 0, slots := 0, locals := 43 } : Room) D (tysv cI cJ cZ cQ) [.ref hs, .int (nI u)] [(hs, .inr (4, [.ref sn, .ref ss, .ref su, .int (nI K)])), (su, .inr (1, [.ref xu])), (xu, .inl (cJ, 48, .inr (.inl fU)))] 0 0 (fun (r : Int64) (_ : Unit) => lb r = lkB fU K u) (fun (_ : Unit) => [(hs, .inr (4, [.ref sn, .ref ss, .ref su, .int (nI K)])), (su, .inr (1, [.ref xu])), (xu, .inl (cJ, 48, .inr (.inl fU)))]) := by
  refine CtL.of c_Strata_linksUnder 7 (some .long) (by decide) rfl (Nat.le_of_ble_eq_true rfl) ?_
  intro p e s m args below meth c A Q hA9 hQ9 X hr9 hlk9 hin9
  refine g_aload_n X 0 d_Strata_linksUnder_0 rfl rfl ?_
  refine g_get (C := R_Strata) (T := T_Strata) (N := 4) X 0 2 in_Strata rfl rfl (by decide) t1_86 rfl rfl d_Strata_linksUnder_1 ?_
  refine g_iload_n X 1 d_Strata_linksUnder_4 rfl rfl ?_
  refine g_calllV (n := 1) X [.int (nI u)] (k_Rows_row su xu 48 fU u (by omega) (by omega)) t1_173 t1_174 t1_175 t1_6 t1_176 rfl rfl (by decide +kernel) ⟨by decide, by decide⟩ [1, 2] [0] [(hs, .inr (4, [.ref sn, .ref ss, .ref su, .int (nI K)]))] rfl rfl rfl rfl (by decide) 0 rfl rfl rfl rfl (Nat.le_of_ble_eq_true rfl) d_Strata_linksUnder_5 ⟨by decide, by decide⟩ (fun r1 w9u1 hw1 => ?_)
  subst hw1
  refine g_lstore_n X [(2, .long (fU u)), (0, .ref hs), (1, .int (nI u))] d_Strata_linksUnder_8 rfl (by decide) rfl ?_
  have L15 : ∀ (N15 : Nat) (i : Nat) (w : Int64), (K - i) < N15 → (i ≤ K) → (∀ x, lb w x = anyB (fun k => lb (fU u) k && lb (fU k) x) i) → G p l e ({ frames := 2, cells := 0, slots := 0, locals := 43 } : Room) s m args below meth c 7 D A s.heap Q 0 0 [(hs, .inr (4, [.ref sn, .ref ss, .ref su, .int (nI K)])), (su, .inr (1, [.ref xu])), (xu, .inl (cJ, 48, .inr (.inl fU)))] [(0, .ref hs), (1, .int (nI u)), (2, .long (fU u)), (4, .long w), (6, .int (nI i))] 15 [] := by
    intro N15
    induction N15 with
    | zero =>
      intro i w hN
      exact absurd hN (Nat.not_lt_zero _)
    | succ N15 ih15 =>
      intro i w hN15 hi h1
      refine g_iload X 6 d_Strata_linksUnder_15 rfl ?_
      refine g_aload_n X 0 d_Strata_linksUnder_17 rfl rfl ?_
      refine g_get (C := R_Strata) (T := T_Strata) (N := 4) X 0 3 in_Strata rfl rfl (by decide) t1_87 rfl rfl d_Strata_linksUnder_18 ?_
      refine n_icmp_ge X 57 d_Strata_linksUnder_21 (by decide) (by omega) (by omega) (fun h21 => ?_) (fun h21 => ?_)
      · refine g_lload_n X 2 d_Strata_linksUnder_57 rfl rfl ?_
        refine g_lload X 4 d_Strata_linksUnder_58 rfl ?_
        refine g_ldc2 (v := -1) X t1_185 d_Strata_linksUnder_60 ?_
        refine g_lxor X (w ^^^ (-1)) d_Strata_linksUnder_63 rfl ?_
        refine g_land X ((fU u) &&& (w ^^^ (-1))) d_Strata_linksUnder_64 rfl ?_
        exact g_lret X hA9 hQ9 hr9 hlk9 () [0, 1, 2] rfl rfl d_Strata_linksUnder_65 (by have e9 : i = K := (by omega); subst e9; exact lk_end h1)
      · refine g_aload_n X 0 d_Strata_linksUnder_24 rfl rfl ?_
        refine g_get (C := R_Strata) (T := T_Strata) (N := 4) X 0 2 in_Strata rfl rfl (by decide) t1_86 rfl rfl d_Strata_linksUnder_25 ?_
        refine g_iload_n X 1 d_Strata_linksUnder_28 rfl rfl ?_
        refine g_iload X 6 d_Strata_linksUnder_29 rfl ?_
        refine g_calliV (n := 2) X [.int (nI u), .int (nI i)] (k_Rows_has su xu 48 fU u i (by omega) (by omega) (by omega)) t1_181 t1_182 t1_183 t1_6 t1_184 rfl rfl (by decide +kernel) ⟨by decide, by decide⟩ [1, 2] [0] [(hs, .inr (4, [.ref sn, .ref ss, .ref su, .int (nI K)]))] rfl rfl rfl rfl (by decide) 0 rfl rfl rfl rfl (Nat.le_of_ble_eq_true rfl) d_Strata_linksUnder_31 ⟨by decide, by decide⟩ (fun r2 w9u2 hw2 => ?_)
        subst hw2
        refine b_if_eq X 51 d_Strata_linksUnder_34 (by decide) (fun h34 => ?_) (fun h34 => ?_)
        · refine g_iinc X (nI (i + 1)) [(6, .int (nI (i + 1))), (0, .ref hs), (1, .int (nI u)), (2, .long (fU u)), (4, .long w)] d_Strata_linksUnder_51 (k := 4) rfl (nI_1 i) (by decide) rfl ?_
          refine g_goto X 15 d_Strata_linksUnder_54 (by decide) ?_
          refine g_lv [1, 2, 3, 4, 0] rfl ?_
          exact ih15 (i + 1) w (by omega) (by omega) (by first | exact any_keep h1 h34 | exact any_put h1 h34)
        · refine g_lload X 4 d_Strata_linksUnder_37 rfl ?_
          refine g_aload_n X 0 d_Strata_linksUnder_39 rfl rfl ?_
          refine g_get (C := R_Strata) (T := T_Strata) (N := 4) X 0 2 in_Strata rfl rfl (by decide) t1_86 rfl rfl d_Strata_linksUnder_40 ?_
          refine g_iload X 6 d_Strata_linksUnder_43 rfl ?_
          refine g_calllV (n := 1) X [.int (nI i)] (k_Rows_row su xu 48 fU i (by omega) (by omega)) t1_173 t1_174 t1_175 t1_6 t1_176 rfl rfl (by decide +kernel) ⟨by decide, by decide⟩ [1, 2] [0] [(hs, .inr (4, [.ref sn, .ref ss, .ref su, .int (nI K)]))] rfl rfl rfl rfl (by decide) 0 rfl rfl rfl rfl (Nat.le_of_ble_eq_true rfl) d_Strata_linksUnder_45 ⟨by decide, by decide⟩ (fun r3 w9u3 hw3 => ?_)
          subst hw3
          refine g_lor X (w ||| (fU i)) d_Strata_linksUnder_48 rfl ?_
          refine g_lstore X [(4, .long (w ||| (fU i))), (0, .ref hs), (1, .int (nI u)), (2, .long (fU u)), (6, .int (nI i))] d_Strata_linksUnder_49 (by decide) rfl ?_
          refine g_iinc X (nI (i + 1)) [(6, .int (nI (i + 1))), (4, .long (w ||| (fU i))), (0, .ref hs), (1, .int (nI u)), (2, .long (fU u))] d_Strata_linksUnder_51 (k := 4) rfl (nI_1 i) (by decide) rfl ?_
          refine g_goto X 15 d_Strata_linksUnder_54 (by decide) ?_
          refine g_lv [2, 3, 4, 1, 0] rfl ?_
          exact ih15 (i + 1) (w ||| (fU i)) (by omega) (by omega) (by first | exact any_keep h1 h34 | exact any_put h1 h34)
  refine g_lconst (v := 0) X d_Strata_linksUnder_9 rfl ?_
  refine g_lstore X [(4, .long 0), (2, .long (fU u)), (0, .ref hs), (1, .int (nI u))] d_Strata_linksUnder_10 (by decide) rfl ?_
  refine g_iconst (v := nI 0) X d_Strata_linksUnder_12 rfl ?_
  refine g_istore X [(6, .int (nI 0)), (4, .long 0), (2, .long (fU u)), (0, .ref hs), (1, .int (nI u))] d_Strata_linksUnder_13 (by decide) rfl ?_
  refine g_lv [3, 4, 2, 1, 0] rfl ?_
  exact L15 ((K - 0) + 1) 0 0 (Nat.lt_succ_self _) (by omega) (any_0)

set_option maxHeartbeats 4000000 in
set_option maxRecDepth 100000 in
theorem k_Strata_linkCount (hs : Nat) (sn : Nat) (ss : Nat) (su : Nat) (K : Nat) (xu : Nat) (fU : Nat → Int64) (hK : K ≤ 48) : CtI l y_Strata_linkCount (Cond.code y_Strata_linkCount c_Strata_linkCount 3 (some .int) :: TB) ({ frames := 3, cells := 0, slots := 0, locals := 69 } : Room) D (tysv cI cJ cZ cQ) [.ref hs] [(hs, .inr (4, [.ref sn, .ref ss, .ref su, .int (nI K)])), (su, .inr (1, [.ref xu])), (xu, .inl (cJ, 48, .inr (.inl fU)))] 0 0 (fun (r : Int32) (_ : Unit) => r = nI (lsum (fun z9 => cnt (lkB fU K z9) 64) K)) (fun (_ : Unit) => [(hs, .inr (4, [.ref sn, .ref ss, .ref su, .int (nI K)])), (su, .inr (1, [.ref xu])), (xu, .inl (cJ, 48, .inr (.inl fU)))]) := by
  refine CtI.of c_Strata_linkCount 3 (some .int) (by decide) rfl (Nat.le_of_ble_eq_true rfl) ?_
  intro p e s m args below meth c A Q hA9 hQ9 X hr9 hlk9 hin9
  have L4 : ∀ (N4 : Nat) (i : Nat) (n : Nat), (K - i) < N4 → (i ≤ K) → (n = lsum (fun z9 => cnt (lkB fU K z9) 64) i) → G p l e ({ frames := 3, cells := 0, slots := 0, locals := 69 } : Room) s m args below meth c 3 D A s.heap Q 0 0 [(hs, .inr (4, [.ref sn, .ref ss, .ref su, .int (nI K)])), (su, .inr (1, [.ref xu])), (xu, .inl (cJ, 48, .inr (.inl fU)))] [(0, .ref hs), (1, .int (nI n)), (2, .int (nI i))] 4 [] := by
    intro N4
    induction N4 with
    | zero =>
      intro i n hN
      exact absurd hN (Nat.not_lt_zero _)
    | succ N4 ih4 =>
      intro i n hN4 hi h1
      refine g_iload_n X 2 d_Strata_linkCount_4 rfl rfl ?_
      refine g_aload_n X 0 d_Strata_linkCount_5 rfl rfl ?_
      refine g_get (C := R_Strata) (T := T_Strata) (N := 4) X 0 3 in_Strata rfl rfl (by decide) t1_87 rfl rfl d_Strata_linkCount_6 ?_
      refine n_icmp_ge X 29 d_Strata_linkCount_9 (by decide) (by omega) (by omega) (fun h9 => ?_) (fun h9 => ?_)
      · refine g_iload_n X 1 d_Strata_linkCount_29 rfl rfl ?_
        exact g_iret X hA9 hQ9 hr9 hlk9 () [0, 1, 2] rfl rfl d_Strata_linkCount_30 (by have e9 : i = K := (by omega); subst e9; rw [h1])
      · refine g_iload_n X 1 d_Strata_linkCount_12 rfl rfl ?_
        refine g_aload_n X 0 d_Strata_linkCount_13 rfl rfl ?_
        refine g_iload_n X 2 d_Strata_linkCount_14 rfl rfl ?_
        refine g_calllV (n := 1) X [.int (nI i)] (k_Strata_linksUnder hs sn ss su K xu fU i (by omega) (by omega)) t1_169 t1_171 ts_0 t1_5 t1_172 rfl rfl (by decide +kernel) ⟨by decide, by decide⟩ [0, 1, 2] [] [] rfl rfl rfl rfl (by decide) 0 rfl rfl rfl rfl (Nat.le_of_ble_eq_true rfl) d_Strata_linkCount_15 ⟨by decide, by decide⟩ (fun r1 w9u1 hl9 => ?_)
        refine g_calliS (n := 1) X [.long r1] (k_Long_bitCount r1 ) t1_186 t1_187 t1_15 t1_188 rfl rfl (by decide +kernel) ⟨by decide, by decide⟩ [] [0, 1, 2] [(hs, .inr (4, [.ref sn, .ref ss, .ref su, .int (nI K)])), (su, .inr (1, [.ref xu])), (xu, .inl (cJ, 48, .inr (.inl fU)))] rfl rfl rfl rfl (by decide) rfl rfl (Nat.le_of_ble_eq_true rfl) d_Strata_linkCount_18 ⟨by decide, by decide⟩ (fun r2 w9u2 hw2 => ?_)
        subst hw2
        rw [hl9]
        have hle := lk_le fU K i
        refine g_iadd X (nI (n + cnt (lkB fU K i) 64)) d_Strata_linkCount_21 (nI_add n (cnt (lkB fU K i) 64)) ?_
        refine g_istore_n X [(1, .int (nI (n + cnt (lkB fU K i) 64))), (0, .ref hs), (2, .int (nI i))] d_Strata_linkCount_22 rfl (by decide) rfl ?_
        refine g_iinc X (nI (i + 1)) [(2, .int (nI (i + 1))), (1, .int (nI (n + cnt (lkB fU K i) 64))), (0, .ref hs)] d_Strata_linkCount_23 (k := 2) rfl (nI_1 i) (by decide) rfl ?_
        refine g_goto X 4 d_Strata_linkCount_26 (by decide) ?_
        refine g_lv [2, 1, 0] rfl ?_
        exact ih4 (i + 1) (n + cnt (lkB fU K i) 64) (by omega) (by omega) (by rw [h1]; rfl)
  refine g_iconst (v := nI 0) X d_Strata_linkCount_0 rfl ?_
  refine g_istore_n X [(1, .int (nI 0)), (0, .ref hs)] d_Strata_linkCount_1 rfl (by decide) rfl ?_
  refine g_iconst (v := nI 0) X d_Strata_linkCount_2 rfl ?_
  refine g_istore_n X [(2, .int (nI 0)), (1, .int (nI 0)), (0, .ref hs)] d_Strata_linkCount_3 rfl (by decide) rfl ?_
  refine g_lv [2, 1, 0] rfl ?_
  exact L4 ((K - 0) + 1) 0 0 (Nat.lt_succ_self _) (by omega) (rfl)

set_option maxHeartbeats 4000000 in
set_option maxRecDepth 100000 in
theorem k_Strata_linkEndU (hs : Nat) (sn : Nat) (ss : Nat) (su : Nat) (K : Nat) (xu : Nat) (fU : Nat → Int64) (k : Nat) (hK : K ≤ 48) (hk2 : k < 2 ^ 20) (hk : k < lsum (fun z9 => cnt (lkB fU K z9) 64) K) (hf : ∀ u, u < 48 → ∀ x, lb (fU u) x = true → x < 48) : CtI l y_Strata_linkEnd (Cond.code y_Strata_linkEnd c_Strata_linkEnd 8 (some .int) :: TB) ({ frames := 3, cells := 0, slots := 0, locals := 69 } : Room) D (tysv cI cJ cZ cQ) [.ref hs, .int (nI k), .int (bI true)] [(hs, .inr (4, [.ref sn, .ref ss, .ref su, .int (nI K)])), (su, .inr (1, [.ref xu])), (xu, .inl (cJ, 48, .inr (.inl fU)))] 0 0 (fun (r : Int32) (u : Nat) => r = nI u ∧ u < K ∧ lsum (fun z9 => cnt (lkB fU K z9) 64) u ≤ k ∧ k < lsum (fun z9 => cnt (lkB fU K z9) 64) u + cnt (lkB fU K u) 64) (fun (u : Nat) => [(hs, .inr (4, [.ref sn, .ref ss, .ref su, .int (nI K)])), (su, .inr (1, [.ref xu])), (xu, .inl (cJ, 48, .inr (.inl fU)))]) := by
  refine CtI.of c_Strata_linkEnd 8 (some .int) (by decide) rfl (Nat.le_of_ble_eq_true rfl) ?_
  intro p e s m args below meth c A Q hA9 hQ9 X hr9 hlk9 hin9
  have L5 : ∀ (N5 : Nat) (i : Nat) (lf : Nat), (K - i) < N5 → (i ≤ K) → (lf + lsum (fun z9 => cnt (lkB fU K z9) 64) i = k) → G p l e ({ frames := 3, cells := 0, slots := 0, locals := 69 } : Room) s m args below meth c 8 D A s.heap Q 0 0 [(hs, .inr (4, [.ref sn, .ref ss, .ref su, .int (nI K)])), (su, .inr (1, [.ref xu])), (xu, .inl (cJ, 48, .inr (.inl fU)))] [(0, .ref hs), (1, .int (nI k)), (2, .int (bI true)), (3, .int (nI lf)), (4, .int (nI i))] 5 [] := by
    intro N5
    induction N5 with
    | zero =>
      intro i lf hN
      exact absurd hN (Nat.not_lt_zero _)
    | succ N5 ih5 =>
      intro i lf hN5 hi h1
      refine g_iload X 4 d_Strata_linkEnd_5 rfl ?_
      refine g_aload_n X 0 d_Strata_linkEnd_7 rfl rfl ?_
      refine g_get (C := R_Strata) (T := T_Strata) (N := 4) X 0 3 in_Strata rfl rfl (by decide) t1_87 rfl rfl d_Strata_linkEnd_8 ?_
      refine n_icmp_ge X 62 d_Strata_linkEnd_11 (by decide) (by omega) (by omega) (fun h11 => absurd h11 (fun q9 => by have e9 : i = K := (by omega); subst e9; omega)) (fun h11 => ?_)
      refine g_aload_n X 0 d_Strata_linkEnd_14 rfl rfl ?_
      refine g_iload X 4 d_Strata_linkEnd_15 rfl ?_
      refine g_calllV (n := 1) X [.int (nI i)] (k_Strata_linksUnder hs sn ss su K xu fU i (by omega) (by omega)) t1_169 t1_171 ts_0 t1_5 t1_172 rfl rfl (by decide +kernel) ⟨by decide, by decide⟩ [0, 1, 2] [] [] rfl rfl rfl rfl (by decide) 0 rfl rfl rfl rfl (Nat.le_of_ble_eq_true rfl) d_Strata_linkEnd_17 ⟨by decide, by decide⟩ (fun r1 w9u1 hl9 => ?_)
      refine g_lstore X [(5, .long r1), (0, .ref hs), (1, .int (nI k)), (2, .int (bI true)), (3, .int (nI lf)), (4, .int (nI i))] d_Strata_linkEnd_20 (by decide) rfl ?_
      refine g_lload X 5 d_Strata_linkEnd_22 rfl ?_
      refine g_calliS (n := 1) X [.long r1] (k_Long_bitCount r1 ) t1_186 t1_187 t1_15 t1_188 rfl rfl (by decide +kernel) ⟨by decide, by decide⟩ [] [0, 1, 2] [(hs, .inr (4, [.ref sn, .ref ss, .ref su, .int (nI K)])), (su, .inr (1, [.ref xu])), (xu, .inl (cJ, 48, .inr (.inl fU)))] rfl rfl rfl rfl (by decide) rfl rfl (Nat.le_of_ble_eq_true rfl) d_Strata_linkEnd_24 ⟨by decide, by decide⟩ (fun r2 w9u2 hw2 => ?_)
      subst hw2
      rw [hl9]
      have hle := lk_le fU K i
      refine g_istore X [(7, .int (nI (cnt (lkB fU K i) 64))), (5, .long r1), (0, .ref hs), (1, .int (nI k)), (2, .int (bI true)), (3, .int (nI lf)), (4, .int (nI i))] d_Strata_linkEnd_27 (by decide) rfl ?_
      refine g_iload_n X 3 d_Strata_linkEnd_29 rfl rfl ?_
      refine g_iload X 7 d_Strata_linkEnd_30 rfl ?_
      refine n_icmp_ge X 51 d_Strata_linkEnd_32 (by decide) (by omega) (by omega) (fun h32 => ?_) (fun h32 => ?_)
      · refine g_iload_n X 3 d_Strata_linkEnd_51 rfl rfl ?_
        refine g_iload X 7 d_Strata_linkEnd_52 rfl ?_
        refine g_isub X (nI (lf - (cnt (lkB fU K i) 64))) d_Strata_linkEnd_54 (pk_sub (by omega)) ?_
        refine g_istore_n X [(3, .int (nI (lf - (cnt (lkB fU K i) 64)))), (7, .int (nI (cnt (lkB fU K i) 64))), (5, .long r1), (0, .ref hs), (1, .int (nI k)), (2, .int (bI true)), (4, .int (nI i))] d_Strata_linkEnd_55 rfl (by decide) rfl ?_
        refine g_iinc X (nI (i + 1)) [(4, .int (nI (i + 1))), (3, .int (nI (lf - (cnt (lkB fU K i) 64)))), (7, .int (nI (cnt (lkB fU K i) 64))), (5, .long r1), (0, .ref hs), (1, .int (nI k)), (2, .int (bI true))] d_Strata_linkEnd_56 (k := 6) rfl (nI_1 i) (by decide) rfl ?_
        refine g_goto X 5 d_Strata_linkEnd_59 (by decide) ?_
        refine g_lv [4, 5, 6, 1, 0] rfl ?_
        exact ih5 (i + 1) (lf - (cnt (lkB fU K i) 64)) (by omega) (by omega) (by simp only [lsum]; omega)
      · refine g_iload_n X 2 d_Strata_linkEnd_35 rfl rfl ?_
        refine b_if_eq X 44 d_Strata_linkEnd_36 (by decide) (fun h36 => absurd h36 (by decide)) (fun h36 => ?_)
        refine g_iload X 4 d_Strata_linkEnd_39 rfl ?_
        refine g_goto X 50 d_Strata_linkEnd_41 (by decide) ?_
        exact g_iret X hA9 hQ9 hr9 hlk9 i [0, 1, 2] rfl rfl d_Strata_linkEnd_50 (⟨rfl, by omega, by omega, by omega⟩)
  refine g_iload_n X 1 d_Strata_linkEnd_0 rfl rfl ?_
  refine g_istore_n X [(3, .int (nI k)), (0, .ref hs), (1, .int (nI k)), (2, .int (bI true))] d_Strata_linkEnd_1 rfl (by decide) rfl ?_
  refine g_iconst (v := nI 0) X d_Strata_linkEnd_2 rfl ?_
  refine g_istore X [(4, .int (nI 0)), (3, .int (nI k)), (0, .ref hs), (1, .int (nI k)), (2, .int (bI true))] d_Strata_linkEnd_3 (by decide) rfl ?_
  refine g_lv [2, 3, 4, 1, 0] rfl ?_
  exact L5 ((K - 0) + 1) 0 k (Nat.lt_succ_self _) (by omega) (rfl)

set_option maxHeartbeats 4000000 in
set_option maxRecDepth 100000 in
theorem k_Strata_linkEndL (hs : Nat) (sn : Nat) (ss : Nat) (su : Nat) (K : Nat) (xu : Nat) (fU : Nat → Int64) (k : Nat) (hK : K ≤ 48) (hk2 : k < 2 ^ 20) (hk : k < lsum (fun z9 => cnt (lkB fU K z9) 64) K) (hf : ∀ u, u < 48 → ∀ x, lb (fU u) x = true → x < 48) : CtI l y_Strata_linkEnd (Cond.code y_Strata_linkEnd c_Strata_linkEnd 8 (some .int) :: TB) ({ frames := 3, cells := 0, slots := 0, locals := 69 } : Room) D (tysv cI cJ cZ cQ) [.ref hs, .int (nI k), .int (bI false)] [(hs, .inr (4, [.ref sn, .ref ss, .ref su, .int (nI K)])), (su, .inr (1, [.ref xu])), (xu, .inl (cJ, 48, .inr (.inl fU)))] 0 0 (fun (r : Int32) (u : Nat × Nat) => r = nI u.2 ∧ u.1 < K ∧ lsum (fun z9 => cnt (lkB fU K z9) 64) u.1 ≤ k ∧ k < lsum (fun z9 => cnt (lkB fU K z9) 64) u.1 + cnt (lkB fU K u.1) 64 ∧ u.2 < 48 ∧ lkB fU K u.1 u.2 = true ∧ cnt (lkB fU K u.1) u.2 = k - lsum (fun z9 => cnt (lkB fU K z9) 64) u.1) (fun (u : Nat × Nat) => [(hs, .inr (4, [.ref sn, .ref ss, .ref su, .int (nI K)])), (su, .inr (1, [.ref xu])), (xu, .inl (cJ, 48, .inr (.inl fU)))]) := by
  refine CtI.of c_Strata_linkEnd 8 (some .int) (by decide) rfl (Nat.le_of_ble_eq_true rfl) ?_
  intro p e s m args below meth c A Q hA9 hQ9 X hr9 hlk9 hin9
  have L5 : ∀ (N5 : Nat) (i : Nat) (lf : Nat), (K - i) < N5 → (i ≤ K) → (lf + lsum (fun z9 => cnt (lkB fU K z9) 64) i = k) → G p l e ({ frames := 3, cells := 0, slots := 0, locals := 69 } : Room) s m args below meth c 8 D A s.heap Q 0 0 [(hs, .inr (4, [.ref sn, .ref ss, .ref su, .int (nI K)])), (su, .inr (1, [.ref xu])), (xu, .inl (cJ, 48, .inr (.inl fU)))] [(0, .ref hs), (1, .int (nI k)), (2, .int (bI false)), (3, .int (nI lf)), (4, .int (nI i))] 5 [] := by
    intro N5
    induction N5 with
    | zero =>
      intro i lf hN
      exact absurd hN (Nat.not_lt_zero _)
    | succ N5 ih5 =>
      intro i lf hN5 hi h1
      refine g_iload X 4 d_Strata_linkEnd_5 rfl ?_
      refine g_aload_n X 0 d_Strata_linkEnd_7 rfl rfl ?_
      refine g_get (C := R_Strata) (T := T_Strata) (N := 4) X 0 3 in_Strata rfl rfl (by decide) t1_87 rfl rfl d_Strata_linkEnd_8 ?_
      refine n_icmp_ge X 62 d_Strata_linkEnd_11 (by decide) (by omega) (by omega) (fun h11 => absurd h11 (fun q9 => by have e9 : i = K := (by omega); subst e9; omega)) (fun h11 => ?_)
      refine g_aload_n X 0 d_Strata_linkEnd_14 rfl rfl ?_
      refine g_iload X 4 d_Strata_linkEnd_15 rfl ?_
      refine g_calllV (n := 1) X [.int (nI i)] (k_Strata_linksUnder hs sn ss su K xu fU i (by omega) (by omega)) t1_169 t1_171 ts_0 t1_5 t1_172 rfl rfl (by decide +kernel) ⟨by decide, by decide⟩ [0, 1, 2] [] [] rfl rfl rfl rfl (by decide) 0 rfl rfl rfl rfl (Nat.le_of_ble_eq_true rfl) d_Strata_linkEnd_17 ⟨by decide, by decide⟩ (fun r1 w9u1 hl9 => ?_)
      refine g_lstore X [(5, .long r1), (0, .ref hs), (1, .int (nI k)), (2, .int (bI false)), (3, .int (nI lf)), (4, .int (nI i))] d_Strata_linkEnd_20 (by decide) rfl ?_
      refine g_lload X 5 d_Strata_linkEnd_22 rfl ?_
      refine g_calliS (n := 1) X [.long r1] (k_Long_bitCount r1 ) t1_186 t1_187 t1_15 t1_188 rfl rfl (by decide +kernel) ⟨by decide, by decide⟩ [] [0, 1, 2] [(hs, .inr (4, [.ref sn, .ref ss, .ref su, .int (nI K)])), (su, .inr (1, [.ref xu])), (xu, .inl (cJ, 48, .inr (.inl fU)))] rfl rfl rfl rfl (by decide) rfl rfl (Nat.le_of_ble_eq_true rfl) d_Strata_linkEnd_24 ⟨by decide, by decide⟩ (fun r2 w9u2 hw2 => ?_)
      subst hw2
      rw [hl9]
      have hle := lk_le fU K i
      refine g_istore X [(7, .int (nI (cnt (lkB fU K i) 64))), (5, .long r1), (0, .ref hs), (1, .int (nI k)), (2, .int (bI false)), (3, .int (nI lf)), (4, .int (nI i))] d_Strata_linkEnd_27 (by decide) rfl ?_
      refine g_iload_n X 3 d_Strata_linkEnd_29 rfl rfl ?_
      refine g_iload X 7 d_Strata_linkEnd_30 rfl ?_
      refine n_icmp_ge X 51 d_Strata_linkEnd_32 (by decide) (by omega) (by omega) (fun h32 => ?_) (fun h32 => ?_)
      · refine g_iload_n X 3 d_Strata_linkEnd_51 rfl rfl ?_
        refine g_iload X 7 d_Strata_linkEnd_52 rfl ?_
        refine g_isub X (nI (lf - (cnt (lkB fU K i) 64))) d_Strata_linkEnd_54 (pk_sub (by omega)) ?_
        refine g_istore_n X [(3, .int (nI (lf - (cnt (lkB fU K i) 64)))), (7, .int (nI (cnt (lkB fU K i) 64))), (5, .long r1), (0, .ref hs), (1, .int (nI k)), (2, .int (bI false)), (4, .int (nI i))] d_Strata_linkEnd_55 rfl (by decide) rfl ?_
        refine g_iinc X (nI (i + 1)) [(4, .int (nI (i + 1))), (3, .int (nI (lf - (cnt (lkB fU K i) 64)))), (7, .int (nI (cnt (lkB fU K i) 64))), (5, .long r1), (0, .ref hs), (1, .int (nI k)), (2, .int (bI false))] d_Strata_linkEnd_56 (k := 6) rfl (nI_1 i) (by decide) rfl ?_
        refine g_goto X 5 d_Strata_linkEnd_59 (by decide) ?_
        refine g_lv [4, 5, 6, 1, 0] rfl ?_
        exact ih5 (i + 1) (lf - (cnt (lkB fU K i) 64)) (by omega) (by omega) (by simp only [lsum]; omega)
      · refine g_iload_n X 2 d_Strata_linkEnd_35 rfl rfl ?_
        refine b_if_eq X 44 d_Strata_linkEnd_36 (by decide) (fun h36 => ?_) (fun h36 => absurd h36 (by decide))
        refine g_lload X 5 d_Strata_linkEnd_44 rfl ?_
        refine g_iload_n X 3 d_Strata_linkEnd_46 rfl rfl ?_
        refine g_calliN (n := 2) X [.long r1, .int (nI lf)] (k_RO_nthOf r1 lf (by omega) (by rw [hl9]; exact nth48 (fun x hx => hf i (by omega) x (by simp only [lkB, Bool.and_eq_true] at hx; exact hx.1)) h32)) X.2.2.2.2.2.1.2.2 t2_113 t1_1 t2_114 rfl rfl (by decide +kernel) ⟨by decide, by decide⟩ [] [0, 1, 2] [(hs, .inr (4, [.ref sn, .ref ss, .ref su, .int (nI K)])), (su, .inr (1, [.ref xu])), (xu, .inl (cJ, 48, .inr (.inl fU)))] rfl rfl rfl rfl (by decide) rfl rfl (Nat.le_of_ble_eq_true rfl) d_Strata_linkEnd_47 ⟨by decide, by decide⟩ (fun r3 x_3 hx9 => ?_)
        obtain ⟨rfl, hx9⟩ := hx9
        rw [hl9] at hx9
        exact g_iret X hA9 hQ9 hr9 hlk9 ⟨i, x_3⟩ [0, 1, 2] rfl rfl d_Strata_linkEnd_50 (by (try dsimp only); exact (⟨rfl, by omega, by omega, by omega, hx9.1, hx9.2.1, by omega⟩))
  refine g_iload_n X 1 d_Strata_linkEnd_0 rfl rfl ?_
  refine g_istore_n X [(3, .int (nI k)), (0, .ref hs), (1, .int (nI k)), (2, .int (bI false))] d_Strata_linkEnd_1 rfl (by decide) rfl ?_
  refine g_iconst (v := nI 0) X d_Strata_linkEnd_2 rfl ?_
  refine g_istore X [(4, .int (nI 0)), (3, .int (nI k)), (0, .ref hs), (1, .int (nI k)), (2, .int (bI false))] d_Strata_linkEnd_3 (by decide) rfl ?_
  refine g_lv [2, 3, 4, 1, 0] rfl ?_
  exact L5 ((K - 0) + 1) 0 k (Nat.lt_succ_self _) (by omega) (rfl)

set_option maxHeartbeats 4000000 in
set_option maxRecDepth 100000 in
theorem k_Strata_chainAbove (hs : Nat) (sn : Nat) (ss : Nat) (su : Nat) (K : Nat) (xn : Nat) (fN : Nat → Int32) (xu : Nat) (fU : Nat → Int64) (i : Nat) (x : Nat) (E : Nat → Nat → Bool) (hi : i < 48) (hx : fN i = nI x) (hx2 : x < 48) (hE : gin E 48) (hac : ∀ z, ¬ gov E z z) (hU : ∀ y, y < 48 → ∀ j, lb (fU y) j = true ↔ gov E y j) : CtI l y_Strata_chainAbove (Cond.code y_Strata_chainAbove c_Strata_chainAbove 5 (some .int) :: TB) ({ frames := 1, cells := 0, slots := 0, locals := 25 } : Room) D (tysv cI cJ cZ cQ) [.ref hs, .int (nI i)] [(hs, .inr (4, [.ref sn, .ref ss, .ref su, .int (nI K)])), (sn, .inr (0, [.ref xn])), (xn, .inl (cI, 48, .inl fN)), (su, .inr (1, [.ref xu])), (xu, .inl (cJ, 48, .inr (.inl fU)))] 0 0 (fun (r : Int32) (z : Nat) => r = nI z ∧ z ≤ 48 ∧ glong E x z) (fun (z : Nat) => [(hs, .inr (4, [.ref sn, .ref ss, .ref su, .int (nI K)])), (sn, .inr (0, [.ref xn])), (xn, .inl (cI, 48, .inl fN)), (su, .inr (1, [.ref xu])), (xu, .inl (cJ, 48, .inr (.inl fU)))]) := by
  refine CtI.of c_Strata_chainAbove 5 (some .int) (by decide) rfl (Nat.le_of_ble_eq_true rfl) ?_
  intro p e s m args below meth c A Q hA9 hQ9 X hr9 hlk9 hin9
  refine g_aload_n X 0 d_Strata_chainAbove_0 rfl rfl ?_
  refine g_get (C := R_Strata) (T := T_Strata) (N := 4) X 0 2 in_Strata rfl rfl (by decide) t1_86 rfl rfl d_Strata_chainAbove_1 ?_
  refine g_lconst (v := 1) X d_Strata_chainAbove_4 rfl ?_
  refine g_aload_n X 0 d_Strata_chainAbove_5 rfl rfl ?_
  refine g_get (C := R_Strata) (T := T_Strata) (N := 4) X 0 0 in_Strata rfl rfl (by decide) t1_84 rfl rfl d_Strata_chainAbove_6 ?_
  refine g_iload_n X 1 d_Strata_chainAbove_9 rfl rfl ?_
  refine g_calliV (n := 1) X [.int (nI i)] (k_Cells_at sn xn 48 fN i (by omega) (by omega)) t2_77 t2_78 t2_79 t1_3 t2_80 rfl rfl (by decide +kernel) ⟨by decide, by decide⟩ [1, 2] [0, 3, 4] [(hs, .inr (4, [.ref sn, .ref ss, .ref su, .int (nI K)])), (su, .inr (1, [.ref xu])), (xu, .inl (cJ, 48, .inr (.inl fU)))] rfl rfl rfl rfl (by decide) 0 rfl rfl rfl rfl (Nat.le_of_ble_eq_true rfl) d_Strata_chainAbove_10 ⟨by decide, by decide⟩ (fun r1 w9u1 hw1 => ?_)
  subst hw1
  rw [hx]
  refine g_lshl X (1 <<< ((nI x).toInt64 &&& 63)) d_Strata_chainAbove_13 rfl ?_
  refine g_calllV (n := 1) X [.long (1 <<< ((nI x).toInt64 &&& 63))] (k_Rows_above su xu 48 fU (1 <<< ((nI x).toInt64 &&& 63)) (by omega)) t3_7 t2_102 t2_103 t1_6 t2_104 rfl rfl (by decide +kernel) ⟨by decide, by decide⟩ [1, 2] [0, 3, 4] [(hs, .inr (4, [.ref sn, .ref ss, .ref su, .int (nI K)])), (sn, .inr (0, [.ref xn])), (xn, .inl (cI, 48, .inl fN))] rfl rfl rfl rfl (by decide) 0 rfl rfl rfl rfl (Nat.le_of_ble_eq_true rfl) d_Strata_chainAbove_14 ⟨by decide, by decide⟩ (fun r2 w9u2 hr0 => ?_)
  refine g_lstore_n X [(2, .long r2), (0, .ref hs), (1, .int (nI i))] d_Strata_chainAbove_17 rfl (by decide) rfl ?_
  have L21 : ∀ (N21 : Nat) (ch : Nat) (w : Int64), (48 - ch) < N21 → (ch ≤ 48) → (∀ z, lb w z = true ↔ ∃ k, ch < k ∧ gw E k z x) → (0 < ch → ∃ z k, ch ≤ k ∧ gw E k z x) → G p l e ({ frames := 1, cells := 0, slots := 0, locals := 25 } : Room) s m args below meth c 5 D A s.heap Q 0 0 [(hs, .inr (4, [.ref sn, .ref ss, .ref su, .int (nI K)])), (sn, .inr (0, [.ref xn])), (xn, .inl (cI, 48, .inl fN)), (su, .inr (1, [.ref xu])), (xu, .inl (cJ, 48, .inr (.inl fU)))] [(0, .ref hs), (1, .int (nI i)), (2, .long w), (4, .int (nI ch))] 21 [] := by
    intro N21
    induction N21 with
    | zero =>
      intro ch w hN
      exact absurd hN (Nat.not_lt_zero _)
    | succ N21 ih21 =>
      intro ch w hN21 hc hw hlo
      refine g_iload X 4 d_Strata_chainAbove_21 rfl ?_
      refine g_bipush (v := nI 48) X d_Strata_chainAbove_23 rfl ?_
      refine n_icmp_ge X 51 d_Strata_chainAbove_25 (by decide) (by omega) (by omega) (fun h25 => ?_) (fun h25 => ?_)
      · refine g_iload X 4 d_Strata_chainAbove_51 rfl ?_
        exact g_iret X hA9 hQ9 hr9 hlk9 ch [0, 1, 2, 3, 4] rfl rfl d_Strata_chainAbove_53 (⟨rfl, by omega, by first | exact ch_end hE hac hw hlo (Or.inl h25) | exact ch_end hE hac hw hlo (Or.inr h31)⟩)
      · refine g_lload_n X 2 d_Strata_chainAbove_28 rfl rfl ?_
        refine g_lconst (v := 0) X d_Strata_chainAbove_29 rfl ?_
        refine g_lcmp X d_Strata_chainAbove_30 ?_
        refine lc_if_eq X 51 d_Strata_chainAbove_31 (by decide) (fun h31 => ?_) (fun h31 => ?_)
        · refine g_iload X 4 d_Strata_chainAbove_51 rfl ?_
          exact g_iret X hA9 hQ9 hr9 hlk9 ch [0, 1, 2, 3, 4] rfl rfl d_Strata_chainAbove_53 (⟨rfl, by omega, by first | exact ch_end hE hac hw hlo (Or.inl h25) | exact ch_end hE hac hw hlo (Or.inr h31)⟩)
        · refine g_lload_n X 2 d_Strata_chainAbove_34 rfl rfl ?_
          refine g_aload_n X 0 d_Strata_chainAbove_35 rfl rfl ?_
          refine g_get (C := R_Strata) (T := T_Strata) (N := 4) X 0 2 in_Strata rfl rfl (by decide) t1_86 rfl rfl d_Strata_chainAbove_36 ?_
          refine g_lload_n X 2 d_Strata_chainAbove_39 rfl rfl ?_
          refine g_calllV (n := 1) X [.long w] (k_Rows_above su xu 48 fU w (by omega)) t3_7 t2_102 t2_103 t1_6 t2_104 rfl rfl (by decide +kernel) ⟨by decide, by decide⟩ [3, 4] [0, 1, 2] [(hs, .inr (4, [.ref sn, .ref ss, .ref su, .int (nI K)])), (sn, .inr (0, [.ref xn])), (xn, .inl (cI, 48, .inl fN))] rfl rfl rfl rfl (by decide) 0 rfl rfl rfl rfl (Nat.le_of_ble_eq_true rfl) d_Strata_chainAbove_40 ⟨by decide, by decide⟩ (fun r3 w9u3 hr1 => ?_)
          refine g_land X (w &&& r3) d_Strata_chainAbove_43 rfl ?_
          refine g_lstore_n X [(2, .long (w &&& r3)), (0, .ref hs), (1, .int (nI i)), (4, .int (nI ch))] d_Strata_chainAbove_44 rfl (by decide) rfl ?_
          refine g_iinc X (nI (ch + 1)) [(4, .int (nI (ch + 1))), (2, .long (w &&& r3)), (0, .ref hs), (1, .int (nI i))] d_Strata_chainAbove_45 (k := 3) rfl (nI_1 ch) (by decide) rfl ?_
          refine g_goto X 21 d_Strata_chainAbove_48 (by decide) ?_
          refine g_lv [2, 3, 1, 0] rfl ?_
          exact ih21 (ch + 1) (w &&& r3) (by omega) (by omega) (ch_step hE hU hw hr1) (ch_low hw h31)
  refine g_iconst (v := nI 0) X d_Strata_chainAbove_18 rfl ?_
  refine g_istore X [(4, .int (nI 0)), (2, .long r2), (0, .ref hs), (1, .int (nI i))] d_Strata_chainAbove_19 (by decide) rfl ?_
  refine g_lv [2, 3, 1, 0] rfl ?_
  exact L21 ((48 - 0) + 1) 0 r2 (Nat.lt_succ_self _) (by omega) (ch_0 hx2 hE hU hr0) (fun h => absurd h (Nat.lt_irrefl 0))

set_option maxHeartbeats 4000000 in
set_option maxRecDepth 100000 in
theorem k_Strata_joinedCount (hs : Nat) (sn : Nat) (ss : Nat) (su : Nat) (K : Nat) (xn : Nat) (fN : Nat → Int32) (hK : K ≤ 48) : CtI l y_Strata_joinedCount (Cond.code y_Strata_joinedCount c_Strata_joinedCount 3 (some .int) :: TB) ({ frames := 1, cells := 0, slots := 0, locals := 21 } : Room) D (tysv cI cJ cZ cQ) [.ref hs] [(hs, .inr (4, [.ref sn, .ref ss, .ref su, .int (nI K)])), (sn, .inr (0, [.ref xn])), (xn, .inl (cI, 48, .inl fN))] 0 0 (fun (r : Int32) (_ : Unit) => r = nI (cnt (fun z => decide (fN z = nI z)) K)) (fun (_ : Unit) => [(hs, .inr (4, [.ref sn, .ref ss, .ref su, .int (nI K)])), (sn, .inr (0, [.ref xn])), (xn, .inl (cI, 48, .inl fN))]) := by
  refine CtI.of c_Strata_joinedCount 3 (some .int) (by decide) rfl (Nat.le_of_ble_eq_true rfl) ?_
  intro p e s m args below meth c A Q hA9 hQ9 X hr9 hlk9 hin9
  have L4 : ∀ (N4 : Nat) (i : Nat) (n : Nat), (K - i) < N4 → (i ≤ K) → (n = cnt (fun z => decide (fN z = nI z)) i) → G p l e ({ frames := 1, cells := 0, slots := 0, locals := 21 } : Room) s m args below meth c 3 D A s.heap Q 0 0 [(hs, .inr (4, [.ref sn, .ref ss, .ref su, .int (nI K)])), (sn, .inr (0, [.ref xn])), (xn, .inl (cI, 48, .inl fN))] [(0, .ref hs), (1, .int (nI n)), (2, .int (nI i))] 4 [] := by
    intro N4
    induction N4 with
    | zero =>
      intro i n hN
      exact absurd hN (Nat.not_lt_zero _)
    | succ N4 ih4 =>
      intro i n hN4 hi h1
      have hle := cnt_le (fun z => decide (fN z = nI z)) i
      refine g_iload_n X 2 d_Strata_joinedCount_4 rfl rfl ?_
      refine g_aload_n X 0 d_Strata_joinedCount_5 rfl rfl ?_
      refine g_get (C := R_Strata) (T := T_Strata) (N := 4) X 0 3 in_Strata rfl rfl (by decide) t1_87 rfl rfl d_Strata_joinedCount_6 ?_
      refine n_icmp_ge X 33 d_Strata_joinedCount_9 (by decide) (by omega) (by omega) (fun h9 => ?_) (fun h9 => ?_)
      · refine g_iload_n X 1 d_Strata_joinedCount_33 rfl rfl ?_
        exact g_iret X hA9 hQ9 hr9 hlk9 () [0, 1, 2] rfl rfl d_Strata_joinedCount_34 (by have e9 : i = K := (by omega); subst e9; rw [h1])
      · refine g_aload_n X 0 d_Strata_joinedCount_12 rfl rfl ?_
        refine g_get (C := R_Strata) (T := T_Strata) (N := 4) X 0 0 in_Strata rfl rfl (by decide) t1_84 rfl rfl d_Strata_joinedCount_13 ?_
        refine g_iload_n X 2 d_Strata_joinedCount_16 rfl rfl ?_
        refine g_calliV (n := 1) X [.int (nI i)] (k_Cells_at sn xn 48 fN i (by omega) (by omega)) t2_77 t2_78 t2_79 t1_3 t2_80 rfl rfl (by decide +kernel) ⟨by decide, by decide⟩ [1, 2] [0] [(hs, .inr (4, [.ref sn, .ref ss, .ref su, .int (nI K)]))] rfl rfl rfl rfl (by decide) 0 rfl rfl rfl rfl (Nat.le_of_ble_eq_true rfl) d_Strata_joinedCount_17 ⟨by decide, by decide⟩ (fun r1 w9u1 hw1 => ?_)
        subst hw1
        refine g_iload_n X 2 d_Strata_joinedCount_20 rfl rfl ?_
        refine g_icmp_ne X 27 d_Strata_joinedCount_21 (by decide) (fun h21 => ?_) (fun h21 => ?_)
        · refine g_iinc X (nI (i + 1)) [(2, .int (nI (i + 1))), (0, .ref hs), (1, .int (nI n))] d_Strata_joinedCount_27 (k := 2) rfl (nI_1 i) (by decide) rfl ?_
          refine g_goto X 4 d_Strata_joinedCount_30 (by decide) ?_
          refine g_lv [1, 2, 0] rfl ?_
          exact ih4 (i + 1) n (by omega) (by omega) (by first | exact cntN_t h21 h1 | exact cntN_f h21 h1)
        · refine g_iinc X (nI (n + 1)) [(1, .int (nI (n + 1))), (0, .ref hs), (2, .int (nI i))] d_Strata_joinedCount_24 (k := 1) rfl (nI_1 n) (by decide) rfl ?_
          refine g_iinc X (nI (i + 1)) [(2, .int (nI (i + 1))), (1, .int (nI (n + 1))), (0, .ref hs)] d_Strata_joinedCount_27 (k := 2) rfl (nI_1 i) (by decide) rfl ?_
          refine g_goto X 4 d_Strata_joinedCount_30 (by decide) ?_
          refine g_lv [2, 1, 0] rfl ?_
          exact ih4 (i + 1) (n + 1) (by omega) (by omega) (by first | exact cntN_t h21 h1 | exact cntN_f h21 h1)
  refine g_iconst (v := nI 0) X d_Strata_joinedCount_0 rfl ?_
  refine g_istore_n X [(1, .int (nI 0)), (0, .ref hs)] d_Strata_joinedCount_1 rfl (by decide) rfl ?_
  refine g_iconst (v := nI 0) X d_Strata_joinedCount_2 rfl ?_
  refine g_istore_n X [(2, .int (nI 0)), (1, .int (nI 0)), (0, .ref hs)] d_Strata_joinedCount_3 rfl (by decide) rfl ?_
  refine g_lv [2, 1, 0] rfl ?_
  exact L4 ((K - 0) + 1) 0 0 (Nat.lt_succ_self _) (by omega) (rfl)

set_option maxHeartbeats 4000000 in
set_option maxRecDepth 100000 in
theorem k_Strata_pairCount (hs : Nat) (sn : Nat) (ss : Nat) (su : Nat) (K : Nat) (xu : Nat) (fU : Nat → Int64) (hK : K ≤ 48) : CtI l y_Strata_pairCount (Cond.code y_Strata_pairCount c_Strata_pairCount 3 (some .int) :: TB) ({ frames := 2, cells := 0, slots := 0, locals := 42 } : Room) D (tysv cI cJ cZ cQ) [.ref hs] [(hs, .inr (4, [.ref sn, .ref ss, .ref su, .int (nI K)])), (su, .inr (1, [.ref xu])), (xu, .inl (cJ, 48, .inr (.inl fU)))] 0 0 (fun (r : Int32) (_ : Unit) => r = nI (lsum (fun z9 => cnt (lb (fU z9)) 64) K)) (fun (_ : Unit) => [(hs, .inr (4, [.ref sn, .ref ss, .ref su, .int (nI K)])), (su, .inr (1, [.ref xu])), (xu, .inl (cJ, 48, .inr (.inl fU)))]) := by
  refine CtI.of c_Strata_pairCount 3 (some .int) (by decide) rfl (Nat.le_of_ble_eq_true rfl) ?_
  intro p e s m args below meth c A Q hA9 hQ9 X hr9 hlk9 hin9
  have L4 : ∀ (N4 : Nat) (i : Nat) (n : Nat), (K - i) < N4 → (i ≤ K) → (n = lsum (fun z9 => cnt (lb (fU z9)) 64) i) → G p l e ({ frames := 2, cells := 0, slots := 0, locals := 42 } : Room) s m args below meth c 3 D A s.heap Q 0 0 [(hs, .inr (4, [.ref sn, .ref ss, .ref su, .int (nI K)])), (su, .inr (1, [.ref xu])), (xu, .inl (cJ, 48, .inr (.inl fU)))] [(0, .ref hs), (1, .int (nI n)), (2, .int (nI i))] 4 [] := by
    intro N4
    induction N4 with
    | zero =>
      intro i n hN
      exact absurd hN (Nat.not_lt_zero _)
    | succ N4 ih4 =>
      intro i n hN4 hi h1
      refine g_iload_n X 2 d_Strata_pairCount_4 rfl rfl ?_
      refine g_aload_n X 0 d_Strata_pairCount_5 rfl rfl ?_
      refine g_get (C := R_Strata) (T := T_Strata) (N := 4) X 0 3 in_Strata rfl rfl (by decide) t1_87 rfl rfl d_Strata_pairCount_6 ?_
      refine n_icmp_ge X 32 d_Strata_pairCount_9 (by decide) (by omega) (by omega) (fun h9 => ?_) (fun h9 => ?_)
      · refine g_iload_n X 1 d_Strata_pairCount_32 rfl rfl ?_
        exact g_iret X hA9 hQ9 hr9 hlk9 () [0, 1, 2] rfl rfl d_Strata_pairCount_33 (by have e9 : i = K := (by omega); subst e9; rw [h1])
      · refine g_iload_n X 1 d_Strata_pairCount_12 rfl rfl ?_
        refine g_aload_n X 0 d_Strata_pairCount_13 rfl rfl ?_
        refine g_get (C := R_Strata) (T := T_Strata) (N := 4) X 0 2 in_Strata rfl rfl (by decide) t1_86 rfl rfl d_Strata_pairCount_14 ?_
        refine g_iload_n X 2 d_Strata_pairCount_17 rfl rfl ?_
        refine g_calllV (n := 1) X [.int (nI i)] (k_Rows_row su xu 48 fU i (by omega) (by omega)) t1_173 t1_174 t1_175 t1_6 t1_176 rfl rfl (by decide +kernel) ⟨by decide, by decide⟩ [1, 2] [0] [(hs, .inr (4, [.ref sn, .ref ss, .ref su, .int (nI K)]))] rfl rfl rfl rfl (by decide) 0 rfl rfl rfl rfl (Nat.le_of_ble_eq_true rfl) d_Strata_pairCount_18 ⟨by decide, by decide⟩ (fun r1 w9u1 hw1 => ?_)
        subst hw1
        refine g_calliS (n := 1) X [.long (fU i)] (k_Long_bitCount (fU i) ) t1_186 t1_187 t1_15 t1_188 rfl rfl (by decide +kernel) ⟨by decide, by decide⟩ [] [0, 1, 2] [(hs, .inr (4, [.ref sn, .ref ss, .ref su, .int (nI K)])), (su, .inr (1, [.ref xu])), (xu, .inl (cJ, 48, .inr (.inl fU)))] rfl rfl rfl rfl (by decide) rfl rfl (Nat.le_of_ble_eq_true rfl) d_Strata_pairCount_21 ⟨by decide, by decide⟩ (fun r2 w9u2 hw2 => ?_)
        subst hw2
        refine g_iadd X (nI (n + cnt (lb (fU i)) 64)) d_Strata_pairCount_24 (nI_add n (cnt (lb (fU i)) 64)) ?_
        refine g_istore_n X [(1, .int (nI (n + cnt (lb (fU i)) 64))), (0, .ref hs), (2, .int (nI i))] d_Strata_pairCount_25 rfl (by decide) rfl ?_
        refine g_iinc X (nI (i + 1)) [(2, .int (nI (i + 1))), (1, .int (nI (n + cnt (lb (fU i)) 64))), (0, .ref hs)] d_Strata_pairCount_26 (k := 2) rfl (nI_1 i) (by decide) rfl ?_
        refine g_goto X 4 d_Strata_pairCount_29 (by decide) ?_
        refine g_lv [2, 1, 0] rfl ?_
        exact ih4 (i + 1) (n + cnt (lb (fU i)) 64) (by omega) (by omega) (by rw [h1]; rfl)
  refine g_iconst (v := nI 0) X d_Strata_pairCount_0 rfl ?_
  refine g_istore_n X [(1, .int (nI 0)), (0, .ref hs)] d_Strata_pairCount_1 rfl (by decide) rfl ?_
  refine g_iconst (v := nI 0) X d_Strata_pairCount_2 rfl ?_
  refine g_istore_n X [(2, .int (nI 0)), (1, .int (nI 0)), (0, .ref hs)] d_Strata_pairCount_3 rfl (by decide) rfl ?_
  refine g_lv [2, 1, 0] rfl ?_
  exact L4 ((K - 0) + 1) 0 0 (Nat.lt_succ_self _) (by omega) (rfl)
end
section
variable {l : Launch} {D : va_G} {cI cJ cZ cQ : ClassId}
section GE
variable {p : Program} {e : Env} {R : Room} {s : State} {m : MethodId} {args : Array Value} {below : List Frame} {meth : Method} {c : Code} {cells slots nL : Nat} {Q : State → Prop} {A : Nat → Prop} {H0 : Heap} {ws : va_W} {lv : List (Nat × Value)} {pc : Nat} {rest : List Value}
theorem g_topE {x y : Int32} (e9 : x = y) (kk : G p l e R s m args below meth c nL D A H0 Q cells slots ws lv pc (.int y :: rest)) : G p l e R s m args below meth c nL D A H0 Q cells slots ws lv pc (.int x :: rest) := by
  subst e9
  exact kk
end GE
/-- a context's group: its number, 12 and more for none -/
def hI (g : Nat) : Int32 := if g < 12 then nI g else -1
theorem hI_t {g : Nat} (h : g < 12) : hI g = nI g := if_pos h
theorem hI_f {g : Nat} (h : ¬ g < 12) : hI g = -1 := if_neg h
theorem hI_ne {g : Nat} (h : ¬ hI g = -1) : g < 12 := by
  rcases Nat.lt_or_ge g 12 with q | q
  · exact q
  · exact absurd (hI_f (by omega)) h
theorem hI_eq {g : Nat} (h : hI g = -1) : ¬ g < 12 := by
  intro q
  rw [hI_t q] at h
  have := nI_pos (n := g) (by omega)
  rw [h] at this
  exact this (by decide)
theorem hI_inj {g k : Nat} (hg : g < 12) (h : hI k = hI g) : k = g := by
  rw [hI_t hg] at h
  rcases Nat.lt_or_ge k 12 with q | q
  · rw [hI_t q] at h
    exact (nI_eq (by omega) (by omega)).mp h
  · rw [hI_f (by omega)] at h
    have := nI_pos (n := g) (by omega)
    rw [← h] at this
    exact absurd (by decide) this
/-- the edge that the contexts x and y give between the groups g and h -/
def gpX (ov : Nat → Nat → Bool) (hm : Nat → Nat) (x y g h : Nat) : Prop := hm x = g ∧ hm y = h ∧ g < 12 ∧ h < 12 ∧ g ≠ h ∧ ov x y = true
/-- what the rows hold after the contexts before i against all, and i against those before k -/
def gpI (ov : Nat → Nat → Bool) (hm : Nat → Nat) (K i k : Nat) (fl : Nat → Int64) : Prop := ∀ g, g < 12 → ∀ h, lb (fl g) h = true ↔ ∃ x y, ((x < i ∧ y < K) ∨ (x = i ∧ y < k)) ∧ gpX ov hm x y g h
theorem gp_0 {ov : Nat → Nat → Bool} {hm : Nat → Nat} {K : Nat} {fl : Nat → Int64} (h : ∀ k, k < 12 → fl k = 0) : gpI ov hm K 0 0 fl := by
  intro g hg j
  rw [h g hg, lb_0]
  constructor
  · intro h; cases h
  · rintro ⟨x, y, h1, -⟩
    omega
theorem gp_row {ov : Nat → Nat → Bool} {hm : Nat → Nat} {K i k : Nat} {fl : Nat → Int64} (h : gpI ov hm K i k fl) (hk : k = K) : gpI ov hm K (i + 1) 0 fl := by
  subst hk
  intro g hg j
  rw [h g hg j]
  constructor
  · rintro ⟨x, y, h1, h2⟩
    exact ⟨x, y, by omega, h2⟩
  · rintro ⟨x, y, h1, h2⟩
    exact ⟨x, y, by omega, h2⟩
theorem gp_none {ov : Nat → Nat → Bool} {hm : Nat → Nat} {K i k : Nat} {fl : Nat → Int64} (h : gpI ov hm K i k fl) (hi : ¬ hm i < 12) : gpI ov hm K (i + 1) 0 fl := by
  intro g hg j
  rw [h g hg j]
  constructor
  · rintro ⟨x, y, h1 | ⟨h1, -⟩, h2⟩
    · exact ⟨x, y, by omega, h2⟩
    · obtain ⟨e1, -, l1, -⟩ := h2
      subst h1
      rw [e1] at hi
      exact absurd l1 hi
  · rintro ⟨x, y, h1, h2⟩
    rcases Nat.lt_or_ge x i with q | q
    · exact ⟨x, y, by omega, h2⟩
    · have e : x = i := by omega
      subst e
      obtain ⟨e1, -, l1, -⟩ := h2
      rw [e1] at hi
      exact absurd l1 hi
theorem gp_skip {ov : Nat → Nat → Bool} {hm : Nat → Nat} {K i k : Nat} {fl : Nat → Int64} (h : gpI ov hm K i k fl) (hx : ∀ g j, ¬ gpX ov hm i k g j) : gpI ov hm K i (k + 1) fl := by
  intro g hg j
  rw [h g hg j]
  constructor
  · rintro ⟨x, y, h1, h2⟩
    exact ⟨x, y, by omega, h2⟩
  · rintro ⟨x, y, h1, h2⟩
    by_cases q : x = i ∧ y = k
    · obtain ⟨rfl, rfl⟩ := q
      exact absurd h2 (hx g j)
    · exact ⟨x, y, by omega, h2⟩
theorem gp_skip1 {ov : Nat → Nat → Bool} {hm : Nat → Nat} {K i k : Nat} {fl : Nat → Int64} (h : gpI ov hm K i k fl) (hi : hm i < 12) (he : hI (hm k) = hI (hm i)) : gpI ov hm K i (k + 1) fl := gp_skip h (by
  rintro g j ⟨e1, e2, -, -, hne, -⟩
  have := hI_inj hi he
  omega)
theorem gp_skip2 {ov : Nat → Nat → Bool} {hm : Nat → Nat} {K i k : Nat} {fl : Nat → Int64} (h : gpI ov hm K i k fl) (he : ov i k = false) : gpI ov hm K i (k + 1) fl := gp_skip h (by
  rintro g j ⟨-, -, -, -, -, h9⟩
  rw [he] at h9
  cases h9)
theorem gp_skip3 {ov : Nat → Nat → Bool} {hm : Nat → Nat} {K i k : Nat} {fl : Nat → Int64} (h : gpI ov hm K i k fl) (he : ¬ hm k < 12) : gpI ov hm K i (k + 1) fl := gp_skip h (by
  rintro g j ⟨-, e2, -, l2, -, -⟩
  rw [e2] at he
  exact he l2)
theorem gp_put {ov : Nat → Nat → Bool} {hm : Nat → Nat} {K i k : Nat} {fl : Nat → Int64} (h : gpI ov hm K i k fl) (hi : hm i < 12) (hk : hm k < 12) (hne : ¬ hI (hm k) = hI (hm i)) (ho : ov i k = true) : gpI ov hm K i (k + 1) (vp_updL fl (hm i) (fl (hm i) ||| ((1 : Int64) <<< ((nI (hm k)).toInt64 &&& 63)))) := by
  intro g hg j
  rw [lb_mark (by omega), Bool.or_eq_true, h g hg j, Bool.and_eq_true, decide_eq_true_eq, decide_eq_true_eq]
  constructor
  · rintro (⟨x, y, h1, h2⟩ | ⟨e1, e2⟩)
    · exact ⟨x, y, by omega, h2⟩
    · subst e1
      subst e2
      exact ⟨i, k, by omega, rfl, rfl, hi, hk, fun q => hne (by rw [q]), ho⟩
  · rintro ⟨x, y, h1, h2⟩
    by_cases q : x = i ∧ y = k
    · obtain ⟨rfl, rfl⟩ := q
      exact Or.inr ⟨h2.1.symm, h2.2.1.symm⟩
    · exact Or.inl ⟨x, y, by omega, h2⟩
def gpE (ov : Nat → Nat → Bool) (hm : Nat → Nat) (K g h : Nat) : Bool := decide (g < 12) && decide (h < 12) && decide (g ≠ h) && anyB (fun x => anyB (fun y => decide (hm x = g) && decide (hm y = h) && ov x y) K) K
theorem gpE_iff {ov : Nat → Nat → Bool} {hm : Nat → Nat} {K g h : Nat} : gpE ov hm K g h = true ↔ ∃ x y, x < K ∧ y < K ∧ gpX ov hm x y g h := by
  simp only [gpE, Bool.and_eq_true, decide_eq_true_eq, anyB_iff]
  constructor
  · rintro ⟨⟨⟨h1, h2⟩, h3⟩, x, hx, y, hy, ⟨h4, h5⟩, h6⟩
    exact ⟨x, y, hx, hy, h4, h5, h1, h2, h3, h6⟩
  · rintro ⟨x, y, hx, hy, h4, h5, h1, h2, h3, h6⟩
    exact ⟨⟨⟨h1, h2⟩, h3⟩, x, hx, y, hy, ⟨h4, h5⟩, h6⟩
theorem gpE_in (ov : Nat → Nat → Bool) (hm : Nat → Nat) (K : Nat) : gin (gpE ov hm K) 12 := by
  intro x y h
  obtain ⟨-, -, -, -, -, -, h1, h2, -⟩ := gpE_iff.mp h
  exact ⟨h1, h2⟩
theorem gp_rowE {ov : Nat → Nat → Bool} {hm : Nat → Nat} {K : Nat} {fl : Nat → Int64} (h : gpI ov hm K K 0 fl) : rowE 12 fl = gpE ov hm K := by
  funext g j
  rw [Bool.eq_iff_iff, gpE_iff]
  rcases Nat.lt_or_ge g 12 with q | q
  · rw [rowE_in q, h g q j]
    constructor
    · rintro ⟨x, y, h1, h2⟩
      exact ⟨x, y, by omega, by omega, h2⟩
    · rintro ⟨x, y, h1, h2, h3⟩
      exact ⟨x, y, Or.inl ⟨h1, h2⟩, h3⟩
  · constructor
    · intro z
      simp [rowE, Nat.not_lt.mpr q] at z
    · rintro ⟨x, y, -, -, -, -, z, -⟩
      omega
theorem gp_in {ov : Nat → Nat → Bool} {hm : Nat → Nat} {K : Nat} {fl : Nat → Int64} (h : rowE 12 fl = gpE ov hm K) : ∀ x, x < 12 → ∀ j, lb (fl x) j = true → j < 12 := by
  intro x hx j hb
  refine (gpE_in ov hm K x j ?_).2
  rw [← h, rowE_in hx]
  exact hb
theorem upd_back (f : Nat → Int32) (k : Nat) (x : Int32) : upd (upd f k x) k (f k) = f := by
  funext j
  by_cases e : j = k
  · subst e; exact pk_us
  · rw [pk_un e, pk_un e]
theorem hm_upd {f : Nat → Int32} {hm : Nat → Nat} {k g : Nat} (hg : g < 12) (h : ∀ c, c < 48 → f c = hI (hm c)) : ∀ c, c < 48 → upd f k (nI g) c = hI (if c = k then g else hm c) := by
  intro c hc
  by_cases e : c = k
  · subst e
    rw [pk_us, if_pos rfl, hI_t hg]
  · rw [pk_un e, if_neg e]
    exact h c hc
/-! versions: what the rows hold -/
def vvI (ov : Nat → Nat → Bool) (K i k : Nat) (x y : Nat) : Prop := ((x < i ∧ y < K) ∨ (x = i ∧ y < k)) ∧ ov x y = true
def vvA (ov : Nat → Nat → Bool) (K i k : Nat) (f : Nat → Int64) : Prop := ∀ x, x < 48 → ∀ y, lb (f x) y = true ↔ vvI ov K i k x y
def vvB (ov : Nat → Nat → Bool) (K i k : Nat) (f : Nat → Int64) : Prop := ∀ x, x < 48 → ∀ y, lb (f x) y = true ↔ vvI ov K i k y x
theorem vv_0 {ov : Nat → Nat → Bool} {K : Nat} (x y : Nat) : ¬ vvI ov K 0 0 x y := by
  rintro ⟨h, -⟩
  omega
theorem vvA_0 {ov : Nat → Nat → Bool} {K : Nat} : vvA ov K 0 0 (fun _ => 0) := by
  intro x hx y
  rw [lb_0]
  exact ⟨fun h => (by cases h), fun h => absurd h (vv_0 x y)⟩
theorem vvB_0 {ov : Nat → Nat → Bool} {K : Nat} : vvB ov K 0 0 (fun _ => 0) := by
  intro x hx y
  rw [lb_0]
  exact ⟨fun h => (by cases h), fun h => absurd h (vv_0 y x)⟩
theorem vv_row {ov : Nat → Nat → Bool} {K i k x y : Nat} (hk : k = K) : vvI ov K i k x y ↔ vvI ov K (i + 1) 0 x y := by
  subst hk
  unfold vvI
  constructor
  · rintro ⟨h1, h2⟩; exact ⟨by omega, h2⟩
  · rintro ⟨h1, h2⟩; exact ⟨by omega, h2⟩
theorem vvA_row {ov : Nat → Nat → Bool} {K i k : Nat} {f : Nat → Int64} (h : vvA ov K i k f) (hk : k = K) : vvA ov K (i + 1) 0 f := fun x hx y => (h x hx y).trans (vv_row hk)
theorem vvB_row {ov : Nat → Nat → Bool} {K i k : Nat} {f : Nat → Int64} (h : vvB ov K i k f) (hk : k = K) : vvB ov K (i + 1) 0 f := fun x hx y => (h x hx y).trans (vv_row hk)
theorem vv_skip {ov : Nat → Nat → Bool} {K i k x y : Nat} (ho : ov i k = false) : vvI ov K i k x y ↔ vvI ov K i (k + 1) x y := by
  unfold vvI
  constructor
  · rintro ⟨h1, h2⟩; exact ⟨by omega, h2⟩
  · rintro ⟨h1, h2⟩
    by_cases q : x = i ∧ y = k
    · obtain ⟨rfl, rfl⟩ := q
      rw [ho] at h2
      cases h2
    · exact ⟨by omega, h2⟩
theorem vvA_skip {ov : Nat → Nat → Bool} {K i k : Nat} {f : Nat → Int64} (h : vvA ov K i k f) (ho : ov i k = false) : vvA ov K i (k + 1) f := fun x hx y => (h x hx y).trans (vv_skip ho)
theorem vvB_skip {ov : Nat → Nat → Bool} {K i k : Nat} {f : Nat → Int64} (h : vvB ov K i k f) (ho : ov i k = false) : vvB ov K i (k + 1) f := fun x hx y => (h x hx y).trans (vv_skip ho)
theorem vv_put {ov : Nat → Nat → Bool} {K i k x y : Nat} (ho : ov i k = true) : vvI ov K i (k + 1) x y ↔ vvI ov K i k x y ∨ (x = i ∧ y = k) := by
  unfold vvI
  constructor
  · rintro ⟨h1, h2⟩
    by_cases q : x = i ∧ y = k
    · exact Or.inr q
    · exact Or.inl ⟨by omega, h2⟩
  · rintro (⟨h1, h2⟩ | ⟨rfl, rfl⟩)
    · exact ⟨by omega, h2⟩
    · exact ⟨by omega, ho⟩
theorem vvA_put {ov : Nat → Nat → Bool} {K i k : Nat} {f : Nat → Int64} (h : vvA ov K i k f) (hk : k < 48) (ho : ov i k = true) : vvA ov K i (k + 1) (vp_updL f i (f i ||| ((1 : Int64) <<< ((nI k).toInt64 &&& 63)))) := by
  intro x hx y
  rw [lb_mark (by omega), Bool.or_eq_true, h x hx y, vv_put ho, Bool.and_eq_true, decide_eq_true_eq, decide_eq_true_eq]
theorem vvB_put {ov : Nat → Nat → Bool} {K i k : Nat} {f : Nat → Int64} (h : vvB ov K i k f) (hi : i < 48) (ho : ov i k = true) : vvB ov K i (k + 1) (vp_updL f k (f k ||| ((1 : Int64) <<< ((nI i).toInt64 &&& 63)))) := by
  intro x hx y
  rw [lb_mark (by omega), Bool.or_eq_true, h x hx y, vv_put ho, Bool.and_eq_true, decide_eq_true_eq, decide_eq_true_eq]
  constructor
  · rintro (z | ⟨z1, z2⟩)
    · exact Or.inl z
    · exact Or.inr ⟨z2, z1⟩
  · rintro (z | ⟨z1, z2⟩)
    · exact Or.inl z
    · exact Or.inr ⟨z2, z1⟩
theorem vnum_step {g fN : Nat → Int32} {i K : Nat} (hi : i < K) (h1 : ∀ k, k < i → g k = fN k) : ∀ k, k < i + 1 → upd g i (fN i) k = fN k := by
  intro k hk
  rcases Nat.lt_or_ge k i with q | q
  · rw [pk_un (by omega)]
    exact h1 k q
  · have e : k = i := by omega
    subst e
    exact pk_us
/-! what differs -/
def dfI (n1 n2 : Nat → Int32) (u1 u2 o1 o2 : Nat → Int64) (z : Nat) : Prop := n1 z = n2 z ∧ u1 z = u2 z ∧ o1 z = o2 z
theorem df_0 {n1 n2 : Nat → Int32} {u1 u2 o1 o2 : Nat → Int64} : ∀ x, lb (0 : Int64) x = true ↔ x < 0 ∧ ¬ dfI n1 n2 u1 u2 o1 o2 x := by
  intro x
  rw [lb_0]
  exact ⟨fun h => (by cases h), fun h => absurd h.1 (Nat.not_lt_zero _)⟩
theorem df_keep {n1 n2 : Nat → Int32} {u1 u2 o1 o2 : Nat → Int64} {w : Int64} {i : Nat} (h : ∀ x, lb w x = true ↔ x < i ∧ ¬ dfI n1 n2 u1 u2 o1 o2 x) (a1 : n1 i = n2 i) (a2 : u1 i = u2 i) (a3 : o1 i = o2 i) : ∀ x, lb w x = true ↔ x < i + 1 ∧ ¬ dfI n1 n2 u1 u2 o1 o2 x := by
  intro x
  rw [h x]
  constructor
  · rintro ⟨h1, h2⟩; exact ⟨by omega, h2⟩
  · rintro ⟨h1, h2⟩
    rcases Nat.lt_or_ge x i with q | q
    · exact ⟨q, h2⟩
    · have e : x = i := by omega
      subst e
      exact absurd ⟨a1, a2, a3⟩ h2
theorem df_put {n1 n2 : Nat → Int32} {u1 u2 o1 o2 : Nat → Int64} {w : Int64} {i : Nat} (hi : i < 64) (h : ∀ x, lb w x = true ↔ x < i ∧ ¬ dfI n1 n2 u1 u2 o1 o2 x) (hn : ¬ dfI n1 n2 u1 u2 o1 o2 i) : ∀ x, lb (w ||| ((1 : Int64) <<< ((nI i).toInt64 &&& 63))) x = true ↔ x < i + 1 ∧ ¬ dfI n1 n2 u1 u2 o1 o2 x := by
  intro x
  rw [lb_or, lb_one hi, Bool.or_eq_true, h x, decide_eq_true_eq]
  constructor
  · rintro (⟨h1, h2⟩ | h1)
    · exact ⟨by omega, h2⟩
    · subst h1; exact ⟨by omega, hn⟩
  · rintro ⟨h1, h2⟩
    rcases Nat.lt_or_ge x i with q | q
    · exact Or.inl ⟨q, h2⟩
    · exact Or.inr (by omega)

set_option maxHeartbeats 4000000 in
set_option maxRecDepth 100000 in
theorem k_Groups_init (hg : Nat)  : CtV l y_Groups_init (Cond.code y_Groups_init c_Groups_init 1 none :: TB) ({ frames := 3, cells := 8, slots := 163, locals := 56 } : Room) D (tysv cI cJ cZ cQ) [.ref hg] [(hg, .inr (5, [.null, .null, .null, .int (nI 0)]))] 8 163 (fun (u : Nat × Nat × Nat × Nat × Nat × Nat × Nat × Nat × (Nat → Int32) × (Nat → Int32)) => ∀ k, k < 48 → u.2.2.2.2.2.2.2.2.1 k = -1) (fun (u : Nat × Nat × Nat × Nat × Nat × Nat × Nat × Nat × (Nat → Int32) × (Nat → Int32)) => [(hg, .inr (5, [.ref u.1, .ref u.2.2.1, .ref u.2.2.2.2.1, .int (nI 0)])), (u.1, .inr (0, [.ref u.2.1])), (u.2.1, .inl (cI, 48, .inl u.2.2.2.2.2.2.2.2.1)), (u.2.2.1, .inr (1, [.ref u.2.2.2.1])), (u.2.2.2.1, .inl (cJ, 12, .inr (.inl (fun _ => 0)))), (u.2.2.2.2.1, .inr (3, [.ref u.2.2.2.2.2.1, .ref u.2.2.2.2.2.2.2.1, .int (nI 0)])), (u.2.2.2.2.2.1, .inr (0, [.ref u.2.2.2.2.2.2.1])), (u.2.2.2.2.2.2.1, .inl (cI, 48, .inl u.2.2.2.2.2.2.2.2.2)), (u.2.2.2.2.2.2.2.1, .inl (cJ, 48, .inr (.inl (fun _ => 0))))]) := by
  refine CtV.of c_Groups_init 1 none (by decide) rfl (Nat.le_of_ble_eq_true rfl) ?_
  intro p e s m args below meth c A Q hA9 hQ9 X hr9 hlk9 hin9
  refine g_aload_n X 0 d_Groups_init_0 rfl rfl ?_
  refine g_objInit X t1_120 t1_23 t1_24 d_Groups_init_1 (by decide) (Nat.le_of_ble_eq_true rfl) ?_
  refine g_aload_n X 0 d_Groups_init_4 rfl rfl ?_
  refine g_new (ci := 0) (fs := [.null]) (C := R_Cells) (T := T_Cells) (N := 1) X t_Cells ty_Cells in_Cells t1_121 t1_32 t1_3 rfl (fun j hj => by rcases (show j = 0 by omega) with rfl <;> rfl) (by decide) (by decide) d_Groups_init_5 (fun q1 => ?_)
  refine g_dup X d_Groups_init_8 rfl ?_
  refine g_bipush (v := nI 48) X d_Groups_init_9 rfl ?_
  refine g_callvI (n := 1) X [.int (nI 48)] (k_Cells_init48 q1 ) t1_122 t1_34 rfl t1_3 t1_35 rfl rfl (by decide +kernel) ⟨by decide, by decide⟩ [1] [0] [(hg, .inr (5, [.null, .null, .null, .int (nI 0)]))] rfl rfl rfl rfl (by decide) rfl rfl (Nat.le_of_ble_eq_true rfl) d_Groups_init_11 ⟨by decide, by decide⟩ (fun ⟨q_2, g_2⟩ w1 => ?_)
  refine g_putF (C := R_Groups) (T := T_Groups) (N := 4) (ty := .object "RelationOrder$Cells") X 0 0 [(hg, .inr (5, [.ref q1, .null, .null, .int (nI 0)])), (q1, .inr (0, [.ref q_2])), (q_2, .inl (cI, 48, .inl g_2))] t_Groups ty_Groups nm_Groups in_Groups rfl rfl (by decide) t1_127 rfl rfl hin9 rfl (by decide +kernel) rfl rfl (Nat.le_of_ble_eq_true rfl) rfl d_Groups_init_14 ?_
  refine g_aload_n X 0 d_Groups_init_17 rfl rfl ?_
  refine g_new (ci := 1) (fs := [.null]) (C := R_Rows) (T := T_Rows) (N := 1) X t_Rows ty_Rows in_Rows t1_123 t1_70 t1_6 rfl (fun j hj => by rcases (show j = 0 by omega) with rfl <;> rfl) (by decide) (by decide) d_Groups_init_18 (fun q3 => ?_)
  refine g_dup X d_Groups_init_21 rfl ?_
  refine g_bipush (v := nI 12) X d_Groups_init_22 rfl ?_
  refine g_callvI (n := 1) X [.int (nI 12)] (k_Rows_init12 q3 ) t1_124 t1_72 rfl t1_6 t1_73 rfl rfl (by decide +kernel) ⟨by decide, by decide⟩ [3] [0, 1, 2] [(hg, .inr (5, [.ref q1, .null, .null, .int (nI 0)])), (q1, .inr (0, [.ref q_2])), (q_2, .inl (cI, 48, .inl g_2))] rfl rfl rfl rfl (by decide) rfl rfl (Nat.le_of_ble_eq_true rfl) d_Groups_init_24 ⟨by decide, by decide⟩ (fun q_4 hw4 => ?_)
  refine g_putF (C := R_Groups) (T := T_Groups) (N := 4) (ty := .object "RelationOrder$Rows") X 0 1 [(hg, .inr (5, [.ref q1, .ref q3, .null, .int (nI 0)])), (q1, .inr (0, [.ref q_2])), (q_2, .inl (cI, 48, .inl g_2)), (q3, .inr (1, [.ref q_4])), (q_4, .inl (cJ, 12, .inr (.inl (fun _ => 0))))] t_Groups ty_Groups nm_Groups in_Groups rfl rfl (by decide) t1_128 rfl rfl hin9 rfl (by decide +kernel) rfl rfl (Nat.le_of_ble_eq_true rfl) rfl d_Groups_init_27 ?_
  refine g_aload_n X 0 d_Groups_init_30 rfl rfl ?_
  refine g_new (ci := 3) (fs := [.null, .null, .int 0]) (C := R_Ring) (T := T_Ring) (N := 3) X t_Ring ty_Ring in_Ring t1_125 t1_98 t1_7 rfl (fun j hj => by rcases (show j = 0 ∨ j = 1 ∨ j = 2 by omega) with rfl | rfl | rfl <;> rfl) (by decide) (by decide) d_Groups_init_31 (fun q5 => ?_)
  refine g_dup X d_Groups_init_34 rfl ?_
  refine g_callvI (n := 0) X [] (k_Ring_init q5 ) t1_126 t1_100 rfl t1_7 t1_101 rfl rfl (by decide +kernel) ⟨by decide, by decide⟩ [5] [0, 1, 2, 3, 4] [(hg, .inr (5, [.ref q1, .ref q3, .null, .int (nI 0)])), (q1, .inr (0, [.ref q_2])), (q_2, .inl (cI, 48, .inl g_2)), (q3, .inr (1, [.ref q_4])), (q_4, .inl (cJ, 12, .inr (.inl (fun _ => 0))))] rfl rfl rfl rfl (by decide) rfl rfl (Nat.le_of_ble_eq_true rfl) d_Groups_init_35 ⟨by decide, by decide⟩ (fun ⟨rp_6, ap_6, ly_6, P_6⟩ hw6 => ?_)
  refine g_putF (C := R_Groups) (T := T_Groups) (N := 4) (ty := .object "RelationOrder$Ring") X 0 2 [(hg, .inr (5, [.ref q1, .ref q3, .ref q5, .int (nI 0)])), (q1, .inr (0, [.ref q_2])), (q_2, .inl (cI, 48, .inl g_2)), (q3, .inr (1, [.ref q_4])), (q_4, .inl (cJ, 12, .inr (.inl (fun _ => 0)))), (q5, .inr (3, [.ref rp_6, .ref ly_6, .int (nI 0)])), (rp_6, .inr (0, [.ref ap_6])), (ap_6, .inl (cI, 48, .inl P_6)), (ly_6, .inl (cJ, 48, .inr (.inl (fun _ => 0))))] t_Groups ty_Groups nm_Groups in_Groups rfl rfl (by decide) t1_129 rfl rfl hin9 rfl (by decide +kernel) rfl rfl (Nat.le_of_ble_eq_true rfl) rfl d_Groups_init_38 ?_
  refine g_aload_n X 0 d_Groups_init_41 rfl rfl ?_
  refine g_iconst (v := nI 0) X d_Groups_init_42 rfl ?_
  refine g_put (C := R_Groups) (T := T_Groups) (N := 4) (ty := .int) X 0 3 [(hg, .inr (5, [.ref q1, .ref q3, .ref q5, .int (nI 0)])), (q1, .inr (0, [.ref q_2])), (q_2, .inl (cI, 48, .inl g_2)), (q3, .inr (1, [.ref q_4])), (q_4, .inl (cJ, 12, .inr (.inl (fun _ => 0)))), (q5, .inr (3, [.ref rp_6, .ref ly_6, .int (nI 0)])), (rp_6, .inr (0, [.ref ap_6])), (ap_6, .inl (cI, 48, .inl P_6)), (ly_6, .inl (cJ, 48, .inr (.inl (fun _ => 0))))] t_Groups ty_Groups nm_Groups in_Groups rfl rfl (by decide) t1_130 rfl rfl (by decide +kernel) rfl rfl (Nat.le_of_ble_eq_true rfl) rfl d_Groups_init_43 ?_
  refine g_widen (k := 8) (n := 163) (by decide) (by decide) ?_
  exact g_vret X hA9 hQ9 hr9 hlk9 ⟨q1, q_2, q3, q_4, q5, rp_6, ap_6, ly_6, g_2, P_6⟩ [0, 1, 2, 3, 4, 5, 6, 7, 8] rfl rfl d_Groups_init_46 (by (try dsimp only); exact (w1))

set_option maxHeartbeats 4000000 in
set_option maxRecDepth 100000 in
theorem k_Groups_made (hg : Nat) (gh : Nat) (gl : Nat) (gr : Nat) (gm : Nat)  : CtI l y_Groups_made (Cond.code y_Groups_made c_Groups_made 1 (some .int) :: TB) ({ frames := 0, cells := 0, slots := 0, locals := 0 } : Room) D (tysv cI cJ cZ cQ) [.ref hg] [(hg, .inr (5, [.ref gh, .ref gl, .ref gr, .int (nI gm)]))] 0 0 (fun (r : Int32) (_ : Unit) => r = nI gm) (fun (_ : Unit) => [(hg, .inr (5, [.ref gh, .ref gl, .ref gr, .int (nI gm)]))]) := by
  refine CtI.of c_Groups_made 1 (some .int) (by decide) rfl (Nat.le_of_ble_eq_true rfl) ?_
  intro p e s m args below meth c A Q hA9 hQ9 X hr9 hlk9 hin9
  refine g_aload_n X 0 d_Groups_made_0 rfl rfl ?_
  refine g_get (C := R_Groups) (T := T_Groups) (N := 4) X 0 3 in_Groups rfl rfl (by decide) t1_130 rfl rfl d_Groups_made_1 ?_
  exact g_iret X hA9 hQ9 hr9 hlk9 () [0] rfl rfl d_Groups_made_4 (rfl)

set_option maxHeartbeats 4000000 in
set_option maxRecDepth 100000 in
theorem k_Groups_add (hg : Nat) (gh : Nat) (gl : Nat) (gr : Nat) (gm : Nat) (hm9 : gm < 12) : CtI l y_Groups_add (Cond.code y_Groups_add c_Groups_add 1 (some .int) :: TB) ({ frames := 0, cells := 0, slots := 0, locals := 0 } : Room) D (tysv cI cJ cZ cQ) [.ref hg] [(hg, .inr (5, [.ref gh, .ref gl, .ref gr, .int (nI gm)]))] 0 0 (fun (r : Int32) (_ : Unit) => r = nI gm) (fun (_ : Unit) => [(hg, .inr (5, [.ref gh, .ref gl, .ref gr, .int (nI (gm + 1))]))]) := by
  refine CtI.of c_Groups_add 1 (some .int) (by decide) rfl (Nat.le_of_ble_eq_true rfl) ?_
  intro p e s m args below meth c A Q hA9 hQ9 X hr9 hlk9 hin9
  refine g_aload_n X 0 d_Groups_add_0 rfl rfl ?_
  refine g_dup X d_Groups_add_1 rfl ?_
  refine g_get (C := R_Groups) (T := T_Groups) (N := 4) X 0 3 in_Groups rfl rfl (by decide) t1_130 rfl rfl d_Groups_add_2 ?_
  refine g_iconst (v := nI 1) X d_Groups_add_5 rfl ?_
  refine g_iadd X (nI (gm + 1)) d_Groups_add_6 (nI_add gm 1) ?_
  refine g_put (C := R_Groups) (T := T_Groups) (N := 4) (ty := .int) X 0 3 [(hg, .inr (5, [.ref gh, .ref gl, .ref gr, .int (nI (gm + 1))]))] t_Groups ty_Groups nm_Groups in_Groups rfl rfl (by decide) t1_130 rfl rfl (by decide +kernel) rfl rfl (Nat.le_of_ble_eq_true rfl) rfl d_Groups_add_7 ?_
  refine g_aload_n X 0 d_Groups_add_10 rfl rfl ?_
  refine g_get (C := R_Groups) (T := T_Groups) (N := 4) X 0 3 in_Groups rfl rfl (by decide) t1_130 rfl rfl d_Groups_add_11 ?_
  refine g_iconst (v := nI 1) X d_Groups_add_14 rfl ?_
  refine g_isub X (nI ((gm + 1) - 1)) d_Groups_add_15 (pk_sub (by omega)) ?_
  exact g_iret X hA9 hQ9 hr9 hlk9 () [0] rfl rfl d_Groups_add_16 (by rw [Nat.add_sub_cancel])

set_option maxHeartbeats 4000000 in
set_option maxRecDepth 100000 in
theorem k_Groups_homeOf (hg : Nat) (gh : Nat) (gl : Nat) (gr : Nat) (mk : Int32) (xh : Nat) (fH : Nat → Int32) (j : Nat) (hj : j < 48) : CtI l y_Groups_homeOf (Cond.code y_Groups_homeOf c_Groups_homeOf 2 (some .int) :: TB) ({ frames := 1, cells := 0, slots := 0, locals := 21 } : Room) D (tysv cI cJ cZ cQ) [.ref hg, .int (nI j)] [(hg, .inr (5, [.ref gh, .ref gl, .ref gr, .int mk])), (gh, .inr (0, [.ref xh])), (xh, .inl (cI, 48, .inl fH))] 0 0 (fun (r : Int32) (_ : Unit) => r = fH j) (fun (_ : Unit) => [(hg, .inr (5, [.ref gh, .ref gl, .ref gr, .int mk])), (gh, .inr (0, [.ref xh])), (xh, .inl (cI, 48, .inl fH))]) := by
  refine CtI.of c_Groups_homeOf 2 (some .int) (by decide) rfl (Nat.le_of_ble_eq_true rfl) ?_
  intro p e s m args below meth c A Q hA9 hQ9 X hr9 hlk9 hin9
  refine g_aload_n X 0 d_Groups_homeOf_0 rfl rfl ?_
  refine g_get (C := R_Groups) (T := T_Groups) (N := 4) X 0 0 in_Groups rfl rfl (by decide) t1_127 rfl rfl d_Groups_homeOf_1 ?_
  refine g_iload_n X 1 d_Groups_homeOf_4 rfl rfl ?_
  refine g_calliV (n := 1) X [.int (nI j)] (k_Cells_at gh xh 48 fH j (by omega) (by omega)) t3_36 t2_78 t2_79 t1_3 t2_80 rfl rfl (by decide +kernel) ⟨by decide, by decide⟩ [1, 2] [0] [(hg, .inr (5, [.ref gh, .ref gl, .ref gr, .int mk]))] rfl rfl rfl rfl (by decide) 0 rfl rfl rfl rfl (Nat.le_of_ble_eq_true rfl) d_Groups_homeOf_5 ⟨by decide, by decide⟩ (fun r1 w9u1 hw1 => ?_)
  subst hw1
  exact g_iret X hA9 hQ9 hr9 hlk9 () [0, 1, 2] rfl rfl d_Groups_homeOf_8 (rfl)

set_option maxHeartbeats 4000000 in
set_option maxRecDepth 100000 in
theorem k_Groups_ringPlace (hg : Nat) (gh : Nat) (gl : Nat) (gr : Nat) (mk : Int32) (rp : Nat) (ly : Nat) (d : Nat) (ap : Nat) (P : Nat → Int32) (k : Nat) (hk : k < d) (hd : d ≤ 48) : CtI l y_Groups_ringPlace (Cond.code y_Groups_ringPlace c_Groups_ringPlace 2 (some .int) :: TB) ({ frames := 2, cells := 0, slots := 0, locals := 42 } : Room) D (tysv cI cJ cZ cQ) [.ref hg, .int (nI k)] [(hg, .inr (5, [.ref gh, .ref gl, .ref gr, .int mk])), (gr, .inr (3, [.ref rp, .ref ly, .int (nI d)])), (rp, .inr (0, [.ref ap])), (ap, .inl (cI, 48, .inl P))] 0 0 (fun (r : Int32) (_ : Unit) => r = P k) (fun (_ : Unit) => [(hg, .inr (5, [.ref gh, .ref gl, .ref gr, .int mk])), (gr, .inr (3, [.ref rp, .ref ly, .int (nI d)])), (rp, .inr (0, [.ref ap])), (ap, .inl (cI, 48, .inl P))]) := by
  refine CtI.of c_Groups_ringPlace 2 (some .int) (by decide) rfl (Nat.le_of_ble_eq_true rfl) ?_
  intro p e s m args below meth c A Q hA9 hQ9 X hr9 hlk9 hin9
  refine g_aload_n X 0 d_Groups_ringPlace_0 rfl rfl ?_
  refine g_get (C := R_Groups) (T := T_Groups) (N := 4) X 0 2 in_Groups rfl rfl (by decide) t1_129 rfl rfl d_Groups_ringPlace_1 ?_
  refine g_iload_n X 1 d_Groups_ringPlace_4 rfl rfl ?_
  refine g_calliV (n := 1) X [.int (nI k)] (k_Ring_place gr rp ly d ap P k (by omega) (by omega)) t3_58 t2_173 t2_174 t1_7 t2_175 rfl rfl (by decide +kernel) ⟨by decide, by decide⟩ [1, 2, 3] [0] [(hg, .inr (5, [.ref gh, .ref gl, .ref gr, .int mk]))] rfl rfl rfl rfl (by decide) 0 rfl rfl rfl rfl (Nat.le_of_ble_eq_true rfl) d_Groups_ringPlace_5 ⟨by decide, by decide⟩ (fun r1 w9u1 hw1 => ?_)
  subst hw1
  exact g_iret X hA9 hQ9 hr9 hlk9 () [0, 1, 2, 3] rfl rfl d_Groups_ringPlace_8 (rfl)

set_option maxHeartbeats 4000000 in
set_option maxRecDepth 100000 in
theorem k_Groups_ringPlaceN (hg : Nat) (gh : Nat) (gl : Nat) (gr : Nat) (mk : Int32) (rp : Nat) (ly : Nat) (d : Nat) (k : Nat) (hk : d ≤ k) (hk2 : k < 2 ^ 31) : CtI l y_Groups_ringPlace (Cond.code y_Groups_ringPlace c_Groups_ringPlace 2 (some .int) :: TB) ({ frames := 1, cells := 0, slots := 0, locals := 21 } : Room) D (tysv cI cJ cZ cQ) [.ref hg, .int (nI k)] [(hg, .inr (5, [.ref gh, .ref gl, .ref gr, .int mk])), (gr, .inr (3, [.ref rp, .ref ly, .int (nI d)]))] 0 0 (fun (r : Int32) (_ : Unit) => r = -1) (fun (_ : Unit) => [(hg, .inr (5, [.ref gh, .ref gl, .ref gr, .int mk])), (gr, .inr (3, [.ref rp, .ref ly, .int (nI d)]))]) := by
  refine CtI.of c_Groups_ringPlace 2 (some .int) (by decide) rfl (Nat.le_of_ble_eq_true rfl) ?_
  intro p e s m args below meth c A Q hA9 hQ9 X hr9 hlk9 hin9
  refine g_aload_n X 0 d_Groups_ringPlace_0 rfl rfl ?_
  refine g_get (C := R_Groups) (T := T_Groups) (N := 4) X 0 2 in_Groups rfl rfl (by decide) t1_129 rfl rfl d_Groups_ringPlace_1 ?_
  refine g_iload_n X 1 d_Groups_ringPlace_4 rfl rfl ?_
  refine g_calliV (n := 1) X [.int (nI k)] (k_Ring_placeN gr rp ly d k (by omega) (by omega)) t3_58 t2_173 t2_174 t1_7 t2_175 rfl rfl (by decide +kernel) ⟨by decide, by decide⟩ [1] [0] [(hg, .inr (5, [.ref gh, .ref gl, .ref gr, .int mk]))] rfl rfl rfl rfl (by decide) 0 rfl rfl rfl rfl (Nat.le_of_ble_eq_true rfl) d_Groups_ringPlace_5 ⟨by decide, by decide⟩ (fun r1 w9u1 hw1 => ?_)
  subst hw1
  exact g_iret X hA9 hQ9 hr9 hlk9 () [0, 1] rfl rfl d_Groups_ringPlace_8 (rfl)

set_option maxHeartbeats 4000000 in
set_option maxRecDepth 100000 in
theorem k_Groups_compare (hg : Nat) (gh : Nat) (gl : Nat) (gr : Nat) (mk : Int32) (xh : Nat) (fH : Nat → Int32) (xl : Nat) (fL : Nat → Int64) (hs : Nat) (sn : Nat) (ss : Nat) (su : Nat) (K : Nat) (xn : Nat) (fN : Nat → Int32) (xu : Nat) (fU : Nat → Int64) (nm : Nat → Nat) (hm : Nat → Nat) (hK : K ≤ 48) (hN : ∀ z, z < K → fN z = nI (nm z) ∧ nm z < 48) (hH : ∀ z, z < 48 → fH z = hI (hm z)) : CtV l y_Groups_compare (Cond.code y_Groups_compare c_Groups_compare 5 none :: TB) ({ frames := 3, cells := 0, slots := 0, locals := 65 } : Room) D (tysv cI cJ cZ cQ) [.ref hg, .ref hs] [(hg, .inr (5, [.ref gh, .ref gl, .ref gr, .int mk])), (gh, .inr (0, [.ref xh])), (xh, .inl (cI, 48, .inl fH)), (gl, .inr (1, [.ref xl])), (xl, .inl (cJ, 12, .inr (.inl fL))), (hs, .inr (4, [.ref sn, .ref ss, .ref su, .int (nI K)])), (sn, .inr (0, [.ref xn])), (xn, .inl (cI, 48, .inl fN)), (su, .inr (1, [.ref xu])), (xu, .inl (cJ, 48, .inr (.inl fU)))] 0 0 (fun (g : Nat → Int64) => rowE 12 g = gpE (fun x y => lb (fU (nm x)) (nm y)) hm K) (fun (g : Nat → Int64) => [(hg, .inr (5, [.ref gh, .ref gl, .ref gr, .int mk])), (gh, .inr (0, [.ref xh])), (xh, .inl (cI, 48, .inl fH)), (gl, .inr (1, [.ref xl])), (xl, .inl (cJ, 12, .inr (.inl g))), (hs, .inr (4, [.ref sn, .ref ss, .ref su, .int (nI K)])), (sn, .inr (0, [.ref xn])), (xn, .inl (cI, 48, .inl fN)), (su, .inr (1, [.ref xu])), (xu, .inl (cJ, 48, .inr (.inl fU)))]) := by
  refine CtV.of c_Groups_compare 5 none (by decide) rfl (Nat.le_of_ble_eq_true rfl) ?_
  intro p e s m args below meth c A Q hA9 hQ9 X hr9 hlk9 hin9
  refine g_aload_n X 0 d_Groups_compare_0 rfl rfl ?_
  refine g_get (C := R_Groups) (T := T_Groups) (N := 4) X 0 1 in_Groups rfl rfl (by decide) t1_128 rfl rfl d_Groups_compare_1 ?_
  refine g_callvV (n := 0) X [] (k_Rows_clear gl xl 12 fL (by omega)) t3_42 t2_153 t2_154 t1_6 t2_155 rfl rfl (by decide +kernel) ⟨by decide, by decide⟩ [3, 4] [0, 1, 2, 5, 6, 7, 8, 9] [(hg, .inr (5, [.ref gh, .ref gl, .ref gr, .int mk])), (gh, .inr (0, [.ref xh])), (xh, .inl (cI, 48, .inl fH)), (hs, .inr (4, [.ref sn, .ref ss, .ref su, .int (nI K)])), (sn, .inr (0, [.ref xn])), (xn, .inl (cI, 48, .inl fN)), (su, .inr (1, [.ref xu])), (xu, .inl (cJ, 48, .inr (.inl fU)))] rfl rfl rfl rfl (by decide) 0 rfl rfl rfl rfl (Nat.le_of_ble_eq_true rfl) d_Groups_compare_4 ⟨by decide, by decide⟩ (fun g_1 hc9 => ?_)
  have L9 : ∀ (N9 : Nat) (i : Nat) (fl : Nat → Int64), (K - i) < N9 → (i ≤ K) → (gpI (fun x y => lb (fU (nm x)) (nm y)) hm K i 0 fl) → G p l e ({ frames := 3, cells := 0, slots := 0, locals := 65 } : Room) s m args below meth c 5 D A s.heap Q 0 0 [(hg, .inr (5, [.ref gh, .ref gl, .ref gr, .int mk])), (gh, .inr (0, [.ref xh])), (xh, .inl (cI, 48, .inl fH)), (gl, .inr (1, [.ref xl])), (xl, .inl (cJ, 12, .inr (.inl fl))), (hs, .inr (4, [.ref sn, .ref ss, .ref su, .int (nI K)])), (sn, .inr (0, [.ref xn])), (xn, .inl (cI, 48, .inl fN)), (su, .inr (1, [.ref xu])), (xu, .inl (cJ, 48, .inr (.inl fU)))] [(0, .ref hg), (1, .ref hs), (2, .int (nI i))] 9 [] := by
    intro N9
    induction N9 with
    | zero =>
      intro i fl hN
      exact absurd hN (Nat.not_lt_zero _)
    | succ N9 ih9 =>
      intro i fl hN9 hi h1
      refine g_iload_n X 2 d_Groups_compare_9 rfl rfl ?_
      refine g_aload_n X 1 d_Groups_compare_10 rfl rfl ?_
      refine g_calliV (n := 0) X [] (k_Strata_contexts hs sn ss su K ) t3_43 t1_201 t1_202 t1_5 t1_203 rfl rfl (by decide +kernel) ⟨by decide, by decide⟩ [5] [0, 1, 2, 3, 4, 6, 7, 8, 9] [(hg, .inr (5, [.ref gh, .ref gl, .ref gr, .int mk])), (gh, .inr (0, [.ref xh])), (xh, .inl (cI, 48, .inl fH)), (gl, .inr (1, [.ref xl])), (xl, .inl (cJ, 12, .inr (.inl fl))), (sn, .inr (0, [.ref xn])), (xn, .inl (cI, 48, .inl fN)), (su, .inr (1, [.ref xu])), (xu, .inl (cJ, 48, .inr (.inl fU)))] rfl rfl rfl rfl (by decide) 0 rfl rfl rfl rfl (Nat.le_of_ble_eq_true rfl) d_Groups_compare_11 ⟨by decide, by decide⟩ (fun r2 w9u2 hw2 => ?_)
      subst hw2
      refine n_icmp_ge X 95 d_Groups_compare_14 (by decide) (by omega) (by omega) (fun h14 => ?_) (fun h14 => ?_)
      · exact g_vret X hA9 hQ9 hr9 hlk9 fl [0, 1, 2, 3, 4, 9, 5, 6, 7, 8] rfl rfl d_Groups_compare_95 (by have e9 : i = K := (by omega); subst e9; exact gp_rowE h1)
      · refine g_aload_n X 0 d_Groups_compare_17 rfl rfl ?_
        refine g_get (C := R_Groups) (T := T_Groups) (N := 4) X 0 0 in_Groups rfl rfl (by decide) t1_127 rfl rfl d_Groups_compare_18 ?_
        refine g_iload_n X 2 d_Groups_compare_21 rfl rfl ?_
        refine g_calliV (n := 1) X [.int (nI i)] (k_Cells_at gh xh 48 fH i (by omega) (by omega)) t3_36 t2_78 t2_79 t1_3 t2_80 rfl rfl (by decide +kernel) ⟨by decide, by decide⟩ [1, 2] [0, 3, 4, 5, 6, 7, 8, 9] [(hg, .inr (5, [.ref gh, .ref gl, .ref gr, .int mk])), (gl, .inr (1, [.ref xl])), (xl, .inl (cJ, 12, .inr (.inl fl))), (sn, .inr (0, [.ref xn])), (xn, .inl (cI, 48, .inl fN)), (su, .inr (1, [.ref xu])), (xu, .inl (cJ, 48, .inr (.inl fU))), (hs, .inr (4, [.ref sn, .ref ss, .ref su, .int (nI K)]))] rfl rfl rfl rfl (by decide) 0 rfl rfl rfl rfl (Nat.le_of_ble_eq_true rfl) d_Groups_compare_22 ⟨by decide, by decide⟩ (fun r3 w9u3 hw3 => ?_)
        subst hw3
        rw [hH i (by omega)]
        refine g_istore_n X [(3, .int (hI (hm i))), (0, .ref hg), (1, .ref hs), (2, .int (nI i))] d_Groups_compare_25 rfl (by decide) rfl ?_
        have L29 : ∀ (N29 : Nat) (k : Nat) (fk : Nat → Int64), (K - k) < N29 → (k ≤ K) → (gpI (fun x y => lb (fU (nm x)) (nm y)) hm K i k fk) → G p l e ({ frames := 3, cells := 0, slots := 0, locals := 65 } : Room) s m args below meth c 5 D A s.heap Q 0 0 [(hg, .inr (5, [.ref gh, .ref gl, .ref gr, .int mk])), (gh, .inr (0, [.ref xh])), (xh, .inl (cI, 48, .inl fH)), (gl, .inr (1, [.ref xl])), (xl, .inl (cJ, 12, .inr (.inl fk))), (hs, .inr (4, [.ref sn, .ref ss, .ref su, .int (nI K)])), (sn, .inr (0, [.ref xn])), (xn, .inl (cI, 48, .inl fN)), (su, .inr (1, [.ref xu])), (xu, .inl (cJ, 48, .inr (.inl fU)))] [(0, .ref hg), (1, .ref hs), (2, .int (nI i)), (3, .int (hI (hm i))), (4, .int (nI k))] 29 [] := by
          intro N29
          induction N29 with
          | zero =>
            intro k fk hN
            exact absurd hN (Nat.not_lt_zero _)
          | succ N29 ih29 =>
            intro k fk hN29 hk k1
            refine g_iload X 4 d_Groups_compare_29 rfl ?_
            refine g_aload_n X 1 d_Groups_compare_31 rfl rfl ?_
            refine g_calliV (n := 0) X [] (k_Strata_contexts hs sn ss su K ) t3_43 t1_201 t1_202 t1_5 t1_203 rfl rfl (by decide +kernel) ⟨by decide, by decide⟩ [5] [0, 1, 2, 3, 4, 6, 7, 8, 9] [(hg, .inr (5, [.ref gh, .ref gl, .ref gr, .int mk])), (gh, .inr (0, [.ref xh])), (xh, .inl (cI, 48, .inl fH)), (gl, .inr (1, [.ref xl])), (xl, .inl (cJ, 12, .inr (.inl fk))), (sn, .inr (0, [.ref xn])), (xn, .inl (cI, 48, .inl fN)), (su, .inr (1, [.ref xu])), (xu, .inl (cJ, 48, .inr (.inl fU)))] rfl rfl rfl rfl (by decide) 0 rfl rfl rfl rfl (Nat.le_of_ble_eq_true rfl) d_Groups_compare_32 ⟨by decide, by decide⟩ (fun r4 w9u4 hw4 => ?_)
            subst hw4
            refine n_icmp_ge X 89 d_Groups_compare_35 (by decide) (by omega) (by omega) (fun h35 => ?_) (fun h35 => ?_)
            · refine g_iinc X (nI (i + 1)) [(2, .int (nI (i + 1))), (0, .ref hg), (1, .ref hs), (3, .int (hI (hm i))), (4, .int (nI k))] d_Groups_compare_89 (k := 2) rfl (nI_1 i) (by decide) rfl ?_
              refine g_goto X 9 d_Groups_compare_92 (by decide) ?_
              refine g_ws [(hg, .inr (5, [.ref gh, .ref gl, .ref gr, .int mk])), (gh, .inr (0, [.ref xh])), (xh, .inl (cI, 48, .inl fH)), (gl, .inr (1, [.ref xl])), (xl, .inl (cJ, 12, .inr (.inl fk))), (hs, .inr (4, [.ref sn, .ref ss, .ref su, .int (nI K)])), (sn, .inr (0, [.ref xn])), (xn, .inl (cI, 48, .inl fN)), (su, .inr (1, [.ref xu])), (xu, .inl (cJ, 48, .inr (.inl fU)))] [0, 1, 2, 3, 4, 9, 5, 6, 7, 8] rfl rfl ?_
              refine g_lv [1, 2, 0] rfl ?_
              exact ih9 (i + 1) fk (by omega) (by omega) (by first | exact gp_row k1 (by omega) | exact gp_none k1 (hI_eq h40))
            · refine g_iload_n X 3 d_Groups_compare_38 rfl rfl ?_
              refine g_iconst (v := -1) X d_Groups_compare_39 rfl ?_
              refine g_icmp_eq X 89 d_Groups_compare_40 (by decide) (fun h40 => ?_) (fun h40 => ?_)
              · refine g_iinc X (nI (i + 1)) [(2, .int (nI (i + 1))), (0, .ref hg), (1, .ref hs), (3, .int (hI (hm i))), (4, .int (nI k))] d_Groups_compare_89 (k := 2) rfl (nI_1 i) (by decide) rfl ?_
                refine g_goto X 9 d_Groups_compare_92 (by decide) ?_
                refine g_ws [(hg, .inr (5, [.ref gh, .ref gl, .ref gr, .int mk])), (gh, .inr (0, [.ref xh])), (xh, .inl (cI, 48, .inl fH)), (gl, .inr (1, [.ref xl])), (xl, .inl (cJ, 12, .inr (.inl fk))), (hs, .inr (4, [.ref sn, .ref ss, .ref su, .int (nI K)])), (sn, .inr (0, [.ref xn])), (xn, .inl (cI, 48, .inl fN)), (su, .inr (1, [.ref xu])), (xu, .inl (cJ, 48, .inr (.inl fU)))] [0, 1, 2, 3, 4, 9, 5, 6, 7, 8] rfl rfl ?_
                refine g_lv [1, 2, 0] rfl ?_
                exact ih9 (i + 1) fk (by omega) (by omega) (by first | exact gp_row k1 (by omega) | exact gp_none k1 (hI_eq h40))
              · have hg12 : hm i < 12 := hI_ne h40
                refine g_aload_n X 0 d_Groups_compare_43 rfl rfl ?_
                refine g_get (C := R_Groups) (T := T_Groups) (N := 4) X 0 0 in_Groups rfl rfl (by decide) t1_127 rfl rfl d_Groups_compare_44 ?_
                refine g_iload X 4 d_Groups_compare_47 rfl ?_
                refine g_calliV (n := 1) X [.int (nI k)] (k_Cells_at gh xh 48 fH k (by omega) (by omega)) t3_36 t2_78 t2_79 t1_3 t2_80 rfl rfl (by decide +kernel) ⟨by decide, by decide⟩ [1, 2] [0, 3, 4, 5, 6, 7, 8, 9] [(hg, .inr (5, [.ref gh, .ref gl, .ref gr, .int mk])), (gl, .inr (1, [.ref xl])), (xl, .inl (cJ, 12, .inr (.inl fk))), (sn, .inr (0, [.ref xn])), (xn, .inl (cI, 48, .inl fN)), (su, .inr (1, [.ref xu])), (xu, .inl (cJ, 48, .inr (.inl fU))), (hs, .inr (4, [.ref sn, .ref ss, .ref su, .int (nI K)]))] rfl rfl rfl rfl (by decide) 0 rfl rfl rfl rfl (Nat.le_of_ble_eq_true rfl) d_Groups_compare_49 ⟨by decide, by decide⟩ (fun r5 w9u5 hw5 => ?_)
                subst hw5
                rw [hH k (by omega)]
                refine g_iload_n X 3 d_Groups_compare_52 rfl rfl ?_
                refine g_icmp_eq X 83 d_Groups_compare_53 (by decide) (fun h53 => ?_) (fun h53 => ?_)
                · refine g_iinc X (nI (k + 1)) [(4, .int (nI (k + 1))), (0, .ref hg), (1, .ref hs), (2, .int (nI i)), (3, .int (hI (hm i)))] d_Groups_compare_83 (k := 4) rfl (nI_1 k) (by decide) rfl ?_
                  refine g_goto X 29 d_Groups_compare_86 (by decide) ?_
                  refine g_ws [(hg, .inr (5, [.ref gh, .ref gl, .ref gr, .int mk])), (gh, .inr (0, [.ref xh])), (xh, .inl (cI, 48, .inl fH)), (gl, .inr (1, [.ref xl])), (xl, .inl (cJ, 12, .inr (.inl fk))), (hs, .inr (4, [.ref sn, .ref ss, .ref su, .int (nI K)])), (sn, .inr (0, [.ref xn])), (xn, .inl (cI, 48, .inl fN)), (su, .inr (1, [.ref xu])), (xu, .inl (cJ, 48, .inr (.inl fU)))] [0, 8, 9, 1, 2, 7, 3, 4, 5, 6] rfl rfl ?_
                  refine g_lv [1, 2, 3, 4, 0] rfl ?_
                  exact ih29 (k + 1) fk (by omega) (by omega) (by first | exact gp_skip1 k1 hg12 h53 | exact gp_skip2 k1 h63 | exact gp_put k1 hg12 q9 h53 h63 | exact gp_skip3 k1 (by omega))
                · refine g_aload_n X 1 d_Groups_compare_56 rfl rfl ?_
                  refine g_iload_n X 2 d_Groups_compare_57 rfl rfl ?_
                  refine g_iload X 4 d_Groups_compare_58 rfl ?_
                  refine g_calliV (n := 2) X [.int (nI i), .int (nI k)] (k_Strata_isOver hs sn ss su K xn fN xu fU i k (nm i) (nm k) (by omega) (by omega) ((hN _ (by omega)).1) ((hN _ (by omega)).1) ((hN _ (by omega)).2) ((hN _ (by omega)).2)) t3_44 t2_197 t2_198 t1_5 t2_199 rfl rfl (by decide +kernel) ⟨by decide, by decide⟩ [7, 3, 4, 5, 6] [0, 1, 2, 8, 9] [(hg, .inr (5, [.ref gh, .ref gl, .ref gr, .int mk])), (gl, .inr (1, [.ref xl])), (xl, .inl (cJ, 12, .inr (.inl fk))), (gh, .inr (0, [.ref xh])), (xh, .inl (cI, 48, .inl fH))] rfl rfl rfl rfl (by decide) 0 rfl rfl rfl rfl (Nat.le_of_ble_eq_true rfl) d_Groups_compare_60 ⟨by decide, by decide⟩ (fun r6 w9u6 hw6 => ?_)
                  subst hw6
                  refine b_if_eq X 83 d_Groups_compare_63 (by decide) (fun h63 => ?_) (fun h63 => ?_)
                  · refine g_iinc X (nI (k + 1)) [(4, .int (nI (k + 1))), (0, .ref hg), (1, .ref hs), (2, .int (nI i)), (3, .int (hI (hm i)))] d_Groups_compare_83 (k := 4) rfl (nI_1 k) (by decide) rfl ?_
                    refine g_goto X 29 d_Groups_compare_86 (by decide) ?_
                    refine g_ws [(hg, .inr (5, [.ref gh, .ref gl, .ref gr, .int mk])), (gh, .inr (0, [.ref xh])), (xh, .inl (cI, 48, .inl fH)), (gl, .inr (1, [.ref xl])), (xl, .inl (cJ, 12, .inr (.inl fk))), (hs, .inr (4, [.ref sn, .ref ss, .ref su, .int (nI K)])), (sn, .inr (0, [.ref xn])), (xn, .inl (cI, 48, .inl fN)), (su, .inr (1, [.ref xu])), (xu, .inl (cJ, 48, .inr (.inl fU)))] [0, 3, 4, 1, 2, 5, 6, 7, 8, 9] rfl rfl ?_
                    refine g_lv [1, 2, 3, 4, 0] rfl ?_
                    exact ih29 (k + 1) fk (by omega) (by omega) (by first | exact gp_skip1 k1 hg12 h53 | exact gp_skip2 k1 h63 | exact gp_put k1 hg12 q9 h53 h63 | exact gp_skip3 k1 (by omega))
                  · refine g_aload_n X 0 d_Groups_compare_66 rfl rfl ?_
                    refine g_get (C := R_Groups) (T := T_Groups) (N := 4) X 0 1 in_Groups rfl rfl (by decide) t1_128 rfl rfl d_Groups_compare_67 ?_
                    refine g_iload_n X 3 d_Groups_compare_70 rfl rfl ?_
                    refine g_topE (hI_t hg12) ?_
                    refine g_aload_n X 0 d_Groups_compare_71 rfl rfl ?_
                    refine g_get (C := R_Groups) (T := T_Groups) (N := 4) X 0 0 in_Groups rfl rfl (by decide) t1_127 rfl rfl d_Groups_compare_72 ?_
                    refine g_iload X 4 d_Groups_compare_75 rfl ?_
                    refine g_calliV (n := 1) X [.int (nI k)] (k_Cells_at gh xh 48 fH k (by omega) (by omega)) t3_36 t2_78 t2_79 t1_3 t2_80 rfl rfl (by decide +kernel) ⟨by decide, by decide⟩ [3, 4] [0, 1, 2, 5, 6, 7, 8, 9] [(hg, .inr (5, [.ref gh, .ref gl, .ref gr, .int mk])), (gl, .inr (1, [.ref xl])), (xl, .inl (cJ, 12, .inr (.inl fk))), (hs, .inr (4, [.ref sn, .ref ss, .ref su, .int (nI K)])), (sn, .inr (0, [.ref xn])), (xn, .inl (cI, 48, .inl fN)), (su, .inr (1, [.ref xu])), (xu, .inl (cJ, 48, .inr (.inl fU)))] rfl rfl rfl rfl (by decide) 0 rfl rfl rfl rfl (Nat.le_of_ble_eq_true rfl) d_Groups_compare_77 ⟨by decide, by decide⟩ (fun r7 w9u7 hw7 => ?_)
                    subst hw7
                    rw [hH k (by omega)]
                    rcases Nat.lt_or_ge (hm k) 12 with q9 | q9
                    · refine g_topE (hI_t q9) ?_
                      refine g_callvV (n := 2) X [.int (nI (hm i)), .int (nI (hm k))] (k_Rows_mark gl xl 12 fk (hm i) (hm k) (by omega) (by omega) (by omega)) t3_45 t2_90 t2_91 t1_6 t2_92 rfl rfl (by decide +kernel) ⟨by decide, by decide⟩ [1, 2] [0, 3, 4, 5, 6, 7, 8, 9] [(hg, .inr (5, [.ref gh, .ref gl, .ref gr, .int mk])), (hs, .inr (4, [.ref sn, .ref ss, .ref su, .int (nI K)])), (sn, .inr (0, [.ref xn])), (xn, .inl (cI, 48, .inl fN)), (su, .inr (1, [.ref xu])), (xu, .inl (cJ, 48, .inr (.inl fU))), (gh, .inr (0, [.ref xh])), (xh, .inl (cI, 48, .inl fH))] rfl rfl rfl rfl (by decide) 0 rfl rfl rfl rfl (Nat.le_of_ble_eq_true rfl) d_Groups_compare_80 ⟨by decide, by decide⟩ (fun w9u8 hw8 => ?_)
                      refine g_iinc X (nI (k + 1)) [(4, .int (nI (k + 1))), (0, .ref hg), (1, .ref hs), (2, .int (nI i)), (3, .int (hI (hm i)))] d_Groups_compare_83 (k := 4) rfl (nI_1 k) (by decide) rfl ?_
                      refine g_goto X 29 d_Groups_compare_86 (by decide) ?_
                      refine g_ws [(hg, .inr (5, [.ref gh, .ref gl, .ref gr, .int mk])), (gh, .inr (0, [.ref xh])), (xh, .inl (cI, 48, .inl fH)), (gl, .inr (1, [.ref xl])), (xl, .inl (cJ, 12, .inr (.inl (vp_updL fk (hm i) (fk (hm i) ||| ((1 : Int64) <<< ((nI (hm k)).toInt64 &&& 63))))))), (hs, .inr (4, [.ref sn, .ref ss, .ref su, .int (nI K)])), (sn, .inr (0, [.ref xn])), (xn, .inl (cI, 48, .inl fN)), (su, .inr (1, [.ref xu])), (xu, .inl (cJ, 48, .inr (.inl fU)))] [0, 6, 7, 8, 9, 1, 2, 3, 4, 5] rfl rfl ?_
                      refine g_lv [1, 2, 3, 4, 0] rfl ?_
                      exact ih29 (k + 1) (vp_updL fk (hm i) (fk (hm i) ||| ((1 : Int64) <<< ((nI (hm k)).toInt64 &&& 63)))) (by omega) (by omega) (by first | exact gp_skip1 k1 hg12 h53 | exact gp_skip2 k1 h63 | exact gp_put k1 hg12 q9 h53 h63 | exact gp_skip3 k1 (by omega))
                    · refine g_topE (hI_f (by omega)) ?_
                      refine g_callvV (n := 2) X [.int (nI (hm i)), .int (-1)] (k_Rows_markM gl xl 12 fk (hm i) (by omega) (by omega)) t3_45 t2_90 t2_91 t1_6 t2_92 rfl rfl (by decide +kernel) ⟨by decide, by decide⟩ [1, 2] [0, 3, 4, 5, 6, 7, 8, 9] [(hg, .inr (5, [.ref gh, .ref gl, .ref gr, .int mk])), (hs, .inr (4, [.ref sn, .ref ss, .ref su, .int (nI K)])), (sn, .inr (0, [.ref xn])), (xn, .inl (cI, 48, .inl fN)), (su, .inr (1, [.ref xu])), (xu, .inl (cJ, 48, .inr (.inl fU))), (gh, .inr (0, [.ref xh])), (xh, .inl (cI, 48, .inl fH))] rfl rfl rfl rfl (by decide) 0 rfl rfl rfl rfl (Nat.le_of_ble_eq_true rfl) d_Groups_compare_80 ⟨by decide, by decide⟩ (fun w9u9 hw9 => ?_)
                      refine g_iinc X (nI (k + 1)) [(4, .int (nI (k + 1))), (0, .ref hg), (1, .ref hs), (2, .int (nI i)), (3, .int (hI (hm i)))] d_Groups_compare_83 (k := 4) rfl (nI_1 k) (by decide) rfl ?_
                      refine g_goto X 29 d_Groups_compare_86 (by decide) ?_
                      refine g_ws [(hg, .inr (5, [.ref gh, .ref gl, .ref gr, .int mk])), (gh, .inr (0, [.ref xh])), (xh, .inl (cI, 48, .inl fH)), (gl, .inr (1, [.ref xl])), (xl, .inl (cJ, 12, .inr (.inl fk))), (hs, .inr (4, [.ref sn, .ref ss, .ref su, .int (nI K)])), (sn, .inr (0, [.ref xn])), (xn, .inl (cI, 48, .inl fN)), (su, .inr (1, [.ref xu])), (xu, .inl (cJ, 48, .inr (.inl fU)))] [0, 6, 7, 8, 9, 1, 2, 3, 4, 5] rfl rfl ?_
                      refine g_lv [1, 2, 3, 4, 0] rfl ?_
                      exact ih29 (k + 1) fk (by omega) (by omega) (by first | exact gp_skip1 k1 hg12 h53 | exact gp_skip2 k1 h63 | exact gp_put k1 hg12 q9 h53 h63 | exact gp_skip3 k1 (by omega))
        refine g_iconst (v := nI 0) X d_Groups_compare_26 rfl ?_
        refine g_istore X [(4, .int (nI 0)), (3, .int (hI (hm i))), (0, .ref hg), (1, .ref hs), (2, .int (nI i))] d_Groups_compare_27 (by decide) rfl ?_
        refine g_ws [(hg, .inr (5, [.ref gh, .ref gl, .ref gr, .int mk])), (gh, .inr (0, [.ref xh])), (xh, .inl (cI, 48, .inl fH)), (gl, .inr (1, [.ref xl])), (xl, .inl (cJ, 12, .inr (.inl fl))), (hs, .inr (4, [.ref sn, .ref ss, .ref su, .int (nI K)])), (sn, .inr (0, [.ref xn])), (xn, .inl (cI, 48, .inl fN)), (su, .inr (1, [.ref xu])), (xu, .inl (cJ, 48, .inr (.inl fU)))] [0, 8, 9, 1, 2, 7, 3, 4, 5, 6] rfl rfl ?_
        refine g_lv [2, 3, 4, 1, 0] rfl ?_
        exact L29 ((K - 0) + 1) 0 fl (Nat.lt_succ_self _) (by omega) (h1)
  refine g_iconst (v := nI 0) X d_Groups_compare_7 rfl ?_
  refine g_istore_n X [(2, .int (nI 0)), (0, .ref hg), (1, .ref hs)] d_Groups_compare_8 rfl (by decide) rfl ?_
  refine g_ws [(hg, .inr (5, [.ref gh, .ref gl, .ref gr, .int mk])), (gh, .inr (0, [.ref xh])), (xh, .inl (cI, 48, .inl fH)), (gl, .inr (1, [.ref xl])), (xl, .inl (cJ, 12, .inr (.inl g_1))), (hs, .inr (4, [.ref sn, .ref ss, .ref su, .int (nI K)])), (sn, .inr (0, [.ref xn])), (xn, .inl (cI, 48, .inl fN)), (su, .inr (1, [.ref xu])), (xu, .inl (cJ, 48, .inr (.inl fU)))] [0, 1, 2, 8, 9, 3, 4, 5, 6, 7] rfl rfl ?_
  refine g_lv [1, 2, 0] rfl ?_
  exact L9 ((K - 0) + 1) 0 g_1 (Nat.lt_succ_self _) (by omega) (gp_0 hc9)

set_option maxHeartbeats 4000000 in
set_option maxRecDepth 100000 in
theorem k_Groups_move (hg : Nat) (gh : Nat) (gl : Nat) (gr : Nat) (mk : Int32) (xh : Nat) (fH : Nat → Int32) (xl : Nat) (fL : Nat → Int64) (rp : Nat) (ly : Nat) (ln : Int32) (ap : Nat) (P : Nat → Int32) (Y : Nat → Int64) (hs : Nat) (sn : Nat) (ss : Nat) (su : Nat) (K : Nat) (xn : Nat) (fN : Nat → Int32) (xu : Nat) (fU : Nat → Int64) (nm : Nat → Nat) (hm : Nat → Nat) (grp : Nat) (ctx : Nat) (hK : K ≤ 48) (hN : ∀ z, z < K → fN z = nI (nm z) ∧ nm z < 48) (hH : ∀ z, z < 48 → fH z = hI (hm z)) (hgp : grp < 12) (hcx : ctx < 48) (hd : ∀ k, ¬ gw (gpE (fun x y => lb (fU (nm x)) (nm y)) (fun z => if z = ctx then grp else hm z) K) (k + 1) grp grp) : CtI l y_Groups_move (Cond.code y_Groups_move c_Groups_move 5 (some .boolean) :: TB) ({ frames := 4, cells := 0, slots := 0, locals := 89 } : Room) D (tysv cI cJ cZ cQ) [.ref hg, .int (nI grp), .int (nI ctx), .ref hs] [(hg, .inr (5, [.ref gh, .ref gl, .ref gr, .int mk])), (gh, .inr (0, [.ref xh])), (xh, .inl (cI, 48, .inl fH)), (gl, .inr (1, [.ref xl])), (xl, .inl (cJ, 12, .inr (.inl fL))), (gr, .inr (3, [.ref rp, .ref ly, .int ln])), (rp, .inr (0, [.ref ap])), (ap, .inl (cI, 48, .inl P)), (ly, .inl (cJ, 48, .inr (.inl Y))), (hs, .inr (4, [.ref sn, .ref ss, .ref su, .int (nI K)])), (sn, .inr (0, [.ref xn])), (xn, .inl (cI, 48, .inl fN)), (su, .inr (1, [.ref xu])), (xu, .inl (cJ, 48, .inr (.inl fU)))] 0 0 (fun (r : Int32) (u : (Nat → Int64) × (Nat → Int64)) => r = bI true) (fun (u : (Nat → Int64) × (Nat → Int64)) => [(hg, .inr (5, [.ref gh, .ref gl, .ref gr, .int mk])), (gh, .inr (0, [.ref xh])), (xh, .inl (cI, 48, .inl (upd fH ctx (nI grp)))), (gl, .inr (1, [.ref xl])), (xl, .inl (cJ, 12, .inr (.inl u.1))), (gr, .inr (3, [.ref rp, .ref ly, .int ln])), (rp, .inr (0, [.ref ap])), (ap, .inl (cI, 48, .inl P)), (ly, .inl (cJ, 48, .inr (.inl u.2))), (hs, .inr (4, [.ref sn, .ref ss, .ref su, .int (nI K)])), (sn, .inr (0, [.ref xn])), (xn, .inl (cI, 48, .inl fN)), (su, .inr (1, [.ref xu])), (xu, .inl (cJ, 48, .inr (.inl fU)))]) := by
  refine CtI.of c_Groups_move 5 (some .boolean) (by decide) rfl (Nat.le_of_ble_eq_true rfl) ?_
  intro p e s m args below meth c A Q hA9 hQ9 X hr9 hlk9 hin9
  refine g_aload_n X 0 d_Groups_move_0 rfl rfl ?_
  refine g_get (C := R_Groups) (T := T_Groups) (N := 4) X 0 0 in_Groups rfl rfl (by decide) t1_127 rfl rfl d_Groups_move_1 ?_
  refine g_iload_n X 2 d_Groups_move_4 rfl rfl ?_
  refine g_calliV (n := 1) X [.int (nI ctx)] (k_Cells_at gh xh 48 fH ctx (by omega) (by omega)) t3_36 t2_78 t2_79 t1_3 t2_80 rfl rfl (by decide +kernel) ⟨by decide, by decide⟩ [1, 2] [0, 3, 4, 5, 6, 7, 8, 9, 10, 11, 12, 13] [(hg, .inr (5, [.ref gh, .ref gl, .ref gr, .int mk])), (gl, .inr (1, [.ref xl])), (xl, .inl (cJ, 12, .inr (.inl fL))), (gr, .inr (3, [.ref rp, .ref ly, .int ln])), (rp, .inr (0, [.ref ap])), (ap, .inl (cI, 48, .inl P)), (ly, .inl (cJ, 48, .inr (.inl Y))), (hs, .inr (4, [.ref sn, .ref ss, .ref su, .int (nI K)])), (sn, .inr (0, [.ref xn])), (xn, .inl (cI, 48, .inl fN)), (su, .inr (1, [.ref xu])), (xu, .inl (cJ, 48, .inr (.inl fU)))] rfl rfl rfl rfl (by decide) 0 rfl rfl rfl rfl (Nat.le_of_ble_eq_true rfl) d_Groups_move_5 ⟨by decide, by decide⟩ (fun r1 w9u1 hw1 => ?_)
  subst hw1
  refine g_istore X [(4, .int (fH ctx)), (0, .ref hg), (1, .int (nI grp)), (2, .int (nI ctx)), (3, .ref hs)] d_Groups_move_8 (by decide) rfl ?_
  refine g_aload_n X 0 d_Groups_move_10 rfl rfl ?_
  refine g_get (C := R_Groups) (T := T_Groups) (N := 4) X 0 0 in_Groups rfl rfl (by decide) t1_127 rfl rfl d_Groups_move_11 ?_
  refine g_iload_n X 2 d_Groups_move_14 rfl rfl ?_
  refine g_iload_n X 1 d_Groups_move_15 rfl rfl ?_
  refine g_callvV (n := 2) X [.int (nI ctx), .int (nI grp)] (k_Cells_put gh xh 48 fH ctx (nI grp) (by omega) (by omega)) t3_37 t2_36 t2_37 t1_3 t2_38 rfl rfl (by decide +kernel) ⟨by decide, by decide⟩ [12, 13] [0, 1, 2, 3, 4, 5, 6, 7, 8, 9, 10, 11] [(hg, .inr (5, [.ref gh, .ref gl, .ref gr, .int mk])), (gl, .inr (1, [.ref xl])), (xl, .inl (cJ, 12, .inr (.inl fL))), (gr, .inr (3, [.ref rp, .ref ly, .int ln])), (rp, .inr (0, [.ref ap])), (ap, .inl (cI, 48, .inl P)), (ly, .inl (cJ, 48, .inr (.inl Y))), (hs, .inr (4, [.ref sn, .ref ss, .ref su, .int (nI K)])), (sn, .inr (0, [.ref xn])), (xn, .inl (cI, 48, .inl fN)), (su, .inr (1, [.ref xu])), (xu, .inl (cJ, 48, .inr (.inl fU)))] rfl rfl rfl rfl (by decide) 0 rfl rfl rfl rfl (Nat.le_of_ble_eq_true rfl) d_Groups_move_16 ⟨by decide, by decide⟩ (fun w9u2 hw2 => ?_)
  refine g_aload_n X 0 d_Groups_move_19 rfl rfl ?_
  refine g_aload_n X 3 d_Groups_move_20 rfl rfl ?_
  refine g_callvV (n := 1) X [.ref hs] (k_Groups_compare hg gh gl gr mk xh (upd fH ctx (nI grp)) xl fL hs sn ss su K xn fN xu fU nm (fun z => if z = ctx then grp else hm z) (by omega) (hN) (hm_upd hgp hH)) t3_38 t3_40 ts_9 t1_8 t3_41 rfl rfl (by decide +kernel) ⟨by decide, by decide⟩ [0, 12, 13, 1, 2, 7, 8, 9, 10, 11] [3, 4, 5, 6] [(gr, .inr (3, [.ref rp, .ref ly, .int ln])), (rp, .inr (0, [.ref ap])), (ap, .inl (cI, 48, .inl P)), (ly, .inl (cJ, 48, .inr (.inl Y)))] rfl rfl rfl rfl (by decide) 0 rfl rfl rfl rfl (Nat.le_of_ble_eq_true rfl) d_Groups_move_21 ⟨by decide, by decide⟩ (fun g_3 hrow => ?_)
  refine g_aload_n X 0 d_Groups_move_24 rfl rfl ?_
  refine g_get (C := R_Groups) (T := T_Groups) (N := 4) X 4 2 in_Groups rfl rfl (by decide) t1_129 rfl rfl d_Groups_move_25 ?_
  refine g_aload_n X 0 d_Groups_move_28 rfl rfl ?_
  refine g_get (C := R_Groups) (T := T_Groups) (N := 4) X 4 1 in_Groups rfl rfl (by decide) t1_128 rfl rfl d_Groups_move_29 ?_
  refine g_iload_n X 1 d_Groups_move_32 rfl rfl ?_
  refine g_calliV (n := 2) X [.ref gl, .int (nI grp)] (k_Ring_tellN gr rp ly ln Y gl xl 12 g_3 grp (by decide) (by omega) (gp_in hrow) (by rw [hrow]; exact hd)) t3_46 t2_94 t2_95 t1_7 t2_96 rfl rfl (by decide +kernel) ⟨by decide, by decide⟩ [0, 3, 7, 8] [1, 2, 4, 5, 6, 9, 10, 11, 12, 13] [(rp, .inr (0, [.ref ap])), (ap, .inl (cI, 48, .inl P)), (hg, .inr (5, [.ref gh, .ref gl, .ref gr, .int mk])), (gh, .inr (0, [.ref xh])), (xh, .inl (cI, 48, .inl (upd fH ctx (nI grp)))), (hs, .inr (4, [.ref sn, .ref ss, .ref su, .int (nI K)])), (sn, .inr (0, [.ref xn])), (xn, .inl (cI, 48, .inl fN)), (su, .inr (1, [.ref xu])), (xu, .inl (cJ, 48, .inr (.inl fU)))] rfl rfl rfl rfl (by decide) 0 rfl rfl rfl rfl (Nat.le_of_ble_eq_true rfl) d_Groups_move_33 ⟨by decide, by decide⟩ (fun r4 Z_4 hw4 => ?_)
  subst hw4
  refine b_if_eq X 51 d_Groups_move_36 (by decide) (fun h36 => ?_) (fun h36 => absurd h36 (by decide))
  refine g_iconst (v := nI 1) X d_Groups_move_51 rfl ?_
  exact g_zret X hA9 hQ9 hr9 (by first | exact Or.inl rfl | exact Or.inr rfl) hlk9 ⟨g_3, Z_4⟩ [2, 3, 4, 12, 13, 10, 0, 1, 11, 5, 6, 7, 8, 9] rfl rfl d_Groups_move_52 (by (try dsimp only); exact (rfl))

set_option maxHeartbeats 4000000 in
set_option maxRecDepth 100000 in
theorem k_Groups_moveR (hg : Nat) (gh : Nat) (gl : Nat) (gr : Nat) (mk : Int32) (xh : Nat) (fH : Nat → Int32) (xl : Nat) (fL : Nat → Int64) (rp : Nat) (ly : Nat) (ln : Int32) (ap : Nat) (P : Nat → Int32) (Y : Nat → Int64) (hs : Nat) (sn : Nat) (ss : Nat) (su : Nat) (K : Nat) (xn : Nat) (fN : Nat → Int32) (xu : Nat) (fU : Nat → Int64) (nm : Nat → Nat) (hm : Nat → Nat) (grp : Nat) (ctx : Nat) (d : Nat) (pp : Nat → Nat) (hK : K ≤ 48) (hN : ∀ z, z < K → fN z = nI (nm z) ∧ nm z < 48) (hH : ∀ z, z < 48 → fH z = hI (hm z)) (hgp : grp < 12) (hcx : ctx < 48) (hd : gring (gpE (fun x y => lb (fU (nm x)) (nm y)) (fun z => if z = ctx then grp else hm z) K) grp d pp) : CtI l y_Groups_move (Cond.code y_Groups_move c_Groups_move 5 (some .boolean) :: TB) ({ frames := 4, cells := 0, slots := 0, locals := 91 } : Room) D (tysv cI cJ cZ cQ) [.ref hg, .int (nI grp), .int (nI ctx), .ref hs] [(hg, .inr (5, [.ref gh, .ref gl, .ref gr, .int mk])), (gh, .inr (0, [.ref xh])), (xh, .inl (cI, 48, .inl fH)), (gl, .inr (1, [.ref xl])), (xl, .inl (cJ, 12, .inr (.inl fL))), (gr, .inr (3, [.ref rp, .ref ly, .int ln])), (rp, .inr (0, [.ref ap])), (ap, .inl (cI, 48, .inl P)), (ly, .inl (cJ, 48, .inr (.inl Y))), (hs, .inr (4, [.ref sn, .ref ss, .ref su, .int (nI K)])), (sn, .inr (0, [.ref xn])), (xn, .inl (cI, 48, .inl fN)), (su, .inr (1, [.ref xu])), (xu, .inl (cJ, 48, .inr (.inl fU)))] 0 0 (fun (r : Int32) (u : (Nat → Int64) × (Nat → Int32) × (Nat → Int64)) => r = bI false ∧ ∀ j, j < d → u.2.1 j = nI (pp j)) (fun (u : (Nat → Int64) × (Nat → Int32) × (Nat → Int64)) => [(hg, .inr (5, [.ref gh, .ref gl, .ref gr, .int mk])), (gh, .inr (0, [.ref xh])), (xh, .inl (cI, 48, .inl fH)), (gl, .inr (1, [.ref xl])), (xl, .inl (cJ, 12, .inr (.inl u.1))), (gr, .inr (3, [.ref rp, .ref ly, .int (nI d)])), (rp, .inr (0, [.ref ap])), (ap, .inl (cI, 48, .inl u.2.1)), (ly, .inl (cJ, 48, .inr (.inl u.2.2))), (hs, .inr (4, [.ref sn, .ref ss, .ref su, .int (nI K)])), (sn, .inr (0, [.ref xn])), (xn, .inl (cI, 48, .inl fN)), (su, .inr (1, [.ref xu])), (xu, .inl (cJ, 48, .inr (.inl fU)))]) := by
  refine CtI.of c_Groups_move 5 (some .boolean) (by decide) rfl (Nat.le_of_ble_eq_true rfl) ?_
  intro p e s m args below meth c A Q hA9 hQ9 X hr9 hlk9 hin9
  refine g_aload_n X 0 d_Groups_move_0 rfl rfl ?_
  refine g_get (C := R_Groups) (T := T_Groups) (N := 4) X 0 0 in_Groups rfl rfl (by decide) t1_127 rfl rfl d_Groups_move_1 ?_
  refine g_iload_n X 2 d_Groups_move_4 rfl rfl ?_
  refine g_calliV (n := 1) X [.int (nI ctx)] (k_Cells_at gh xh 48 fH ctx (by omega) (by omega)) t3_36 t2_78 t2_79 t1_3 t2_80 rfl rfl (by decide +kernel) ⟨by decide, by decide⟩ [1, 2] [0, 3, 4, 5, 6, 7, 8, 9, 10, 11, 12, 13] [(hg, .inr (5, [.ref gh, .ref gl, .ref gr, .int mk])), (gl, .inr (1, [.ref xl])), (xl, .inl (cJ, 12, .inr (.inl fL))), (gr, .inr (3, [.ref rp, .ref ly, .int ln])), (rp, .inr (0, [.ref ap])), (ap, .inl (cI, 48, .inl P)), (ly, .inl (cJ, 48, .inr (.inl Y))), (hs, .inr (4, [.ref sn, .ref ss, .ref su, .int (nI K)])), (sn, .inr (0, [.ref xn])), (xn, .inl (cI, 48, .inl fN)), (su, .inr (1, [.ref xu])), (xu, .inl (cJ, 48, .inr (.inl fU)))] rfl rfl rfl rfl (by decide) 0 rfl rfl rfl rfl (Nat.le_of_ble_eq_true rfl) d_Groups_move_5 ⟨by decide, by decide⟩ (fun r1 w9u1 hw1 => ?_)
  subst hw1
  refine g_istore X [(4, .int (fH ctx)), (0, .ref hg), (1, .int (nI grp)), (2, .int (nI ctx)), (3, .ref hs)] d_Groups_move_8 (by decide) rfl ?_
  refine g_aload_n X 0 d_Groups_move_10 rfl rfl ?_
  refine g_get (C := R_Groups) (T := T_Groups) (N := 4) X 0 0 in_Groups rfl rfl (by decide) t1_127 rfl rfl d_Groups_move_11 ?_
  refine g_iload_n X 2 d_Groups_move_14 rfl rfl ?_
  refine g_iload_n X 1 d_Groups_move_15 rfl rfl ?_
  refine g_callvV (n := 2) X [.int (nI ctx), .int (nI grp)] (k_Cells_put gh xh 48 fH ctx (nI grp) (by omega) (by omega)) t3_37 t2_36 t2_37 t1_3 t2_38 rfl rfl (by decide +kernel) ⟨by decide, by decide⟩ [12, 13] [0, 1, 2, 3, 4, 5, 6, 7, 8, 9, 10, 11] [(hg, .inr (5, [.ref gh, .ref gl, .ref gr, .int mk])), (gl, .inr (1, [.ref xl])), (xl, .inl (cJ, 12, .inr (.inl fL))), (gr, .inr (3, [.ref rp, .ref ly, .int ln])), (rp, .inr (0, [.ref ap])), (ap, .inl (cI, 48, .inl P)), (ly, .inl (cJ, 48, .inr (.inl Y))), (hs, .inr (4, [.ref sn, .ref ss, .ref su, .int (nI K)])), (sn, .inr (0, [.ref xn])), (xn, .inl (cI, 48, .inl fN)), (su, .inr (1, [.ref xu])), (xu, .inl (cJ, 48, .inr (.inl fU)))] rfl rfl rfl rfl (by decide) 0 rfl rfl rfl rfl (Nat.le_of_ble_eq_true rfl) d_Groups_move_16 ⟨by decide, by decide⟩ (fun w9u2 hw2 => ?_)
  refine g_aload_n X 0 d_Groups_move_19 rfl rfl ?_
  refine g_aload_n X 3 d_Groups_move_20 rfl rfl ?_
  refine g_callvV (n := 1) X [.ref hs] (k_Groups_compare hg gh gl gr mk xh (upd fH ctx (nI grp)) xl fL hs sn ss su K xn fN xu fU nm (fun z => if z = ctx then grp else hm z) (by omega) (hN) (hm_upd hgp hH)) t3_38 t3_40 ts_9 t1_8 t3_41 rfl rfl (by decide +kernel) ⟨by decide, by decide⟩ [0, 12, 13, 1, 2, 7, 8, 9, 10, 11] [3, 4, 5, 6] [(gr, .inr (3, [.ref rp, .ref ly, .int ln])), (rp, .inr (0, [.ref ap])), (ap, .inl (cI, 48, .inl P)), (ly, .inl (cJ, 48, .inr (.inl Y)))] rfl rfl rfl rfl (by decide) 0 rfl rfl rfl rfl (Nat.le_of_ble_eq_true rfl) d_Groups_move_21 ⟨by decide, by decide⟩ (fun g_3 hrow => ?_)
  refine g_aload_n X 0 d_Groups_move_24 rfl rfl ?_
  refine g_get (C := R_Groups) (T := T_Groups) (N := 4) X 4 2 in_Groups rfl rfl (by decide) t1_129 rfl rfl d_Groups_move_25 ?_
  refine g_aload_n X 0 d_Groups_move_28 rfl rfl ?_
  refine g_get (C := R_Groups) (T := T_Groups) (N := 4) X 4 1 in_Groups rfl rfl (by decide) t1_128 rfl rfl d_Groups_move_29 ?_
  refine g_iload_n X 1 d_Groups_move_32 rfl rfl ?_
  refine g_calliV (n := 2) X [.ref gl, .int (nI grp)] (k_Ring_tell gr rp ly ln ap P Y gl xl 12 g_3 grp d pp (by decide) (by omega) (gp_in hrow) (by rw [hrow]; exact hd)) t3_46 t2_94 t2_95 t1_7 t2_96 rfl rfl (by decide +kernel) ⟨by decide, by decide⟩ [0, 1, 2, 3, 7, 8] [4, 5, 6, 9, 10, 11, 12, 13] [(hg, .inr (5, [.ref gh, .ref gl, .ref gr, .int mk])), (gh, .inr (0, [.ref xh])), (xh, .inl (cI, 48, .inl (upd fH ctx (nI grp)))), (hs, .inr (4, [.ref sn, .ref ss, .ref su, .int (nI K)])), (sn, .inr (0, [.ref xn])), (xn, .inl (cI, 48, .inl fN)), (su, .inr (1, [.ref xu])), (xu, .inl (cJ, 48, .inr (.inl fU)))] rfl rfl rfl rfl (by decide) 0 rfl rfl rfl rfl (Nat.le_of_ble_eq_true rfl) d_Groups_move_33 ⟨by decide, by decide⟩ (fun r4 ⟨P2_4, Z_4⟩ hPP => ?_)
  obtain ⟨rfl, hPP⟩ := hPP
  refine b_if_eq X 51 d_Groups_move_36 (by decide) (fun h36 => absurd h36 (by decide)) (fun h36 => ?_)
  refine g_aload_n X 0 d_Groups_move_39 rfl rfl ?_
  refine g_get (C := R_Groups) (T := T_Groups) (N := 4) X 0 0 in_Groups rfl rfl (by decide) t1_127 rfl rfl d_Groups_move_40 ?_
  refine g_iload_n X 2 d_Groups_move_43 rfl rfl ?_
  refine g_iload X 4 d_Groups_move_44 rfl ?_
  refine g_callvV (n := 2) X [.int (nI ctx), .int (fH ctx)] (k_Cells_put gh xh 48 (upd fH ctx (nI grp)) ctx (fH ctx) (by omega) (by omega)) t3_37 t2_36 t2_37 t1_3 t2_38 rfl rfl (by decide +kernel) ⟨by decide, by decide⟩ [1, 2] [0, 3, 4, 5, 6, 7, 8, 9, 10, 11, 12, 13] [(hg, .inr (5, [.ref gh, .ref gl, .ref gr, .int mk])), (hs, .inr (4, [.ref sn, .ref ss, .ref su, .int (nI K)])), (sn, .inr (0, [.ref xn])), (xn, .inl (cI, 48, .inl fN)), (su, .inr (1, [.ref xu])), (xu, .inl (cJ, 48, .inr (.inl fU))), (gr, .inr (3, [.ref rp, .ref ly, .int (nI d)])), (rp, .inr (0, [.ref ap])), (ap, .inl (cI, 48, .inl P2_4)), (ly, .inl (cJ, 48, .inr (.inl Z_4))), (gl, .inr (1, [.ref xl])), (xl, .inl (cJ, 12, .inr (.inl g_3)))] rfl rfl rfl rfl (by decide) 0 rfl rfl rfl rfl (Nat.le_of_ble_eq_true rfl) d_Groups_move_46 ⟨by decide, by decide⟩ (fun w9u5 hw5 => ?_)
  rw [upd_back]
  refine g_iconst (v := nI 0) X d_Groups_move_49 rfl ?_
  exact g_zret X hA9 hQ9 hr9 (by first | exact Or.inl rfl | exact Or.inr rfl) hlk9 ⟨g_3, P2_4, Z_4⟩ [0, 12, 13, 10, 11, 6, 7, 8, 9, 1, 2, 3, 4, 5] rfl rfl d_Groups_move_50 (by (try dsimp only); exact (⟨rfl, hPP⟩))
end
section
variable {l : Launch} {D : va_G} {cI cJ cZ cQ : ClassId}
set_option maxHeartbeats 4000000 in
set_option maxRecDepth 100000 in
theorem k_Version_init (hv : Nat) (hs : Nat) (sn : Nat) (ss : Nat) (su : Nat) (K : Nat) (xn : Nat) (fN : Nat → Int32) (xu : Nat) (fU : Nat → Int64) (nm : Nat → Nat) (hK : K ≤ 48) (hN : ∀ z, z < K → fN z = nI (nm z) ∧ nm z < 48) : CtV l y_Version_init (Cond.code y_Version_init c_Version_init 4 none :: TB) ({ frames := 3, cells := 6, slots := 147, locals := 65 } : Room) D (tysv cI cJ cZ cQ) [.ref hv, .ref hs] [(hv, .inr (6, [.null, .null, .null])), (hs, .inr (4, [.ref sn, .ref ss, .ref su, .int (nI K)])), (sn, .inr (0, [.ref xn])), (xn, .inl (cI, 48, .inl fN)), (su, .inr (1, [.ref xu])), (xu, .inl (cJ, 48, .inr (.inl fU)))] 6 147 (fun (u : Nat × Nat × Nat × Nat × Nat × Nat × (Nat → Int32) × (Nat → Int64) × (Nat → Int64)) => (∀ k, k < K → u.2.2.2.2.2.2.1 k = fN k) ∧ (∀ k, K ≤ k → k < 48 → u.2.2.2.2.2.2.1 k = -1) ∧ vvA (fun x y => lb (fU (nm x)) (nm y)) K K 0 u.2.2.2.2.2.2.2.1 ∧ vvB (fun x y => lb (fU (nm x)) (nm y)) K K 0 u.2.2.2.2.2.2.2.2) (fun (u : Nat × Nat × Nat × Nat × Nat × Nat × (Nat → Int32) × (Nat → Int64) × (Nat → Int64)) => [(hv, .inr (6, [.ref u.1, .ref u.2.2.1, .ref u.2.2.2.2.1])), (u.1, .inr (0, [.ref u.2.1])), (u.2.1, .inl (cI, 48, .inl u.2.2.2.2.2.2.1)), (u.2.2.1, .inr (1, [.ref u.2.2.2.1])), (u.2.2.2.1, .inl (cJ, 48, .inr (.inl u.2.2.2.2.2.2.2.1))), (u.2.2.2.2.1, .inr (1, [.ref u.2.2.2.2.2.1])), (u.2.2.2.2.2.1, .inl (cJ, 48, .inr (.inl u.2.2.2.2.2.2.2.2))), (hs, .inr (4, [.ref sn, .ref ss, .ref su, .int (nI K)])), (sn, .inr (0, [.ref xn])), (xn, .inl (cI, 48, .inl fN)), (su, .inr (1, [.ref xu])), (xu, .inl (cJ, 48, .inr (.inl fU)))]) := by
  refine CtV.of c_Version_init 4 none (by decide) rfl (Nat.le_of_ble_eq_true rfl) ?_
  intro p e s m args below meth c A Q hA9 hQ9 X hr9 hlk9 hin9
  refine g_aload_n X 0 d_Version_init_0 rfl rfl ?_
  refine g_objInit X t3_82 t1_23 t1_24 d_Version_init_1 (by decide) (Nat.le_of_ble_eq_true rfl) ?_
  refine g_aload_n X 0 d_Version_init_4 rfl rfl ?_
  refine g_new (ci := 0) (fs := [.null]) (C := R_Cells) (T := T_Cells) (N := 1) X t_Cells ty_Cells in_Cells t3_83 t1_32 t1_3 rfl (fun j hj => by rcases (show j = 0 by omega) with rfl <;> rfl) (by decide) (by decide) d_Version_init_5 (fun q1 => ?_)
  refine g_dup X d_Version_init_8 rfl ?_
  refine g_bipush (v := nI 48) X d_Version_init_9 rfl ?_
  refine g_callvI (n := 1) X [.int (nI 48)] (k_Cells_init48 q1 ) t3_84 t1_34 rfl t1_3 t1_35 rfl rfl (by decide +kernel) ⟨by decide, by decide⟩ [6] [0, 1, 2, 3, 4, 5] [(hv, .inr (6, [.null, .null, .null])), (hs, .inr (4, [.ref sn, .ref ss, .ref su, .int (nI K)])), (sn, .inr (0, [.ref xn])), (xn, .inl (cI, 48, .inl fN)), (su, .inr (1, [.ref xu])), (xu, .inl (cJ, 48, .inr (.inl fU)))] rfl rfl rfl rfl (by decide) rfl rfl (Nat.le_of_ble_eq_true rfl) d_Version_init_11 ⟨by decide, by decide⟩ (fun ⟨q_2, g_2⟩ w1 => ?_)
  refine g_putF (C := R_Version) (T := T_Version) (N := 3) (ty := .object "RelationOrder$Cells") X 0 0 [(hv, .inr (6, [.ref q1, .null, .null])), (hs, .inr (4, [.ref sn, .ref ss, .ref su, .int (nI K)])), (sn, .inr (0, [.ref xn])), (xn, .inl (cI, 48, .inl fN)), (su, .inr (1, [.ref xu])), (xu, .inl (cJ, 48, .inr (.inl fU))), (q1, .inr (0, [.ref q_2])), (q_2, .inl (cI, 48, .inl g_2))] t_Version ty_Version nm_Version in_Version rfl rfl (by decide) t3_92 rfl rfl hin9 rfl (by decide +kernel) rfl rfl (Nat.le_of_ble_eq_true rfl) rfl d_Version_init_14 ?_
  refine g_aload_n X 0 d_Version_init_17 rfl rfl ?_
  refine g_new (ci := 1) (fs := [.null]) (C := R_Rows) (T := T_Rows) (N := 1) X t_Rows ty_Rows in_Rows t3_85 t1_70 t1_6 rfl (fun j hj => by rcases (show j = 0 by omega) with rfl <;> rfl) (by decide) (by decide) d_Version_init_18 (fun q3 => ?_)
  refine g_dup X d_Version_init_21 rfl ?_
  refine g_bipush (v := nI 48) X d_Version_init_22 rfl ?_
  refine g_callvI (n := 1) X [.int (nI 48)] (k_Rows_init48 q3 ) t3_86 t1_72 rfl t1_6 t1_73 rfl rfl (by decide +kernel) ⟨by decide, by decide⟩ [8] [0, 1, 2, 3, 4, 5, 6, 7] [(hv, .inr (6, [.ref q1, .null, .null])), (hs, .inr (4, [.ref sn, .ref ss, .ref su, .int (nI K)])), (sn, .inr (0, [.ref xn])), (xn, .inl (cI, 48, .inl fN)), (su, .inr (1, [.ref xu])), (xu, .inl (cJ, 48, .inr (.inl fU))), (q1, .inr (0, [.ref q_2])), (q_2, .inl (cI, 48, .inl g_2))] rfl rfl rfl rfl (by decide) rfl rfl (Nat.le_of_ble_eq_true rfl) d_Version_init_24 ⟨by decide, by decide⟩ (fun q_4 hw4 => ?_)
  refine g_putF (C := R_Version) (T := T_Version) (N := 3) (ty := .object "RelationOrder$Rows") X 0 1 [(hv, .inr (6, [.ref q1, .ref q3, .null])), (hs, .inr (4, [.ref sn, .ref ss, .ref su, .int (nI K)])), (sn, .inr (0, [.ref xn])), (xn, .inl (cI, 48, .inl fN)), (su, .inr (1, [.ref xu])), (xu, .inl (cJ, 48, .inr (.inl fU))), (q1, .inr (0, [.ref q_2])), (q_2, .inl (cI, 48, .inl g_2)), (q3, .inr (1, [.ref q_4])), (q_4, .inl (cJ, 48, .inr (.inl (fun _ => 0))))] t_Version ty_Version nm_Version in_Version rfl rfl (by decide) t3_93 rfl rfl hin9 rfl (by decide +kernel) rfl rfl (Nat.le_of_ble_eq_true rfl) rfl d_Version_init_27 ?_
  refine g_aload_n X 0 d_Version_init_30 rfl rfl ?_
  refine g_new (ci := 1) (fs := [.null]) (C := R_Rows) (T := T_Rows) (N := 1) X t_Rows ty_Rows in_Rows t3_85 t1_70 t1_6 rfl (fun j hj => by rcases (show j = 0 by omega) with rfl <;> rfl) (by decide) (by decide) d_Version_init_31 (fun q5 => ?_)
  refine g_dup X d_Version_init_34 rfl ?_
  refine g_bipush (v := nI 48) X d_Version_init_35 rfl ?_
  refine g_callvI (n := 1) X [.int (nI 48)] (k_Rows_init48 q5 ) t3_86 t1_72 rfl t1_6 t1_73 rfl rfl (by decide +kernel) ⟨by decide, by decide⟩ [10] [0, 1, 2, 3, 4, 5, 6, 7, 8, 9] [(hv, .inr (6, [.ref q1, .ref q3, .null])), (hs, .inr (4, [.ref sn, .ref ss, .ref su, .int (nI K)])), (sn, .inr (0, [.ref xn])), (xn, .inl (cI, 48, .inl fN)), (su, .inr (1, [.ref xu])), (xu, .inl (cJ, 48, .inr (.inl fU))), (q1, .inr (0, [.ref q_2])), (q_2, .inl (cI, 48, .inl g_2)), (q3, .inr (1, [.ref q_4])), (q_4, .inl (cJ, 48, .inr (.inl (fun _ => 0))))] rfl rfl rfl rfl (by decide) rfl rfl (Nat.le_of_ble_eq_true rfl) d_Version_init_37 ⟨by decide, by decide⟩ (fun q_6 hw6 => ?_)
  refine g_putF (C := R_Version) (T := T_Version) (N := 3) (ty := .object "RelationOrder$Rows") X 0 2 [(hv, .inr (6, [.ref q1, .ref q3, .ref q5])), (hs, .inr (4, [.ref sn, .ref ss, .ref su, .int (nI K)])), (sn, .inr (0, [.ref xn])), (xn, .inl (cI, 48, .inl fN)), (su, .inr (1, [.ref xu])), (xu, .inl (cJ, 48, .inr (.inl fU))), (q1, .inr (0, [.ref q_2])), (q_2, .inl (cI, 48, .inl g_2)), (q3, .inr (1, [.ref q_4])), (q_4, .inl (cJ, 48, .inr (.inl (fun _ => 0)))), (q5, .inr (1, [.ref q_6])), (q_6, .inl (cJ, 48, .inr (.inl (fun _ => 0))))] t_Version ty_Version nm_Version in_Version rfl rfl (by decide) t3_94 rfl rfl hin9 rfl (by decide +kernel) rfl rfl (Nat.le_of_ble_eq_true rfl) rfl d_Version_init_40 ?_
  have L45 : ∀ (N45 : Nat) (i : Nat) (gN : Nat → Int32) (gA : Nat → Int64) (gB : Nat → Int64), (K - i) < N45 → (i ≤ K) → (∀ k, k < i → gN k = fN k) → (∀ k, K ≤ k → k < 48 → gN k = -1) → (vvA (fun x y => lb (fU (nm x)) (nm y)) K i 0 gA) → (vvB (fun x y => lb (fU (nm x)) (nm y)) K i 0 gB) → G p l e ({ frames := 3, cells := 6, slots := 147, locals := 65 } : Room) s m args below meth c 4 D A s.heap Q 6 147 [(hv, .inr (6, [.ref q1, .ref q3, .ref q5])), (hs, .inr (4, [.ref sn, .ref ss, .ref su, .int (nI K)])), (sn, .inr (0, [.ref xn])), (xn, .inl (cI, 48, .inl fN)), (su, .inr (1, [.ref xu])), (xu, .inl (cJ, 48, .inr (.inl fU))), (q1, .inr (0, [.ref q_2])), (q_2, .inl (cI, 48, .inl gN)), (q3, .inr (1, [.ref q_4])), (q_4, .inl (cJ, 48, .inr (.inl gA))), (q5, .inr (1, [.ref q_6])), (q_6, .inl (cJ, 48, .inr (.inl gB)))] [(0, .ref hv), (1, .ref hs), (2, .int (nI i))] 45 [] := by
    intro N45
    induction N45 with
    | zero =>
      intro i gN gA gB hN
      exact absurd hN (Nat.not_lt_zero _)
    | succ N45 ih45 =>
      intro i gN gA gB hN45 hi n1 n2 a1 b1
      refine g_iload_n X 2 d_Version_init_45 rfl rfl ?_
      refine g_aload_n X 1 d_Version_init_46 rfl rfl ?_
      refine g_calliV (n := 0) X [] (k_Strata_contexts hs sn ss su K ) t3_87 t1_201 t1_202 t1_5 t1_203 rfl rfl (by decide +kernel) ⟨by decide, by decide⟩ [1] [0, 2, 3, 4, 5, 6, 7, 8, 9, 10, 11] [(hv, .inr (6, [.ref q1, .ref q3, .ref q5])), (sn, .inr (0, [.ref xn])), (xn, .inl (cI, 48, .inl fN)), (su, .inr (1, [.ref xu])), (xu, .inl (cJ, 48, .inr (.inl fU))), (q1, .inr (0, [.ref q_2])), (q_2, .inl (cI, 48, .inl gN)), (q3, .inr (1, [.ref q_4])), (q_4, .inl (cJ, 48, .inr (.inl gA))), (q5, .inr (1, [.ref q_6])), (q_6, .inl (cJ, 48, .inr (.inl gB)))] rfl rfl rfl rfl (by decide) 0 rfl rfl rfl rfl (Nat.le_of_ble_eq_true rfl) d_Version_init_47 ⟨by decide, by decide⟩ (fun r7 w9u7 hw7 => ?_)
      subst hw7
      refine n_icmp_ge X 115 d_Version_init_50 (by decide) (by omega) (by omega) (fun h50 => ?_) (fun h50 => ?_)
      · exact g_vret X hA9 hQ9 hr9 hlk9 ⟨q1, q_2, q3, q_4, q5, q_6, gN, gA, gB⟩ [0, 5, 6, 7, 8, 9, 10, 11, 1, 2, 3, 4] rfl rfl d_Version_init_115 (by (try dsimp only); exact (by have e9 : i = K := (by omega); subst e9; exact ⟨n1, n2, a1, b1⟩))
      · have m1 := vnum_step (fN := fN) (show i < K by omega) n1
        have n3 := upd_far (x := fN i) (show i < K by omega) n2
        refine g_aload_n X 0 d_Version_init_53 rfl rfl ?_
        refine g_get (C := R_Version) (T := T_Version) (N := 3) X 0 0 in_Version rfl rfl (by decide) t3_92 rfl rfl d_Version_init_54 ?_
        refine g_iload_n X 2 d_Version_init_57 rfl rfl ?_
        refine g_aload_n X 1 d_Version_init_58 rfl rfl ?_
        refine g_iload_n X 2 d_Version_init_59 rfl rfl ?_
        refine g_calliV (n := 1) X [.int (nI i)] (k_Strata_numberOf hs sn ss su K xn fN i (by omega)) t3_88 t2_74 t2_75 t1_5 t2_76 rfl rfl (by decide +kernel) ⟨by decide, by decide⟩ [11, 1, 2] [0, 3, 4, 5, 6, 7, 8, 9, 10] [(hv, .inr (6, [.ref q1, .ref q3, .ref q5])), (su, .inr (1, [.ref xu])), (xu, .inl (cJ, 48, .inr (.inl fU))), (q1, .inr (0, [.ref q_2])), (q_2, .inl (cI, 48, .inl gN)), (q3, .inr (1, [.ref q_4])), (q_4, .inl (cJ, 48, .inr (.inl gA))), (q5, .inr (1, [.ref q_6])), (q_6, .inl (cJ, 48, .inr (.inl gB)))] rfl rfl rfl rfl (by decide) 0 rfl rfl rfl rfl (Nat.le_of_ble_eq_true rfl) d_Version_init_60 ⟨by decide, by decide⟩ (fun r8 w9u8 hw8 => ?_)
        subst hw8
        refine g_callvV (n := 2) X [.int (nI i), .int (fN i)] (k_Cells_put q1 q_2 48 gN i (fN i) (by omega) (by omega)) t3_89 t2_36 t2_37 t1_3 t2_38 rfl rfl (by decide +kernel) ⟨by decide, by decide⟩ [3, 4] [0, 1, 2, 5, 6, 7, 8, 9, 10, 11] [(hv, .inr (6, [.ref q1, .ref q3, .ref q5])), (su, .inr (1, [.ref xu])), (xu, .inl (cJ, 48, .inr (.inl fU))), (q3, .inr (1, [.ref q_4])), (q_4, .inl (cJ, 48, .inr (.inl gA))), (q5, .inr (1, [.ref q_6])), (q_6, .inl (cJ, 48, .inr (.inl gB))), (hs, .inr (4, [.ref sn, .ref ss, .ref su, .int (nI K)])), (sn, .inr (0, [.ref xn])), (xn, .inl (cI, 48, .inl fN))] rfl rfl rfl rfl (by decide) 0 rfl rfl rfl rfl (Nat.le_of_ble_eq_true rfl) d_Version_init_63 ⟨by decide, by decide⟩ (fun w9u9 hw9 => ?_)
        have L68 : ∀ (N68 : Nat) (k : Nat) (fa : Nat → Int64) (fb : Nat → Int64), (K - k) < N68 → (k ≤ K) → (vvA (fun x y => lb (fU (nm x)) (nm y)) K i k fa) → (vvB (fun x y => lb (fU (nm x)) (nm y)) K i k fb) → G p l e ({ frames := 3, cells := 6, slots := 147, locals := 65 } : Room) s m args below meth c 4 D A s.heap Q 6 147 [(hv, .inr (6, [.ref q1, .ref q3, .ref q5])), (su, .inr (1, [.ref xu])), (xu, .inl (cJ, 48, .inr (.inl fU))), (q3, .inr (1, [.ref q_4])), (q_4, .inl (cJ, 48, .inr (.inl fa))), (q5, .inr (1, [.ref q_6])), (q_6, .inl (cJ, 48, .inr (.inl fb))), (hs, .inr (4, [.ref sn, .ref ss, .ref su, .int (nI K)])), (sn, .inr (0, [.ref xn])), (xn, .inl (cI, 48, .inl fN)), (q1, .inr (0, [.ref q_2])), (q_2, .inl (cI, 48, .inl (upd gN i (fN i))))] [(0, .ref hv), (1, .ref hs), (2, .int (nI i)), (3, .int (nI k))] 68 [] := by
          intro N68
          induction N68 with
          | zero =>
            intro k fa fb hN
            exact absurd hN (Nat.not_lt_zero _)
          | succ N68 ih68 =>
            intro k fa fb hN68 hk a2 b2
            refine g_iload_n X 3 d_Version_init_68 rfl rfl ?_
            refine g_aload_n X 1 d_Version_init_69 rfl rfl ?_
            refine g_calliV (n := 0) X [] (k_Strata_contexts hs sn ss su K ) t3_87 t1_201 t1_202 t1_5 t1_203 rfl rfl (by decide +kernel) ⟨by decide, by decide⟩ [7] [0, 1, 2, 3, 4, 5, 6, 8, 9, 10, 11] [(hv, .inr (6, [.ref q1, .ref q3, .ref q5])), (su, .inr (1, [.ref xu])), (xu, .inl (cJ, 48, .inr (.inl fU))), (q3, .inr (1, [.ref q_4])), (q_4, .inl (cJ, 48, .inr (.inl fa))), (q5, .inr (1, [.ref q_6])), (q_6, .inl (cJ, 48, .inr (.inl fb))), (sn, .inr (0, [.ref xn])), (xn, .inl (cI, 48, .inl fN)), (q1, .inr (0, [.ref q_2])), (q_2, .inl (cI, 48, .inl (upd gN i (fN i))))] rfl rfl rfl rfl (by decide) 0 rfl rfl rfl rfl (Nat.le_of_ble_eq_true rfl) d_Version_init_70 ⟨by decide, by decide⟩ (fun r10 w9u10 hw10 => ?_)
            subst hw10
            refine n_icmp_ge X 109 d_Version_init_73 (by decide) (by omega) (by omega) (fun h73 => ?_) (fun h73 => ?_)
            · refine g_iinc X (nI (i + 1)) [(2, .int (nI (i + 1))), (0, .ref hv), (1, .ref hs), (3, .int (nI k))] d_Version_init_109 (k := 2) rfl (nI_1 i) (by decide) rfl ?_
              refine g_goto X 45 d_Version_init_112 (by decide) ?_
              refine g_ws [(hv, .inr (6, [.ref q1, .ref q3, .ref q5])), (hs, .inr (4, [.ref sn, .ref ss, .ref su, .int (nI K)])), (sn, .inr (0, [.ref xn])), (xn, .inl (cI, 48, .inl fN)), (su, .inr (1, [.ref xu])), (xu, .inl (cJ, 48, .inr (.inl fU))), (q1, .inr (0, [.ref q_2])), (q_2, .inl (cI, 48, .inl (upd gN i (fN i)))), (q3, .inr (1, [.ref q_4])), (q_4, .inl (cJ, 48, .inr (.inl fa))), (q5, .inr (1, [.ref q_6])), (q_6, .inl (cJ, 48, .inr (.inl fb)))] [0, 11, 7, 8, 1, 2, 9, 10, 3, 4, 5, 6] rfl rfl ?_
              refine g_lv [1, 2, 0] rfl ?_
              exact ih45 (i + 1) (upd gN i (fN i)) fa fb (by omega) (by omega) (m1) (n3) (vvA_row a2 (by omega)) (vvB_row b2 (by omega))
            · refine g_aload_n X 1 d_Version_init_76 rfl rfl ?_
              refine g_iload_n X 2 d_Version_init_77 rfl rfl ?_
              refine g_iload_n X 3 d_Version_init_78 rfl rfl ?_
              refine g_calliV (n := 2) X [.int (nI i), .int (nI k)] (k_Strata_isOver hs sn ss su K xn fN xu fU i k (nm i) (nm k) (by omega) (by omega) ((hN _ (by omega)).1) ((hN _ (by omega)).1) ((hN _ (by omega)).2) ((hN _ (by omega)).2)) t3_90 t2_197 t2_198 t1_5 t2_199 rfl rfl (by decide +kernel) ⟨by decide, by decide⟩ [11, 7, 8, 1, 2] [0, 3, 4, 5, 6, 9, 10] [(hv, .inr (6, [.ref q1, .ref q3, .ref q5])), (q3, .inr (1, [.ref q_4])), (q_4, .inl (cJ, 48, .inr (.inl fa))), (q5, .inr (1, [.ref q_6])), (q_6, .inl (cJ, 48, .inr (.inl fb))), (q1, .inr (0, [.ref q_2])), (q_2, .inl (cI, 48, .inl (upd gN i (fN i))))] rfl rfl rfl rfl (by decide) 0 rfl rfl rfl rfl (Nat.le_of_ble_eq_true rfl) d_Version_init_79 ⟨by decide, by decide⟩ (fun r11 w9u11 hw11 => ?_)
              subst hw11
              refine b_if_eq X 103 d_Version_init_82 (by decide) (fun h82 => ?_) (fun h82 => ?_)
              · refine g_iinc X (nI (k + 1)) [(3, .int (nI (k + 1))), (0, .ref hv), (1, .ref hs), (2, .int (nI i))] d_Version_init_103 (k := 3) rfl (nI_1 k) (by decide) rfl ?_
                refine g_goto X 68 d_Version_init_106 (by decide) ?_
                refine g_ws [(hv, .inr (6, [.ref q1, .ref q3, .ref q5])), (su, .inr (1, [.ref xu])), (xu, .inl (cJ, 48, .inr (.inl fU))), (q3, .inr (1, [.ref q_4])), (q_4, .inl (cJ, 48, .inr (.inl fa))), (q5, .inr (1, [.ref q_6])), (q_6, .inl (cJ, 48, .inr (.inl fb))), (hs, .inr (4, [.ref sn, .ref ss, .ref su, .int (nI K)])), (sn, .inr (0, [.ref xn])), (xn, .inl (cI, 48, .inl fN)), (q1, .inr (0, [.ref q_2])), (q_2, .inl (cI, 48, .inl (upd gN i (fN i))))] [0, 10, 11, 1, 2, 3, 4, 7, 8, 9, 5, 6] rfl rfl ?_
                refine g_lv [1, 2, 3, 0] rfl ?_
                exact ih68 (k + 1) fa fb (by omega) (by omega) (by first | exact vvA_skip a2 h82 | exact vvA_put a2 (by omega) h82) (by first | exact vvB_skip b2 h82 | exact vvB_put b2 (by omega) h82)
              · refine g_aload_n X 0 d_Version_init_85 rfl rfl ?_
                refine g_get (C := R_Version) (T := T_Version) (N := 3) X 0 1 in_Version rfl rfl (by decide) t3_93 rfl rfl d_Version_init_86 ?_
                refine g_iload_n X 2 d_Version_init_89 rfl rfl ?_
                refine g_iload_n X 3 d_Version_init_90 rfl rfl ?_
                refine g_callvV (n := 2) X [.int (nI i), .int (nI k)] (k_Rows_mark q3 q_4 48 fa i k (by omega) (by omega) (by omega)) t3_91 t2_90 t2_91 t1_6 t2_92 rfl rfl (by decide +kernel) ⟨by decide, by decide⟩ [1, 2] [0, 3, 4, 5, 6, 7, 8, 9, 10, 11] [(hv, .inr (6, [.ref q1, .ref q3, .ref q5])), (q5, .inr (1, [.ref q_6])), (q_6, .inl (cJ, 48, .inr (.inl fb))), (q1, .inr (0, [.ref q_2])), (q_2, .inl (cI, 48, .inl (upd gN i (fN i)))), (hs, .inr (4, [.ref sn, .ref ss, .ref su, .int (nI K)])), (sn, .inr (0, [.ref xn])), (xn, .inl (cI, 48, .inl fN)), (su, .inr (1, [.ref xu])), (xu, .inl (cJ, 48, .inr (.inl fU)))] rfl rfl rfl rfl (by decide) 0 rfl rfl rfl rfl (Nat.le_of_ble_eq_true rfl) d_Version_init_91 ⟨by decide, by decide⟩ (fun w9u12 hw12 => ?_)
                refine g_aload_n X 0 d_Version_init_94 rfl rfl ?_
                refine g_get (C := R_Version) (T := T_Version) (N := 3) X 0 2 in_Version rfl rfl (by decide) t3_94 rfl rfl d_Version_init_95 ?_
                refine g_iload_n X 3 d_Version_init_98 rfl rfl ?_
                refine g_iload_n X 2 d_Version_init_99 rfl rfl ?_
                refine g_callvV (n := 2) X [.int (nI k), .int (nI i)] (k_Rows_mark q5 q_6 48 fb k i (by omega) (by omega) (by omega)) t3_91 t2_90 t2_91 t1_6 t2_92 rfl rfl (by decide +kernel) ⟨by decide, by decide⟩ [1, 2] [0, 3, 4, 5, 6, 7, 8, 9, 10, 11] [(hv, .inr (6, [.ref q1, .ref q3, .ref q5])), (q1, .inr (0, [.ref q_2])), (q_2, .inl (cI, 48, .inl (upd gN i (fN i)))), (hs, .inr (4, [.ref sn, .ref ss, .ref su, .int (nI K)])), (sn, .inr (0, [.ref xn])), (xn, .inl (cI, 48, .inl fN)), (su, .inr (1, [.ref xu])), (xu, .inl (cJ, 48, .inr (.inl fU))), (q3, .inr (1, [.ref q_4])), (q_4, .inl (cJ, 48, .inr (.inl (vp_updL fa i (fa i ||| ((1 : Int64) <<< ((nI k).toInt64 &&& 63)))))))] rfl rfl rfl rfl (by decide) 0 rfl rfl rfl rfl (Nat.le_of_ble_eq_true rfl) d_Version_init_100 ⟨by decide, by decide⟩ (fun w9u13 hw13 => ?_)
                refine g_iinc X (nI (k + 1)) [(3, .int (nI (k + 1))), (0, .ref hv), (1, .ref hs), (2, .int (nI i))] d_Version_init_103 (k := 3) rfl (nI_1 k) (by decide) rfl ?_
                refine g_goto X 68 d_Version_init_106 (by decide) ?_
                refine g_ws [(hv, .inr (6, [.ref q1, .ref q3, .ref q5])), (su, .inr (1, [.ref xu])), (xu, .inl (cJ, 48, .inr (.inl fU))), (q3, .inr (1, [.ref q_4])), (q_4, .inl (cJ, 48, .inr (.inl (vp_updL fa i (fa i ||| ((1 : Int64) <<< ((nI k).toInt64 &&& 63))))))), (q5, .inr (1, [.ref q_6])), (q_6, .inl (cJ, 48, .inr (.inl (vp_updL fb k (fb k ||| ((1 : Int64) <<< ((nI i).toInt64 &&& 63))))))), (hs, .inr (4, [.ref sn, .ref ss, .ref su, .int (nI K)])), (sn, .inr (0, [.ref xn])), (xn, .inl (cI, 48, .inl fN)), (q1, .inr (0, [.ref q_2])), (q_2, .inl (cI, 48, .inl (upd gN i (fN i))))] [0, 6, 7, 8, 9, 10, 11, 3, 4, 5, 1, 2] rfl rfl ?_
                refine g_lv [1, 2, 3, 0] rfl ?_
                exact ih68 (k + 1) (vp_updL fa i (fa i ||| ((1 : Int64) <<< ((nI k).toInt64 &&& 63)))) (vp_updL fb k (fb k ||| ((1 : Int64) <<< ((nI i).toInt64 &&& 63)))) (by omega) (by omega) (by first | exact vvA_skip a2 h82 | exact vvA_put a2 (by omega) h82) (by first | exact vvB_skip b2 h82 | exact vvB_put b2 (by omega) h82)
        refine g_iconst (v := nI 0) X d_Version_init_66 rfl ?_
        refine g_istore_n X [(3, .int (nI 0)), (0, .ref hv), (1, .ref hs), (2, .int (nI i))] d_Version_init_67 rfl (by decide) rfl ?_
        refine g_lv [1, 2, 3, 0] rfl ?_
        exact L68 ((K - 0) + 1) 0 gA gB (Nat.lt_succ_self _) (by omega) (a1) (b1)
  refine g_iconst (v := nI 0) X d_Version_init_43 rfl ?_
  refine g_istore_n X [(2, .int (nI 0)), (0, .ref hv), (1, .ref hs)] d_Version_init_44 rfl (by decide) rfl ?_
  refine g_lv [1, 2, 0] rfl ?_
  exact L45 ((K - 0) + 1) 0 g_2 (fun _ => 0) (fun _ => 0) (Nat.lt_succ_self _) (by omega) (fun j hj => absurd hj (Nat.not_lt_zero j)) (fun k _ hk => w1 k hk) (vvA_0) (vvB_0)

set_option maxHeartbeats 4000000 in
set_option maxRecDepth 100000 in
theorem k_Version_differences (hv : Nat) (vn : Nat) (vu : Nat) (vo : Nat) (yn : Nat) (yu : Nat) (yo : Nat) (n1 : Nat → Int32) (u1 : Nat → Int64) (o1 : Nat → Int64) (hw : Nat) (wn : Nat) (wu : Nat) (wo : Nat) (zn : Nat) (zu : Nat) (zo : Nat) (n2 : Nat → Int32) (u2 : Nat → Int64) (o2 : Nat → Int64)  : CtL l y_Version_differences (Cond.code y_Version_differences c_Version_differences 5 (some .long) :: TB) ({ frames := 2, cells := 0, slots := 0, locals := 42 } : Room) D (tysv cI cJ cZ cQ) [.ref hv, .ref hw] [(hv, .inr (6, [.ref vn, .ref vu, .ref vo])), (vn, .inr (0, [.ref yn])), (yn, .inl (cI, 48, .inl n1)), (vu, .inr (1, [.ref yu])), (yu, .inl (cJ, 48, .inr (.inl u1))), (vo, .inr (1, [.ref yo])), (yo, .inl (cJ, 48, .inr (.inl o1))), (hw, .inr (6, [.ref wn, .ref wu, .ref wo])), (wn, .inr (0, [.ref zn])), (zn, .inl (cI, 48, .inl n2)), (wu, .inr (1, [.ref zu])), (zu, .inl (cJ, 48, .inr (.inl u2))), (wo, .inr (1, [.ref zo])), (zo, .inl (cJ, 48, .inr (.inl o2)))] 0 0 (fun (r : Int64) (_ : Unit) => ∀ x, lb r x = true ↔ x < 48 ∧ ¬ dfI n1 n2 u1 u2 o1 o2 x) (fun (_ : Unit) => [(hv, .inr (6, [.ref vn, .ref vu, .ref vo])), (vn, .inr (0, [.ref yn])), (yn, .inl (cI, 48, .inl n1)), (vu, .inr (1, [.ref yu])), (yu, .inl (cJ, 48, .inr (.inl u1))), (vo, .inr (1, [.ref yo])), (yo, .inl (cJ, 48, .inr (.inl o1))), (hw, .inr (6, [.ref wn, .ref wu, .ref wo])), (wn, .inr (0, [.ref zn])), (zn, .inl (cI, 48, .inl n2)), (wu, .inr (1, [.ref zu])), (zu, .inl (cJ, 48, .inr (.inl u2))), (wo, .inr (1, [.ref zo])), (zo, .inl (cJ, 48, .inr (.inl o2)))]) := by
  refine CtL.of c_Version_differences 5 (some .long) (by decide) rfl (Nat.le_of_ble_eq_true rfl) ?_
  intro p e s m args below meth c A Q hA9 hQ9 X hr9 hlk9 hin9
  have L5 : ∀ (N5 : Nat) (i : Nat) (w : Int64), (48 - i) < N5 → (i ≤ 48) → (∀ x, lb w x = true ↔ x < i ∧ ¬ dfI n1 n2 u1 u2 o1 o2 x) → G p l e ({ frames := 2, cells := 0, slots := 0, locals := 42 } : Room) s m args below meth c 5 D A s.heap Q 0 0 [(hv, .inr (6, [.ref vn, .ref vu, .ref vo])), (vn, .inr (0, [.ref yn])), (yn, .inl (cI, 48, .inl n1)), (vu, .inr (1, [.ref yu])), (yu, .inl (cJ, 48, .inr (.inl u1))), (vo, .inr (1, [.ref yo])), (yo, .inl (cJ, 48, .inr (.inl o1))), (hw, .inr (6, [.ref wn, .ref wu, .ref wo])), (wn, .inr (0, [.ref zn])), (zn, .inl (cI, 48, .inl n2)), (wu, .inr (1, [.ref zu])), (zu, .inl (cJ, 48, .inr (.inl u2))), (wo, .inr (1, [.ref zo])), (zo, .inl (cJ, 48, .inr (.inl o2)))] [(0, .ref hv), (1, .ref hw), (2, .long w), (4, .int (nI i))] 5 [] := by
    intro N5
    induction N5 with
    | zero =>
      intro i w hN
      exact absurd hN (Nat.not_lt_zero _)
    | succ N5 ih5 =>
      intro i w hN5 hi h1
      refine g_iload X 4 d_Version_differences_5 rfl ?_
      refine g_bipush (v := nI 48) X d_Version_differences_7 rfl ?_
      refine n_icmp_ge X 90 d_Version_differences_9 (by decide) (by omega) (by omega) (fun h9 => ?_) (fun h9 => ?_)
      · refine g_lload_n X 2 d_Version_differences_90 rfl rfl ?_
        exact g_lret X hA9 hQ9 hr9 hlk9 () [0, 1, 2, 3, 4, 5, 6, 7, 8, 9, 10, 11, 12, 13] rfl rfl d_Version_differences_91 (by have e9 : i = 48 := (by omega); subst e9; exact h1)
      · refine g_aload_n X 0 d_Version_differences_12 rfl rfl ?_
        refine g_get (C := R_Version) (T := T_Version) (N := 3) X 0 0 in_Version rfl rfl (by decide) t3_92 rfl rfl d_Version_differences_13 ?_
        refine g_iload X 4 d_Version_differences_16 rfl ?_
        refine g_calliV (n := 1) X [.int (nI i)] (k_Cells_at vn yn 48 n1 i (by omega) (by omega)) t3_118 t2_78 t2_79 t1_3 t2_80 rfl rfl (by decide +kernel) ⟨by decide, by decide⟩ [1, 2] [0, 3, 4, 5, 6, 7, 8, 9, 10, 11, 12, 13] [(hv, .inr (6, [.ref vn, .ref vu, .ref vo])), (vu, .inr (1, [.ref yu])), (yu, .inl (cJ, 48, .inr (.inl u1))), (vo, .inr (1, [.ref yo])), (yo, .inl (cJ, 48, .inr (.inl o1))), (hw, .inr (6, [.ref wn, .ref wu, .ref wo])), (wn, .inr (0, [.ref zn])), (zn, .inl (cI, 48, .inl n2)), (wu, .inr (1, [.ref zu])), (zu, .inl (cJ, 48, .inr (.inl u2))), (wo, .inr (1, [.ref zo])), (zo, .inl (cJ, 48, .inr (.inl o2)))] rfl rfl rfl rfl (by decide) 0 rfl rfl rfl rfl (Nat.le_of_ble_eq_true rfl) d_Version_differences_18 ⟨by decide, by decide⟩ (fun r1 w9u1 hw1 => ?_)
        subst hw1
        refine g_aload_n X 1 d_Version_differences_21 rfl rfl ?_
        refine g_get (C := R_Version) (T := T_Version) (N := 3) X 5 0 in_Version rfl rfl (by decide) t3_92 rfl rfl d_Version_differences_22 ?_
        refine g_iload X 4 d_Version_differences_25 rfl ?_
        refine g_calliV (n := 1) X [.int (nI i)] (k_Cells_at wn zn 48 n2 i (by omega) (by omega)) t3_118 t2_78 t2_79 t1_3 t2_80 rfl rfl (by decide +kernel) ⟨by decide, by decide⟩ [6, 7] [0, 1, 2, 3, 4, 5, 8, 9, 10, 11, 12, 13] [(hv, .inr (6, [.ref vn, .ref vu, .ref vo])), (vu, .inr (1, [.ref yu])), (yu, .inl (cJ, 48, .inr (.inl u1))), (vo, .inr (1, [.ref yo])), (yo, .inl (cJ, 48, .inr (.inl o1))), (hw, .inr (6, [.ref wn, .ref wu, .ref wo])), (wu, .inr (1, [.ref zu])), (zu, .inl (cJ, 48, .inr (.inl u2))), (wo, .inr (1, [.ref zo])), (zo, .inl (cJ, 48, .inr (.inl o2))), (vn, .inr (0, [.ref yn])), (yn, .inl (cI, 48, .inl n1))] rfl rfl rfl rfl (by decide) 0 rfl rfl rfl rfl (Nat.le_of_ble_eq_true rfl) d_Version_differences_27 ⟨by decide, by decide⟩ (fun r2 w9u2 hw2 => ?_)
        subst hw2
        refine g_icmp_ne X 77 d_Version_differences_30 (by decide) (fun h30 => ?_) (fun h30 => ?_)
        · refine g_lload_n X 2 d_Version_differences_77 rfl rfl ?_
          refine g_lconst (v := 1) X d_Version_differences_78 rfl ?_
          refine g_iload X 4 d_Version_differences_79 rfl ?_
          refine g_lshl X (1 <<< ((nI i).toInt64 &&& 63)) d_Version_differences_81 rfl ?_
          refine g_lor X (w ||| (1 <<< ((nI i).toInt64 &&& 63))) d_Version_differences_82 rfl ?_
          refine g_lstore_n X [(2, .long (w ||| (1 <<< ((nI i).toInt64 &&& 63)))), (0, .ref hv), (1, .ref hw), (4, .int (nI i))] d_Version_differences_83 rfl (by decide) rfl ?_
          refine g_iinc X (nI (i + 1)) [(4, .int (nI (i + 1))), (2, .long (w ||| (1 <<< ((nI i).toInt64 &&& 63)))), (0, .ref hv), (1, .ref hw)] d_Version_differences_84 (k := 3) rfl (nI_1 i) (by decide) rfl ?_
          refine g_goto X 5 d_Version_differences_87 (by decide) ?_
          refine g_ws [(hv, .inr (6, [.ref vn, .ref vu, .ref vo])), (vn, .inr (0, [.ref yn])), (yn, .inl (cI, 48, .inl n1)), (vu, .inr (1, [.ref yu])), (yu, .inl (cJ, 48, .inr (.inl u1))), (vo, .inr (1, [.ref yo])), (yo, .inl (cJ, 48, .inr (.inl o1))), (hw, .inr (6, [.ref wn, .ref wu, .ref wo])), (wn, .inr (0, [.ref zn])), (zn, .inl (cI, 48, .inl n2)), (wu, .inr (1, [.ref zu])), (zu, .inl (cJ, 48, .inr (.inl u2))), (wo, .inr (1, [.ref zo])), (zo, .inl (cJ, 48, .inr (.inl o2)))] [0, 10, 11, 1, 2, 3, 4, 5, 12, 13, 6, 7, 8, 9] rfl rfl ?_
          refine g_lv [2, 3, 1, 0] rfl ?_
          exact ih5 (i + 1) (w ||| (1 <<< ((nI i).toInt64 &&& 63))) (by omega) (by omega) (by first | exact df_keep h1 h30 h52 h74 | exact df_put (by omega) h1 (fun z9 => h30 z9.1) | exact df_put (by omega) h1 (fun z9 => h52 z9.2.1) | exact df_put (by omega) h1 (fun z9 => h74 z9.2.2))
        · refine g_aload_n X 0 d_Version_differences_33 rfl rfl ?_
          refine g_get (C := R_Version) (T := T_Version) (N := 3) X 0 1 in_Version rfl rfl (by decide) t3_93 rfl rfl d_Version_differences_34 ?_
          refine g_iload X 4 d_Version_differences_37 rfl ?_
          refine g_calllV (n := 1) X [.int (nI i)] (k_Rows_row vu yu 48 u1 i (by omega) (by omega)) t3_119 t1_174 t1_175 t1_6 t1_176 rfl rfl (by decide +kernel) ⟨by decide, by decide⟩ [1, 2] [0, 3, 4, 5, 6, 7, 8, 9, 10, 11, 12, 13] [(hv, .inr (6, [.ref vn, .ref vu, .ref vo])), (vo, .inr (1, [.ref yo])), (yo, .inl (cJ, 48, .inr (.inl o1))), (hw, .inr (6, [.ref wn, .ref wu, .ref wo])), (wu, .inr (1, [.ref zu])), (zu, .inl (cJ, 48, .inr (.inl u2))), (wo, .inr (1, [.ref zo])), (zo, .inl (cJ, 48, .inr (.inl o2))), (vn, .inr (0, [.ref yn])), (yn, .inl (cI, 48, .inl n1)), (wn, .inr (0, [.ref zn])), (zn, .inl (cI, 48, .inl n2))] rfl rfl rfl rfl (by decide) 0 rfl rfl rfl rfl (Nat.le_of_ble_eq_true rfl) d_Version_differences_39 ⟨by decide, by decide⟩ (fun r3 w9u3 hw3 => ?_)
          subst hw3
          refine g_aload_n X 1 d_Version_differences_42 rfl rfl ?_
          refine g_get (C := R_Version) (T := T_Version) (N := 3) X 3 1 in_Version rfl rfl (by decide) t3_93 rfl rfl d_Version_differences_43 ?_
          refine g_iload X 4 d_Version_differences_46 rfl ?_
          refine g_calllV (n := 1) X [.int (nI i)] (k_Rows_row wu zu 48 u2 i (by omega) (by omega)) t3_119 t1_174 t1_175 t1_6 t1_176 rfl rfl (by decide +kernel) ⟨by decide, by decide⟩ [4, 5] [0, 1, 2, 3, 6, 7, 8, 9, 10, 11, 12, 13] [(hv, .inr (6, [.ref vn, .ref vu, .ref vo])), (vo, .inr (1, [.ref yo])), (yo, .inl (cJ, 48, .inr (.inl o1))), (hw, .inr (6, [.ref wn, .ref wu, .ref wo])), (wo, .inr (1, [.ref zo])), (zo, .inl (cJ, 48, .inr (.inl o2))), (vn, .inr (0, [.ref yn])), (yn, .inl (cI, 48, .inl n1)), (wn, .inr (0, [.ref zn])), (zn, .inl (cI, 48, .inl n2)), (vu, .inr (1, [.ref yu])), (yu, .inl (cJ, 48, .inr (.inl u1)))] rfl rfl rfl rfl (by decide) 0 rfl rfl rfl rfl (Nat.le_of_ble_eq_true rfl) d_Version_differences_48 ⟨by decide, by decide⟩ (fun r4 w9u4 hw4 => ?_)
          subst hw4
          refine g_lcmp X d_Version_differences_51 ?_
          refine lc_if_ne X 77 d_Version_differences_52 (by decide) (fun h52 => ?_) (fun h52 => ?_)
          · refine g_lload_n X 2 d_Version_differences_77 rfl rfl ?_
            refine g_lconst (v := 1) X d_Version_differences_78 rfl ?_
            refine g_iload X 4 d_Version_differences_79 rfl ?_
            refine g_lshl X (1 <<< ((nI i).toInt64 &&& 63)) d_Version_differences_81 rfl ?_
            refine g_lor X (w ||| (1 <<< ((nI i).toInt64 &&& 63))) d_Version_differences_82 rfl ?_
            refine g_lstore_n X [(2, .long (w ||| (1 <<< ((nI i).toInt64 &&& 63)))), (0, .ref hv), (1, .ref hw), (4, .int (nI i))] d_Version_differences_83 rfl (by decide) rfl ?_
            refine g_iinc X (nI (i + 1)) [(4, .int (nI (i + 1))), (2, .long (w ||| (1 <<< ((nI i).toInt64 &&& 63)))), (0, .ref hv), (1, .ref hw)] d_Version_differences_84 (k := 3) rfl (nI_1 i) (by decide) rfl ?_
            refine g_goto X 5 d_Version_differences_87 (by decide) ?_
            refine g_ws [(hv, .inr (6, [.ref vn, .ref vu, .ref vo])), (vn, .inr (0, [.ref yn])), (yn, .inl (cI, 48, .inl n1)), (vu, .inr (1, [.ref yu])), (yu, .inl (cJ, 48, .inr (.inl u1))), (vo, .inr (1, [.ref yo])), (yo, .inl (cJ, 48, .inr (.inl o1))), (hw, .inr (6, [.ref wn, .ref wu, .ref wo])), (wn, .inr (0, [.ref zn])), (zn, .inl (cI, 48, .inl n2)), (wu, .inr (1, [.ref zu])), (zu, .inl (cJ, 48, .inr (.inl u2))), (wo, .inr (1, [.ref zo])), (zo, .inl (cJ, 48, .inr (.inl o2)))] [0, 6, 7, 10, 11, 1, 2, 3, 8, 9, 12, 13, 4, 5] rfl rfl ?_
            refine g_lv [2, 3, 1, 0] rfl ?_
            exact ih5 (i + 1) (w ||| (1 <<< ((nI i).toInt64 &&& 63))) (by omega) (by omega) (by first | exact df_keep h1 h30 h52 h74 | exact df_put (by omega) h1 (fun z9 => h30 z9.1) | exact df_put (by omega) h1 (fun z9 => h52 z9.2.1) | exact df_put (by omega) h1 (fun z9 => h74 z9.2.2))
          · refine g_aload_n X 0 d_Version_differences_55 rfl rfl ?_
            refine g_get (C := R_Version) (T := T_Version) (N := 3) X 0 2 in_Version rfl rfl (by decide) t3_94 rfl rfl d_Version_differences_56 ?_
            refine g_iload X 4 d_Version_differences_59 rfl ?_
            refine g_calllV (n := 1) X [.int (nI i)] (k_Rows_row vo yo 48 o1 i (by omega) (by omega)) t3_119 t1_174 t1_175 t1_6 t1_176 rfl rfl (by decide +kernel) ⟨by decide, by decide⟩ [1, 2] [0, 3, 4, 5, 6, 7, 8, 9, 10, 11, 12, 13] [(hv, .inr (6, [.ref vn, .ref vu, .ref vo])), (hw, .inr (6, [.ref wn, .ref wu, .ref wo])), (wo, .inr (1, [.ref zo])), (zo, .inl (cJ, 48, .inr (.inl o2))), (vn, .inr (0, [.ref yn])), (yn, .inl (cI, 48, .inl n1)), (wn, .inr (0, [.ref zn])), (zn, .inl (cI, 48, .inl n2)), (vu, .inr (1, [.ref yu])), (yu, .inl (cJ, 48, .inr (.inl u1))), (wu, .inr (1, [.ref zu])), (zu, .inl (cJ, 48, .inr (.inl u2)))] rfl rfl rfl rfl (by decide) 0 rfl rfl rfl rfl (Nat.le_of_ble_eq_true rfl) d_Version_differences_61 ⟨by decide, by decide⟩ (fun r5 w9u5 hw5 => ?_)
            subst hw5
            refine g_aload_n X 1 d_Version_differences_64 rfl rfl ?_
            refine g_get (C := R_Version) (T := T_Version) (N := 3) X 1 2 in_Version rfl rfl (by decide) t3_94 rfl rfl d_Version_differences_65 ?_
            refine g_iload X 4 d_Version_differences_68 rfl ?_
            refine g_calllV (n := 1) X [.int (nI i)] (k_Rows_row wo zo 48 o2 i (by omega) (by omega)) t3_119 t1_174 t1_175 t1_6 t1_176 rfl rfl (by decide +kernel) ⟨by decide, by decide⟩ [2, 3] [0, 1, 4, 5, 6, 7, 8, 9, 10, 11, 12, 13] [(hv, .inr (6, [.ref vn, .ref vu, .ref vo])), (hw, .inr (6, [.ref wn, .ref wu, .ref wo])), (vn, .inr (0, [.ref yn])), (yn, .inl (cI, 48, .inl n1)), (wn, .inr (0, [.ref zn])), (zn, .inl (cI, 48, .inl n2)), (vu, .inr (1, [.ref yu])), (yu, .inl (cJ, 48, .inr (.inl u1))), (wu, .inr (1, [.ref zu])), (zu, .inl (cJ, 48, .inr (.inl u2))), (vo, .inr (1, [.ref yo])), (yo, .inl (cJ, 48, .inr (.inl o1)))] rfl rfl rfl rfl (by decide) 0 rfl rfl rfl rfl (Nat.le_of_ble_eq_true rfl) d_Version_differences_70 ⟨by decide, by decide⟩ (fun r6 w9u6 hw6 => ?_)
            subst hw6
            refine g_lcmp X d_Version_differences_73 ?_
            refine lc_if_eq X 84 d_Version_differences_74 (by decide) (fun h74 => ?_) (fun h74 => ?_)
            · refine g_iinc X (nI (i + 1)) [(4, .int (nI (i + 1))), (0, .ref hv), (1, .ref hw), (2, .long w)] d_Version_differences_84 (k := 3) rfl (nI_1 i) (by decide) rfl ?_
              refine g_goto X 5 d_Version_differences_87 (by decide) ?_
              refine g_ws [(hv, .inr (6, [.ref vn, .ref vu, .ref vo])), (vn, .inr (0, [.ref yn])), (yn, .inl (cI, 48, .inl n1)), (vu, .inr (1, [.ref yu])), (yu, .inl (cJ, 48, .inr (.inl u1))), (vo, .inr (1, [.ref yo])), (yo, .inl (cJ, 48, .inr (.inl o1))), (hw, .inr (6, [.ref wn, .ref wu, .ref wo])), (wn, .inr (0, [.ref zn])), (zn, .inl (cI, 48, .inl n2)), (wu, .inr (1, [.ref zu])), (zu, .inl (cJ, 48, .inr (.inl u2))), (wo, .inr (1, [.ref zo])), (zo, .inl (cJ, 48, .inr (.inl o2)))] [0, 2, 3, 6, 7, 10, 11, 1, 4, 5, 8, 9, 12, 13] rfl rfl ?_
              refine g_lv [1, 2, 3, 0] rfl ?_
              exact ih5 (i + 1) w (by omega) (by omega) (by first | exact df_keep h1 h30 h52 h74 | exact df_put (by omega) h1 (fun z9 => h30 z9.1) | exact df_put (by omega) h1 (fun z9 => h52 z9.2.1) | exact df_put (by omega) h1 (fun z9 => h74 z9.2.2))
            · refine g_lload_n X 2 d_Version_differences_77 rfl rfl ?_
              refine g_lconst (v := 1) X d_Version_differences_78 rfl ?_
              refine g_iload X 4 d_Version_differences_79 rfl ?_
              refine g_lshl X (1 <<< ((nI i).toInt64 &&& 63)) d_Version_differences_81 rfl ?_
              refine g_lor X (w ||| (1 <<< ((nI i).toInt64 &&& 63))) d_Version_differences_82 rfl ?_
              refine g_lstore_n X [(2, .long (w ||| (1 <<< ((nI i).toInt64 &&& 63)))), (0, .ref hv), (1, .ref hw), (4, .int (nI i))] d_Version_differences_83 rfl (by decide) rfl ?_
              refine g_iinc X (nI (i + 1)) [(4, .int (nI (i + 1))), (2, .long (w ||| (1 <<< ((nI i).toInt64 &&& 63)))), (0, .ref hv), (1, .ref hw)] d_Version_differences_84 (k := 3) rfl (nI_1 i) (by decide) rfl ?_
              refine g_goto X 5 d_Version_differences_87 (by decide) ?_
              refine g_ws [(hv, .inr (6, [.ref vn, .ref vu, .ref vo])), (vn, .inr (0, [.ref yn])), (yn, .inl (cI, 48, .inl n1)), (vu, .inr (1, [.ref yu])), (yu, .inl (cJ, 48, .inr (.inl u1))), (vo, .inr (1, [.ref yo])), (yo, .inl (cJ, 48, .inr (.inl o1))), (hw, .inr (6, [.ref wn, .ref wu, .ref wo])), (wn, .inr (0, [.ref zn])), (zn, .inl (cI, 48, .inl n2)), (wu, .inr (1, [.ref zu])), (zu, .inl (cJ, 48, .inr (.inl u2))), (wo, .inr (1, [.ref zo])), (zo, .inl (cJ, 48, .inr (.inl o2)))] [0, 2, 3, 6, 7, 10, 11, 1, 4, 5, 8, 9, 12, 13] rfl rfl ?_
              refine g_lv [2, 3, 1, 0] rfl ?_
              exact ih5 (i + 1) (w ||| (1 <<< ((nI i).toInt64 &&& 63))) (by omega) (by omega) (by first | exact df_keep h1 h30 h52 h74 | exact df_put (by omega) h1 (fun z9 => h30 z9.1) | exact df_put (by omega) h1 (fun z9 => h52 z9.2.1) | exact df_put (by omega) h1 (fun z9 => h74 z9.2.2))
  refine g_lconst (v := 0) X d_Version_differences_0 rfl ?_
  refine g_lstore_n X [(2, .long 0), (0, .ref hv), (1, .ref hw)] d_Version_differences_1 rfl (by decide) rfl ?_
  refine g_iconst (v := nI 0) X d_Version_differences_2 rfl ?_
  refine g_istore X [(4, .int (nI 0)), (2, .long 0), (0, .ref hv), (1, .ref hw)] d_Version_differences_3 (by decide) rfl ?_
  refine g_lv [2, 3, 1, 0] rfl ?_
  exact L5 ((48 - 0) + 1) 0 0 (Nat.lt_succ_self _) (by omega) (df_0)

set_option maxHeartbeats 4000000 in
set_option maxRecDepth 100000 in
theorem k_Version_differencesS (hv : Nat) (vn : Nat) (vu : Nat) (vo : Nat) (yn : Nat) (yu : Nat) (yo : Nat) (n1 : Nat → Int32) (u1 : Nat → Int64) (o1 : Nat → Int64)  : CtL l y_Version_differences (Cond.code y_Version_differences c_Version_differences 5 (some .long) :: TB) ({ frames := 2, cells := 0, slots := 0, locals := 42 } : Room) D (tysv cI cJ cZ cQ) [.ref hv, .ref hv] [(hv, .inr (6, [.ref vn, .ref vu, .ref vo])), (vn, .inr (0, [.ref yn])), (yn, .inl (cI, 48, .inl n1)), (vu, .inr (1, [.ref yu])), (yu, .inl (cJ, 48, .inr (.inl u1))), (vo, .inr (1, [.ref yo])), (yo, .inl (cJ, 48, .inr (.inl o1)))] 0 0 (fun (r : Int64) (_ : Unit) => r = 0) (fun (_ : Unit) => [(hv, .inr (6, [.ref vn, .ref vu, .ref vo])), (vn, .inr (0, [.ref yn])), (yn, .inl (cI, 48, .inl n1)), (vu, .inr (1, [.ref yu])), (yu, .inl (cJ, 48, .inr (.inl u1))), (vo, .inr (1, [.ref yo])), (yo, .inl (cJ, 48, .inr (.inl o1)))]) := by
  refine CtL.of c_Version_differences 5 (some .long) (by decide) rfl (Nat.le_of_ble_eq_true rfl) ?_
  intro p e s m args below meth c A Q hA9 hQ9 X hr9 hlk9 hin9
  have L5 : ∀ (N5 : Nat) (i : Nat), (48 - i) < N5 → (i ≤ 48) → G p l e ({ frames := 2, cells := 0, slots := 0, locals := 42 } : Room) s m args below meth c 5 D A s.heap Q 0 0 [(hv, .inr (6, [.ref vn, .ref vu, .ref vo])), (vn, .inr (0, [.ref yn])), (yn, .inl (cI, 48, .inl n1)), (vu, .inr (1, [.ref yu])), (yu, .inl (cJ, 48, .inr (.inl u1))), (vo, .inr (1, [.ref yo])), (yo, .inl (cJ, 48, .inr (.inl o1)))] [(0, .ref hv), (1, .ref hv), (2, .long 0), (4, .int (nI i))] 5 [] := by
    intro N5
    induction N5 with
    | zero =>
      intro i hN
      exact absurd hN (Nat.not_lt_zero _)
    | succ N5 ih5 =>
      intro i hN5 hi
      refine g_iload X 4 d_Version_differences_5 rfl ?_
      refine g_bipush (v := nI 48) X d_Version_differences_7 rfl ?_
      refine n_icmp_ge X 90 d_Version_differences_9 (by decide) (by omega) (by omega) (fun h9 => ?_) (fun h9 => ?_)
      · refine g_lload_n X 2 d_Version_differences_90 rfl rfl ?_
        exact g_lret X hA9 hQ9 hr9 hlk9 () [0, 1, 2, 3, 4, 5, 6] rfl rfl d_Version_differences_91 (rfl)
      · refine g_aload_n X 0 d_Version_differences_12 rfl rfl ?_
        refine g_get (C := R_Version) (T := T_Version) (N := 3) X 0 0 in_Version rfl rfl (by decide) t3_92 rfl rfl d_Version_differences_13 ?_
        refine g_iload X 4 d_Version_differences_16 rfl ?_
        refine g_calliV (n := 1) X [.int (nI i)] (k_Cells_at vn yn 48 n1 i (by omega) (by omega)) t3_118 t2_78 t2_79 t1_3 t2_80 rfl rfl (by decide +kernel) ⟨by decide, by decide⟩ [1, 2] [0, 3, 4, 5, 6] [(hv, .inr (6, [.ref vn, .ref vu, .ref vo])), (vu, .inr (1, [.ref yu])), (yu, .inl (cJ, 48, .inr (.inl u1))), (vo, .inr (1, [.ref yo])), (yo, .inl (cJ, 48, .inr (.inl o1)))] rfl rfl rfl rfl (by decide) 0 rfl rfl rfl rfl (Nat.le_of_ble_eq_true rfl) d_Version_differences_18 ⟨by decide, by decide⟩ (fun r1 w9u1 hw1 => ?_)
        subst hw1
        refine g_aload_n X 1 d_Version_differences_21 rfl rfl ?_
        refine g_get (C := R_Version) (T := T_Version) (N := 3) X 0 0 in_Version rfl rfl (by decide) t3_92 rfl rfl d_Version_differences_22 ?_
        refine g_iload X 4 d_Version_differences_25 rfl ?_
        refine g_calliV (n := 1) X [.int (nI i)] (k_Cells_at vn yn 48 n1 i (by omega) (by omega)) t3_118 t2_78 t2_79 t1_3 t2_80 rfl rfl (by decide +kernel) ⟨by decide, by decide⟩ [5, 6] [0, 1, 2, 3, 4] [(hv, .inr (6, [.ref vn, .ref vu, .ref vo])), (vu, .inr (1, [.ref yu])), (yu, .inl (cJ, 48, .inr (.inl u1))), (vo, .inr (1, [.ref yo])), (yo, .inl (cJ, 48, .inr (.inl o1)))] rfl rfl rfl rfl (by decide) 0 rfl rfl rfl rfl (Nat.le_of_ble_eq_true rfl) d_Version_differences_27 ⟨by decide, by decide⟩ (fun r2 w9u2 hw2 => ?_)
        subst hw2
        refine g_icmp_ne X 77 d_Version_differences_30 (by decide) (fun h30 => absurd h30 (fun z9 => z9 rfl)) (fun h30 => ?_)
        refine g_aload_n X 0 d_Version_differences_33 rfl rfl ?_
        refine g_get (C := R_Version) (T := T_Version) (N := 3) X 0 1 in_Version rfl rfl (by decide) t3_93 rfl rfl d_Version_differences_34 ?_
        refine g_iload X 4 d_Version_differences_37 rfl ?_
        refine g_calllV (n := 1) X [.int (nI i)] (k_Rows_row vu yu 48 u1 i (by omega) (by omega)) t3_119 t1_174 t1_175 t1_6 t1_176 rfl rfl (by decide +kernel) ⟨by decide, by decide⟩ [1, 2] [0, 3, 4, 5, 6] [(hv, .inr (6, [.ref vn, .ref vu, .ref vo])), (vo, .inr (1, [.ref yo])), (yo, .inl (cJ, 48, .inr (.inl o1))), (vn, .inr (0, [.ref yn])), (yn, .inl (cI, 48, .inl n1))] rfl rfl rfl rfl (by decide) 0 rfl rfl rfl rfl (Nat.le_of_ble_eq_true rfl) d_Version_differences_39 ⟨by decide, by decide⟩ (fun r3 w9u3 hw3 => ?_)
        subst hw3
        refine g_aload_n X 1 d_Version_differences_42 rfl rfl ?_
        refine g_get (C := R_Version) (T := T_Version) (N := 3) X 0 1 in_Version rfl rfl (by decide) t3_93 rfl rfl d_Version_differences_43 ?_
        refine g_iload X 4 d_Version_differences_46 rfl ?_
        refine g_calllV (n := 1) X [.int (nI i)] (k_Rows_row vu yu 48 u1 i (by omega) (by omega)) t3_119 t1_174 t1_175 t1_6 t1_176 rfl rfl (by decide +kernel) ⟨by decide, by decide⟩ [5, 6] [0, 1, 2, 3, 4] [(hv, .inr (6, [.ref vn, .ref vu, .ref vo])), (vo, .inr (1, [.ref yo])), (yo, .inl (cJ, 48, .inr (.inl o1))), (vn, .inr (0, [.ref yn])), (yn, .inl (cI, 48, .inl n1))] rfl rfl rfl rfl (by decide) 0 rfl rfl rfl rfl (Nat.le_of_ble_eq_true rfl) d_Version_differences_48 ⟨by decide, by decide⟩ (fun r4 w9u4 hw4 => ?_)
        subst hw4
        refine g_lcmp X d_Version_differences_51 ?_
        refine lc_if_ne X 77 d_Version_differences_52 (by decide) (fun h52 => absurd h52 (fun z9 => z9 rfl)) (fun h52 => ?_)
        refine g_aload_n X 0 d_Version_differences_55 rfl rfl ?_
        refine g_get (C := R_Version) (T := T_Version) (N := 3) X 0 2 in_Version rfl rfl (by decide) t3_94 rfl rfl d_Version_differences_56 ?_
        refine g_iload X 4 d_Version_differences_59 rfl ?_
        refine g_calllV (n := 1) X [.int (nI i)] (k_Rows_row vo yo 48 o1 i (by omega) (by omega)) t3_119 t1_174 t1_175 t1_6 t1_176 rfl rfl (by decide +kernel) ⟨by decide, by decide⟩ [1, 2] [0, 3, 4, 5, 6] [(hv, .inr (6, [.ref vn, .ref vu, .ref vo])), (vn, .inr (0, [.ref yn])), (yn, .inl (cI, 48, .inl n1)), (vu, .inr (1, [.ref yu])), (yu, .inl (cJ, 48, .inr (.inl u1)))] rfl rfl rfl rfl (by decide) 0 rfl rfl rfl rfl (Nat.le_of_ble_eq_true rfl) d_Version_differences_61 ⟨by decide, by decide⟩ (fun r5 w9u5 hw5 => ?_)
        subst hw5
        refine g_aload_n X 1 d_Version_differences_64 rfl rfl ?_
        refine g_get (C := R_Version) (T := T_Version) (N := 3) X 0 2 in_Version rfl rfl (by decide) t3_94 rfl rfl d_Version_differences_65 ?_
        refine g_iload X 4 d_Version_differences_68 rfl ?_
        refine g_calllV (n := 1) X [.int (nI i)] (k_Rows_row vo yo 48 o1 i (by omega) (by omega)) t3_119 t1_174 t1_175 t1_6 t1_176 rfl rfl (by decide +kernel) ⟨by decide, by decide⟩ [5, 6] [0, 1, 2, 3, 4] [(hv, .inr (6, [.ref vn, .ref vu, .ref vo])), (vn, .inr (0, [.ref yn])), (yn, .inl (cI, 48, .inl n1)), (vu, .inr (1, [.ref yu])), (yu, .inl (cJ, 48, .inr (.inl u1)))] rfl rfl rfl rfl (by decide) 0 rfl rfl rfl rfl (Nat.le_of_ble_eq_true rfl) d_Version_differences_70 ⟨by decide, by decide⟩ (fun r6 w9u6 hw6 => ?_)
        subst hw6
        refine g_lcmp X d_Version_differences_73 ?_
        refine lc_if_eq X 84 d_Version_differences_74 (by decide) (fun h74 => ?_) (fun h74 => absurd h74 (fun z9 => z9 rfl))
        refine g_iinc X (nI (i + 1)) [(4, .int (nI (i + 1))), (0, .ref hv), (1, .ref hv), (2, .long 0)] d_Version_differences_84 (k := 3) rfl (nI_1 i) (by decide) rfl ?_
        refine g_goto X 5 d_Version_differences_87 (by decide) ?_
        refine g_lv [1, 2, 3, 0] rfl ?_
        exact ih5 (i + 1) (by omega) (by omega)
  refine g_lconst (v := 0) X d_Version_differences_0 rfl ?_
  refine g_lstore_n X [(2, .long 0), (0, .ref hv), (1, .ref hv)] d_Version_differences_1 rfl (by decide) rfl ?_
  refine g_iconst (v := nI 0) X d_Version_differences_2 rfl ?_
  refine g_istore X [(4, .int (nI 0)), (2, .long 0), (0, .ref hv), (1, .ref hv)] d_Version_differences_3 (by decide) rfl ?_
  refine g_lv [2, 3, 1, 0] rfl ?_
  exact L5 ((48 - 0) + 1) 0 (Nat.lt_succ_self _) (by omega)
end
