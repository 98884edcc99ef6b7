theorem tl_1 {w : Cond} (k : Nat) (h : tables_1_1[k]? = some w) : w ∈ lw_tbl := List.mem_append_right _ (List.mem_append_left _ (List.mem_of_getElem? h))
theorem tl_2 {w : Cond} (k : Nat) (h : tables_1_2[k]? = some w) : w ∈ lw_tbl := List.mem_append_right _ (List.mem_append_right _ (List.mem_append_left _ (List.mem_of_getElem? h)))
theorem tl_3 {w : Cond} (k : Nat) (h : tables_1_3[k]? = some w) : w ∈ lw_tbl := List.mem_append_right _ (List.mem_append_right _ (List.mem_append_right _ (List.mem_append_left _ (List.mem_of_getElem? h))))
theorem tl_4 {w : Cond} (k : Nat) (h : tables_1_4[k]? = some w) : w ∈ lw_tbl := List.mem_append_right _ (List.mem_append_right _ (List.mem_append_right _ (List.mem_append_right _ (List.mem_of_getElem? h))))
theorem st_K {s : State} {args : Array Value} (hts : ∀ w ∈ lw_tbl, w.before args s = true) : ∃ (D : va_G) (cI cJ cZ cQ : ClassId), KK D (tysv cI cJ cZ cQ) s := by
  have htb : ∀ w ∈ TB, w.before args s = true := fun w h => hts w (List.mem_filter.mp h).1
  obtain ⟨c0, i0, k0⟩ := u_known (C := R_Cells) (T := T_Cells) (N := 1) (n := 1) htb in_Cells (htb _ t1_32)
  obtain ⟨c1, i1, k1⟩ := u_known (C := R_Rows) (T := T_Rows) (N := 1) (n := 1) htb in_Rows (htb _ t1_70)
  obtain ⟨c2, i2, k2⟩ := u_known (C := R_Relations) (T := T_Relations) (N := 5) (n := 5) htb in_Relations (htb _ t1_26)
  obtain ⟨c3, i3, k3⟩ := u_known (C := R_Ring) (T := T_Ring) (N := 3) (n := 3) htb in_Ring (htb _ t1_98)
  obtain ⟨c4, i4, k4⟩ := u_known (C := R_Strata) (T := T_Strata) (N := 4) (n := 4) htb in_Strata (htb _ t1_62)
  obtain ⟨c5, i5, k5⟩ := u_known (C := R_Groups) (T := T_Groups) (N := 4) (n := 4) htb in_Groups (htb _ t1_116)
  obtain ⟨c6, i6, k6⟩ := u_known (C := R_Version) (T := T_Version) (N := 3) (n := 3) htb in_Version (htb _ t3_78)
  obtain ⟨c7, i7, k7⟩ := u_known (C := R_RO) (T := T_RO) (N := 6) (n := 6) htb in_RO (htb _ t1_18)
  obtain ⟨c8, i8, k8⟩ := u_known (C := R_Md) (T := T_Md) (N := 22) (n := 22) htb in_Md (htb _ t3_142)
  obtain ⟨cI, kI, mI, fI, gI, hI⟩ := Cond.arrayClass_spec (htb _ t1_44)
  obtain ⟨cJ, kJ, mJ, fJ, gJ, hJ⟩ := Cond.arrayClass_spec (htb _ t1_83)
  obtain ⟨cZ, kZ, mZ, fZ, gZ, hZ⟩ := Cond.arrayClass_spec (htb _ t3_214)
  have hAO := hts _ (tl_1 141 rfl)
  obtain ⟨mQ, cQ, kQ, f1, f2, f3, f4, f5⟩ := Cond.arrayOver_spec hAO
  refine ⟨(fun k => match k with | 0 => c0 | 1 => c1 | 2 => c2 | 3 => c3 | 4 => c4 | 5 => c5 | 6 => c6 | 7 => c7 | _ => c8, fun k => match k with | 0 => i0 | 1 => i1 | 2 => i2 | 3 => i3 | 4 => i4 | 5 => i5 | 6 => i6 | 7 => i7 | _ => i8), cI, cJ, cZ, cQ, ⟨fun k q hq => ?_, fun k q hq => ?_⟩, ?_⟩
  · match k, hq with
    | 0, hq => cases hq; exact k0
    | 1, hq => cases hq; exact k1
    | 2, hq => cases hq; exact k2
    | 3, hq => cases hq; exact k3
    | 4, hq => cases hq; exact k4
    | 5, hq => cases hq; exact k5
    | 6, hq => cases hq; exact k6
    | 7, hq => cases hq; exact k7
    | 8, hq => cases hq; exact k8
    | k + 9, hq => simp [cls9] at hq
  · match k, hq with
    | 0, hq => cases hq; exact ⟨fun n z => ⟨fun k h => (by cases h), kI, gI, mI, hI⟩, fI⟩
    | 1, hq => cases hq; exact ⟨fun n z => ⟨fun k h => (by cases h), kJ, gJ, mJ, hJ⟩, fJ⟩
    | 2, hq => cases hq; exact ⟨fun n z => ⟨fun k h => (by cases h), kZ, gZ, mZ, hZ⟩, fZ⟩
    | 3, hq => cases hq; exact ⟨fun n z => ⟨fun k h => (by cases h), kQ, f3, mQ, f4⟩, kQ, mQ, f3, f4, f1, f5⟩
    | k + 4, hq => simp [tysv] at hq
  · exact ⟨va_Nw.of rfl (hts _ (tl_2 112 rfl)), va_Nw.of rfl (hts _ (tl_2 213 rfl)), va_AO.of hAO⟩
theorem st_str {s : State} {args : Array Value} {k : Nat} {tx : String} (hts : ∀ w ∈ lw_tbl, w.before args s = true) (hgv : (Jvm.Cond.and given_1 narrow_1).before args s = true) (h1 : Cond.stringRef "RelationOrder" k tx ∈ lw_tbl) (h2 : Cond.exactly (Term.string "RelationOrder" k) "java/lang/String" ∈ flatC (Jvm.Cond.and given_1 narrow_1)) : ∃ sa, vk_R R_RO k tx sa s := by
  obtain ⟨a, _, _, _, h, _⟩ := Cond.exactly_spec (flat_of_before _ hgv _ h2)
  exact ⟨a, vk_R.of (hts _ h1) h⟩
theorem fl_53 : Cond.exactly (Term.string "RelationOrder" 53) "java/lang/String" ∈ flatC (Jvm.Cond.and given_1 narrow_1) := by decide +kernel
theorem fl_67 : Cond.exactly (Term.string "RelationOrder" 67) "java/lang/String" ∈ flatC (Jvm.Cond.and given_1 narrow_1) := by decide +kernel
theorem fl_73 : Cond.exactly (Term.string "RelationOrder" 73) "java/lang/String" ∈ flatC (Jvm.Cond.and given_1 narrow_1) := by decide +kernel
theorem fl_97 : Cond.exactly (Term.string "RelationOrder" 97) "java/lang/String" ∈ flatC (Jvm.Cond.and given_1 narrow_1) := by decide +kernel
theorem fl_110 : Cond.exactly (Term.string "RelationOrder" 110) "java/lang/String" ∈ flatC (Jvm.Cond.and given_1 narrow_1) := by decide +kernel
theorem fl_112 : Cond.exactly (Term.string "RelationOrder" 112) "java/lang/String" ∈ flatC (Jvm.Cond.and given_1 narrow_1) := by decide +kernel
theorem fl_126 : Cond.exactly (Term.string "RelationOrder" 126) "java/lang/String" ∈ flatC (Jvm.Cond.and given_1 narrow_1) := by decide +kernel
theorem fl_130 : Cond.exactly (Term.string "RelationOrder" 130) "java/lang/String" ∈ flatC (Jvm.Cond.and given_1 narrow_1) := by decide +kernel
theorem fl_142 : Cond.exactly (Term.string "RelationOrder" 142) "java/lang/String" ∈ flatC (Jvm.Cond.and given_1 narrow_1) := by decide +kernel
theorem fl_151 : Cond.exactly (Term.string "RelationOrder" 151) "java/lang/String" ∈ flatC (Jvm.Cond.and given_1 narrow_1) := by decide +kernel
theorem fl_170 : Cond.exactly (Term.string "RelationOrder" 170) "java/lang/String" ∈ flatC (Jvm.Cond.and given_1 narrow_1) := by decide +kernel
theorem fl_172 : Cond.exactly (Term.string "RelationOrder" 172) "java/lang/String" ∈ flatC (Jvm.Cond.and given_1 narrow_1) := by decide +kernel
theorem fl_174 : Cond.exactly (Term.string "RelationOrder" 174) "java/lang/String" ∈ flatC (Jvm.Cond.and given_1 narrow_1) := by decide +kernel
theorem fl_u : Cond.isRef (Term.static "java/lang/Throwable" "UNASSIGNED_STACK" "[Ljava/lang/StackTraceElement;") ∈ flatC (Jvm.Cond.and given_1 narrow_1) := by decide +kernel
theorem fl_s : Cond.isRef (Term.static "java/lang/Throwable" "SUPPRESSED_SENTINEL" "Ljava/util/List;") ∈ flatC (Jvm.Cond.and given_1 narrow_1) := by decide +kernel
theorem fl_c : Cond.not (Cond.castable "java/lang/IllegalStateException" "java/lang/IndexOutOfBoundsException") ∈ flatC (Jvm.Cond.and given_1 narrow_1) := by decide +kernel
theorem st_XS {s : State} {args : Array Value} (hts : ∀ w ∈ lw_tbl, w.before args s = true) (hgv : (Jvm.Cond.and given_1 narrow_1).before args s = true) : XS s := by
  refine ⟨List.forall_mem_cons.mpr ⟨st_str hts hgv (tl_2 4 rfl) fl_53, List.forall_mem_cons.mpr ⟨st_str hts hgv (tl_2 67 rfl) fl_67, List.forall_mem_cons.mpr ⟨st_str hts hgv (tl_2 72 rfl) fl_73, List.forall_mem_cons.mpr ⟨st_str hts hgv (tl_2 184 rfl) fl_97, List.forall_mem_cons.mpr ⟨st_str hts hgv (tl_2 207 rfl) fl_110, List.forall_mem_cons.mpr ⟨st_str hts hgv (tl_2 208 rfl) fl_112, List.forall_mem_cons.mpr ⟨st_str hts hgv (tl_3 19 rfl) fl_126, List.forall_mem_cons.mpr ⟨st_str hts hgv (tl_3 31 rfl) fl_130, List.forall_mem_cons.mpr ⟨st_str hts hgv (tl_3 77 rfl) fl_142, List.forall_mem_cons.mpr ⟨st_str hts hgv (tl_3 113 rfl) fl_151, List.forall_mem_cons.mpr ⟨st_str hts hgv (tl_3 140 rfl) fl_170, List.forall_mem_cons.mpr ⟨st_str hts hgv (tl_2 60 rfl) fl_172, List.forall_mem_cons.mpr ⟨st_str hts hgv (tl_2 171 rfl) fl_174, fun _ h => absurd h List.not_mem_nil⟩⟩⟩⟩⟩⟩⟩⟩⟩⟩⟩⟩⟩, va_Nw.of rfl (hts _ (tl_1 208 rfl)), va_Nw.of rfl (hts _ (tl_1 210 rfl)), va_Nw.of rfl (hts _ (tl_1 212 rfl)), va_Nw.of rfl (hts _ (tl_1 206 rfl)), va_Nw.of rfl (hts _ (tl_2 53 rfl)), va_Nc.of (flat_of_before _ hgv _ fl_c)⟩
theorem st_XZ {s : State} {args : Array Value} (hts : ∀ w ∈ lw_tbl, w.before args s = true) (hgv : (Jvm.Cond.and given_1 narrow_1).before args s = true) : XZ (fun q : Nat => s.heap.size ≤ q) s := ⟨vx_Zqof (hts _ (tl_1 231 rfl)) (hts _ (tl_1 10 rfl)) (flat_of_before _ hgv _ fl_u) (fun a h => Nat.not_le.mpr h), vx_Zqof (hts _ (tl_1 233 rfl)) (hts _ (tl_1 10 rfl)) (flat_of_before _ hgv _ fl_s) (fun a h => Nat.not_le.mpr h), st_XS hts hgv⟩
theorem em_gov {Fa Fb Fk : Nat → Nat} {UN : Nat → Bool} {x y : Nat} : ¬ gov (SE Fa Fb Fk UN 0) x y := by
  intro h
  rcases gov_cases h with h | ⟨w, h, _⟩
  · exact absurd (show false = true from h) (by decide)
  · exact absurd (show false = true from h) (by decide)
theorem em_gwar {Fa Fb Fk : Nat → Nat} {UN : Nat → Bool} {x y : Nat} (z : Nat) : gwar (SE Fa Fb Fk UN 0) z x y = false := Bool.eq_false_iff.mpr (fun h => em_gov (gwar_gov _ _ _ h))
theorem Inv_start {hm : Nat → Nat} {fA fB fK fN P fH P2 : Nat → Int32} {va : Nat → Nat → Nat} {vN : Nat → Nat → Int32} {vA vB : Nat → Nat → Int64} (h1 : ∀ k, k < 48 → fN k = -1) (h2 : ∀ k, k < 48 → fH k = -1) (h3 : ∀ k, k < 48 → hm k = 12) : Inv 0 0 0 0 0 0 0 (fun _ => 0) (fun _ => 0) (fun _ => 0) (fun _ => false) (fun _ => 0) (fun _ => false) (fun _ => false) (fun _ => 0) hm (fun _ => 0) (fun _ => 0) (fun _ => 0) (fun _ => false) fA fB fK fN (fun _ => 0) (fun _ => 0) P fH P2 (fun _ => none) va vN vA vB := by
  refine ⟨⟨by omega, by omega, by omega, by omega, by omega, by omega⟩, ⟨fun r h => absurd h (by omega), fun r h => absurd h (by omega), fun _ _ => rfl, fun z => em_gov⟩, ⟨fun z h => absurd h (by omega), fun x _ y _ => rfl, fun x _ y _ => (em_gwar 48).symm⟩, ⟨fun r h => absurd h (by omega), rfl⟩, ⟨fun z h => absurd h (by omega), fun k _ h => h1 k h, fun x _ z9 => (lb_0 z9).trans rfl, fun x _ z9 => (lb_0 z9).trans (em_gwar 48).symm⟩, fun j h => absurd h (by omega), fun z h => ?_, fun j h => absurd h (by omega), ⟨fun k _ => Nat.zero_lt_succ _, fun k _ => Nat.zero_le _, fun v h => absurd h (by omega), fun v _ _ => rfl, fun v h => absurd h (by omega)⟩⟩
  rw [h2 z h, h3 z h]
  rfl
