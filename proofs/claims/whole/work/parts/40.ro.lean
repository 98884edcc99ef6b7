variable {l : Launch} {D : va_G} {cI cJ cZ cQ : ClassId}
def addN (a : Nat → Nat) (R i r : Nat) : Nat := if r = R then i else a r
theorem addN_ok {fA : Nat → Int32} {a : Nat → Nat} {R i K : Nat} (hi : i < K) (h : ∀ r, r < R → fA r = nI (a r) ∧ a r < K) : ∀ r, r < R + 1 → upd fA R (nI i) r = nI (addN a R i r) ∧ addN a R i r < K := by
  intro r hr
  by_cases e : r = R
  · subst e
    rw [pk_us]
    simp [addN, hi]
  · rw [pk_un e]
    have := h r (by omega)
    simp only [addN, if_neg e]
    exact this
theorem nk_lt {k : Nat} (h : k < 2 ^ 31) : k < 2 ^ 31 := h
theorem df_all {w : Int64} {P : Nat → Prop} (h : ∀ x, lb w x = true ↔ x < 48 ∧ P x) : ∀ x, lb w x = true → x < 48 := fun x hx => ((h x).mp hx).1
def dfB (n1 n2 : Nat → Int32) (u1 u2 o1 o2 : Nat → Int64) (x : Nat) : Bool := decide (x < 48) && !(decide (n1 x = n2 x) && (decide (u1 x = u2 x) && decide (o1 x = o2 x)))
theorem df_fun {n1 n2 : Nat → Int32} {u1 u2 o1 o2 : Nat → Int64} {w : Int64} (h : ∀ x, lb w x = true ↔ x < 48 ∧ ¬ dfI n1 n2 u1 u2 o1 o2 x) : lb w = dfB n1 n2 u1 u2 o1 o2 := by
  funext x
  rw [Bool.eq_iff_iff, h x]
  simp only [dfB, dfI, Bool.and_eq_true, decide_eq_true_eq, Bool.not_eq_true', Bool.and_eq_false_iff, decide_eq_false_iff_not]
  constructor
  · rintro ⟨h1, h2⟩
    refine ⟨h1, ?_⟩
    by_cases a : n1 x = n2 x
    · by_cases b : u1 x = u2 x
      · exact Or.inr (Or.inr fun q => h2 ⟨a, b, q⟩)
      · exact Or.inr (Or.inl b)
    · exact Or.inl a
  · rintro ⟨h1, h2⟩
    refine ⟨h1, ?_⟩
    rintro ⟨a, b, q⟩
    rcases h2 with h2 | h2 | h2
    · exact h2 a
    · exact h2 b
    · exact h2 q
theorem cnt_zero : cnt (lb (0 : Int64)) 48 = 0 := by
  rw [cnt_congr (P' := fun _ => false) 48 (fun j _ => lb_0 j)]
  rfl

set_option maxHeartbeats 4000000 in
set_option maxRecDepth 100000 in
theorem k_RO_init (ho : Nat)  : CtV l y_RO_init (Cond.code y_RO_init c_RO_init 1 none :: TB) ({ frames := 4, cells := 28, slots := 1034, locals := 76 } : Room) D (tysv cI cJ cZ cQ) [.ref ho] [(ho, .inr (7, [.null, .null, .null, .null, .null, .int (nI 0)]))] 28 1034 (fun (u : Nat × Nat × Nat × Nat × Nat × Nat × Nat × Nat × Nat × Nat × Nat × Nat × Nat × Nat × Nat × Nat × Nat × Nat × Nat × Nat × Nat × Nat × Nat × Nat × Nat × Nat × Nat × Nat × (Nat → Int32) × (Nat → Int32) × (Nat → Int32) × (Nat → Int32) × (Nat → Int32) × (Nat → Int32) × (Nat → Int32)) => (∀ k, k < 48 → u.2.2.2.2.2.2.2.2.2.2.2.2.2.2.2.2.2.2.2.2.2.2.2.2.2.2.2.2.2.2.2.1 k = -1) ∧ ∀ k, k < 48 → u.2.2.2.2.2.2.2.2.2.2.2.2.2.2.2.2.2.2.2.2.2.2.2.2.2.2.2.2.2.2.2.2.2.1 k = -1) (fun (u : Nat × Nat × Nat × Nat × Nat × Nat × Nat × Nat × Nat × Nat × Nat × Nat × Nat × Nat × Nat × Nat × Nat × Nat × Nat × Nat × Nat × Nat × Nat × Nat × Nat × Nat × Nat × Nat × (Nat → Int32) × (Nat → Int32) × (Nat → Int32) × (Nat → Int32) × (Nat → Int32) × (Nat → Int32) × (Nat → Int32)) => [(ho, .inr (7, [.ref u.1, .ref u.2.2.2.2.2.2.2.1, .ref u.2.2.2.2.2.2.2.2.2.2.2.2.2.2.1, .ref u.2.2.2.2.2.2.2.2.2.2.2.2.2.2.2.2.2.2.1, .ref u.2.2.2.2.2.2.2.2.2.2.2.2.2.2.2.2.2.2.2.2.2.2.2.2.2.2.2.1, .int (nI 0)])), (u.1, .inr (2, [.ref u.2.1, .ref u.2.2.2.1, .ref u.2.2.2.2.2.1, .int (nI 0), .int (nI 0)])), (u.2.1, .inr (0, [.ref u.2.2.1])), (u.2.2.1, .inl (cI, 200, .inl u.2.2.2.2.2.2.2.2.2.2.2.2.2.2.2.2.2.2.2.2.2.2.2.2.2.2.2.2.1)), (u.2.2.2.1, .inr (0, [.ref u.2.2.2.2.1])), (u.2.2.2.2.1, .inl (cI, 200, .inl u.2.2.2.2.2.2.2.2.2.2.2.2.2.2.2.2.2.2.2.2.2.2.2.2.2.2.2.2.2.1)), (u.2.2.2.2.2.1, .inr (0, [.ref u.2.2.2.2.2.2.1])), (u.2.2.2.2.2.2.1, .inl (cI, 200, .inl u.2.2.2.2.2.2.2.2.2.2.2.2.2.2.2.2.2.2.2.2.2.2.2.2.2.2.2.2.2.2.1)), (u.2.2.2.2.2.2.2.1, .inr (4, [.ref u.2.2.2.2.2.2.2.2.1, .ref u.2.2.2.2.2.2.2.2.2.2.1, .ref u.2.2.2.2.2.2.2.2.2.2.2.2.1, .int (nI 0)])), (u.2.2.2.2.2.2.2.2.1, .inr (0, [.ref u.2.2.2.2.2.2.2.2.2.1])), (u.2.2.2.2.2.2.2.2.2.1, .inl (cI, 48, .inl u.2.2.2.2.2.2.2.2.2.2.2.2.2.2.2.2.2.2.2.2.2.2.2.2.2.2.2.2.2.2.2.1)), (u.2.2.2.2.2.2.2.2.2.2.1, .inr (1, [.ref u.2.2.2.2.2.2.2.2.2.2.2.1])), (u.2.2.2.2.2.2.2.2.2.2.2.1, .inl (cJ, 48, .inr (.inl (fun _ => 0)))), (u.2.2.2.2.2.2.2.2.2.2.2.2.1, .inr (1, [.ref u.2.2.2.2.2.2.2.2.2.2.2.2.2.1])), (u.2.2.2.2.2.2.2.2.2.2.2.2.2.1, .inl (cJ, 48, .inr (.inl (fun _ => 0)))), (u.2.2.2.2.2.2.2.2.2.2.2.2.2.2.1, .inr (3, [.ref u.2.2.2.2.2.2.2.2.2.2.2.2.2.2.2.1, .ref u.2.2.2.2.2.2.2.2.2.2.2.2.2.2.2.2.2.1, .int (nI 0)])), (u.2.2.2.2.2.2.2.2.2.2.2.2.2.2.2.1, .inr (0, [.ref u.2.2.2.2.2.2.2.2.2.2.2.2.2.2.2.2.1])), (u.2.2.2.2.2.2.2.2.2.2.2.2.2.2.2.2.1, .inl (cI, 48, .inl u.2.2.2.2.2.2.2.2.2.2.2.2.2.2.2.2.2.2.2.2.2.2.2.2.2.2.2.2.2.2.2.2.1)), (u.2.2.2.2.2.2.2.2.2.2.2.2.2.2.2.2.2.1, .inl (cJ, 48, .inr (.inl (fun _ => 0)))), (u.2.2.2.2.2.2.2.2.2.2.2.2.2.2.2.2.2.2.1, .inr (5, [.ref u.2.2.2.2.2.2.2.2.2.2.2.2.2.2.2.2.2.2.2.1, .ref u.2.2.2.2.2.2.2.2.2.2.2.2.2.2.2.2.2.2.2.2.2.1, .ref u.2.2.2.2.2.2.2.2.2.2.2.2.2.2.2.2.2.2.2.2.2.2.2.1, .int (nI 0)])), (u.2.2.2.2.2.2.2.2.2.2.2.2.2.2.2.2.2.2.2.1, .inr (0, [.ref u.2.2.2.2.2.2.2.2.2.2.2.2.2.2.2.2.2.2.2.2.1])), (u.2.2.2.2.2.2.2.2.2.2.2.2.2.2.2.2.2.2.2.2.1, .inl (cI, 48, .inl u.2.2.2.2.2.2.2.2.2.2.2.2.2.2.2.2.2.2.2.2.2.2.2.2.2.2.2.2.2.2.2.2.2.1)), (u.2.2.2.2.2.2.2.2.2.2.2.2.2.2.2.2.2.2.2.2.2.1, .inr (1, [.ref u.2.2.2.2.2.2.2.2.2.2.2.2.2.2.2.2.2.2.2.2.2.2.1])), (u.2.2.2.2.2.2.2.2.2.2.2.2.2.2.2.2.2.2.2.2.2.2.1, .inl (cJ, 12, .inr (.inl (fun _ => 0)))), (u.2.2.2.2.2.2.2.2.2.2.2.2.2.2.2.2.2.2.2.2.2.2.2.1, .inr (3, [.ref u.2.2.2.2.2.2.2.2.2.2.2.2.2.2.2.2.2.2.2.2.2.2.2.2.1, .ref u.2.2.2.2.2.2.2.2.2.2.2.2.2.2.2.2.2.2.2.2.2.2.2.2.2.2.1, .int (nI 0)])), (u.2.2.2.2.2.2.2.2.2.2.2.2.2.2.2.2.2.2.2.2.2.2.2.2.1, .inr (0, [.ref u.2.2.2.2.2.2.2.2.2.2.2.2.2.2.2.2.2.2.2.2.2.2.2.2.2.1])), (u.2.2.2.2.2.2.2.2.2.2.2.2.2.2.2.2.2.2.2.2.2.2.2.2.2.1, .inl (cI, 48, .inl u.2.2.2.2.2.2.2.2.2.2.2.2.2.2.2.2.2.2.2.2.2.2.2.2.2.2.2.2.2.2.2.2.2.2)), (u.2.2.2.2.2.2.2.2.2.2.2.2.2.2.2.2.2.2.2.2.2.2.2.2.2.2.1, .inl (cJ, 48, .inr (.inl (fun _ => 0)))), (u.2.2.2.2.2.2.2.2.2.2.2.2.2.2.2.2.2.2.2.2.2.2.2.2.2.2.2.1, .inl (cQ, 8, .inr (.inr (.inr (.inr (fun _ => none))))))]) := by
  refine CtV.of c_RO_init 1 none (by decide) rfl (Nat.le_of_ble_eq_true rfl) ?_
  intro p e s m args below meth c A Q hA9 hQ9 X hr9 hlk9 hin9
  refine g_aload_n X 0 d_RO_init_0 rfl rfl ?_
  refine g_objInit X t1_22 t1_23 t1_24 d_RO_init_1 (by decide) (Nat.le_of_ble_eq_true rfl) ?_
  refine g_aload_n X 0 d_RO_init_4 rfl rfl ?_
  refine g_new (ci := 2) (fs := [.null, .null, .null, .int 0, .int 0]) (C := R_Relations) (T := T_Relations) (N := 5) X t_Relations ty_Relations in_Relations t1_25 t1_26 t1_2 rfl (fun j hj => by rcases (show j = 0 ∨ j = 1 ∨ j = 2 ∨ j = 3 ∨ j = 4 by omega) with rfl | rfl | rfl | rfl | rfl <;> rfl) (by decide) (by decide) d_RO_init_5 (fun q1 => ?_)
  refine g_dup X d_RO_init_8 rfl ?_
  refine g_callvI (n := 0) X [] (k_Relations_init q1 ) t1_27 t1_28 rfl t1_2 t1_29 rfl rfl (by decide +kernel) ⟨by decide, by decide⟩ [1] [0] [(ho, .inr (7, [.null, .null, .null, .null, .null, .int (nI 0)]))] rfl rfl rfl rfl (by decide) rfl rfl (Nat.le_of_ble_eq_true rfl) d_RO_init_9 ⟨by decide, by decide⟩ (fun ⟨ru_2, au_2, rw_2, aw_2, rk_2, ak_2, fA_2, fB_2, fK_2⟩ hw2 => ?_)
  refine g_putF (C := R_RO) (T := T_RO) (N := 6) (ty := .object "RelationOrder$Relations") X 0 0 [(ho, .inr (7, [.ref q1, .null, .null, .null, .null, .int (nI 0)])), (q1, .inr (2, [.ref ru_2, .ref rw_2, .ref rk_2, .int (nI 0), .int (nI 0)])), (ru_2, .inr (0, [.ref au_2])), (au_2, .inl (cI, 200, .inl fA_2)), (rw_2, .inr (0, [.ref aw_2])), (aw_2, .inl (cI, 200, .inl fB_2)), (rk_2, .inr (0, [.ref ak_2])), (ak_2, .inl (cI, 200, .inl fK_2))] t_RO ty_RO nm_RO in_RO rfl rfl (by decide) t1_142 rfl rfl hin9 rfl (by decide +kernel) rfl rfl (Nat.le_of_ble_eq_true rfl) rfl d_RO_init_12 ?_
  refine g_aload_n X 0 d_RO_init_15 rfl rfl ?_
  refine g_new (ci := 4) (fs := [.null, .null, .null, .int 0]) (C := R_Strata) (T := T_Strata) (N := 4) X t_Strata ty_Strata in_Strata t1_61 t1_62 t1_5 rfl (fun j hj => by rcases (show j = 0 ∨ j = 1 ∨ j = 2 ∨ j = 3 by omega) with rfl | rfl | rfl | rfl <;> rfl) (by decide) (by decide) d_RO_init_16 (fun q3 => ?_)
  refine g_dup X d_RO_init_19 rfl ?_
  refine g_callvI (n := 0) X [] (k_Strata_init q3 ) t1_63 t1_64 rfl t1_5 t1_65 rfl rfl (by decide +kernel) ⟨by decide, by decide⟩ [8] [0, 1, 2, 3, 4, 5, 6, 7] [(ho, .inr (7, [.ref q1, .null, .null, .null, .null, .int (nI 0)])), (q1, .inr (2, [.ref ru_2, .ref rw_2, .ref rk_2, .int (nI 0), .int (nI 0)])), (ru_2, .inr (0, [.ref au_2])), (au_2, .inl (cI, 200, .inl fA_2)), (rw_2, .inr (0, [.ref aw_2])), (aw_2, .inl (cI, 200, .inl fB_2)), (rk_2, .inr (0, [.ref ak_2])), (ak_2, .inl (cI, 200, .inl fK_2))] rfl rfl rfl rfl (by decide) rfl rfl (Nat.le_of_ble_eq_true rfl) d_RO_init_20 ⟨by decide, by decide⟩ (fun ⟨sn_4, xn_4, ss_4, xs_4, su_4, xu_4, fN_4⟩ w1 => ?_)
  refine g_putF (C := R_RO) (T := T_RO) (N := 6) (ty := .object "RelationOrder$Strata") X 0 1 [(ho, .inr (7, [.ref q1, .ref q3, .null, .null, .null, .int (nI 0)])), (q1, .inr (2, [.ref ru_2, .ref rw_2, .ref rk_2, .int (nI 0), .int (nI 0)])), (ru_2, .inr (0, [.ref au_2])), (au_2, .inl (cI, 200, .inl fA_2)), (rw_2, .inr (0, [.ref aw_2])), (aw_2, .inl (cI, 200, .inl fB_2)), (rk_2, .inr (0, [.ref ak_2])), (ak_2, .inl (cI, 200, .inl fK_2)), (q3, .inr (4, [.ref sn_4, .ref ss_4, .ref su_4, .int (nI 0)])), (sn_4, .inr (0, [.ref xn_4])), (xn_4, .inl (cI, 48, .inl fN_4)), (ss_4, .inr (1, [.ref xs_4])), (xs_4, .inl (cJ, 48, .inr (.inl (fun _ => 0)))), (su_4, .inr (1, [.ref xu_4])), (xu_4, .inl (cJ, 48, .inr (.inl (fun _ => 0))))] t_RO ty_RO nm_RO in_RO rfl rfl (by decide) t1_143 rfl rfl hin9 rfl (by decide +kernel) rfl rfl (Nat.le_of_ble_eq_true rfl) rfl d_RO_init_23 ?_
  refine g_aload_n X 0 d_RO_init_26 rfl rfl ?_
  refine g_new (ci := 3) (fs := [.null, .null, .int 0]) (C := R_Ring) (T := T_Ring) (N := 3) X t_Ring ty_Ring in_Ring t1_97 t1_98 t1_7 rfl (fun j hj => by rcases (show j = 0 ∨ j = 1 ∨ j = 2 by omega) with rfl | rfl | rfl <;> rfl) (by decide) (by decide) d_RO_init_27 (fun q5 => ?_)
  refine g_dup X d_RO_init_30 rfl ?_
  refine g_callvI (n := 0) X [] (k_Ring_init q5 ) t1_99 t1_100 rfl t1_7 t1_101 rfl rfl (by decide +kernel) ⟨by decide, by decide⟩ [15] [0, 1, 2, 3, 4, 5, 6, 7, 8, 9, 10, 11, 12, 13, 14] [(ho, .inr (7, [.ref q1, .ref q3, .null, .null, .null, .int (nI 0)])), (q1, .inr (2, [.ref ru_2, .ref rw_2, .ref rk_2, .int (nI 0), .int (nI 0)])), (ru_2, .inr (0, [.ref au_2])), (au_2, .inl (cI, 200, .inl fA_2)), (rw_2, .inr (0, [.ref aw_2])), (aw_2, .inl (cI, 200, .inl fB_2)), (rk_2, .inr (0, [.ref ak_2])), (ak_2, .inl (cI, 200, .inl fK_2)), (q3, .inr (4, [.ref sn_4, .ref ss_4, .ref su_4, .int (nI 0)])), (sn_4, .inr (0, [.ref xn_4])), (xn_4, .inl (cI, 48, .inl fN_4)), (ss_4, .inr (1, [.ref xs_4])), (xs_4, .inl (cJ, 48, .inr (.inl (fun _ => 0)))), (su_4, .inr (1, [.ref xu_4])), (xu_4, .inl (cJ, 48, .inr (.inl (fun _ => 0))))] rfl rfl rfl rfl (by decide) rfl rfl (Nat.le_of_ble_eq_true rfl) d_RO_init_31 ⟨by decide, by decide⟩ (fun ⟨rp_6, ap_6, ly_6, P_6⟩ hw6 => ?_)
  refine g_putF (C := R_RO) (T := T_RO) (N := 6) (ty := .object "RelationOrder$Ring") X 0 2 [(ho, .inr (7, [.ref q1, .ref q3, .ref q5, .null, .null, .int (nI 0)])), (q1, .inr (2, [.ref ru_2, .ref rw_2, .ref rk_2, .int (nI 0), .int (nI 0)])), (ru_2, .inr (0, [.ref au_2])), (au_2, .inl (cI, 200, .inl fA_2)), (rw_2, .inr (0, [.ref aw_2])), (aw_2, .inl (cI, 200, .inl fB_2)), (rk_2, .inr (0, [.ref ak_2])), (ak_2, .inl (cI, 200, .inl fK_2)), (q3, .inr (4, [.ref sn_4, .ref ss_4, .ref su_4, .int (nI 0)])), (sn_4, .inr (0, [.ref xn_4])), (xn_4, .inl (cI, 48, .inl fN_4)), (ss_4, .inr (1, [.ref xs_4])), (xs_4, .inl (cJ, 48, .inr (.inl (fun _ => 0)))), (su_4, .inr (1, [.ref xu_4])), (xu_4, .inl (cJ, 48, .inr (.inl (fun _ => 0)))), (q5, .inr (3, [.ref rp_6, .ref ly_6, .int (nI 0)])), (rp_6, .inr (0, [.ref ap_6])), (ap_6, .inl (cI, 48, .inl P_6)), (ly_6, .inl (cJ, 48, .inr (.inl (fun _ => 0))))] t_RO ty_RO nm_RO in_RO rfl rfl (by decide) t1_144 rfl rfl hin9 rfl (by decide +kernel) rfl rfl (Nat.le_of_ble_eq_true rfl) rfl d_RO_init_34 ?_
  refine g_aload_n X 0 d_RO_init_37 rfl rfl ?_
  refine g_new (ci := 5) (fs := [.null, .null, .null, .int 0]) (C := R_Groups) (T := T_Groups) (N := 4) X t_Groups ty_Groups in_Groups t1_115 t1_116 t1_8 rfl (fun j hj => by rcases (show j = 0 ∨ j = 1 ∨ j = 2 ∨ j = 3 by omega) with rfl | rfl | rfl | rfl <;> rfl) (by decide) (by decide) d_RO_init_38 (fun q7 => ?_)
  refine g_dup X d_RO_init_41 rfl ?_
  refine g_callvI (n := 0) X [] (k_Groups_init q7 ) t1_117 t1_118 rfl t1_8 t1_119 rfl rfl (by decide +kernel) ⟨by decide, by decide⟩ [19] [0, 1, 2, 3, 4, 5, 6, 7, 8, 9, 10, 11, 12, 13, 14, 15, 16, 17, 18] [(ho, .inr (7, [.ref q1, .ref q3, .ref q5, .null, .null, .int (nI 0)])), (q1, .inr (2, [.ref ru_2, .ref rw_2, .ref rk_2, .int (nI 0), .int (nI 0)])), (ru_2, .inr (0, [.ref au_2])), (au_2, .inl (cI, 200, .inl fA_2)), (rw_2, .inr (0, [.ref aw_2])), (aw_2, .inl (cI, 200, .inl fB_2)), (rk_2, .inr (0, [.ref ak_2])), (ak_2, .inl (cI, 200, .inl fK_2)), (q3, .inr (4, [.ref sn_4, .ref ss_4, .ref su_4, .int (nI 0)])), (sn_4, .inr (0, [.ref xn_4])), (xn_4, .inl (cI, 48, .inl fN_4)), (ss_4, .inr (1, [.ref xs_4])), (xs_4, .inl (cJ, 48, .inr (.inl (fun _ => 0)))), (su_4, .inr (1, [.ref xu_4])), (xu_4, .inl (cJ, 48, .inr (.inl (fun _ => 0)))), (q5, .inr (3, [.ref rp_6, .ref ly_6, .int (nI 0)])), (rp_6, .inr (0, [.ref ap_6])), (ap_6, .inl (cI, 48, .inl P_6)), (ly_6, .inl (cJ, 48, .inr (.inl (fun _ => 0))))] rfl rfl rfl rfl (by decide) rfl rfl (Nat.le_of_ble_eq_true rfl) d_RO_init_42 ⟨by decide, by decide⟩ (fun ⟨gh_8, xh_8, gl_8, xl_8, gr_8, rp_8, ap_8, ly_8, fH_8, P_8⟩ w2 => ?_)
  refine g_putF (C := R_RO) (T := T_RO) (N := 6) (ty := .object "RelationOrder$Groups") X 0 3 [(ho, .inr (7, [.ref q1, .ref q3, .ref q5, .ref q7, .null, .int (nI 0)])), (q1, .inr (2, [.ref ru_2, .ref rw_2, .ref rk_2, .int (nI 0), .int (nI 0)])), (ru_2, .inr (0, [.ref au_2])), (au_2, .inl (cI, 200, .inl fA_2)), (rw_2, .inr (0, [.ref aw_2])), (aw_2, .inl (cI, 200, .inl fB_2)), (rk_2, .inr (0, [.ref ak_2])), (ak_2, .inl (cI, 200, .inl fK_2)), (q3, .inr (4, [.ref sn_4, .ref ss_4, .ref su_4, .int (nI 0)])), (sn_4, .inr (0, [.ref xn_4])), (xn_4, .inl (cI, 48, .inl fN_4)), (ss_4, .inr (1, [.ref xs_4])), (xs_4, .inl (cJ, 48, .inr (.inl (fun _ => 0)))), (su_4, .inr (1, [.ref xu_4])), (xu_4, .inl (cJ, 48, .inr (.inl (fun _ => 0)))), (q5, .inr (3, [.ref rp_6, .ref ly_6, .int (nI 0)])), (rp_6, .inr (0, [.ref ap_6])), (ap_6, .inl (cI, 48, .inl P_6)), (ly_6, .inl (cJ, 48, .inr (.inl (fun _ => 0)))), (q7, .inr (5, [.ref gh_8, .ref gl_8, .ref gr_8, .int (nI 0)])), (gh_8, .inr (0, [.ref xh_8])), (xh_8, .inl (cI, 48, .inl fH_8)), (gl_8, .inr (1, [.ref xl_8])), (xl_8, .inl (cJ, 12, .inr (.inl (fun _ => 0)))), (gr_8, .inr (3, [.ref rp_8, .ref ly_8, .int (nI 0)])), (rp_8, .inr (0, [.ref ap_8])), (ap_8, .inl (cI, 48, .inl P_8)), (ly_8, .inl (cJ, 48, .inr (.inl (fun _ => 0))))] t_RO ty_RO nm_RO in_RO rfl rfl (by decide) t1_145 rfl rfl hin9 rfl (by decide +kernel) rfl rfl (Nat.le_of_ble_eq_true rfl) rfl d_RO_init_45 ?_
  refine g_aload_n X 0 d_RO_init_48 rfl rfl ?_
  refine g_bipush (v := nI 8) X d_RO_init_49 rfl ?_
  refine g_newq X 3 rfl t1_140 X.2.2.2.2.2.1.2.2.2 (by omega) (by decide) (by decide) d_RO_init_51 (fun q9 => ?_)
  refine g_putF (C := R_RO) (T := T_RO) (N := 6) (ty := .array (.object "RelationOrder$Version")) X 0 4 [(ho, .inr (7, [.ref q1, .ref q3, .ref q5, .ref q7, .ref q9, .int (nI 0)])), (q1, .inr (2, [.ref ru_2, .ref rw_2, .ref rk_2, .int (nI 0), .int (nI 0)])), (ru_2, .inr (0, [.ref au_2])), (au_2, .inl (cI, 200, .inl fA_2)), (rw_2, .inr (0, [.ref aw_2])), (aw_2, .inl (cI, 200, .inl fB_2)), (rk_2, .inr (0, [.ref ak_2])), (ak_2, .inl (cI, 200, .inl fK_2)), (q3, .inr (4, [.ref sn_4, .ref ss_4, .ref su_4, .int (nI 0)])), (sn_4, .inr (0, [.ref xn_4])), (xn_4, .inl (cI, 48, .inl fN_4)), (ss_4, .inr (1, [.ref xs_4])), (xs_4, .inl (cJ, 48, .inr (.inl (fun _ => 0)))), (su_4, .inr (1, [.ref xu_4])), (xu_4, .inl (cJ, 48, .inr (.inl (fun _ => 0)))), (q5, .inr (3, [.ref rp_6, .ref ly_6, .int (nI 0)])), (rp_6, .inr (0, [.ref ap_6])), (ap_6, .inl (cI, 48, .inl P_6)), (ly_6, .inl (cJ, 48, .inr (.inl (fun _ => 0)))), (q7, .inr (5, [.ref gh_8, .ref gl_8, .ref gr_8, .int (nI 0)])), (gh_8, .inr (0, [.ref xh_8])), (xh_8, .inl (cI, 48, .inl fH_8)), (gl_8, .inr (1, [.ref xl_8])), (xl_8, .inl (cJ, 12, .inr (.inl (fun _ => 0)))), (gr_8, .inr (3, [.ref rp_8, .ref ly_8, .int (nI 0)])), (rp_8, .inr (0, [.ref ap_8])), (ap_8, .inl (cI, 48, .inl P_8)), (ly_8, .inl (cJ, 48, .inr (.inl (fun _ => 0)))), (q9, .inl (cQ, 8, .inr (.inr (.inr (.inr (fun _ => none))))))] t_RO ty_RO nm_RO in_RO rfl rfl (by decide) t1_146 rfl rfl hin9 rfl (by decide +kernel) rfl rfl (Nat.le_of_ble_eq_true rfl) rfl d_RO_init_54 ?_
  refine g_aload_n X 0 d_RO_init_57 rfl rfl ?_
  refine g_iconst (v := nI 0) X d_RO_init_58 rfl ?_
  refine g_put (C := R_RO) (T := T_RO) (N := 6) (ty := .int) X 0 5 [(ho, .inr (7, [.ref q1, .ref q3, .ref q5, .ref q7, .ref q9, .int (nI 0)])), (q1, .inr (2, [.ref ru_2, .ref rw_2, .ref rk_2, .int (nI 0), .int (nI 0)])), (ru_2, .inr (0, [.ref au_2])), (au_2, .inl (cI, 200, .inl fA_2)), (rw_2, .inr (0, [.ref aw_2])), (aw_2, .inl (cI, 200, .inl fB_2)), (rk_2, .inr (0, [.ref ak_2])), (ak_2, .inl (cI, 200, .inl fK_2)), (q3, .inr (4, [.ref sn_4, .ref ss_4, .ref su_4, .int (nI 0)])), (sn_4, .inr (0, [.ref xn_4])), (xn_4, .inl (cI, 48, .inl fN_4)), (ss_4, .inr (1, [.ref xs_4])), (xs_4, .inl (cJ, 48, .inr (.inl (fun _ => 0)))), (su_4, .inr (1, [.ref xu_4])), (xu_4, .inl (cJ, 48, .inr (.inl (fun _ => 0)))), (q5, .inr (3, [.ref rp_6, .ref ly_6, .int (nI 0)])), (rp_6, .inr (0, [.ref ap_6])), (ap_6, .inl (cI, 48, .inl P_6)), (ly_6, .inl (cJ, 48, .inr (.inl (fun _ => 0)))), (q7, .inr (5, [.ref gh_8, .ref gl_8, .ref gr_8, .int (nI 0)])), (gh_8, .inr (0, [.ref xh_8])), (xh_8, .inl (cI, 48, .inl fH_8)), (gl_8, .inr (1, [.ref xl_8])), (xl_8, .inl (cJ, 12, .inr (.inl (fun _ => 0)))), (gr_8, .inr (3, [.ref rp_8, .ref ly_8, .int (nI 0)])), (rp_8, .inr (0, [.ref ap_8])), (ap_8, .inl (cI, 48, .inl P_8)), (ly_8, .inl (cJ, 48, .inr (.inl (fun _ => 0)))), (q9, .inl (cQ, 8, .inr (.inr (.inr (.inr (fun _ => none))))))] t_RO ty_RO nm_RO in_RO rfl rfl (by decide) t1_147 rfl rfl (by decide +kernel) rfl rfl (Nat.le_of_ble_eq_true rfl) rfl d_RO_init_59 ?_
  exact g_vret X hA9 hQ9 hr9 hlk9 ⟨q1, ru_2, au_2, rw_2, aw_2, rk_2, ak_2, q3, sn_4, xn_4, ss_4, xs_4, su_4, xu_4, q5, rp_6, ap_6, ly_6, q7, gh_8, xh_8, gl_8, xl_8, gr_8, rp_8, ap_8, ly_8, q9, fA_2, fB_2, fK_2, fN_4, P_6, fH_8, P_8⟩ [0, 1, 2, 3, 4, 5, 6, 7, 8, 9, 10, 11, 12, 13, 14, 15, 16, 17, 18, 19, 20, 21, 22, 23, 24, 25, 26, 27, 28] rfl rfl d_RO_init_62 (by (try dsimp only); exact (⟨w1, w2⟩))

set_option maxHeartbeats 4000000 in
set_option maxRecDepth 100000 in
theorem k_RO_context (ho : Nat) (hr : Nat) (hs : Nat) (h : Nat) (hg : Nat) (ha : Nat) (vm : Int32) (sn : Nat) (ss : Nat) (su : Nat) (K : Nat) (xn : Nat) (fN : Nat → Int32) (hK : K < 48) : CtI l y_RO_context (Cond.code y_RO_context c_RO_context 1 (some .int) :: TB) ({ frames := 2, cells := 0, slots := 0, locals := 42 } : Room) D (tysv cI cJ cZ cQ) [.ref ho] [(ho, .inr (7, [.ref hr, .ref hs, .ref h, .ref hg, .ref ha, .int vm])), (hs, .inr (4, [.ref sn, .ref ss, .ref su, .int (nI K)])), (sn, .inr (0, [.ref xn])), (xn, .inl (cI, 48, .inl fN))] 0 0 (fun (r : Int32) (_ : Unit) => r = nI K) (fun (_ : Unit) => [(ho, .inr (7, [.ref hr, .ref hs, .ref h, .ref hg, .ref ha, .int vm])), (hs, .inr (4, [.ref sn, .ref ss, .ref su, .int (nI (K + 1))])), (sn, .inr (0, [.ref xn])), (xn, .inl (cI, 48, .inl (upd fN K (nI K))))]) := by
  refine CtI.of c_RO_context 1 (some .int) (by decide) rfl (Nat.le_of_ble_eq_true rfl) ?_
  intro p e s m args below meth c A Q hA9 hQ9 X hr9 hlk9 hin9
  refine g_aload_n X 0 d_RO_context_0 rfl rfl ?_
  refine g_get (C := R_RO) (T := T_RO) (N := 6) X 0 1 in_RO rfl rfl (by decide) t1_143 rfl rfl d_RO_context_1 ?_
  refine g_calliV (n := 0) X [] (k_Strata_contexts hs sn ss su K ) t1_200 t1_201 t1_202 t1_5 t1_203 rfl rfl (by decide +kernel) ⟨by decide, by decide⟩ [1] [0, 2, 3] [(ho, .inr (7, [.ref hr, .ref hs, .ref h, .ref hg, .ref ha, .int vm])), (sn, .inr (0, [.ref xn])), (xn, .inl (cI, 48, .inl fN))] rfl rfl rfl rfl (by decide) 0 rfl rfl rfl rfl (Nat.le_of_ble_eq_true rfl) d_RO_context_4 ⟨by decide, by decide⟩ (fun r1 w9u1 hw1 => ?_)
  subst hw1
  refine g_bipush (v := nI 48) X d_RO_context_7 rfl ?_
  refine n_icmp_lt X 22 d_RO_context_9 (by decide) (by omega) (by omega) (fun h9 => ?_) (fun h9 => absurd h9 (by omega))
  refine g_aload_n X 0 d_RO_context_22 rfl rfl ?_
  refine g_get (C := R_RO) (T := T_RO) (N := 6) X 0 1 in_RO rfl rfl (by decide) t1_143 rfl rfl d_RO_context_23 ?_
  refine g_calliV (n := 0) X [] (k_Strata_addContext hs sn ss su K xn fN (by omega)) t2_31 t2_32 t2_33 t1_5 t2_34 rfl rfl (by decide +kernel) ⟨by decide, by decide⟩ [3, 1, 2] [0] [(ho, .inr (7, [.ref hr, .ref hs, .ref h, .ref hg, .ref ha, .int vm]))] rfl rfl rfl rfl (by decide) 0 rfl rfl rfl rfl (Nat.le_of_ble_eq_true rfl) d_RO_context_26 ⟨by decide, by decide⟩ (fun r2 w9u2 hw2 => ?_)
  subst hw2
  exact g_iret X hA9 hQ9 hr9 hlk9 () [0, 1, 2, 3] rfl rfl d_RO_context_29 (rfl)

set_option maxHeartbeats 4000000 in
set_option maxRecDepth 100000 in
theorem k_RO_checkContext (ho : Nat) (hr : Nat) (hs : Nat) (h : Nat) (hg : Nat) (ha : Nat) (vm : Int32) (sn : Nat) (ss : Nat) (su : Nat) (K : Nat) (j : Nat) (hj : j < K) (hK : K ≤ 48) : CtV l y_RO_checkContext (Cond.code y_RO_checkContext c_RO_checkContext 2 none :: TB) ({ frames := 1, cells := 0, slots := 0, locals := 20 } : Room) D (tysv cI cJ cZ cQ) [.ref ho, .int (nI j)] [(ho, .inr (7, [.ref hr, .ref hs, .ref h, .ref hg, .ref ha, .int vm])), (hs, .inr (4, [.ref sn, .ref ss, .ref su, .int (nI K)]))] 0 0 (fun (_ : Unit) => True) (fun (_ : Unit) => [(ho, .inr (7, [.ref hr, .ref hs, .ref h, .ref hg, .ref ha, .int vm])), (hs, .inr (4, [.ref sn, .ref ss, .ref su, .int (nI K)]))]) := by
  refine CtV.of c_RO_checkContext 2 none (by decide) rfl (Nat.le_of_ble_eq_true rfl) ?_
  intro p e s m args below meth c A Q hA9 hQ9 X hr9 hlk9 hin9
  refine g_iload_n X 1 d_RO_checkContext_0 rfl rfl ?_
  refine n_if_lt X 15 d_RO_checkContext_1 (by decide) (by omega) (fun h1 => absurd h1 (by omega)) (fun h1 => ?_)
  refine g_iload_n X 1 d_RO_checkContext_4 rfl rfl ?_
  refine g_aload_n X 0 d_RO_checkContext_5 rfl rfl ?_
  refine g_get (C := R_RO) (T := T_RO) (N := 6) X 0 1 in_RO rfl rfl (by decide) t1_143 rfl rfl d_RO_checkContext_6 ?_
  refine g_calliV (n := 0) X [] (k_Strata_contexts hs sn ss su K ) t1_200 t1_201 t1_202 t1_5 t1_203 rfl rfl (by decide +kernel) ⟨by decide, by decide⟩ [1] [0] [(ho, .inr (7, [.ref hr, .ref hs, .ref h, .ref hg, .ref ha, .int vm]))] rfl rfl rfl rfl (by decide) 0 rfl rfl rfl rfl (Nat.le_of_ble_eq_true rfl) d_RO_checkContext_9 ⟨by decide, by decide⟩ (fun r1 w9u1 hw1 => ?_)
  subst hw1
  refine n_icmp_lt X 25 d_RO_checkContext_12 (by decide) (by omega) (by omega) (fun h12 => ?_) (fun h12 => absurd h12 (by omega))
  exact g_vret X hA9 hQ9 hr9 hlk9 () [0, 1] rfl rfl d_RO_checkContext_25 (trivial)

set_option maxHeartbeats 4000000 in
set_option maxRecDepth 100000 in
theorem k_RO_checkPlace (k : Nat) (hk : k < 2 ^ 31) : CtV l y_RO_checkPlace (Cond.code y_RO_checkPlace c_RO_checkPlace 1 none :: TB) ({ frames := 0, cells := 0, slots := 0, locals := 0 } : Room) D (tysv cI cJ cZ cQ) [.int (nI k)] [] 0 0 (fun (_ : Unit) => True) (fun (_ : Unit) => []) := by
  refine CtV.of c_RO_checkPlace 1 none (by decide) rfl (Nat.le_of_ble_eq_true rfl) ?_
  intro p e s m args below meth c A Q hA9 hQ9 X hr9 hlk9 hin9
  refine g_iload_n X 0 d_RO_checkPlace_0 rfl rfl ?_
  refine n_if_ge X 14 d_RO_checkPlace_1 (by decide) (by omega) (fun h1 => ?_) (fun h1 => absurd h1 (by omega))
  exact g_vret X hA9 hQ9 hr9 hlk9 () [] rfl rfl d_RO_checkPlace_14 (trivial)

set_option maxHeartbeats 4000000 in
set_option maxRecDepth 100000 in
theorem k_RO_closesRing (ho : Nat) (hr : Nat) (hs : Nat) (h : Nat) (hg : Nat) (ha : Nat) (vm : Int32) (sn : Nat) (ss : Nat) (su : Nat) (K : Nat) (xs : Nat) (fS : Nat → Int64) (rp : Nat) (ly : Nat) (ln : Int32) (ap : Nat) (P : Nat → Int32) (Y : Nat → Int64) (x : Nat) (y : Nat) (kd : Nat) (d : Nat) (pp : Nat → Nat) (hx : x < 48) (hy : y < 48) (hf : ∀ z, z < 48 → ∀ j, lb (fS z) j = true → j < 48) (hk : kd ≤ 4) (hT : (kd < 3 ∧ gring (gadd (rowE 48 fS) x y) x d pp) ∨ (kd = 3 ∧ x ≠ y ∧ gring (gadd (rowE 48 fS) y x) x d pp) ∨ (kd = 3 ∧ x ≠ y ∧ (∀ k, ¬ gw (gadd (rowE 48 fS) y x) (k + 1) x x) ∧ gring (gadd (rowE 48 fS) x y) y d pp)) : CtI l y_RO_closesRing (Cond.code y_RO_closesRing c_RO_closesRing 4 (some .boolean) :: TB) ({ frames := 5, cells := 0, slots := 0, locals := 118 } : Room) D (tysv cI cJ cZ cQ) [.ref ho, .int (nI x), .int (nI y), .int (nI kd)] [(ho, .inr (7, [.ref hr, .ref hs, .ref h, .ref hg, .ref ha, .int vm])), (hs, .inr (4, [.ref sn, .ref ss, .ref su, .int (nI K)])), (ss, .inr (1, [.ref xs])), (xs, .inl (cJ, 48, .inr (.inl fS))), (h, .inr (3, [.ref rp, .ref ly, .int ln])), (rp, .inr (0, [.ref ap])), (ap, .inl (cI, 48, .inl P)), (ly, .inl (cJ, 48, .inr (.inl Y)))] 0 0 (fun (r : Int32) (u : (Nat → Int32) × (Nat → Int64)) => r = bI true ∧ ∀ j, j < d → u.1 j = nI (pp j)) (fun (u : (Nat → Int32) × (Nat → Int64)) => [(ho, .inr (7, [.ref hr, .ref hs, .ref h, .ref hg, .ref ha, .int vm])), (hs, .inr (4, [.ref sn, .ref ss, .ref su, .int (nI K)])), (ss, .inr (1, [.ref xs])), (xs, .inl (cJ, 48, .inr (.inl fS))), (h, .inr (3, [.ref rp, .ref ly, .int (nI d)])), (rp, .inr (0, [.ref ap])), (ap, .inl (cI, 48, .inl u.1)), (ly, .inl (cJ, 48, .inr (.inl u.2)))]) := by
  refine CtI.of c_RO_closesRing 4 (some .boolean) (by decide) rfl (Nat.le_of_ble_eq_true rfl) ?_
  intro p e s m args below meth c A Q hA9 hQ9 X hr9 hlk9 hin9
  rcases hT with ⟨k1, g1⟩ | ⟨k1, k2, g1⟩ | ⟨k1, k2, g0, g1⟩
  · have k3 := k1
    refine g_iload_n X 3 d_RO_closesRing_0 rfl rfl ?_
    refine g_iconst (v := nI 4) X d_RO_closesRing_1 rfl ?_
    refine n_icmp_ne X 7 d_RO_closesRing_2 (by decide) (by omega) (by omega) (fun h2 => ?_) (fun h2 => absurd h2 (by omega))
    refine g_iload_n X 3 d_RO_closesRing_7 rfl rfl ?_
    refine g_iconst (v := nI 3) X d_RO_closesRing_8 rfl ?_
    refine n_icmp_eq X 27 d_RO_closesRing_9 (by decide) (by omega) (by omega) (fun h9 => absurd h9 (by omega)) (fun h9 => ?_)
    refine g_aload_n X 0 d_RO_closesRing_12 rfl rfl ?_
    refine g_get (C := R_RO) (T := T_RO) (N := 6) X 0 1 in_RO rfl rfl (by decide) t1_143 rfl rfl d_RO_closesRing_13 ?_
    refine g_iload_n X 1 d_RO_closesRing_16 rfl rfl ?_
    refine g_iload_n X 2 d_RO_closesRing_17 rfl rfl ?_
    refine g_iload_n X 1 d_RO_closesRing_18 rfl rfl ?_
    refine g_aload_n X 0 d_RO_closesRing_19 rfl rfl ?_
    refine g_get (C := R_RO) (T := T_RO) (N := 6) X 0 2 in_RO rfl rfl (by decide) t1_144 rfl rfl d_RO_closesRing_20 ?_
    refine g_calliV (n := 4) X [.int (nI x), .int (nI y), .int (nI x), .ref h] (k_Strata_tellRingWith hs sn ss su K xs fS h rp ly ln ap P Y x y x d pp (by omega) (by omega) (by omega) (hf) (g1)) t2_85 t2_86 t2_87 t1_5 t2_88 rfl rfl (by decide +kernel) ⟨by decide, by decide⟩ [1, 2, 3, 4, 5, 6, 7] [0] [(ho, .inr (7, [.ref hr, .ref hs, .ref h, .ref hg, .ref ha, .int vm]))] rfl rfl rfl rfl (by decide) 0 rfl rfl rfl rfl (Nat.le_of_ble_eq_true rfl) d_RO_closesRing_23 ⟨by decide, by decide⟩ (fun r1 ⟨P2_1, Z_1⟩ hPP => ?_)
    obtain ⟨rfl, hPP⟩ := hPP
    exact g_zret X hA9 hQ9 hr9 (by first | exact Or.inl rfl | exact Or.inr rfl) hlk9 ⟨P2_1, Z_1⟩ [0, 1, 2, 3, 4, 5, 6, 7] rfl rfl d_RO_closesRing_26 (by (try dsimp only); exact (⟨rfl, hPP⟩))
  · have k3 := k1
    refine g_iload_n X 3 d_RO_closesRing_0 rfl rfl ?_
    refine g_iconst (v := nI 4) X d_RO_closesRing_1 rfl ?_
    refine n_icmp_ne X 7 d_RO_closesRing_2 (by decide) (by omega) (by omega) (fun h2 => ?_) (fun h2 => absurd h2 (by omega))
    refine g_iload_n X 3 d_RO_closesRing_7 rfl rfl ?_
    refine g_iconst (v := nI 3) X d_RO_closesRing_8 rfl ?_
    refine n_icmp_eq X 27 d_RO_closesRing_9 (by decide) (by omega) (by omega) (fun h9 => ?_) (fun h9 => absurd h9 (by omega))
    refine g_iload_n X 1 d_RO_closesRing_27 rfl rfl ?_
    refine g_iload_n X 2 d_RO_closesRing_28 rfl rfl ?_
    refine n_icmp_eq X 70 d_RO_closesRing_29 (by decide) (by omega) (by omega) (fun h29 => absurd h29 (by omega)) (fun h29 => ?_)
    refine g_aload_n X 0 d_RO_closesRing_32 rfl rfl ?_
    refine g_get (C := R_RO) (T := T_RO) (N := 6) X 0 1 in_RO rfl rfl (by decide) t1_143 rfl rfl d_RO_closesRing_33 ?_
    refine g_iload_n X 2 d_RO_closesRing_36 rfl rfl ?_
    refine g_iload_n X 1 d_RO_closesRing_37 rfl rfl ?_
    refine g_iload_n X 1 d_RO_closesRing_38 rfl rfl ?_
    refine g_aload_n X 0 d_RO_closesRing_39 rfl rfl ?_
    refine g_get (C := R_RO) (T := T_RO) (N := 6) X 0 2 in_RO rfl rfl (by decide) t1_144 rfl rfl d_RO_closesRing_40 ?_
    refine g_calliV (n := 4) X [.int (nI y), .int (nI x), .int (nI x), .ref h] (k_Strata_tellRingWith hs sn ss su K xs fS h rp ly ln ap P Y y x x d pp (by omega) (by omega) (by omega) (hf) (g1)) t2_85 t2_86 t2_87 t1_5 t2_88 rfl rfl (by decide +kernel) ⟨by decide, by decide⟩ [1, 2, 3, 4, 5, 6, 7] [0] [(ho, .inr (7, [.ref hr, .ref hs, .ref h, .ref hg, .ref ha, .int vm]))] rfl rfl rfl rfl (by decide) 0 rfl rfl rfl rfl (Nat.le_of_ble_eq_true rfl) d_RO_closesRing_43 ⟨by decide, by decide⟩ (fun r2 ⟨P2_2, Z_2⟩ hPP => ?_)
    obtain ⟨rfl, hPP⟩ := hPP
    refine b_if_ne X 66 d_RO_closesRing_46 (by decide) (fun h46 => ?_) (fun h46 => absurd h46 (by decide))
    refine g_iconst (v := nI 1) X d_RO_closesRing_66 rfl ?_
    refine g_goto X 71 d_RO_closesRing_67 (by decide) ?_
    exact g_zret X hA9 hQ9 hr9 (by first | exact Or.inl rfl | exact Or.inr rfl) hlk9 ⟨P2_2, Z_2⟩ [0, 1, 2, 3, 4, 5, 6, 7] rfl rfl d_RO_closesRing_71 (by (try dsimp only); exact (⟨rfl, hPP⟩))
  · have k3 := k1
    refine g_iload_n X 3 d_RO_closesRing_0 rfl rfl ?_
    refine g_iconst (v := nI 4) X d_RO_closesRing_1 rfl ?_
    refine n_icmp_ne X 7 d_RO_closesRing_2 (by decide) (by omega) (by omega) (fun h2 => ?_) (fun h2 => absurd h2 (by omega))
    refine g_iload_n X 3 d_RO_closesRing_7 rfl rfl ?_
    refine g_iconst (v := nI 3) X d_RO_closesRing_8 rfl ?_
    refine n_icmp_eq X 27 d_RO_closesRing_9 (by decide) (by omega) (by omega) (fun h9 => ?_) (fun h9 => absurd h9 (by omega))
    refine g_iload_n X 1 d_RO_closesRing_27 rfl rfl ?_
    refine g_iload_n X 2 d_RO_closesRing_28 rfl rfl ?_
    refine n_icmp_eq X 70 d_RO_closesRing_29 (by decide) (by omega) (by omega) (fun h29 => absurd h29 (by omega)) (fun h29 => ?_)
    refine g_aload_n X 0 d_RO_closesRing_32 rfl rfl ?_
    refine g_get (C := R_RO) (T := T_RO) (N := 6) X 0 1 in_RO rfl rfl (by decide) t1_143 rfl rfl d_RO_closesRing_33 ?_
    refine g_iload_n X 2 d_RO_closesRing_36 rfl rfl ?_
    refine g_iload_n X 1 d_RO_closesRing_37 rfl rfl ?_
    refine g_iload_n X 1 d_RO_closesRing_38 rfl rfl ?_
    refine g_aload_n X 0 d_RO_closesRing_39 rfl rfl ?_
    refine g_get (C := R_RO) (T := T_RO) (N := 6) X 0 2 in_RO rfl rfl (by decide) t1_144 rfl rfl d_RO_closesRing_40 ?_
    refine g_calliV (n := 4) X [.int (nI y), .int (nI x), .int (nI x), .ref h] (k_Strata_tellRingWithN hs sn ss su K xs fS h rp ly ln Y y x x (by omega) (by omega) (by omega) (hf) (g0)) t2_85 t2_86 t2_87 t1_5 t2_88 rfl rfl (by decide +kernel) ⟨by decide, by decide⟩ [1, 2, 3, 4, 7] [0, 5, 6] [(ho, .inr (7, [.ref hr, .ref hs, .ref h, .ref hg, .ref ha, .int vm])), (rp, .inr (0, [.ref ap])), (ap, .inl (cI, 48, .inl P))] rfl rfl rfl rfl (by decide) 0 rfl rfl rfl rfl (Nat.le_of_ble_eq_true rfl) d_RO_closesRing_43 ⟨by decide, by decide⟩ (fun r3 Z_3 hw3 => ?_)
    subst hw3
    refine b_if_ne X 66 d_RO_closesRing_46 (by decide) (fun h46 => absurd h46 (by decide)) (fun h46 => ?_)
    refine g_aload_n X 0 d_RO_closesRing_49 rfl rfl ?_
    refine g_get (C := R_RO) (T := T_RO) (N := 6) X 0 1 in_RO rfl rfl (by decide) t1_143 rfl rfl d_RO_closesRing_50 ?_
    refine g_iload_n X 1 d_RO_closesRing_53 rfl rfl ?_
    refine g_iload_n X 2 d_RO_closesRing_54 rfl rfl ?_
    refine g_iload_n X 2 d_RO_closesRing_55 rfl rfl ?_
    refine g_aload_n X 0 d_RO_closesRing_56 rfl rfl ?_
    refine g_get (C := R_RO) (T := T_RO) (N := 6) X 0 2 in_RO rfl rfl (by decide) t1_144 rfl rfl d_RO_closesRing_57 ?_
    refine g_calliV (n := 4) X [.int (nI x), .int (nI y), .int (nI y), .ref h] (k_Strata_tellRingWith hs sn ss su K xs fS h rp ly ln ap P Z_3 x y y d pp (by omega) (by omega) (by omega) (hf) (g1)) t2_85 t2_86 t2_87 t1_5 t2_88 rfl rfl (by decide +kernel) ⟨by decide, by decide⟩ [3, 4, 5, 6, 1, 2, 7] [0] [(ho, .inr (7, [.ref hr, .ref hs, .ref h, .ref hg, .ref ha, .int vm]))] rfl rfl rfl rfl (by decide) 0 rfl rfl rfl rfl (Nat.le_of_ble_eq_true rfl) d_RO_closesRing_60 ⟨by decide, by decide⟩ (fun r4 ⟨P2_4, Z_4⟩ hPP => ?_)
    obtain ⟨rfl, hPP⟩ := hPP
    refine b_if_eq X 70 d_RO_closesRing_63 (by decide) (fun h63 => absurd h63 (by decide)) (fun h63 => ?_)
    refine g_iconst (v := nI 1) X d_RO_closesRing_66 rfl ?_
    refine g_goto X 71 d_RO_closesRing_67 (by decide) ?_
    exact g_zret X hA9 hQ9 hr9 (by first | exact Or.inl rfl | exact Or.inr rfl) hlk9 ⟨P2_4, Z_4⟩ [0, 1, 2, 3, 4, 5, 6, 7] rfl rfl d_RO_closesRing_71 (by (try dsimp only); exact (⟨rfl, hPP⟩))

set_option maxHeartbeats 4000000 in
set_option maxRecDepth 100000 in
theorem k_RO_closesRingN (ho : Nat) (hr : Nat) (hs : Nat) (h : Nat) (hg : Nat) (ha : Nat) (vm : Int32) (sn : Nat) (ss : Nat) (su : Nat) (K : Nat) (xs : Nat) (fS : Nat → Int64) (rp : Nat) (ly : Nat) (ln : Int32) (Y : Nat → Int64) (x : Nat) (y : Nat) (kd : Nat) (hx : x < 48) (hy : y < 48) (hf : ∀ z, z < 48 → ∀ j, lb (fS z) j = true → j < 48) (hk : kd ≤ 4) (hT : kd = 4 ∨ (kd < 3 ∧ (∀ k, ¬ gw (gadd (rowE 48 fS) x y) (k + 1) x x)) ∨ (kd = 3 ∧ x = y) ∨ (kd = 3 ∧ x ≠ y ∧ (∀ k, ¬ gw (gadd (rowE 48 fS) y x) (k + 1) x x) ∧ (∀ k, ¬ gw (gadd (rowE 48 fS) x y) (k + 1) y y))) : CtI l y_RO_closesRing (Cond.code y_RO_closesRing c_RO_closesRing 4 (some .boolean) :: TB) ({ frames := 4, cells := 0, slots := 0, locals := 102 } : Room) D (tysv cI cJ cZ cQ) [.ref ho, .int (nI x), .int (nI y), .int (nI kd)] [(ho, .inr (7, [.ref hr, .ref hs, .ref h, .ref hg, .ref ha, .int vm])), (hs, .inr (4, [.ref sn, .ref ss, .ref su, .int (nI K)])), (ss, .inr (1, [.ref xs])), (xs, .inl (cJ, 48, .inr (.inl fS))), (h, .inr (3, [.ref rp, .ref ly, .int ln])), (ly, .inl (cJ, 48, .inr (.inl Y)))] 0 0 (fun (r : Int32) (Z : Nat → Int64) => r = bI false) (fun (Z : Nat → Int64) => [(ho, .inr (7, [.ref hr, .ref hs, .ref h, .ref hg, .ref ha, .int vm])), (hs, .inr (4, [.ref sn, .ref ss, .ref su, .int (nI K)])), (ss, .inr (1, [.ref xs])), (xs, .inl (cJ, 48, .inr (.inl fS))), (h, .inr (3, [.ref rp, .ref ly, .int ln])), (ly, .inl (cJ, 48, .inr (.inl Z)))]) := by
  refine CtI.of c_RO_closesRing 4 (some .boolean) (by decide) rfl (Nat.le_of_ble_eq_true rfl) ?_
  intro p e s m args below meth c A Q hA9 hQ9 X hr9 hlk9 hin9
  rcases hT with k1 | ⟨k1, g1⟩ | ⟨k1, k2⟩ | ⟨k1, k2, g0, g1⟩
  · have k3 := k1
    refine g_iload_n X 3 d_RO_closesRing_0 rfl rfl ?_
    refine g_iconst (v := nI 4) X d_RO_closesRing_1 rfl ?_
    refine n_icmp_ne X 7 d_RO_closesRing_2 (by decide) (by omega) (by omega) (fun h2 => absurd h2 (by omega)) (fun h2 => ?_)
    refine g_iconst (v := nI 0) X d_RO_closesRing_5 rfl ?_
    exact g_zret X hA9 hQ9 hr9 (by first | exact Or.inl rfl | exact Or.inr rfl) hlk9 Y [0, 1, 2, 3, 4, 5] rfl rfl d_RO_closesRing_6 (rfl)
  · have k3 := k1
    refine g_iload_n X 3 d_RO_closesRing_0 rfl rfl ?_
    refine g_iconst (v := nI 4) X d_RO_closesRing_1 rfl ?_
    refine n_icmp_ne X 7 d_RO_closesRing_2 (by decide) (by omega) (by omega) (fun h2 => ?_) (fun h2 => absurd h2 (by omega))
    refine g_iload_n X 3 d_RO_closesRing_7 rfl rfl ?_
    refine g_iconst (v := nI 3) X d_RO_closesRing_8 rfl ?_
    refine n_icmp_eq X 27 d_RO_closesRing_9 (by decide) (by omega) (by omega) (fun h9 => absurd h9 (by omega)) (fun h9 => ?_)
    refine g_aload_n X 0 d_RO_closesRing_12 rfl rfl ?_
    refine g_get (C := R_RO) (T := T_RO) (N := 6) X 0 1 in_RO rfl rfl (by decide) t1_143 rfl rfl d_RO_closesRing_13 ?_
    refine g_iload_n X 1 d_RO_closesRing_16 rfl rfl ?_
    refine g_iload_n X 2 d_RO_closesRing_17 rfl rfl ?_
    refine g_iload_n X 1 d_RO_closesRing_18 rfl rfl ?_
    refine g_aload_n X 0 d_RO_closesRing_19 rfl rfl ?_
    refine g_get (C := R_RO) (T := T_RO) (N := 6) X 0 2 in_RO rfl rfl (by decide) t1_144 rfl rfl d_RO_closesRing_20 ?_
    refine g_calliV (n := 4) X [.int (nI x), .int (nI y), .int (nI x), .ref h] (k_Strata_tellRingWithN hs sn ss su K xs fS h rp ly ln Y x y x (by omega) (by omega) (by omega) (hf) (g1)) t2_85 t2_86 t2_87 t1_5 t2_88 rfl rfl (by decide +kernel) ⟨by decide, by decide⟩ [1, 2, 3, 4, 5] [0] [(ho, .inr (7, [.ref hr, .ref hs, .ref h, .ref hg, .ref ha, .int vm]))] rfl rfl rfl rfl (by decide) 0 rfl rfl rfl rfl (Nat.le_of_ble_eq_true rfl) d_RO_closesRing_23 ⟨by decide, by decide⟩ (fun r1 Z_1 hw1 => ?_)
    subst hw1
    exact g_zret X hA9 hQ9 hr9 (by first | exact Or.inl rfl | exact Or.inr rfl) hlk9 Z_1 [0, 1, 2, 3, 4, 5] rfl rfl d_RO_closesRing_26 (rfl)
  · have k3 := k1
    refine g_iload_n X 3 d_RO_closesRing_0 rfl rfl ?_
    refine g_iconst (v := nI 4) X d_RO_closesRing_1 rfl ?_
    refine n_icmp_ne X 7 d_RO_closesRing_2 (by decide) (by omega) (by omega) (fun h2 => ?_) (fun h2 => absurd h2 (by omega))
    refine g_iload_n X 3 d_RO_closesRing_7 rfl rfl ?_
    refine g_iconst (v := nI 3) X d_RO_closesRing_8 rfl ?_
    refine n_icmp_eq X 27 d_RO_closesRing_9 (by decide) (by omega) (by omega) (fun h9 => ?_) (fun h9 => absurd h9 (by omega))
    refine g_iload_n X 1 d_RO_closesRing_27 rfl rfl ?_
    refine g_iload_n X 2 d_RO_closesRing_28 rfl rfl ?_
    refine n_icmp_eq X 70 d_RO_closesRing_29 (by decide) (by omega) (by omega) (fun h29 => ?_) (fun h29 => absurd h29 (by omega))
    refine g_iconst (v := nI 0) X d_RO_closesRing_70 rfl ?_
    exact g_zret X hA9 hQ9 hr9 (by first | exact Or.inl rfl | exact Or.inr rfl) hlk9 Y [0, 1, 2, 3, 4, 5] rfl rfl d_RO_closesRing_71 (rfl)
  · have k3 := k1
    refine g_iload_n X 3 d_RO_closesRing_0 rfl rfl ?_
    refine g_iconst (v := nI 4) X d_RO_closesRing_1 rfl ?_
    refine n_icmp_ne X 7 d_RO_closesRing_2 (by decide) (by omega) (by omega) (fun h2 => ?_) (fun h2 => absurd h2 (by omega))
    refine g_iload_n X 3 d_RO_closesRing_7 rfl rfl ?_
    refine g_iconst (v := nI 3) X d_RO_closesRing_8 rfl ?_
    refine n_icmp_eq X 27 d_RO_closesRing_9 (by decide) (by omega) (by omega) (fun h9 => ?_) (fun h9 => absurd h9 (by omega))
    refine g_iload_n X 1 d_RO_closesRing_27 rfl rfl ?_
    refine g_iload_n X 2 d_RO_closesRing_28 rfl rfl ?_
    refine n_icmp_eq X 70 d_RO_closesRing_29 (by decide) (by omega) (by omega) (fun h29 => absurd h29 (by omega)) (fun h29 => ?_)
    refine g_aload_n X 0 d_RO_closesRing_32 rfl rfl ?_
    refine g_get (C := R_RO) (T := T_RO) (N := 6) X 0 1 in_RO rfl rfl (by decide) t1_143 rfl rfl d_RO_closesRing_33 ?_
    refine g_iload_n X 2 d_RO_closesRing_36 rfl rfl ?_
    refine g_iload_n X 1 d_RO_closesRing_37 rfl rfl ?_
    refine g_iload_n X 1 d_RO_closesRing_38 rfl rfl ?_
    refine g_aload_n X 0 d_RO_closesRing_39 rfl rfl ?_
    refine g_get (C := R_RO) (T := T_RO) (N := 6) X 0 2 in_RO rfl rfl (by decide) t1_144 rfl rfl d_RO_closesRing_40 ?_
    refine g_calliV (n := 4) X [.int (nI y), .int (nI x), .int (nI x), .ref h] (k_Strata_tellRingWithN hs sn ss su K xs fS h rp ly ln Y y x x (by omega) (by omega) (by omega) (hf) (g0)) t2_85 t2_86 t2_87 t1_5 t2_88 rfl rfl (by decide +kernel) ⟨by decide, by decide⟩ [1, 2, 3, 4, 5] [0] [(ho, .inr (7, [.ref hr, .ref hs, .ref h, .ref hg, .ref ha, .int vm]))] rfl rfl rfl rfl (by decide) 0 rfl rfl rfl rfl (Nat.le_of_ble_eq_true rfl) d_RO_closesRing_43 ⟨by decide, by decide⟩ (fun r2 Z_2 hw2 => ?_)
    subst hw2
    refine b_if_ne X 66 d_RO_closesRing_46 (by decide) (fun h46 => absurd h46 (by decide)) (fun h46 => ?_)
    refine g_aload_n X 0 d_RO_closesRing_49 rfl rfl ?_
    refine g_get (C := R_RO) (T := T_RO) (N := 6) X 0 1 in_RO rfl rfl (by decide) t1_143 rfl rfl d_RO_closesRing_50 ?_
    refine g_iload_n X 1 d_RO_closesRing_53 rfl rfl ?_
    refine g_iload_n X 2 d_RO_closesRing_54 rfl rfl ?_
    refine g_iload_n X 2 d_RO_closesRing_55 rfl rfl ?_
    refine g_aload_n X 0 d_RO_closesRing_56 rfl rfl ?_
    refine g_get (C := R_RO) (T := T_RO) (N := 6) X 0 2 in_RO rfl rfl (by decide) t1_144 rfl rfl d_RO_closesRing_57 ?_
    refine g_calliV (n := 4) X [.int (nI x), .int (nI y), .int (nI y), .ref h] (k_Strata_tellRingWithN hs sn ss su K xs fS h rp ly ln Z_2 x y y (by omega) (by omega) (by omega) (hf) (g1)) t2_85 t2_86 t2_87 t1_5 t2_88 rfl rfl (by decide +kernel) ⟨by decide, by decide⟩ [1, 2, 3, 4, 5] [0] [(ho, .inr (7, [.ref hr, .ref hs, .ref h, .ref hg, .ref ha, .int vm]))] rfl rfl rfl rfl (by decide) 0 rfl rfl rfl rfl (Nat.le_of_ble_eq_true rfl) d_RO_closesRing_60 ⟨by decide, by decide⟩ (fun r3 Z_3 hw3 => ?_)
    subst hw3
    refine b_if_eq X 70 d_RO_closesRing_63 (by decide) (fun h63 => ?_) (fun h63 => absurd h63 (by decide))
    refine g_iconst (v := nI 0) X d_RO_closesRing_70 rfl ?_
    exact g_zret X hA9 hQ9 hr9 (by first | exact Or.inl rfl | exact Or.inr rfl) hlk9 Z_3 [0, 1, 2, 3, 4, 5] rfl rfl d_RO_closesRing_71 (rfl)

set_option maxHeartbeats 4000000 in
set_option maxRecDepth 100000 in
theorem k_RO_relateR (ho : Nat) (hr : Nat) (hs : Nat) (h : Nat) (hg : Nat) (ha : Nat) (vm : Int32) (sn : Nat) (ss : Nat) (su : Nat) (K : Nat) (xs : Nat) (fS : Nat → Int64) (rp : Nat) (ly : Nat) (ln : Int32) (ap : Nat) (P : Nat → Int32) (Y : Nat → Int64) (x : Nat) (y : Nat) (kd : Nat) (xn : Nat) (fN : Nat → Int32) (ru : Nat) (rw : Nat) (rk : Nat) (R : Nat) (sd : Nat) (i : Nat) (j : Nat) (d : Nat) (pp : Nat → Nat) (hK : K ≤ 48) (hR : R < 200) (hi : i < K) (hj : j < K) (hk : kd ≤ 4) (ex : fN i = nI x) (ey : fN j = nI y) (hx : x < 48) (hy : y < 48) (hf : ∀ z, z < 48 → ∀ j, lb (fS z) j = true → j < 48) (hT : (kd < 3 ∧ gring (gadd (rowE 48 fS) x y) x d pp) ∨ (kd = 3 ∧ x ≠ y ∧ gring (gadd (rowE 48 fS) y x) x d pp) ∨ (kd = 3 ∧ x ≠ y ∧ (∀ k, ¬ gw (gadd (rowE 48 fS) y x) (k + 1) x x) ∧ gring (gadd (rowE 48 fS) x y) y d pp)) : CtI l y_RO_relate (Cond.code y_RO_relate c_RO_relate 5 (some .int) :: TB) ({ frames := 6, cells := 0, slots := 0, locals := 141 } : Room) D (tysv cI cJ cZ cQ) [.ref ho, .int (nI i), .int (nI j), .int (nI kd)] [(ho, .inr (7, [.ref hr, .ref hs, .ref h, .ref hg, .ref ha, .int vm])), (hs, .inr (4, [.ref sn, .ref ss, .ref su, .int (nI K)])), (sn, .inr (0, [.ref xn])), (xn, .inl (cI, 48, .inl fN)), (ss, .inr (1, [.ref xs])), (xs, .inl (cJ, 48, .inr (.inl fS))), (h, .inr (3, [.ref rp, .ref ly, .int ln])), (rp, .inr (0, [.ref ap])), (ap, .inl (cI, 48, .inl P)), (ly, .inl (cJ, 48, .inr (.inl Y))), (hr, .inr (2, [.ref ru, .ref rw, .ref rk, .int (nI R), .int (nI sd)]))] 0 0 (fun (r : Int32) (u : (Nat → Int32) × (Nat → Int64)) => r = -1 ∧ ∀ j, j < d → u.1 j = nI (pp j)) (fun (u : (Nat → Int32) × (Nat → Int64)) => [(ho, .inr (7, [.ref hr, .ref hs, .ref h, .ref hg, .ref ha, .int vm])), (hs, .inr (4, [.ref sn, .ref ss, .ref su, .int (nI K)])), (sn, .inr (0, [.ref xn])), (xn, .inl (cI, 48, .inl fN)), (ss, .inr (1, [.ref xs])), (xs, .inl (cJ, 48, .inr (.inl fS))), (h, .inr (3, [.ref rp, .ref ly, .int (nI d)])), (rp, .inr (0, [.ref ap])), (ap, .inl (cI, 48, .inl u.1)), (ly, .inl (cJ, 48, .inr (.inl u.2))), (hr, .inr (2, [.ref ru, .ref rw, .ref rk, .int (nI R), .int (nI sd)]))]) := by
  refine CtI.of c_RO_relate 5 (some .int) (by decide) rfl (Nat.le_of_ble_eq_true rfl) ?_
  intro p e s m args below meth c A Q hA9 hQ9 X hr9 hlk9 hin9
  refine g_aload_n X 0 d_RO_relate_0 rfl rfl ?_
  refine g_iload_n X 1 d_RO_relate_1 rfl rfl ?_
  refine g_callvV (n := 1) X [.int (nI i)] (k_RO_checkContext ho hr hs h hg ha vm sn ss su K i (by omega) (by omega)) t2_47 t2_49 ts_3 t1_1 t2_50 rfl rfl (by decide +kernel) ⟨by decide, by decide⟩ [0, 1] [2, 3, 4, 5, 6, 7, 8, 9, 10] [(sn, .inr (0, [.ref xn])), (xn, .inl (cI, 48, .inl fN)), (ss, .inr (1, [.ref xs])), (xs, .inl (cJ, 48, .inr (.inl fS))), (h, .inr (3, [.ref rp, .ref ly, .int ln])), (rp, .inr (0, [.ref ap])), (ap, .inl (cI, 48, .inl P)), (ly, .inl (cJ, 48, .inr (.inl Y))), (hr, .inr (2, [.ref ru, .ref rw, .ref rk, .int (nI R), .int (nI sd)]))] rfl rfl rfl rfl (by decide) 0 rfl rfl rfl rfl (Nat.le_of_ble_eq_true rfl) d_RO_relate_2 ⟨by decide, by decide⟩ (fun w9u1 hw1 => ?_)
  refine g_aload_n X 0 d_RO_relate_5 rfl rfl ?_
  refine g_iload_n X 2 d_RO_relate_6 rfl rfl ?_
  refine g_callvV (n := 1) X [.int (nI j)] (k_RO_checkContext ho hr hs h hg ha vm sn ss su K j (by omega) (by omega)) t2_47 t2_49 ts_3 t1_1 t2_50 rfl rfl (by decide +kernel) ⟨by decide, by decide⟩ [9, 10] [0, 1, 2, 3, 4, 5, 6, 7, 8] [(sn, .inr (0, [.ref xn])), (xn, .inl (cI, 48, .inl fN)), (ss, .inr (1, [.ref xs])), (xs, .inl (cJ, 48, .inr (.inl fS))), (h, .inr (3, [.ref rp, .ref ly, .int ln])), (rp, .inr (0, [.ref ap])), (ap, .inl (cI, 48, .inl P)), (ly, .inl (cJ, 48, .inr (.inl Y))), (hr, .inr (2, [.ref ru, .ref rw, .ref rk, .int (nI R), .int (nI sd)]))] rfl rfl rfl rfl (by decide) 0 rfl rfl rfl rfl (Nat.le_of_ble_eq_true rfl) d_RO_relate_7 ⟨by decide, by decide⟩ (fun w9u2 hw2 => ?_)
  refine g_iload_n X 3 d_RO_relate_10 rfl rfl ?_
  refine n_if_lt X 19 d_RO_relate_11 (by decide) (by omega) (fun h11 => absurd h11 (by omega)) (fun h11 => ?_)
  refine g_iload_n X 3 d_RO_relate_14 rfl rfl ?_
  refine g_iconst (v := nI 4) X d_RO_relate_15 rfl ?_
  refine n_icmp_le X 29 d_RO_relate_16 (by decide) (by omega) (by omega) (fun h16 => ?_) (fun h16 => absurd h16 (by omega))
  refine g_aload_n X 0 d_RO_relate_29 rfl rfl ?_
  refine g_get (C := R_RO) (T := T_RO) (N := 6) X 9 0 in_RO rfl rfl (by decide) t1_142 rfl rfl d_RO_relate_30 ?_
  refine g_calliV (n := 0) X [] (k_Relations_made hr ru rw rk R sd ) t2_68 t2_69 t2_70 t1_2 t2_71 rfl rfl (by decide +kernel) ⟨by decide, by decide⟩ [8] [0, 1, 2, 3, 4, 5, 6, 7, 9, 10] [(sn, .inr (0, [.ref xn])), (xn, .inl (cI, 48, .inl fN)), (ss, .inr (1, [.ref xs])), (xs, .inl (cJ, 48, .inr (.inl fS))), (h, .inr (3, [.ref rp, .ref ly, .int ln])), (rp, .inr (0, [.ref ap])), (ap, .inl (cI, 48, .inl P)), (ly, .inl (cJ, 48, .inr (.inl Y))), (ho, .inr (7, [.ref hr, .ref hs, .ref h, .ref hg, .ref ha, .int vm])), (hs, .inr (4, [.ref sn, .ref ss, .ref su, .int (nI K)]))] rfl rfl rfl rfl (by decide) 0 rfl rfl rfl rfl (Nat.le_of_ble_eq_true rfl) d_RO_relate_33 ⟨by decide, by decide⟩ (fun r3 w9u3 hw3 => ?_)
  subst hw3
  refine g_sipush (v := nI 200) X d_RO_relate_36 rfl ?_
  refine n_icmp_lt X 52 d_RO_relate_39 (by decide) (by omega) (by omega) (fun h39 => ?_) (fun h39 => absurd h39 (by omega))
  refine g_aload_n X 0 d_RO_relate_52 rfl rfl ?_
  refine g_aload_n X 0 d_RO_relate_53 rfl rfl ?_
  refine g_get (C := R_RO) (T := T_RO) (N := 6) X 8 1 in_RO rfl rfl (by decide) t1_143 rfl rfl d_RO_relate_54 ?_
  refine g_iload_n X 1 d_RO_relate_57 rfl rfl ?_
  refine g_calliV (n := 1) X [.int (nI i)] (k_Strata_numberOf hs sn ss su K xn fN i (by omega)) t2_73 t2_74 t2_75 t1_5 t2_76 rfl rfl (by decide +kernel) ⟨by decide, by decide⟩ [9, 0, 1] [2, 3, 4, 5, 6, 7, 8, 10] [(ss, .inr (1, [.ref xs])), (xs, .inl (cJ, 48, .inr (.inl fS))), (h, .inr (3, [.ref rp, .ref ly, .int ln])), (rp, .inr (0, [.ref ap])), (ap, .inl (cI, 48, .inl P)), (ly, .inl (cJ, 48, .inr (.inl Y))), (ho, .inr (7, [.ref hr, .ref hs, .ref h, .ref hg, .ref ha, .int vm])), (hr, .inr (2, [.ref ru, .ref rw, .ref rk, .int (nI R), .int (nI sd)]))] rfl rfl rfl rfl (by decide) 0 rfl rfl rfl rfl (Nat.le_of_ble_eq_true rfl) d_RO_relate_58 ⟨by decide, by decide⟩ (fun r4 w9u4 hw4 => ?_)
  subst hw4
  rw [ex]
  refine g_aload_n X 0 d_RO_relate_61 rfl rfl ?_
  refine g_get (C := R_RO) (T := T_RO) (N := 6) X 6 1 in_RO rfl rfl (by decide) t1_143 rfl rfl d_RO_relate_62 ?_
  refine g_iload_n X 2 d_RO_relate_65 rfl rfl ?_
  refine g_calliV (n := 1) X [.int (nI j)] (k_Strata_numberOf hs sn ss su K xn fN j (by omega)) t2_73 t2_74 t2_75 t1_5 t2_76 rfl rfl (by decide +kernel) ⟨by decide, by decide⟩ [8, 9, 10] [0, 1, 2, 3, 4, 5, 6, 7] [(ss, .inr (1, [.ref xs])), (xs, .inl (cJ, 48, .inr (.inl fS))), (h, .inr (3, [.ref rp, .ref ly, .int ln])), (rp, .inr (0, [.ref ap])), (ap, .inl (cI, 48, .inl P)), (ly, .inl (cJ, 48, .inr (.inl Y))), (ho, .inr (7, [.ref hr, .ref hs, .ref h, .ref hg, .ref ha, .int vm])), (hr, .inr (2, [.ref ru, .ref rw, .ref rk, .int (nI R), .int (nI sd)]))] rfl rfl rfl rfl (by decide) 0 rfl rfl rfl rfl (Nat.le_of_ble_eq_true rfl) d_RO_relate_66 ⟨by decide, by decide⟩ (fun r5 w9u5 hw5 => ?_)
  subst hw5
  rw [ey]
  refine g_iload_n X 3 d_RO_relate_69 rfl rfl ?_
  refine g_calliV (n := 3) X [.int (nI x), .int (nI y), .int (nI kd)] (k_RO_closesRing ho hr hs h hg ha vm sn ss su K xs fS rp ly ln ap P Y x y kd d pp (by omega) (by omega) (hf) (by omega) (hT)) t2_81 t2_83 ts_4 t1_1 t2_84 rfl rfl (by decide +kernel) ⟨by decide, by decide⟩ [6, 8, 0, 1, 2, 3, 4, 5] [7, 9, 10] [(hr, .inr (2, [.ref ru, .ref rw, .ref rk, .int (nI R), .int (nI sd)])), (sn, .inr (0, [.ref xn])), (xn, .inl (cI, 48, .inl fN))] rfl rfl rfl rfl (by decide) 0 rfl rfl rfl rfl (Nat.le_of_ble_eq_true rfl) d_RO_relate_70 ⟨by decide, by decide⟩ (fun r6 ⟨P2_6, Z_6⟩ hPP => ?_)
  obtain ⟨rfl, hPP⟩ := hPP
  refine b_if_eq X 78 d_RO_relate_73 (by decide) (fun h73 => absurd h73 (by decide)) (fun h73 => ?_)
  refine g_iconst (v := -1) X d_RO_relate_76 rfl ?_
  exact g_iret X hA9 hQ9 hr9 hlk9 ⟨P2_6, Z_6⟩ [3, 4, 1, 2, 5, 6, 7, 8, 9, 10, 0] rfl rfl d_RO_relate_77 (by (try dsimp only); exact (⟨rfl, hPP⟩))

set_option maxHeartbeats 4000000 in
set_option maxRecDepth 100000 in
theorem k_RO_relateC (ho : Nat) (hr : Nat) (hs : Nat) (h : Nat) (hg : Nat) (ha : Nat) (vm : Int32) (sn : Nat) (ss : Nat) (su : Nat) (K : Nat) (xs : Nat) (fS : Nat → Int64) (rp : Nat) (ly : Nat) (ln : Int32) (Y : Nat → Int64) (x : Nat) (y : Nat) (xn : Nat) (fN : Nat → Int32) (ru : Nat) (rw : Nat) (rk : Nat) (R : Nat) (sd : Nat) (i : Nat) (j : Nat) (au : Nat) (aw : Nat) (ak : Nat) (fA : Nat → Int32) (fB : Nat → Int32) (fK : Nat → Int32) (hK : K ≤ 48) (hR : R < 200) (hi : i < K) (hj : j < K) (ex : fN i = nI x) (ey : fN j = nI y) (hx : x < 48) (hy : y < 48) (hf : ∀ z, z < 48 → ∀ j, lb (fS z) j = true → j < 48) (hs9 : sd ≤ 200) : CtI l y_RO_relate (Cond.code y_RO_relate c_RO_relate 5 (some .int) :: TB) ({ frames := 5, cells := 0, slots := 0, locals := 125 } : Room) D (tysv cI cJ cZ cQ) [.ref ho, .int (nI i), .int (nI j), .int (nI 4)] [(ho, .inr (7, [.ref hr, .ref hs, .ref h, .ref hg, .ref ha, .int vm])), (hs, .inr (4, [.ref sn, .ref ss, .ref su, .int (nI K)])), (sn, .inr (0, [.ref xn])), (xn, .inl (cI, 48, .inl fN)), (ss, .inr (1, [.ref xs])), (xs, .inl (cJ, 48, .inr (.inl fS))), (h, .inr (3, [.ref rp, .ref ly, .int ln])), (ly, .inl (cJ, 48, .inr (.inl Y))), (hr, .inr (2, [.ref ru, .ref rw, .ref rk, .int (nI R), .int (nI sd)])), (ru, .inr (0, [.ref au])), (au, .inl (cI, 200, .inl fA)), (rw, .inr (0, [.ref aw])), (aw, .inl (cI, 200, .inl fB)), (rk, .inr (0, [.ref ak])), (ak, .inl (cI, 200, .inl fK))] 0 0 (fun (r : Int32) (Z : Nat → Int64) => r = nI R) (fun (Z : Nat → Int64) => [(ho, .inr (7, [.ref hr, .ref hs, .ref h, .ref hg, .ref ha, .int vm])), (hs, .inr (4, [.ref sn, .ref ss, .ref su, .int (nI K)])), (sn, .inr (0, [.ref xn])), (xn, .inl (cI, 48, .inl fN)), (ss, .inr (1, [.ref xs])), (xs, .inl (cJ, 48, .inr (.inl fS))), (h, .inr (3, [.ref rp, .ref ly, .int ln])), (ly, .inl (cJ, 48, .inr (.inl Z))), (hr, .inr (2, [.ref ru, .ref rw, .ref rk, .int (nI (R + 1)), .int (nI (sd + 1))])), (ru, .inr (0, [.ref au])), (au, .inl (cI, 200, .inl (upd fA R (nI i)))), (rw, .inr (0, [.ref aw])), (aw, .inl (cI, 200, .inl (upd fB R (nI j)))), (rk, .inr (0, [.ref ak])), (ak, .inl (cI, 200, .inl (upd fK R (nI 4))))]) := by
  refine CtI.of c_RO_relate 5 (some .int) (by decide) rfl (Nat.le_of_ble_eq_true rfl) ?_
  intro p e s m args below meth c A Q hA9 hQ9 X hr9 hlk9 hin9
  refine g_aload_n X 0 d_RO_relate_0 rfl rfl ?_
  refine g_iload_n X 1 d_RO_relate_1 rfl rfl ?_
  refine g_callvV (n := 1) X [.int (nI i)] (k_RO_checkContext ho hr hs h hg ha vm sn ss su K i (by omega) (by omega)) t2_47 t2_49 ts_3 t1_1 t2_50 rfl rfl (by decide +kernel) ⟨by decide, by decide⟩ [0, 1] [2, 3, 4, 5, 6, 7, 8, 9, 10, 11, 12, 13, 14] [(sn, .inr (0, [.ref xn])), (xn, .inl (cI, 48, .inl fN)), (ss, .inr (1, [.ref xs])), (xs, .inl (cJ, 48, .inr (.inl fS))), (h, .inr (3, [.ref rp, .ref ly, .int ln])), (ly, .inl (cJ, 48, .inr (.inl Y))), (hr, .inr (2, [.ref ru, .ref rw, .ref rk, .int (nI R), .int (nI sd)])), (ru, .inr (0, [.ref au])), (au, .inl (cI, 200, .inl fA)), (rw, .inr (0, [.ref aw])), (aw, .inl (cI, 200, .inl fB)), (rk, .inr (0, [.ref ak])), (ak, .inl (cI, 200, .inl fK))] rfl rfl rfl rfl (by decide) 0 rfl rfl rfl rfl (Nat.le_of_ble_eq_true rfl) d_RO_relate_2 ⟨by decide, by decide⟩ (fun w9u1 hw1 => ?_)
  refine g_aload_n X 0 d_RO_relate_5 rfl rfl ?_
  refine g_iload_n X 2 d_RO_relate_6 rfl rfl ?_
  refine g_callvV (n := 1) X [.int (nI j)] (k_RO_checkContext ho hr hs h hg ha vm sn ss su K j (by omega) (by omega)) t2_47 t2_49 ts_3 t1_1 t2_50 rfl rfl (by decide +kernel) ⟨by decide, by decide⟩ [13, 14] [0, 1, 2, 3, 4, 5, 6, 7, 8, 9, 10, 11, 12] [(sn, .inr (0, [.ref xn])), (xn, .inl (cI, 48, .inl fN)), (ss, .inr (1, [.ref xs])), (xs, .inl (cJ, 48, .inr (.inl fS))), (h, .inr (3, [.ref rp, .ref ly, .int ln])), (ly, .inl (cJ, 48, .inr (.inl Y))), (hr, .inr (2, [.ref ru, .ref rw, .ref rk, .int (nI R), .int (nI sd)])), (ru, .inr (0, [.ref au])), (au, .inl (cI, 200, .inl fA)), (rw, .inr (0, [.ref aw])), (aw, .inl (cI, 200, .inl fB)), (rk, .inr (0, [.ref ak])), (ak, .inl (cI, 200, .inl fK))] rfl rfl rfl rfl (by decide) 0 rfl rfl rfl rfl (Nat.le_of_ble_eq_true rfl) d_RO_relate_7 ⟨by decide, by decide⟩ (fun w9u2 hw2 => ?_)
  refine g_iload_n X 3 d_RO_relate_10 rfl rfl ?_
  refine n_if_lt X 19 d_RO_relate_11 (by decide) (by omega) (fun h11 => absurd h11 (by omega)) (fun h11 => ?_)
  refine g_iload_n X 3 d_RO_relate_14 rfl rfl ?_
  refine g_iconst (v := nI 4) X d_RO_relate_15 rfl ?_
  refine n_icmp_le X 29 d_RO_relate_16 (by decide) (by omega) (by omega) (fun h16 => ?_) (fun h16 => absurd h16 (by omega))
  refine g_aload_n X 0 d_RO_relate_29 rfl rfl ?_
  refine g_get (C := R_RO) (T := T_RO) (N := 6) X 13 0 in_RO rfl rfl (by decide) t1_142 rfl rfl d_RO_relate_30 ?_
  refine g_calliV (n := 0) X [] (k_Relations_made hr ru rw rk R sd ) t2_68 t2_69 t2_70 t1_2 t2_71 rfl rfl (by decide +kernel) ⟨by decide, by decide⟩ [6] [0, 1, 2, 3, 4, 5, 7, 8, 9, 10, 11, 12, 13, 14] [(sn, .inr (0, [.ref xn])), (xn, .inl (cI, 48, .inl fN)), (ss, .inr (1, [.ref xs])), (xs, .inl (cJ, 48, .inr (.inl fS))), (h, .inr (3, [.ref rp, .ref ly, .int ln])), (ly, .inl (cJ, 48, .inr (.inl Y))), (ru, .inr (0, [.ref au])), (au, .inl (cI, 200, .inl fA)), (rw, .inr (0, [.ref aw])), (aw, .inl (cI, 200, .inl fB)), (rk, .inr (0, [.ref ak])), (ak, .inl (cI, 200, .inl fK)), (ho, .inr (7, [.ref hr, .ref hs, .ref h, .ref hg, .ref ha, .int vm])), (hs, .inr (4, [.ref sn, .ref ss, .ref su, .int (nI K)]))] rfl rfl rfl rfl (by decide) 0 rfl rfl rfl rfl (Nat.le_of_ble_eq_true rfl) d_RO_relate_33 ⟨by decide, by decide⟩ (fun r3 w9u3 hw3 => ?_)
  subst hw3
  refine g_sipush (v := nI 200) X d_RO_relate_36 rfl ?_
  refine n_icmp_lt X 52 d_RO_relate_39 (by decide) (by omega) (by omega) (fun h39 => ?_) (fun h39 => absurd h39 (by omega))
  refine g_aload_n X 0 d_RO_relate_52 rfl rfl ?_
  refine g_aload_n X 0 d_RO_relate_53 rfl rfl ?_
  refine g_get (C := R_RO) (T := T_RO) (N := 6) X 12 1 in_RO rfl rfl (by decide) t1_143 rfl rfl d_RO_relate_54 ?_
  refine g_iload_n X 1 d_RO_relate_57 rfl rfl ?_
  refine g_calliV (n := 1) X [.int (nI i)] (k_Strata_numberOf hs sn ss su K xn fN i (by omega)) t2_73 t2_74 t2_75 t1_5 t2_76 rfl rfl (by decide +kernel) ⟨by decide, by decide⟩ [13, 0, 1] [2, 3, 4, 5, 6, 7, 8, 9, 10, 11, 12, 14] [(ss, .inr (1, [.ref xs])), (xs, .inl (cJ, 48, .inr (.inl fS))), (h, .inr (3, [.ref rp, .ref ly, .int ln])), (ly, .inl (cJ, 48, .inr (.inl Y))), (ru, .inr (0, [.ref au])), (au, .inl (cI, 200, .inl fA)), (rw, .inr (0, [.ref aw])), (aw, .inl (cI, 200, .inl fB)), (rk, .inr (0, [.ref ak])), (ak, .inl (cI, 200, .inl fK)), (ho, .inr (7, [.ref hr, .ref hs, .ref h, .ref hg, .ref ha, .int vm])), (hr, .inr (2, [.ref ru, .ref rw, .ref rk, .int (nI R), .int (nI sd)]))] rfl rfl rfl rfl (by decide) 0 rfl rfl rfl rfl (Nat.le_of_ble_eq_true rfl) d_RO_relate_58 ⟨by decide, by decide⟩ (fun r4 w9u4 hw4 => ?_)
  subst hw4
  rw [ex]
  refine g_aload_n X 0 d_RO_relate_61 rfl rfl ?_
  refine g_get (C := R_RO) (T := T_RO) (N := 6) X 10 1 in_RO rfl rfl (by decide) t1_143 rfl rfl d_RO_relate_62 ?_
  refine g_iload_n X 2 d_RO_relate_65 rfl rfl ?_
  refine g_calliV (n := 1) X [.int (nI j)] (k_Strata_numberOf hs sn ss su K xn fN j (by omega)) t2_73 t2_74 t2_75 t1_5 t2_76 rfl rfl (by decide +kernel) ⟨by decide, by decide⟩ [12, 13, 14] [0, 1, 2, 3, 4, 5, 6, 7, 8, 9, 10, 11] [(ss, .inr (1, [.ref xs])), (xs, .inl (cJ, 48, .inr (.inl fS))), (h, .inr (3, [.ref rp, .ref ly, .int ln])), (ly, .inl (cJ, 48, .inr (.inl Y))), (ru, .inr (0, [.ref au])), (au, .inl (cI, 200, .inl fA)), (rw, .inr (0, [.ref aw])), (aw, .inl (cI, 200, .inl fB)), (rk, .inr (0, [.ref ak])), (ak, .inl (cI, 200, .inl fK)), (ho, .inr (7, [.ref hr, .ref hs, .ref h, .ref hg, .ref ha, .int vm])), (hr, .inr (2, [.ref ru, .ref rw, .ref rk, .int (nI R), .int (nI sd)]))] rfl rfl rfl rfl (by decide) 0 rfl rfl rfl rfl (Nat.le_of_ble_eq_true rfl) d_RO_relate_66 ⟨by decide, by decide⟩ (fun r5 w9u5 hw5 => ?_)
  subst hw5
  rw [ey]
  refine g_iload_n X 3 d_RO_relate_69 rfl rfl ?_
  refine g_calliV (n := 3) X [.int (nI x), .int (nI y), .int (nI 4)] (k_RO_closesRingN ho hr hs h hg ha vm sn ss su K xs fS rp ly ln Y x y 4 (by omega) (by omega) (hf) (by omega) (Or.inl rfl)) t2_81 t2_83 ts_4 t1_1 t2_84 rfl rfl (by decide +kernel) ⟨by decide, by decide⟩ [10, 12, 0, 1, 2, 3] [4, 5, 6, 7, 8, 9, 11, 13, 14] [(ru, .inr (0, [.ref au])), (au, .inl (cI, 200, .inl fA)), (rw, .inr (0, [.ref aw])), (aw, .inl (cI, 200, .inl fB)), (rk, .inr (0, [.ref ak])), (ak, .inl (cI, 200, .inl fK)), (hr, .inr (2, [.ref ru, .ref rw, .ref rk, .int (nI R), .int (nI sd)])), (sn, .inr (0, [.ref xn])), (xn, .inl (cI, 48, .inl fN))] rfl rfl rfl rfl (by decide) 0 rfl rfl rfl rfl (Nat.le_of_ble_eq_true rfl) d_RO_relate_70 ⟨by decide, by decide⟩ (fun r6 Z_6 hw6 => ?_)
  subst hw6
  refine b_if_eq X 78 d_RO_relate_73 (by decide) (fun h73 => ?_) (fun h73 => absurd h73 (by decide))
  refine g_aload_n X 0 d_RO_relate_78 rfl rfl ?_
  refine g_get (C := R_RO) (T := T_RO) (N := 6) X 9 0 in_RO rfl rfl (by decide) t1_142 rfl rfl d_RO_relate_79 ?_
  refine g_iload_n X 1 d_RO_relate_82 rfl rfl ?_
  refine g_iload_n X 2 d_RO_relate_83 rfl rfl ?_
  refine g_iload_n X 3 d_RO_relate_84 rfl rfl ?_
  refine g_calliV (n := 3) X [.int (nI i), .int (nI j), .int (nI 4)] (k_Relations_add hr ru rw rk R sd au aw ak fA fB fK (nI i) (nI j) (nI 4) (by omega) (by omega)) t2_119 t2_120 t2_121 t1_2 t2_122 rfl rfl (by decide +kernel) ⟨by decide, by decide⟩ [6, 0, 1, 2, 3, 4, 5] [7, 8, 9, 10, 11, 12, 13, 14] [(sn, .inr (0, [.ref xn])), (xn, .inl (cI, 48, .inl fN)), (ho, .inr (7, [.ref hr, .ref hs, .ref h, .ref hg, .ref ha, .int vm])), (hs, .inr (4, [.ref sn, .ref ss, .ref su, .int (nI K)])), (ss, .inr (1, [.ref xs])), (xs, .inl (cJ, 48, .inr (.inl fS))), (h, .inr (3, [.ref rp, .ref ly, .int ln])), (ly, .inl (cJ, 48, .inr (.inl Z_6)))] rfl rfl rfl rfl (by decide) 0 rfl rfl rfl rfl (Nat.le_of_ble_eq_true rfl) d_RO_relate_85 ⟨by decide, by decide⟩ (fun r7 w9u7 hw7 => ?_)
  subst hw7
  refine g_istore X [(4, .int (nI R)), (0, .ref ho), (1, .int (nI i)), (2, .int (nI j)), (3, .int (nI 4))] d_RO_relate_88 (by decide) rfl ?_
  refine g_iload_n X 3 d_RO_relate_90 rfl rfl ?_
  refine g_iconst (v := nI 4) X d_RO_relate_91 rfl ?_
  refine n_icmp_eq X 106 d_RO_relate_92 (by decide) (by omega) (by omega) (fun h92 => ?_) (fun h92 => absurd h92 (by omega))
  refine g_iload X 4 d_RO_relate_106 rfl ?_
  exact g_iret X hA9 hQ9 hr9 hlk9 Z_6 [2, 3, 0, 1, 4, 5, 6, 7, 8, 9, 10, 11, 12, 13, 14] rfl rfl d_RO_relate_108 (rfl)

set_option maxHeartbeats 4000000 in
set_option maxRecDepth 100000 in
theorem k_RO_relateA (ho : Nat) (hr : Nat) (hs : Nat) (h : Nat) (hg : Nat) (ha : Nat) (vm : Int32) (sn : Nat) (ss : Nat) (su : Nat) (K : Nat) (xs : Nat) (fS : Nat → Int64) (rp : Nat) (ly : Nat) (ln : Int32) (Y : Nat → Int64) (x : Nat) (y : Nat) (kd : Nat) (xn : Nat) (fN : Nat → Int32) (ru : Nat) (rw : Nat) (rk : Nat) (R : Nat) (sd : Nat) (i : Nat) (j : Nat) (au : Nat) (aw : Nat) (ak : Nat) (fA : Nat → Int32) (fB : Nat → Int32) (fK : Nat → Int32) (xu : Nat) (fU : Nat → Int64) (a : Nat → Nat) (b : Nat → Nat) (hK : K ≤ 48) (hR : R < 200) (hi : i < K) (hj : j < K) (hk : kd ≤ 4) (ex : fN i = nI x) (ey : fN j = nI y) (hx : x < 48) (hy : y < 48) (hf : ∀ z, z < 48 → ∀ j, lb (fS z) j = true → j < 48) (hs9 : sd ≤ 200) (hk4 : kd < 4) (hT : kd = 4 ∨ (kd < 3 ∧ (∀ k, ¬ gw (gadd (rowE 48 fS) x y) (k + 1) x x)) ∨ (kd = 3 ∧ x = y) ∨ (kd = 3 ∧ x ≠ y ∧ (∀ k, ¬ gw (gadd (rowE 48 fS) y x) (k + 1) x x) ∧ (∀ k, ¬ gw (gadd (rowE 48 fS) x y) (k + 1) y y))) (hA : ∀ r, r < R → fA r = nI (a r) ∧ a r < K) (hB : ∀ r, r < R → fB r = nI (b r) ∧ b r < K) (hN : ∀ k, K ≤ k → k < 48 → fN k = -1) : CtI l y_RO_relate (Cond.code y_RO_relate c_RO_relate 5 (some .int) :: TB) ({ frames := 5, cells := 0, slots := 0, locals := 125 } : Room) D (tysv cI cJ cZ cQ) [.ref ho, .int (nI i), .int (nI j), .int (nI kd)] [(ho, .inr (7, [.ref hr, .ref hs, .ref h, .ref hg, .ref ha, .int vm])), (hs, .inr (4, [.ref sn, .ref ss, .ref su, .int (nI K)])), (sn, .inr (0, [.ref xn])), (xn, .inl (cI, 48, .inl fN)), (ss, .inr (1, [.ref xs])), (xs, .inl (cJ, 48, .inr (.inl fS))), (su, .inr (1, [.ref xu])), (xu, .inl (cJ, 48, .inr (.inl fU))), (h, .inr (3, [.ref rp, .ref ly, .int ln])), (ly, .inl (cJ, 48, .inr (.inl Y))), (hr, .inr (2, [.ref ru, .ref rw, .ref rk, .int (nI R), .int (nI sd)])), (ru, .inr (0, [.ref au])), (au, .inl (cI, 200, .inl fA)), (rw, .inr (0, [.ref aw])), (aw, .inl (cI, 200, .inl fB)), (rk, .inr (0, [.ref ak])), (ak, .inl (cI, 200, .inl fK))] 0 0 (fun (r : Int32) (u : (Nat → Int64) × (Nat → Int32) × (Nat → Int64) × (Nat → Int64)) => r = nI R ∧ (∀ x, x < K → u.2.1 x = nI (jnum (addN a R i) (addN b R j) (fun r => isEq (upd fK R (nI kd) r)) (R + 1) x)) ∧ (∀ k, K ≤ k → k < 48 → u.2.1 k = -1) ∧ (∀ x, x < 48 → ∀ z9, lb (u.2.2.1 x) z9 = (jst (addN a R i) (addN b R j) (jnum (addN a R i) (addN b R j) (fun r => isEq (upd fK R (nI kd) r)) (R + 1)) (fun r => isAb (upd fK R (nI kd) r)) (R + 1)) x z9) ∧ ∀ x, x < 48 → ∀ z9, lb (u.2.2.2 x) z9 = gwar (jst (addN a R i) (addN b R j) (jnum (addN a R i) (addN b R j) (fun r => isEq (upd fK R (nI kd) r)) (R + 1)) (fun r => isAb (upd fK R (nI kd) r)) (R + 1)) 48 x z9) (fun (u : (Nat → Int64) × (Nat → Int32) × (Nat → Int64) × (Nat → Int64)) => [(ho, .inr (7, [.ref hr, .ref hs, .ref h, .ref hg, .ref ha, .int vm])), (hs, .inr (4, [.ref sn, .ref ss, .ref su, .int (nI K)])), (sn, .inr (0, [.ref xn])), (xn, .inl (cI, 48, .inl u.2.1)), (ss, .inr (1, [.ref xs])), (xs, .inl (cJ, 48, .inr (.inl u.2.2.1))), (su, .inr (1, [.ref xu])), (xu, .inl (cJ, 48, .inr (.inl u.2.2.2))), (h, .inr (3, [.ref rp, .ref ly, .int ln])), (ly, .inl (cJ, 48, .inr (.inl u.1))), (hr, .inr (2, [.ref ru, .ref rw, .ref rk, .int (nI (R + 1)), .int (nI (sd + 1))])), (ru, .inr (0, [.ref au])), (au, .inl (cI, 200, .inl (upd fA R (nI i)))), (rw, .inr (0, [.ref aw])), (aw, .inl (cI, 200, .inl (upd fB R (nI j)))), (rk, .inr (0, [.ref ak])), (ak, .inl (cI, 200, .inl (upd fK R (nI kd))))]) := by
  refine CtI.of c_RO_relate 5 (some .int) (by decide) rfl (Nat.le_of_ble_eq_true rfl) ?_
  intro p e s m args below meth c A Q hA9 hQ9 X hr9 hlk9 hin9
  refine g_aload_n X 0 d_RO_relate_0 rfl rfl ?_
  refine g_iload_n X 1 d_RO_relate_1 rfl rfl ?_
  refine g_callvV (n := 1) X [.int (nI i)] (k_RO_checkContext ho hr hs h hg ha vm sn ss su K i (by omega) (by omega)) t2_47 t2_49 ts_3 t1_1 t2_50 rfl rfl (by decide +kernel) ⟨by decide, by decide⟩ [0, 1] [2, 3, 4, 5, 6, 7, 8, 9, 10, 11, 12, 13, 14, 15, 16] [(sn, .inr (0, [.ref xn])), (xn, .inl (cI, 48, .inl fN)), (ss, .inr (1, [.ref xs])), (xs, .inl (cJ, 48, .inr (.inl fS))), (su, .inr (1, [.ref xu])), (xu, .inl (cJ, 48, .inr (.inl fU))), (h, .inr (3, [.ref rp, .ref ly, .int ln])), (ly, .inl (cJ, 48, .inr (.inl Y))), (hr, .inr (2, [.ref ru, .ref rw, .ref rk, .int (nI R), .int (nI sd)])), (ru, .inr (0, [.ref au])), (au, .inl (cI, 200, .inl fA)), (rw, .inr (0, [.ref aw])), (aw, .inl (cI, 200, .inl fB)), (rk, .inr (0, [.ref ak])), (ak, .inl (cI, 200, .inl fK))] rfl rfl rfl rfl (by decide) 0 rfl rfl rfl rfl (Nat.le_of_ble_eq_true rfl) d_RO_relate_2 ⟨by decide, by decide⟩ (fun w9u1 hw1 => ?_)
  refine g_aload_n X 0 d_RO_relate_5 rfl rfl ?_
  refine g_iload_n X 2 d_RO_relate_6 rfl rfl ?_
  refine g_callvV (n := 1) X [.int (nI j)] (k_RO_checkContext ho hr hs h hg ha vm sn ss su K j (by omega) (by omega)) t2_47 t2_49 ts_3 t1_1 t2_50 rfl rfl (by decide +kernel) ⟨by decide, by decide⟩ [15, 16] [0, 1, 2, 3, 4, 5, 6, 7, 8, 9, 10, 11, 12, 13, 14] [(sn, .inr (0, [.ref xn])), (xn, .inl (cI, 48, .inl fN)), (ss, .inr (1, [.ref xs])), (xs, .inl (cJ, 48, .inr (.inl fS))), (su, .inr (1, [.ref xu])), (xu, .inl (cJ, 48, .inr (.inl fU))), (h, .inr (3, [.ref rp, .ref ly, .int ln])), (ly, .inl (cJ, 48, .inr (.inl Y))), (hr, .inr (2, [.ref ru, .ref rw, .ref rk, .int (nI R), .int (nI sd)])), (ru, .inr (0, [.ref au])), (au, .inl (cI, 200, .inl fA)), (rw, .inr (0, [.ref aw])), (aw, .inl (cI, 200, .inl fB)), (rk, .inr (0, [.ref ak])), (ak, .inl (cI, 200, .inl fK))] rfl rfl rfl rfl (by decide) 0 rfl rfl rfl rfl (Nat.le_of_ble_eq_true rfl) d_RO_relate_7 ⟨by decide, by decide⟩ (fun w9u2 hw2 => ?_)
  refine g_iload_n X 3 d_RO_relate_10 rfl rfl ?_
  refine n_if_lt X 19 d_RO_relate_11 (by decide) (by omega) (fun h11 => absurd h11 (by omega)) (fun h11 => ?_)
  refine g_iload_n X 3 d_RO_relate_14 rfl rfl ?_
  refine g_iconst (v := nI 4) X d_RO_relate_15 rfl ?_
  refine n_icmp_le X 29 d_RO_relate_16 (by decide) (by omega) (by omega) (fun h16 => ?_) (fun h16 => absurd h16 (by omega))
  refine g_aload_n X 0 d_RO_relate_29 rfl rfl ?_
  refine g_get (C := R_RO) (T := T_RO) (N := 6) X 15 0 in_RO rfl rfl (by decide) t1_142 rfl rfl d_RO_relate_30 ?_
  refine g_calliV (n := 0) X [] (k_Relations_made hr ru rw rk R sd ) t2_68 t2_69 t2_70 t1_2 t2_71 rfl rfl (by decide +kernel) ⟨by decide, by decide⟩ [8] [0, 1, 2, 3, 4, 5, 6, 7, 9, 10, 11, 12, 13, 14, 15, 16] [(sn, .inr (0, [.ref xn])), (xn, .inl (cI, 48, .inl fN)), (ss, .inr (1, [.ref xs])), (xs, .inl (cJ, 48, .inr (.inl fS))), (su, .inr (1, [.ref xu])), (xu, .inl (cJ, 48, .inr (.inl fU))), (h, .inr (3, [.ref rp, .ref ly, .int ln])), (ly, .inl (cJ, 48, .inr (.inl Y))), (ru, .inr (0, [.ref au])), (au, .inl (cI, 200, .inl fA)), (rw, .inr (0, [.ref aw])), (aw, .inl (cI, 200, .inl fB)), (rk, .inr (0, [.ref ak])), (ak, .inl (cI, 200, .inl fK)), (ho, .inr (7, [.ref hr, .ref hs, .ref h, .ref hg, .ref ha, .int vm])), (hs, .inr (4, [.ref sn, .ref ss, .ref su, .int (nI K)]))] rfl rfl rfl rfl (by decide) 0 rfl rfl rfl rfl (Nat.le_of_ble_eq_true rfl) d_RO_relate_33 ⟨by decide, by decide⟩ (fun r3 w9u3 hw3 => ?_)
  subst hw3
  refine g_sipush (v := nI 200) X d_RO_relate_36 rfl ?_
  refine n_icmp_lt X 52 d_RO_relate_39 (by decide) (by omega) (by omega) (fun h39 => ?_) (fun h39 => absurd h39 (by omega))
  refine g_aload_n X 0 d_RO_relate_52 rfl rfl ?_
  refine g_aload_n X 0 d_RO_relate_53 rfl rfl ?_
  refine g_get (C := R_RO) (T := T_RO) (N := 6) X 14 1 in_RO rfl rfl (by decide) t1_143 rfl rfl d_RO_relate_54 ?_
  refine g_iload_n X 1 d_RO_relate_57 rfl rfl ?_
  refine g_calliV (n := 1) X [.int (nI i)] (k_Strata_numberOf hs sn ss su K xn fN i (by omega)) t2_73 t2_74 t2_75 t1_5 t2_76 rfl rfl (by decide +kernel) ⟨by decide, by decide⟩ [15, 0, 1] [2, 3, 4, 5, 6, 7, 8, 9, 10, 11, 12, 13, 14, 16] [(ss, .inr (1, [.ref xs])), (xs, .inl (cJ, 48, .inr (.inl fS))), (su, .inr (1, [.ref xu])), (xu, .inl (cJ, 48, .inr (.inl fU))), (h, .inr (3, [.ref rp, .ref ly, .int ln])), (ly, .inl (cJ, 48, .inr (.inl Y))), (ru, .inr (0, [.ref au])), (au, .inl (cI, 200, .inl fA)), (rw, .inr (0, [.ref aw])), (aw, .inl (cI, 200, .inl fB)), (rk, .inr (0, [.ref ak])), (ak, .inl (cI, 200, .inl fK)), (ho, .inr (7, [.ref hr, .ref hs, .ref h, .ref hg, .ref ha, .int vm])), (hr, .inr (2, [.ref ru, .ref rw, .ref rk, .int (nI R), .int (nI sd)]))] rfl rfl rfl rfl (by decide) 0 rfl rfl rfl rfl (Nat.le_of_ble_eq_true rfl) d_RO_relate_58 ⟨by decide, by decide⟩ (fun r4 w9u4 hw4 => ?_)
  subst hw4
  rw [ex]
  refine g_aload_n X 0 d_RO_relate_61 rfl rfl ?_
  refine g_get (C := R_RO) (T := T_RO) (N := 6) X 12 1 in_RO rfl rfl (by decide) t1_143 rfl rfl d_RO_relate_62 ?_
  refine g_iload_n X 2 d_RO_relate_65 rfl rfl ?_
  refine g_calliV (n := 1) X [.int (nI j)] (k_Strata_numberOf hs sn ss su K xn fN j (by omega)) t2_73 t2_74 t2_75 t1_5 t2_76 rfl rfl (by decide +kernel) ⟨by decide, by decide⟩ [14, 15, 16] [0, 1, 2, 3, 4, 5, 6, 7, 8, 9, 10, 11, 12, 13] [(ss, .inr (1, [.ref xs])), (xs, .inl (cJ, 48, .inr (.inl fS))), (su, .inr (1, [.ref xu])), (xu, .inl (cJ, 48, .inr (.inl fU))), (h, .inr (3, [.ref rp, .ref ly, .int ln])), (ly, .inl (cJ, 48, .inr (.inl Y))), (ru, .inr (0, [.ref au])), (au, .inl (cI, 200, .inl fA)), (rw, .inr (0, [.ref aw])), (aw, .inl (cI, 200, .inl fB)), (rk, .inr (0, [.ref ak])), (ak, .inl (cI, 200, .inl fK)), (ho, .inr (7, [.ref hr, .ref hs, .ref h, .ref hg, .ref ha, .int vm])), (hr, .inr (2, [.ref ru, .ref rw, .ref rk, .int (nI R), .int (nI sd)]))] rfl rfl rfl rfl (by decide) 0 rfl rfl rfl rfl (Nat.le_of_ble_eq_true rfl) d_RO_relate_66 ⟨by decide, by decide⟩ (fun r5 w9u5 hw5 => ?_)
  subst hw5
  rw [ey]
  refine g_iload_n X 3 d_RO_relate_69 rfl rfl ?_
  refine g_calliV (n := 3) X [.int (nI x), .int (nI y), .int (nI kd)] (k_RO_closesRingN ho hr hs h hg ha vm sn ss su K xs fS rp ly ln Y x y kd (by omega) (by omega) (hf) (by omega) (hT)) t2_81 t2_83 ts_4 t1_1 t2_84 rfl rfl (by decide +kernel) ⟨by decide, by decide⟩ [12, 14, 0, 1, 4, 5] [2, 3, 6, 7, 8, 9, 10, 11, 13, 15, 16] [(su, .inr (1, [.ref xu])), (xu, .inl (cJ, 48, .inr (.inl fU))), (ru, .inr (0, [.ref au])), (au, .inl (cI, 200, .inl fA)), (rw, .inr (0, [.ref aw])), (aw, .inl (cI, 200, .inl fB)), (rk, .inr (0, [.ref ak])), (ak, .inl (cI, 200, .inl fK)), (hr, .inr (2, [.ref ru, .ref rw, .ref rk, .int (nI R), .int (nI sd)])), (sn, .inr (0, [.ref xn])), (xn, .inl (cI, 48, .inl fN))] rfl rfl rfl rfl (by decide) 0 rfl rfl rfl rfl (Nat.le_of_ble_eq_true rfl) d_RO_relate_70 ⟨by decide, by decide⟩ (fun r6 Z_6 hw6 => ?_)
  subst hw6
  refine b_if_eq X 78 d_RO_relate_73 (by decide) (fun h73 => ?_) (fun h73 => absurd h73 (by decide))
  refine g_aload_n X 0 d_RO_relate_78 rfl rfl ?_
  refine g_get (C := R_RO) (T := T_RO) (N := 6) X 11 0 in_RO rfl rfl (by decide) t1_142 rfl rfl d_RO_relate_79 ?_
  refine g_iload_n X 1 d_RO_relate_82 rfl rfl ?_
  refine g_iload_n X 2 d_RO_relate_83 rfl rfl ?_
  refine g_iload_n X 3 d_RO_relate_84 rfl rfl ?_
  refine g_calliV (n := 3) X [.int (nI i), .int (nI j), .int (nI kd)] (k_Relations_add hr ru rw rk R sd au aw ak fA fB fK (nI i) (nI j) (nI kd) (by omega) (by omega)) t2_119 t2_120 t2_121 t1_2 t2_122 rfl rfl (by decide +kernel) ⟨by decide, by decide⟩ [8, 2, 3, 4, 5, 6, 7] [0, 1, 9, 10, 11, 12, 13, 14, 15, 16] [(su, .inr (1, [.ref xu])), (xu, .inl (cJ, 48, .inr (.inl fU))), (sn, .inr (0, [.ref xn])), (xn, .inl (cI, 48, .inl fN)), (ho, .inr (7, [.ref hr, .ref hs, .ref h, .ref hg, .ref ha, .int vm])), (hs, .inr (4, [.ref sn, .ref ss, .ref su, .int (nI K)])), (ss, .inr (1, [.ref xs])), (xs, .inl (cJ, 48, .inr (.inl fS))), (h, .inr (3, [.ref rp, .ref ly, .int ln])), (ly, .inl (cJ, 48, .inr (.inl Z_6)))] rfl rfl rfl rfl (by decide) 0 rfl rfl rfl rfl (Nat.le_of_ble_eq_true rfl) d_RO_relate_85 ⟨by decide, by decide⟩ (fun r7 w9u7 hw7 => ?_)
  subst hw7
  refine g_istore X [(4, .int (nI R)), (0, .ref ho), (1, .int (nI i)), (2, .int (nI j)), (3, .int (nI kd))] d_RO_relate_88 (by decide) rfl ?_
  refine g_iload_n X 3 d_RO_relate_90 rfl rfl ?_
  refine g_iconst (v := nI 4) X d_RO_relate_91 rfl ?_
  refine n_icmp_eq X 106 d_RO_relate_92 (by decide) (by omega) (by omega) (fun h92 => absurd h92 (by omega)) (fun h92 => ?_)
  refine g_aload_n X 0 d_RO_relate_95 rfl rfl ?_
  refine g_get (C := R_RO) (T := T_RO) (N := 6) X 4 1 in_RO rfl rfl (by decide) t1_143 rfl rfl d_RO_relate_96 ?_
  refine g_aload_n X 0 d_RO_relate_99 rfl rfl ?_
  refine g_get (C := R_RO) (T := T_RO) (N := 6) X 4 0 in_RO rfl rfl (by decide) t1_142 rfl rfl d_RO_relate_100 ?_
  refine g_callvV (n := 1) X [.ref hr] (k_Strata_rebuild hs sn ss su K xn fN xs fS xu fU hr ru rw rk (R + 1) (sd + 1) au aw ak (upd fA R (nI i)) (upd fB R (nI j)) (upd fK R (nI kd)) (addN a R i) (addN b R j) (by omega) (by omega) (addN_ok hi hA) (addN_ok hj hB) (hN)) t2_124 t2_125 t2_126 t1_5 t2_127 rfl rfl (by decide +kernel) ⟨by decide, by decide⟩ [5, 2, 3, 6, 7, 0, 1, 10, 11, 12, 13, 14, 15, 16] [4, 8, 9] [(ho, .inr (7, [.ref hr, .ref hs, .ref h, .ref hg, .ref ha, .int vm])), (h, .inr (3, [.ref rp, .ref ly, .int ln])), (ly, .inl (cJ, 48, .inr (.inl Z_6)))] rfl rfl rfl rfl (by decide) 0 rfl rfl rfl rfl (Nat.le_of_ble_eq_true rfl) d_RO_relate_103 ⟨by decide, by decide⟩ (fun ⟨gN_8, gS_8, gU_8⟩ hrb => ?_)
  refine g_iload X 4 d_RO_relate_106 rfl ?_
  exact g_iret X hA9 hQ9 hr9 hlk9 ⟨Z_6, gN_8, gS_8, gU_8⟩ [0, 3, 4, 5, 6, 7, 8, 9, 1, 2, 10, 11, 12, 13, 14, 15, 16] rfl rfl d_RO_relate_108 (by (try dsimp only); exact (⟨rfl, hrb⟩))

set_option maxHeartbeats 4000000 in
set_option maxRecDepth 100000 in
theorem k_RO_ring (ho : Nat) (hr : Nat) (hs : Nat) (h : Nat) (hg : Nat) (ha : Nat) (vm : Int32) (rp : Nat) (ly : Nat) (d : Nat) (ap : Nat) (P : Nat → Int32) (k : Nat) (hk : k < d) (hd : d ≤ 48) : CtI l y_RO_ring (Cond.code y_RO_ring c_RO_ring 2 (some .int) :: TB) ({ frames := 2, cells := 0, slots := 0, locals := 42 } : Room) D (tysv cI cJ cZ cQ) [.ref ho, .int (nI k)] [(ho, .inr (7, [.ref hr, .ref hs, .ref h, .ref hg, .ref ha, .int vm])), (h, .inr (3, [.ref rp, .ref ly, .int (nI d)])), (rp, .inr (0, [.ref ap])), (ap, .inl (cI, 48, .inl P))] 0 0 (fun (r : Int32) (_ : Unit) => r = P k) (fun (_ : Unit) => [(ho, .inr (7, [.ref hr, .ref hs, .ref h, .ref hg, .ref ha, .int vm])), (h, .inr (3, [.ref rp, .ref ly, .int (nI d)])), (rp, .inr (0, [.ref ap])), (ap, .inl (cI, 48, .inl P))]) := by
  refine CtI.of c_RO_ring 2 (some .int) (by decide) rfl (Nat.le_of_ble_eq_true rfl) ?_
  intro p e s m args below meth c A Q hA9 hQ9 X hr9 hlk9 hin9
  refine g_iload_n X 1 d_RO_ring_0 rfl rfl ?_
  refine g_callvS (n := 1) X [.int (nI k)] (k_RO_checkPlace k (by omega)) t2_168 t2_169 t1_1 t2_170 rfl rfl (by decide +kernel) ⟨by decide, by decide⟩ [] [0, 1, 2, 3] [(ho, .inr (7, [.ref hr, .ref hs, .ref h, .ref hg, .ref ha, .int vm])), (h, .inr (3, [.ref rp, .ref ly, .int (nI d)])), (rp, .inr (0, [.ref ap])), (ap, .inl (cI, 48, .inl P))] rfl rfl rfl rfl (by decide) rfl rfl (Nat.le_of_ble_eq_true rfl) d_RO_ring_1 ⟨by decide, by decide⟩ (fun w9u1 hw1 => ?_)
  refine g_aload_n X 0 d_RO_ring_4 rfl rfl ?_
  refine g_get (C := R_RO) (T := T_RO) (N := 6) X 0 2 in_RO rfl rfl (by decide) t1_144 rfl rfl d_RO_ring_5 ?_
  refine g_iload_n X 1 d_RO_ring_8 rfl rfl ?_
  refine g_calliV (n := 1) X [.int (nI k)] (k_Ring_place h rp ly d ap P k (by omega) (by omega)) t2_172 t2_173 t2_174 t1_7 t2_175 rfl rfl (by decide +kernel) ⟨by decide, by decide⟩ [1, 2, 3] [0] [(ho, .inr (7, [.ref hr, .ref hs, .ref h, .ref hg, .ref ha, .int vm]))] rfl rfl rfl rfl (by decide) 0 rfl rfl rfl rfl (Nat.le_of_ble_eq_true rfl) d_RO_ring_9 ⟨by decide, by decide⟩ (fun r2 w9u2 hw2 => ?_)
  subst hw2
  exact g_iret X hA9 hQ9 hr9 hlk9 () [0, 1, 2, 3] rfl rfl d_RO_ring_12 (rfl)

set_option maxHeartbeats 4000000 in
set_option maxRecDepth 100000 in
theorem k_RO_ringN (ho : Nat) (hr : Nat) (hs : Nat) (h : Nat) (hg : Nat) (ha : Nat) (vm : Int32) (rp : Nat) (ly : Nat) (d : Nat) (k : Nat) (hk : d ≤ k) (hk2 : k < 2 ^ 31) : CtI l y_RO_ring (Cond.code y_RO_ring c_RO_ring 2 (some .int) :: TB) ({ frames := 1, cells := 0, slots := 0, locals := 21 } : Room) D (tysv cI cJ cZ cQ) [.ref ho, .int (nI k)] [(ho, .inr (7, [.ref hr, .ref hs, .ref h, .ref hg, .ref ha, .int vm])), (h, .inr (3, [.ref rp, .ref ly, .int (nI d)]))] 0 0 (fun (r : Int32) (_ : Unit) => r = -1) (fun (_ : Unit) => [(ho, .inr (7, [.ref hr, .ref hs, .ref h, .ref hg, .ref ha, .int vm])), (h, .inr (3, [.ref rp, .ref ly, .int (nI d)]))]) := by
  refine CtI.of c_RO_ring 2 (some .int) (by decide) rfl (Nat.le_of_ble_eq_true rfl) ?_
  intro p e s m args below meth c A Q hA9 hQ9 X hr9 hlk9 hin9
  refine g_iload_n X 1 d_RO_ring_0 rfl rfl ?_
  refine g_callvS (n := 1) X [.int (nI k)] (k_RO_checkPlace k (by omega)) t2_168 t2_169 t1_1 t2_170 rfl rfl (by decide +kernel) ⟨by decide, by decide⟩ [] [0, 1] [(ho, .inr (7, [.ref hr, .ref hs, .ref h, .ref hg, .ref ha, .int vm])), (h, .inr (3, [.ref rp, .ref ly, .int (nI d)]))] rfl rfl rfl rfl (by decide) rfl rfl (Nat.le_of_ble_eq_true rfl) d_RO_ring_1 ⟨by decide, by decide⟩ (fun w9u1 hw1 => ?_)
  refine g_aload_n X 0 d_RO_ring_4 rfl rfl ?_
  refine g_get (C := R_RO) (T := T_RO) (N := 6) X 0 2 in_RO rfl rfl (by decide) t1_144 rfl rfl d_RO_ring_5 ?_
  refine g_iload_n X 1 d_RO_ring_8 rfl rfl ?_
  refine g_calliV (n := 1) X [.int (nI k)] (k_Ring_placeN h rp ly d k (by omega) (by omega)) t2_172 t2_173 t2_174 t1_7 t2_175 rfl rfl (by decide +kernel) ⟨by decide, by decide⟩ [1] [0] [(ho, .inr (7, [.ref hr, .ref hs, .ref h, .ref hg, .ref ha, .int vm]))] rfl rfl rfl rfl (by decide) 0 rfl rfl rfl rfl (Nat.le_of_ble_eq_true rfl) d_RO_ring_9 ⟨by decide, by decide⟩ (fun r2 w9u2 hw2 => ?_)
  subst hw2
  exact g_iret X hA9 hQ9 hr9 hlk9 () [0, 1] rfl rfl d_RO_ring_12 (rfl)

set_option maxHeartbeats 4000000 in
set_option maxRecDepth 100000 in
theorem k_RO_undoN (ho : Nat) (hr : Nat) (hs : Nat) (h : Nat) (hg : Nat) (ha : Nat) (vm : Int32) (ru : Nat) (rw : Nat) (rk : Nat) (R : Nat) (sd : Nat) (ak : Nat) (fK : Nat → Int32) (j : Nat) (hj : j < R) (hR : R ≤ 200) (hk : fK j = -1) : CtI l y_RO_undo (Cond.code y_RO_undo c_RO_undo 2 (some .boolean) :: TB) ({ frames := 2, cells := 0, slots := 0, locals := 42 } : Room) D (tysv cI cJ cZ cQ) [.ref ho, .int (nI j)] [(ho, .inr (7, [.ref hr, .ref hs, .ref h, .ref hg, .ref ha, .int vm])), (hr, .inr (2, [.ref ru, .ref rw, .ref rk, .int (nI R), .int (nI sd)])), (rk, .inr (0, [.ref ak])), (ak, .inl (cI, 200, .inl fK))] 0 0 (fun (r : Int32) (_ : Unit) => r = bI false) (fun (_ : Unit) => [(ho, .inr (7, [.ref hr, .ref hs, .ref h, .ref hg, .ref ha, .int vm])), (hr, .inr (2, [.ref ru, .ref rw, .ref rk, .int (nI R), .int (nI sd)])), (rk, .inr (0, [.ref ak])), (ak, .inl (cI, 200, .inl fK))]) := by
  refine CtI.of c_RO_undo 2 (some .boolean) (by decide) rfl (Nat.le_of_ble_eq_true rfl) ?_
  intro p e s m args below meth c A Q hA9 hQ9 X hr9 hlk9 hin9
  refine g_iload_n X 1 d_RO_undo_0 rfl rfl ?_
  refine n_if_lt X 15 d_RO_undo_1 (by decide) (by omega) (fun h1 => absurd h1 (by omega)) (fun h1 => ?_)
  refine g_iload_n X 1 d_RO_undo_4 rfl rfl ?_
  refine g_aload_n X 0 d_RO_undo_5 rfl rfl ?_
  refine g_get (C := R_RO) (T := T_RO) (N := 6) X 0 0 in_RO rfl rfl (by decide) t1_142 rfl rfl d_RO_undo_6 ?_
  refine g_calliV (n := 0) X [] (k_Relations_made hr ru rw rk R sd ) t2_68 t2_69 t2_70 t1_2 t2_71 rfl rfl (by decide +kernel) ⟨by decide, by decide⟩ [1] [0, 2, 3] [(ho, .inr (7, [.ref hr, .ref hs, .ref h, .ref hg, .ref ha, .int vm])), (rk, .inr (0, [.ref ak])), (ak, .inl (cI, 200, .inl fK))] rfl rfl rfl rfl (by decide) 0 rfl rfl rfl rfl (Nat.le_of_ble_eq_true rfl) d_RO_undo_9 ⟨by decide, by decide⟩ (fun r1 w9u1 hw1 => ?_)
  subst hw1
  refine n_icmp_lt X 25 d_RO_undo_12 (by decide) (by omega) (by omega) (fun h12 => ?_) (fun h12 => absurd h12 (by omega))
  refine g_aload_n X 0 d_RO_undo_25 rfl rfl ?_
  refine g_get (C := R_RO) (T := T_RO) (N := 6) X 0 0 in_RO rfl rfl (by decide) t1_142 rfl rfl d_RO_undo_26 ?_
  refine g_iload_n X 1 d_RO_undo_29 rfl rfl ?_
  refine g_calliV (n := 1) X [.int (nI j)] (k_Relations_dropN hr ru rw rk R sd ak fK j (by omega) (by omega)) t2_185 t2_186 t2_187 t1_2 t2_188 rfl rfl (by decide +kernel) ⟨by decide, by decide⟩ [3, 1, 2] [0] [(ho, .inr (7, [.ref hr, .ref hs, .ref h, .ref hg, .ref ha, .int vm]))] rfl rfl rfl rfl (by decide) 0 rfl rfl rfl rfl (Nat.le_of_ble_eq_true rfl) d_RO_undo_30 ⟨by decide, by decide⟩ (fun r2 w9u2 hw2 => ?_)
  subst hw2
  refine b_if_ne X 38 d_RO_undo_33 (by decide) (fun h33 => absurd h33 (by decide)) (fun h33 => ?_)
  refine g_iconst (v := nI 0) X d_RO_undo_36 rfl ?_
  exact g_zret X hA9 hQ9 hr9 (by first | exact Or.inl rfl | exact Or.inr rfl) hlk9 () [0, 1, 2, 3] rfl rfl d_RO_undo_37 (rfl)

set_option maxHeartbeats 4000000 in
set_option maxRecDepth 100000 in
theorem k_RO_undo (ho : Nat) (hr : Nat) (hs : Nat) (h : Nat) (hg : Nat) (ha : Nat) (vm : Int32) (ru : Nat) (rw : Nat) (rk : Nat) (R : Nat) (sd : Nat) (au : Nat) (aw : Nat) (ak : Nat) (fA : Nat → Int32) (fB : Nat → Int32) (fK : Nat → Int32) (sn : Nat) (ss : Nat) (su : Nat) (K : Nat) (xn : Nat) (fN : Nat → Int32) (xs : Nat) (fS : Nat → Int64) (xu : Nat) (fU : Nat → Int64) (a : Nat → Nat) (b : Nat → Nat) (j : Nat) (hj : j < R) (hk : ¬ fK j = -1) (hs9 : 0 < sd) (hK : K ≤ 48) (hR : R ≤ 200) (hA : ∀ r, r < R → fA r = nI (a r) ∧ a r < K) (hB : ∀ r, r < R → fB r = nI (b r) ∧ b r < K) (hN : ∀ k, K ≤ k → k < 48 → fN k = -1) : CtI l y_RO_undo (Cond.code y_RO_undo c_RO_undo 2 (some .boolean) :: TB) ({ frames := 4, cells := 0, slots := 0, locals := 90 } : Room) D (tysv cI cJ cZ cQ) [.ref ho, .int (nI j)] [(ho, .inr (7, [.ref hr, .ref hs, .ref h, .ref hg, .ref ha, .int vm])), (hs, .inr (4, [.ref sn, .ref ss, .ref su, .int (nI K)])), (sn, .inr (0, [.ref xn])), (xn, .inl (cI, 48, .inl fN)), (ss, .inr (1, [.ref xs])), (xs, .inl (cJ, 48, .inr (.inl fS))), (su, .inr (1, [.ref xu])), (xu, .inl (cJ, 48, .inr (.inl fU))), (hr, .inr (2, [.ref ru, .ref rw, .ref rk, .int (nI R), .int (nI sd)])), (ru, .inr (0, [.ref au])), (au, .inl (cI, 200, .inl fA)), (rw, .inr (0, [.ref aw])), (aw, .inl (cI, 200, .inl fB)), (rk, .inr (0, [.ref ak])), (ak, .inl (cI, 200, .inl fK))] 0 0 (fun (r : Int32) (u : (Nat → Int32) × (Nat → Int64) × (Nat → Int64)) => r = bI true ∧ (∀ x, x < K → u.1 x = nI (jnum a b (fun r => isEq (upd fK j (-1) r)) R x)) ∧ (∀ k, K ≤ k → k < 48 → u.1 k = -1) ∧ (∀ x, x < 48 → ∀ z9, lb (u.2.1 x) z9 = (jst a b (jnum a b (fun r => isEq (upd fK j (-1) r)) R) (fun r => isAb (upd fK j (-1) r)) R) x z9) ∧ ∀ x, x < 48 → ∀ z9, lb (u.2.2 x) z9 = gwar (jst a b (jnum a b (fun r => isEq (upd fK j (-1) r)) R) (fun r => isAb (upd fK j (-1) r)) R) 48 x z9) (fun (u : (Nat → Int32) × (Nat → Int64) × (Nat → Int64)) => [(ho, .inr (7, [.ref hr, .ref hs, .ref h, .ref hg, .ref ha, .int vm])), (hs, .inr (4, [.ref sn, .ref ss, .ref su, .int (nI K)])), (sn, .inr (0, [.ref xn])), (xn, .inl (cI, 48, .inl u.1)), (ss, .inr (1, [.ref xs])), (xs, .inl (cJ, 48, .inr (.inl u.2.1))), (su, .inr (1, [.ref xu])), (xu, .inl (cJ, 48, .inr (.inl u.2.2))), (hr, .inr (2, [.ref ru, .ref rw, .ref rk, .int (nI R), .int (nI (sd - 1))])), (ru, .inr (0, [.ref au])), (au, .inl (cI, 200, .inl fA)), (rw, .inr (0, [.ref aw])), (aw, .inl (cI, 200, .inl fB)), (rk, .inr (0, [.ref ak])), (ak, .inl (cI, 200, .inl (upd fK j (-1))))]) := by
  refine CtI.of c_RO_undo 2 (some .boolean) (by decide) rfl (Nat.le_of_ble_eq_true rfl) ?_
  intro p e s m args below meth c A Q hA9 hQ9 X hr9 hlk9 hin9
  refine g_iload_n X 1 d_RO_undo_0 rfl rfl ?_
  refine n_if_lt X 15 d_RO_undo_1 (by decide) (by omega) (fun h1 => absurd h1 (by omega)) (fun h1 => ?_)
  refine g_iload_n X 1 d_RO_undo_4 rfl rfl ?_
  refine g_aload_n X 0 d_RO_undo_5 rfl rfl ?_
  refine g_get (C := R_RO) (T := T_RO) (N := 6) X 0 0 in_RO rfl rfl (by decide) t1_142 rfl rfl d_RO_undo_6 ?_
  refine g_calliV (n := 0) X [] (k_Relations_made hr ru rw rk R sd ) t2_68 t2_69 t2_70 t1_2 t2_71 rfl rfl (by decide +kernel) ⟨by decide, by decide⟩ [8] [0, 1, 2, 3, 4, 5, 6, 7, 9, 10, 11, 12, 13, 14] [(ho, .inr (7, [.ref hr, .ref hs, .ref h, .ref hg, .ref ha, .int vm])), (hs, .inr (4, [.ref sn, .ref ss, .ref su, .int (nI K)])), (sn, .inr (0, [.ref xn])), (xn, .inl (cI, 48, .inl fN)), (ss, .inr (1, [.ref xs])), (xs, .inl (cJ, 48, .inr (.inl fS))), (su, .inr (1, [.ref xu])), (xu, .inl (cJ, 48, .inr (.inl fU))), (ru, .inr (0, [.ref au])), (au, .inl (cI, 200, .inl fA)), (rw, .inr (0, [.ref aw])), (aw, .inl (cI, 200, .inl fB)), (rk, .inr (0, [.ref ak])), (ak, .inl (cI, 200, .inl fK))] rfl rfl rfl rfl (by decide) 0 rfl rfl rfl rfl (Nat.le_of_ble_eq_true rfl) d_RO_undo_9 ⟨by decide, by decide⟩ (fun r1 w9u1 hw1 => ?_)
  subst hw1
  refine n_icmp_lt X 25 d_RO_undo_12 (by decide) (by omega) (by omega) (fun h12 => ?_) (fun h12 => absurd h12 (by omega))
  refine g_aload_n X 0 d_RO_undo_25 rfl rfl ?_
  refine g_get (C := R_RO) (T := T_RO) (N := 6) X 0 0 in_RO rfl rfl (by decide) t1_142 rfl rfl d_RO_undo_26 ?_
  refine g_iload_n X 1 d_RO_undo_29 rfl rfl ?_
  refine g_calliV (n := 1) X [.int (nI j)] (k_Relations_drop hr ru rw rk R sd ak fK j (by omega) (hk) (by omega)) t2_185 t2_186 t2_187 t1_2 t2_188 rfl rfl (by decide +kernel) ⟨by decide, by decide⟩ [14, 12, 13] [0, 1, 2, 3, 4, 5, 6, 7, 8, 9, 10, 11] [(ho, .inr (7, [.ref hr, .ref hs, .ref h, .ref hg, .ref ha, .int vm])), (hs, .inr (4, [.ref sn, .ref ss, .ref su, .int (nI K)])), (sn, .inr (0, [.ref xn])), (xn, .inl (cI, 48, .inl fN)), (ss, .inr (1, [.ref xs])), (xs, .inl (cJ, 48, .inr (.inl fS))), (su, .inr (1, [.ref xu])), (xu, .inl (cJ, 48, .inr (.inl fU))), (ru, .inr (0, [.ref au])), (au, .inl (cI, 200, .inl fA)), (rw, .inr (0, [.ref aw])), (aw, .inl (cI, 200, .inl fB))] rfl rfl rfl rfl (by decide) 0 rfl rfl rfl rfl (Nat.le_of_ble_eq_true rfl) d_RO_undo_30 ⟨by decide, by decide⟩ (fun r2 w9u2 hw2 => ?_)
  subst hw2
  refine b_if_ne X 38 d_RO_undo_33 (by decide) (fun h33 => ?_) (fun h33 => absurd h33 (by decide))
  refine g_aload_n X 0 d_RO_undo_38 rfl rfl ?_
  refine g_get (C := R_RO) (T := T_RO) (N := 6) X 0 1 in_RO rfl rfl (by decide) t1_143 rfl rfl d_RO_undo_39 ?_
  refine g_aload_n X 0 d_RO_undo_42 rfl rfl ?_
  refine g_get (C := R_RO) (T := T_RO) (N := 6) X 0 0 in_RO rfl rfl (by decide) t1_142 rfl rfl d_RO_undo_43 ?_
  refine g_callvV (n := 1) X [.ref hr] (k_Strata_rebuild hs sn ss su K xn fN xs fS xu fU hr ru rw rk R (sd - 1) au aw ak fA fB (upd fK j (-1)) a b (by omega) (by omega) (hA) (hB) (hN)) t2_124 t2_125 t2_126 t1_5 t2_127 rfl rfl (by decide +kernel) ⟨by decide, by decide⟩ [1, 2, 3, 4, 5, 6, 7, 12, 8, 9, 10, 11, 13, 14] [0] [(ho, .inr (7, [.ref hr, .ref hs, .ref h, .ref hg, .ref ha, .int vm]))] rfl rfl rfl rfl (by decide) 0 rfl rfl rfl rfl (Nat.le_of_ble_eq_true rfl) d_RO_undo_46 ⟨by decide, by decide⟩ (fun ⟨gN_3, gS_3, gU_3⟩ hrb => ?_)
  refine g_iconst (v := nI 1) X d_RO_undo_49 rfl ?_
  exact g_zret X hA9 hQ9 hr9 (by first | exact Or.inl rfl | exact Or.inr rfl) hlk9 ⟨gN_3, gS_3, gU_3⟩ [0, 1, 2, 3, 4, 5, 6, 7, 8, 9, 10, 11, 12, 13, 14] rfl rfl d_RO_undo_50 (by (try dsimp only); exact (⟨rfl, hrb⟩))

set_option maxHeartbeats 4000000 in
set_option maxRecDepth 100000 in
theorem k_RO_order (ho : Nat) (hr : Nat) (hs : Nat) (h : Nat) (hg : Nat) (ha : Nat) (vm : Int32) (sn : Nat) (ss : Nat) (su : Nat) (K : Nat) (xn : Nat) (fN : Nat → Int32) (xu : Nat) (fU : Nat → Int64) (i : Nat) (j : Nat) (x : Nat) (y : Nat) (hK : K ≤ 48) (hi : i < K) (hj : j < K) (hx : fN i = nI x) (hy : fN j = nI y) (hx2 : x < 48) (hy2 : y < 48) : CtI l y_RO_order (Cond.code y_RO_order c_RO_order 3 (some .int) :: TB) ({ frames := 3, cells := 0, slots := 0, locals := 65 } : Room) D (tysv cI cJ cZ cQ) [.ref ho, .int (nI i), .int (nI j)] [(ho, .inr (7, [.ref hr, .ref hs, .ref h, .ref hg, .ref ha, .int vm])), (hs, .inr (4, [.ref sn, .ref ss, .ref su, .int (nI K)])), (sn, .inr (0, [.ref xn])), (xn, .inl (cI, 48, .inl fN)), (su, .inr (1, [.ref xu])), (xu, .inl (cJ, 48, .inr (.inl fU)))] 0 0 (fun (r : Int32) (_ : Unit) => r = (if lb (fU x) y = true then 1 else if lb (fU y) x = true then -1 else 0)) (fun (_ : Unit) => [(ho, .inr (7, [.ref hr, .ref hs, .ref h, .ref hg, .ref ha, .int vm])), (hs, .inr (4, [.ref sn, .ref ss, .ref su, .int (nI K)])), (sn, .inr (0, [.ref xn])), (xn, .inl (cI, 48, .inl fN)), (su, .inr (1, [.ref xu])), (xu, .inl (cJ, 48, .inr (.inl fU)))]) := by
  refine CtI.of c_RO_order 3 (some .int) (by decide) rfl (Nat.le_of_ble_eq_true rfl) ?_
  intro p e s m args below meth c A Q hA9 hQ9 X hr9 hlk9 hin9
  refine g_aload_n X 0 d_RO_order_0 rfl rfl ?_
  refine g_iload_n X 1 d_RO_order_1 rfl rfl ?_
  refine g_callvV (n := 1) X [.int (nI i)] (k_RO_checkContext ho hr hs h hg ha vm sn ss su K i (by omega) (by omega)) t2_47 t2_49 ts_3 t1_1 t2_50 rfl rfl (by decide +kernel) ⟨by decide, by decide⟩ [0, 1] [2, 3, 4, 5] [(sn, .inr (0, [.ref xn])), (xn, .inl (cI, 48, .inl fN)), (su, .inr (1, [.ref xu])), (xu, .inl (cJ, 48, .inr (.inl fU)))] rfl rfl rfl rfl (by decide) 0 rfl rfl rfl rfl (Nat.le_of_ble_eq_true rfl) d_RO_order_2 ⟨by decide, by decide⟩ (fun w9u1 hw1 => ?_)
  refine g_aload_n X 0 d_RO_order_5 rfl rfl ?_
  refine g_iload_n X 2 d_RO_order_6 rfl rfl ?_
  refine g_callvV (n := 1) X [.int (nI j)] (k_RO_checkContext ho hr hs h hg ha vm sn ss su K j (by omega) (by omega)) t2_47 t2_49 ts_3 t1_1 t2_50 rfl rfl (by decide +kernel) ⟨by decide, by decide⟩ [4, 5] [0, 1, 2, 3] [(sn, .inr (0, [.ref xn])), (xn, .inl (cI, 48, .inl fN)), (su, .inr (1, [.ref xu])), (xu, .inl (cJ, 48, .inr (.inl fU)))] rfl rfl rfl rfl (by decide) 0 rfl rfl rfl rfl (Nat.le_of_ble_eq_true rfl) d_RO_order_7 ⟨by decide, by decide⟩ (fun w9u2 hw2 => ?_)
  refine g_aload_n X 0 d_RO_order_10 rfl rfl ?_
  refine g_get (C := R_RO) (T := T_RO) (N := 6) X 4 1 in_RO rfl rfl (by decide) t1_143 rfl rfl d_RO_order_11 ?_
  refine g_iload_n X 1 d_RO_order_14 rfl rfl ?_
  refine g_iload_n X 2 d_RO_order_15 rfl rfl ?_
  refine g_calliV (n := 2) X [.int (nI i), .int (nI j)] (k_Strata_isOver hs sn ss su K xn fN xu fU i j x y (by omega) (by omega) (hx) (hy) (by omega) (by omega)) t2_196 t2_197 t2_198 t1_5 t2_199 rfl rfl (by decide +kernel) ⟨by decide, by decide⟩ [5, 0, 1, 2, 3] [4] [(ho, .inr (7, [.ref hr, .ref hs, .ref h, .ref hg, .ref ha, .int vm]))] rfl rfl rfl rfl (by decide) 0 rfl rfl rfl rfl (Nat.le_of_ble_eq_true rfl) d_RO_order_16 ⟨by decide, by decide⟩ (fun r3 w9u3 hw3 => ?_)
  subst hw3
  refine b_if_eq X 24 d_RO_order_19 (by decide) (fun h19 => ?_) (fun h19 => ?_)
  · refine g_aload_n X 0 d_RO_order_24 rfl rfl ?_
    refine g_get (C := R_RO) (T := T_RO) (N := 6) X 0 1 in_RO rfl rfl (by decide) t1_143 rfl rfl d_RO_order_25 ?_
    refine g_iload_n X 2 d_RO_order_28 rfl rfl ?_
    refine g_iload_n X 1 d_RO_order_29 rfl rfl ?_
    refine g_calliV (n := 2) X [.int (nI j), .int (nI i)] (k_Strata_isOver hs sn ss su K xn fN xu fU j i y x (by omega) (by omega) (hy) (hx) (by omega) (by omega)) t2_196 t2_197 t2_198 t1_5 t2_199 rfl rfl (by decide +kernel) ⟨by decide, by decide⟩ [1, 2, 3, 4, 5] [0] [(ho, .inr (7, [.ref hr, .ref hs, .ref h, .ref hg, .ref ha, .int vm]))] rfl rfl rfl rfl (by decide) 0 rfl rfl rfl rfl (Nat.le_of_ble_eq_true rfl) d_RO_order_30 ⟨by decide, by decide⟩ (fun r4 w9u4 hw4 => ?_)
    subst hw4
    refine b_if_eq X 40 d_RO_order_33 (by decide) (fun h33 => ?_) (fun h33 => ?_)
    · refine g_iconst (v := nI 0) X d_RO_order_40 rfl ?_
      exact g_iret X hA9 hQ9 hr9 hlk9 () [0, 1, 2, 3, 4, 5] rfl rfl d_RO_order_41 (by rw [if_neg (by rw [h19]; decide)]; first | (rw [if_pos h33]) | (rw [if_neg (by rw [h33]; decide)]; rfl))
    · refine g_iconst (v := -1) X d_RO_order_36 rfl ?_
      refine g_goto X 41 d_RO_order_37 (by decide) ?_
      exact g_iret X hA9 hQ9 hr9 hlk9 () [0, 1, 2, 3, 4, 5] rfl rfl d_RO_order_41 (by rw [if_neg (by rw [h19]; decide)]; first | (rw [if_pos h33]) | (rw [if_neg (by rw [h33]; decide)]; rfl))
  · refine g_iconst (v := nI 1) X d_RO_order_22 rfl ?_
    exact g_iret X hA9 hQ9 hr9 hlk9 () [0, 1, 2, 3, 4, 5] rfl rfl d_RO_order_23 (by rw [if_pos h19]; rfl)

set_option maxHeartbeats 4000000 in
set_option maxRecDepth 100000 in
theorem k_RO_links (ho : Nat) (hr : Nat) (hs : Nat) (h : Nat) (hg : Nat) (ha : Nat) (vm : Int32) (sn : Nat) (ss : Nat) (su : Nat) (K : Nat) (xu : Nat) (fU : Nat → Int64) (hK : K ≤ 48) : CtI l y_RO_links (Cond.code y_RO_links c_RO_links 1 (some .int) :: TB) ({ frames := 4, cells := 0, slots := 0, locals := 91 } : Room) D (tysv cI cJ cZ cQ) [.ref ho] [(ho, .inr (7, [.ref hr, .ref hs, .ref h, .ref hg, .ref ha, .int vm])), (hs, .inr (4, [.ref sn, .ref ss, .ref su, .int (nI K)])), (su, .inr (1, [.ref xu])), (xu, .inl (cJ, 48, .inr (.inl fU)))] 0 0 (fun (r : Int32) (_ : Unit) => r = nI (lsum (fun z9 => cnt (lkB fU K z9) 64) K)) (fun (_ : Unit) => [(ho, .inr (7, [.ref hr, .ref hs, .ref h, .ref hg, .ref ha, .int vm])), (hs, .inr (4, [.ref sn, .ref ss, .ref su, .int (nI K)])), (su, .inr (1, [.ref xu])), (xu, .inl (cJ, 48, .inr (.inl fU)))]) := by
  refine CtI.of c_RO_links 1 (some .int) (by decide) rfl (Nat.le_of_ble_eq_true rfl) ?_
  intro p e s m args below meth c A Q hA9 hQ9 X hr9 hlk9 hin9
  refine g_aload_n X 0 d_RO_links_0 rfl rfl ?_
  refine g_get (C := R_RO) (T := T_RO) (N := 6) X 0 1 in_RO rfl rfl (by decide) t1_143 rfl rfl d_RO_links_1 ?_
  refine g_calliV (n := 0) X [] (k_Strata_linkCount hs sn ss su K xu fU (by omega)) t1_165 t1_166 t1_167 t1_5 t1_168 rfl rfl (by decide +kernel) ⟨by decide, by decide⟩ [1, 2, 3] [0] [(ho, .inr (7, [.ref hr, .ref hs, .ref h, .ref hg, .ref ha, .int vm]))] rfl rfl rfl rfl (by decide) 0 rfl rfl rfl rfl (Nat.le_of_ble_eq_true rfl) d_RO_links_4 ⟨by decide, by decide⟩ (fun r1 w9u1 hw1 => ?_)
  subst hw1
  exact g_iret X hA9 hQ9 hr9 hlk9 () [0, 1, 2, 3] rfl rfl d_RO_links_7 (rfl)

set_option maxHeartbeats 4000000 in
set_option maxRecDepth 100000 in
theorem k_RO_linkU (ho : Nat) (hr : Nat) (hs : Nat) (h : Nat) (hg : Nat) (ha : Nat) (vm : Int32) (sn : Nat) (ss : Nat) (su : Nat) (K : Nat) (xu : Nat) (fU : Nat → Int64) (k : Nat) (hK : K ≤ 48) (hk2 : k < 2 ^ 20) (hk : k < lsum (fun z9 => cnt (lkB fU K z9) 64) K) (hf : ∀ u, u < 48 → ∀ x, lb (fU u) x = true → x < 48) : CtI l y_RO_link (Cond.code y_RO_link c_RO_link 3 (some .int) :: TB) ({ frames := 4, cells := 0, slots := 0, locals := 96 } : Room) D (tysv cI cJ cZ cQ) [.ref ho, .int (nI k), .int (nI 0)] [(ho, .inr (7, [.ref hr, .ref hs, .ref h, .ref hg, .ref ha, .int vm])), (hs, .inr (4, [.ref sn, .ref ss, .ref su, .int (nI K)])), (su, .inr (1, [.ref xu])), (xu, .inl (cJ, 48, .inr (.inl fU)))] 0 0 (fun (r : Int32) (u : Nat) => r = nI u ∧ u < K ∧ lsum (fun z9 => cnt (lkB fU K z9) 64) u ≤ k ∧ k < lsum (fun z9 => cnt (lkB fU K z9) 64) u + cnt (lkB fU K u) 64) (fun (u : Nat) => [(ho, .inr (7, [.ref hr, .ref hs, .ref h, .ref hg, .ref ha, .int vm])), (hs, .inr (4, [.ref sn, .ref ss, .ref su, .int (nI K)])), (su, .inr (1, [.ref xu])), (xu, .inl (cJ, 48, .inr (.inl fU)))]) := by
  refine CtI.of c_RO_link 3 (some .int) (by decide) rfl (Nat.le_of_ble_eq_true rfl) ?_
  intro p e s m args below meth c A Q hA9 hQ9 X hr9 hlk9 hin9
  have hls : lsum (fun z9 => cnt (lkB fU K z9) 64) K ≤ K * 64 := lsum_le (fun i => lk_le fU K i) K
  refine g_iload_n X 2 d_RO_link_0 rfl rfl ?_
  refine n_if_lt X 9 d_RO_link_1 (by decide) (by omega) (fun h1 => absurd h1 (by omega)) (fun h1 => ?_)
  refine g_iload_n X 2 d_RO_link_4 rfl rfl ?_
  refine g_iconst (v := nI 1) X d_RO_link_5 rfl ?_
  refine n_icmp_le X 19 d_RO_link_6 (by decide) (by omega) (by omega) (fun h6 => ?_) (fun h6 => absurd h6 (by omega))
  refine g_iload_n X 1 d_RO_link_19 rfl rfl ?_
  refine n_if_lt X 34 d_RO_link_20 (by decide) (by omega) (fun h20 => absurd h20 (by omega)) (fun h20 => ?_)
  refine g_iload_n X 1 d_RO_link_23 rfl rfl ?_
  refine g_aload_n X 0 d_RO_link_24 rfl rfl ?_
  refine g_get (C := R_RO) (T := T_RO) (N := 6) X 0 1 in_RO rfl rfl (by decide) t1_143 rfl rfl d_RO_link_25 ?_
  refine g_calliV (n := 0) X [] (k_Strata_linkCount hs sn ss su K xu fU (by omega)) t1_165 t1_166 t1_167 t1_5 t1_168 rfl rfl (by decide +kernel) ⟨by decide, by decide⟩ [1, 2, 3] [0] [(ho, .inr (7, [.ref hr, .ref hs, .ref h, .ref hg, .ref ha, .int vm]))] rfl rfl rfl rfl (by decide) 0 rfl rfl rfl rfl (Nat.le_of_ble_eq_true rfl) d_RO_link_28 ⟨by decide, by decide⟩ (fun r1 w9u1 hw1 => ?_)
  subst hw1
  refine n_icmp_lt X 44 d_RO_link_31 (by decide) (by omega) (by omega) (fun h31 => ?_) (fun h31 => absurd h31 (by omega))
  refine g_aload_n X 0 d_RO_link_44 rfl rfl ?_
  refine g_get (C := R_RO) (T := T_RO) (N := 6) X 0 1 in_RO rfl rfl (by decide) t1_143 rfl rfl d_RO_link_45 ?_
  refine g_iload_n X 1 d_RO_link_48 rfl rfl ?_
  refine g_iload_n X 2 d_RO_link_49 rfl rfl ?_
  refine n_if_ne X 57 d_RO_link_50 (by decide) (by omega) (fun h50 => absurd h50 (by omega)) (fun h50 => ?_)
  refine g_iconst (v := nI 1) X d_RO_link_53 rfl ?_
  refine g_goto X 58 d_RO_link_54 (by decide) ?_
  refine g_calliV (n := 2) X [.int (nI k), .int (bI true)] (k_Strata_linkEndU hs sn ss su K xu fU k (by omega) (by omega) (by omega) (hf)) t2_209 t2_210 t2_211 t1_5 t2_212 rfl rfl (by decide +kernel) ⟨by decide, by decide⟩ [1, 2, 3] [0] [(ho, .inr (7, [.ref hr, .ref hs, .ref h, .ref hg, .ref ha, .int vm]))] rfl rfl rfl rfl (by decide) 0 rfl rfl rfl rfl (Nat.le_of_ble_eq_true rfl) d_RO_link_58 ⟨by decide, by decide⟩ (fun r2 u_2 hE9 => ?_)
  obtain ⟨rfl, hE9⟩ := hE9
  exact g_iret X hA9 hQ9 hr9 hlk9 u_2 [0, 1, 2, 3] rfl rfl d_RO_link_61 (⟨rfl, hE9⟩)

set_option maxHeartbeats 4000000 in
set_option maxRecDepth 100000 in
theorem k_RO_linkL (ho : Nat) (hr : Nat) (hs : Nat) (h : Nat) (hg : Nat) (ha : Nat) (vm : Int32) (sn : Nat) (ss : Nat) (su : Nat) (K : Nat) (xu : Nat) (fU : Nat → Int64) (k : Nat) (hK : K ≤ 48) (hk2 : k < 2 ^ 20) (hk : k < lsum (fun z9 => cnt (lkB fU K z9) 64) K) (hf : ∀ u, u < 48 → ∀ x, lb (fU u) x = true → x < 48) : CtI l y_RO_link (Cond.code y_RO_link c_RO_link 3 (some .int) :: TB) ({ frames := 4, cells := 0, slots := 0, locals := 96 } : Room) D (tysv cI cJ cZ cQ) [.ref ho, .int (nI k), .int (nI 1)] [(ho, .inr (7, [.ref hr, .ref hs, .ref h, .ref hg, .ref ha, .int vm])), (hs, .inr (4, [.ref sn, .ref ss, .ref su, .int (nI K)])), (su, .inr (1, [.ref xu])), (xu, .inl (cJ, 48, .inr (.inl fU)))] 0 0 (fun (r : Int32) (u : Nat × Nat) => r = nI u.2 ∧ u.1 < K ∧ lsum (fun z9 => cnt (lkB fU K z9) 64) u.1 ≤ k ∧ k < lsum (fun z9 => cnt (lkB fU K z9) 64) u.1 + cnt (lkB fU K u.1) 64 ∧ u.2 < 48 ∧ lkB fU K u.1 u.2 = true ∧ cnt (lkB fU K u.1) u.2 = k - lsum (fun z9 => cnt (lkB fU K z9) 64) u.1) (fun (u : Nat × Nat) => [(ho, .inr (7, [.ref hr, .ref hs, .ref h, .ref hg, .ref ha, .int vm])), (hs, .inr (4, [.ref sn, .ref ss, .ref su, .int (nI K)])), (su, .inr (1, [.ref xu])), (xu, .inl (cJ, 48, .inr (.inl fU)))]) := by
  refine CtI.of c_RO_link 3 (some .int) (by decide) rfl (Nat.le_of_ble_eq_true rfl) ?_
  intro p e s m args below meth c A Q hA9 hQ9 X hr9 hlk9 hin9
  have hls : lsum (fun z9 => cnt (lkB fU K z9) 64) K ≤ K * 64 := lsum_le (fun i => lk_le fU K i) K
  refine g_iload_n X 2 d_RO_link_0 rfl rfl ?_
  refine n_if_lt X 9 d_RO_link_1 (by decide) (by omega) (fun h1 => absurd h1 (by omega)) (fun h1 => ?_)
  refine g_iload_n X 2 d_RO_link_4 rfl rfl ?_
  refine g_iconst (v := nI 1) X d_RO_link_5 rfl ?_
  refine n_icmp_le X 19 d_RO_link_6 (by decide) (by omega) (by omega) (fun h6 => ?_) (fun h6 => absurd h6 (by omega))
  refine g_iload_n X 1 d_RO_link_19 rfl rfl ?_
  refine n_if_lt X 34 d_RO_link_20 (by decide) (by omega) (fun h20 => absurd h20 (by omega)) (fun h20 => ?_)
  refine g_iload_n X 1 d_RO_link_23 rfl rfl ?_
  refine g_aload_n X 0 d_RO_link_24 rfl rfl ?_
  refine g_get (C := R_RO) (T := T_RO) (N := 6) X 0 1 in_RO rfl rfl (by decide) t1_143 rfl rfl d_RO_link_25 ?_
  refine g_calliV (n := 0) X [] (k_Strata_linkCount hs sn ss su K xu fU (by omega)) t1_165 t1_166 t1_167 t1_5 t1_168 rfl rfl (by decide +kernel) ⟨by decide, by decide⟩ [1, 2, 3] [0] [(ho, .inr (7, [.ref hr, .ref hs, .ref h, .ref hg, .ref ha, .int vm]))] rfl rfl rfl rfl (by decide) 0 rfl rfl rfl rfl (Nat.le_of_ble_eq_true rfl) d_RO_link_28 ⟨by decide, by decide⟩ (fun r1 w9u1 hw1 => ?_)
  subst hw1
  refine n_icmp_lt X 44 d_RO_link_31 (by decide) (by omega) (by omega) (fun h31 => ?_) (fun h31 => absurd h31 (by omega))
  refine g_aload_n X 0 d_RO_link_44 rfl rfl ?_
  refine g_get (C := R_RO) (T := T_RO) (N := 6) X 0 1 in_RO rfl rfl (by decide) t1_143 rfl rfl d_RO_link_45 ?_
  refine g_iload_n X 1 d_RO_link_48 rfl rfl ?_
  refine g_iload_n X 2 d_RO_link_49 rfl rfl ?_
  refine n_if_ne X 57 d_RO_link_50 (by decide) (by omega) (fun h50 => ?_) (fun h50 => absurd h50 (by omega))
  refine g_iconst (v := nI 0) X d_RO_link_57 rfl ?_
  refine g_calliV (n := 2) X [.int (nI k), .int (bI false)] (k_Strata_linkEndL hs sn ss su K xu fU k (by omega) (by omega) (by omega) (hf)) t2_209 t2_210 t2_211 t1_5 t2_212 rfl rfl (by decide +kernel) ⟨by decide, by decide⟩ [1, 2, 3] [0] [(ho, .inr (7, [.ref hr, .ref hs, .ref h, .ref hg, .ref ha, .int vm]))] rfl rfl rfl rfl (by decide) 0 rfl rfl rfl rfl (Nat.le_of_ble_eq_true rfl) d_RO_link_58 ⟨by decide, by decide⟩ (fun r2 ⟨u_2, x_2⟩ hE9 => ?_)
  obtain ⟨rfl, hE9⟩ := hE9
  exact g_iret X hA9 hQ9 hr9 hlk9 ⟨u_2, x_2⟩ [0, 1, 2, 3] rfl rfl d_RO_link_61 (by (try dsimp only); exact (⟨rfl, hE9⟩))

set_option maxHeartbeats 4000000 in
set_option maxRecDepth 100000 in
theorem k_RO_equal (ho : Nat) (hr : Nat) (hs : Nat) (h : Nat) (hg : Nat) (ha : Nat) (vm : Int32) (sn : Nat) (ss : Nat) (su : Nat) (K : Nat) (xn : Nat) (fN : Nat → Int32) (j : Nat) (hj : j < K) (hK : K ≤ 48) : CtI l y_RO_equal (Cond.code y_RO_equal c_RO_equal 2 (some .int) :: TB) ({ frames := 2, cells := 0, slots := 0, locals := 42 } : Room) D (tysv cI cJ cZ cQ) [.ref ho, .int (nI j)] [(ho, .inr (7, [.ref hr, .ref hs, .ref h, .ref hg, .ref ha, .int vm])), (hs, .inr (4, [.ref sn, .ref ss, .ref su, .int (nI K)])), (sn, .inr (0, [.ref xn])), (xn, .inl (cI, 48, .inl fN))] 0 0 (fun (r : Int32) (_ : Unit) => r = fN j) (fun (_ : Unit) => [(ho, .inr (7, [.ref hr, .ref hs, .ref h, .ref hg, .ref ha, .int vm])), (hs, .inr (4, [.ref sn, .ref ss, .ref su, .int (nI K)])), (sn, .inr (0, [.ref xn])), (xn, .inl (cI, 48, .inl fN))]) := by
  refine CtI.of c_RO_equal 2 (some .int) (by decide) rfl (Nat.le_of_ble_eq_true rfl) ?_
  intro p e s m args below meth c A Q hA9 hQ9 X hr9 hlk9 hin9
  refine g_aload_n X 0 d_RO_equal_0 rfl rfl ?_
  refine g_iload_n X 1 d_RO_equal_1 rfl rfl ?_
  refine g_callvV (n := 1) X [.int (nI j)] (k_RO_checkContext ho hr hs h hg ha vm sn ss su K j (by omega) (by omega)) t2_47 t2_49 ts_3 t1_1 t2_50 rfl rfl (by decide +kernel) ⟨by decide, by decide⟩ [0, 1] [2, 3] [(sn, .inr (0, [.ref xn])), (xn, .inl (cI, 48, .inl fN))] rfl rfl rfl rfl (by decide) 0 rfl rfl rfl rfl (Nat.le_of_ble_eq_true rfl) d_RO_equal_2 ⟨by decide, by decide⟩ (fun w9u1 hw1 => ?_)
  refine g_aload_n X 0 d_RO_equal_5 rfl rfl ?_
  refine g_get (C := R_RO) (T := T_RO) (N := 6) X 2 1 in_RO rfl rfl (by decide) t1_143 rfl rfl d_RO_equal_6 ?_
  refine g_iload_n X 1 d_RO_equal_9 rfl rfl ?_
  refine g_calliV (n := 1) X [.int (nI j)] (k_Strata_numberOf hs sn ss su K xn fN j (by omega)) t2_73 t2_74 t2_75 t1_5 t2_76 rfl rfl (by decide +kernel) ⟨by decide, by decide⟩ [3, 0, 1] [2] [(ho, .inr (7, [.ref hr, .ref hs, .ref h, .ref hg, .ref ha, .int vm]))] rfl rfl rfl rfl (by decide) 0 rfl rfl rfl rfl (Nat.le_of_ble_eq_true rfl) d_RO_equal_10 ⟨by decide, by decide⟩ (fun r2 w9u2 hw2 => ?_)
  subst hw2
  exact g_iret X hA9 hQ9 hr9 hlk9 () [0, 1, 2, 3] rfl rfl d_RO_equal_13 (rfl)

set_option maxHeartbeats 4000000 in
set_option maxRecDepth 100000 in
theorem k_RO_contemporary (ho : Nat) (hr : Nat) (hs : Nat) (h : Nat) (hg : Nat) (ha : Nat) (vm : Int32) (sn : Nat) (ss : Nat) (su : Nat) (K : Nat) (xn : Nat) (fN : Nat → Int32) (ru : Nat) (rw : Nat) (rk : Nat) (R : Nat) (sd : Nat) (au : Nat) (aw : Nat) (ak : Nat) (fA : Nat → Int32) (fB : Nat → Int32) (fK : Nat → Int32) (a : Nat → Nat) (b : Nat → Nat) (nm : Nat → Nat) (i : Nat) (j : Nat) (hK : K ≤ 48) (hR : R ≤ 200) (hA : ∀ r, r < R → fA r = nI (a r) ∧ a r < K) (hB : ∀ r, r < R → fB r = nI (b r) ∧ b r < K) (hN : ∀ z, z < K → fN z = nI (nm z) ∧ nm z < 48) (hi : i < K) (hj : j < K) : CtI l y_RO_contemporary (Cond.code y_RO_contemporary c_RO_contemporary 3 (some .boolean) :: TB) ({ frames := 3, cells := 0, slots := 0, locals := 69 } : Room) D (tysv cI cJ cZ cQ) [.ref ho, .int (nI i), .int (nI j)] [(ho, .inr (7, [.ref hr, .ref hs, .ref h, .ref hg, .ref ha, .int vm])), (hs, .inr (4, [.ref sn, .ref ss, .ref su, .int (nI K)])), (sn, .inr (0, [.ref xn])), (xn, .inl (cI, 48, .inl fN)), (hr, .inr (2, [.ref ru, .ref rw, .ref rk, .int (nI R), .int (nI sd)])), (ru, .inr (0, [.ref au])), (au, .inl (cI, 200, .inl fA)), (rw, .inr (0, [.ref aw])), (aw, .inl (cI, 200, .inl fB)), (rk, .inr (0, [.ref ak])), (ak, .inl (cI, 200, .inl fK))] 0 0 (fun (r : Int32) (_ : Unit) => r = bI (decide (nm i = nm j) || anyB (ctP fK a b nm i j) R)) (fun (_ : Unit) => [(ho, .inr (7, [.ref hr, .ref hs, .ref h, .ref hg, .ref ha, .int vm])), (hs, .inr (4, [.ref sn, .ref ss, .ref su, .int (nI K)])), (sn, .inr (0, [.ref xn])), (xn, .inl (cI, 48, .inl fN)), (hr, .inr (2, [.ref ru, .ref rw, .ref rk, .int (nI R), .int (nI sd)])), (ru, .inr (0, [.ref au])), (au, .inl (cI, 200, .inl fA)), (rw, .inr (0, [.ref aw])), (aw, .inl (cI, 200, .inl fB)), (rk, .inr (0, [.ref ak])), (ak, .inl (cI, 200, .inl fK))]) := by
  refine CtI.of c_RO_contemporary 3 (some .boolean) (by decide) rfl (Nat.le_of_ble_eq_true rfl) ?_
  intro p e s m args below meth c A Q hA9 hQ9 X hr9 hlk9 hin9
  refine g_aload_n X 0 d_RO_contemporary_0 rfl rfl ?_
  refine g_iload_n X 1 d_RO_contemporary_1 rfl rfl ?_
  refine g_callvV (n := 1) X [.int (nI i)] (k_RO_checkContext ho hr hs h hg ha vm sn ss su K i (by omega) (by omega)) t2_47 t2_49 ts_3 t1_1 t2_50 rfl rfl (by decide +kernel) ⟨by decide, by decide⟩ [0, 1] [2, 3, 4, 5, 6, 7, 8, 9, 10] [(sn, .inr (0, [.ref xn])), (xn, .inl (cI, 48, .inl fN)), (hr, .inr (2, [.ref ru, .ref rw, .ref rk, .int (nI R), .int (nI sd)])), (ru, .inr (0, [.ref au])), (au, .inl (cI, 200, .inl fA)), (rw, .inr (0, [.ref aw])), (aw, .inl (cI, 200, .inl fB)), (rk, .inr (0, [.ref ak])), (ak, .inl (cI, 200, .inl fK))] rfl rfl rfl rfl (by decide) 0 rfl rfl rfl rfl (Nat.le_of_ble_eq_true rfl) d_RO_contemporary_2 ⟨by decide, by decide⟩ (fun w9u1 hw1 => ?_)
  refine g_aload_n X 0 d_RO_contemporary_5 rfl rfl ?_
  refine g_iload_n X 2 d_RO_contemporary_6 rfl rfl ?_
  refine g_callvV (n := 1) X [.int (nI j)] (k_RO_checkContext ho hr hs h hg ha vm sn ss su K j (by omega) (by omega)) t2_47 t2_49 ts_3 t1_1 t2_50 rfl rfl (by decide +kernel) ⟨by decide, by decide⟩ [9, 10] [0, 1, 2, 3, 4, 5, 6, 7, 8] [(sn, .inr (0, [.ref xn])), (xn, .inl (cI, 48, .inl fN)), (hr, .inr (2, [.ref ru, .ref rw, .ref rk, .int (nI R), .int (nI sd)])), (ru, .inr (0, [.ref au])), (au, .inl (cI, 200, .inl fA)), (rw, .inr (0, [.ref aw])), (aw, .inl (cI, 200, .inl fB)), (rk, .inr (0, [.ref ak])), (ak, .inl (cI, 200, .inl fK))] rfl rfl rfl rfl (by decide) 0 rfl rfl rfl rfl (Nat.le_of_ble_eq_true rfl) d_RO_contemporary_7 ⟨by decide, by decide⟩ (fun w9u2 hw2 => ?_)
  refine g_aload_n X 0 d_RO_contemporary_10 rfl rfl ?_
  refine g_get (C := R_RO) (T := T_RO) (N := 6) X 9 1 in_RO rfl rfl (by decide) t1_143 rfl rfl d_RO_contemporary_11 ?_
  refine g_iload_n X 1 d_RO_contemporary_14 rfl rfl ?_
  refine g_iload_n X 2 d_RO_contemporary_15 rfl rfl ?_
  refine g_aload_n X 0 d_RO_contemporary_16 rfl rfl ?_
  refine g_get (C := R_RO) (T := T_RO) (N := 6) X 9 0 in_RO rfl rfl (by decide) t1_142 rfl rfl d_RO_contemporary_17 ?_
  refine g_calliV (n := 3) X [.int (nI i), .int (nI j), .ref hr] (k_Strata_areContemporary hs sn ss su K xn fN hr ru rw rk R sd au aw ak fA fB fK a b nm i j (by omega) (by omega) (hA) (hB) (hN) (by omega) (by omega)) t2_228 t2_229 t2_230 t1_5 t2_231 rfl rfl (by decide +kernel) ⟨by decide, by decide⟩ [10, 0, 1, 2, 3, 4, 5, 6, 7, 8] [9] [(ho, .inr (7, [.ref hr, .ref hs, .ref h, .ref hg, .ref ha, .int vm]))] rfl rfl rfl rfl (by decide) 0 rfl rfl rfl rfl (Nat.le_of_ble_eq_true rfl) d_RO_contemporary_20 ⟨by decide, by decide⟩ (fun r3 w9u3 hw3 => ?_)
  subst hw3
  exact g_zret X hA9 hQ9 hr9 (bI_01 _) hlk9 () [0, 1, 2, 3, 4, 5, 6, 7, 8, 9, 10] rfl rfl d_RO_contemporary_23 (rfl)

set_option maxHeartbeats 4000000 in
set_option maxRecDepth 100000 in
theorem k_RO_longest (ho : Nat) (hr : Nat) (hs : Nat) (h : Nat) (hg : Nat) (ha : Nat) (vm : Int32) (sn : Nat) (ss : Nat) (su : Nat) (K : Nat) (xn : Nat) (fN : Nat → Int32) (xu : Nat) (fU : Nat → Int64) (i : Nat) (x : Nat) (E : Nat → Nat → Bool) (hi : i < K) (hK : K ≤ 48) (hx : fN i = nI x) (hx2 : x < 48) (hE : gin E 48) (hac : ∀ z, ¬ gov E z z) (hU : ∀ y, y < 48 → ∀ j, lb (fU y) j = true ↔ gov E y j) : CtI l y_RO_longest (Cond.code y_RO_longest c_RO_longest 2 (some .int) :: TB) ({ frames := 2, cells := 0, slots := 0, locals := 49 } : Room) D (tysv cI cJ cZ cQ) [.ref ho, .int (nI i)] [(ho, .inr (7, [.ref hr, .ref hs, .ref h, .ref hg, .ref ha, .int vm])), (hs, .inr (4, [.ref sn, .ref ss, .ref su, .int (nI K)])), (sn, .inr (0, [.ref xn])), (xn, .inl (cI, 48, .inl fN)), (su, .inr (1, [.ref xu])), (xu, .inl (cJ, 48, .inr (.inl fU)))] 0 0 (fun (r : Int32) (z : Nat) => r = nI z ∧ z ≤ 48 ∧ glong E x z) (fun (z : Nat) => [(ho, .inr (7, [.ref hr, .ref hs, .ref h, .ref hg, .ref ha, .int vm])), (hs, .inr (4, [.ref sn, .ref ss, .ref su, .int (nI K)])), (sn, .inr (0, [.ref xn])), (xn, .inl (cI, 48, .inl fN)), (su, .inr (1, [.ref xu])), (xu, .inl (cJ, 48, .inr (.inl fU)))]) := by
  refine CtI.of c_RO_longest 2 (some .int) (by decide) rfl (Nat.le_of_ble_eq_true rfl) ?_
  intro p e s m args below meth c A Q hA9 hQ9 X hr9 hlk9 hin9
  refine g_aload_n X 0 d_RO_longest_0 rfl rfl ?_
  refine g_iload_n X 1 d_RO_longest_1 rfl rfl ?_
  refine g_callvV (n := 1) X [.int (nI i)] (k_RO_checkContext ho hr hs h hg ha vm sn ss su K i (by omega) (by omega)) t2_47 t2_49 ts_3 t1_1 t2_50 rfl rfl (by decide +kernel) ⟨by decide, by decide⟩ [0, 1] [2, 3, 4, 5] [(sn, .inr (0, [.ref xn])), (xn, .inl (cI, 48, .inl fN)), (su, .inr (1, [.ref xu])), (xu, .inl (cJ, 48, .inr (.inl fU)))] rfl rfl rfl rfl (by decide) 0 rfl rfl rfl rfl (Nat.le_of_ble_eq_true rfl) d_RO_longest_2 ⟨by decide, by decide⟩ (fun w9u1 hw1 => ?_)
  refine g_aload_n X 0 d_RO_longest_5 rfl rfl ?_
  refine g_get (C := R_RO) (T := T_RO) (N := 6) X 4 1 in_RO rfl rfl (by decide) t1_143 rfl rfl d_RO_longest_6 ?_
  refine g_iload_n X 1 d_RO_longest_9 rfl rfl ?_
  refine g_calliV (n := 1) X [.int (nI i)] (k_Strata_chainAbove hs sn ss su K xn fN xu fU i x E (by omega) (hx) (by omega) (hE) (hac) (hU)) t3_3 t3_4 t3_5 t1_5 t3_6 rfl rfl (by decide +kernel) ⟨by decide, by decide⟩ [5, 0, 1, 2, 3] [4] [(ho, .inr (7, [.ref hr, .ref hs, .ref h, .ref hg, .ref ha, .int vm]))] rfl rfl rfl rfl (by decide) 0 rfl rfl rfl rfl (Nat.le_of_ble_eq_true rfl) d_RO_longest_10 ⟨by decide, by decide⟩ (fun r2 z_2 hz9 => ?_)
  obtain ⟨rfl, hz9⟩ := hz9
  exact g_iret X hA9 hQ9 hr9 hlk9 z_2 [0, 1, 2, 3, 4, 5] rfl rfl d_RO_longest_13 (⟨rfl, hz9⟩)

set_option maxHeartbeats 4000000 in
set_option maxRecDepth 100000 in
theorem k_RO_group (ho : Nat) (hr : Nat) (hs : Nat) (h : Nat) (hg : Nat) (ha : Nat) (vm : Int32) (gh : Nat) (gl : Nat) (gr : Nat) (gm : Nat) (hm9 : gm < 12) : CtI l y_RO_group (Cond.code y_RO_group c_RO_group 1 (some .int) :: TB) ({ frames := 1, cells := 0, slots := 0, locals := 20 } : Room) D (tysv cI cJ cZ cQ) [.ref ho] [(ho, .inr (7, [.ref hr, .ref hs, .ref h, .ref hg, .ref ha, .int vm])), (hg, .inr (5, [.ref gh, .ref gl, .ref gr, .int (nI gm)]))] 0 0 (fun (r : Int32) (_ : Unit) => r = nI gm) (fun (_ : Unit) => [(ho, .inr (7, [.ref hr, .ref hs, .ref h, .ref hg, .ref ha, .int vm])), (hg, .inr (5, [.ref gh, .ref gl, .ref gr, .int (nI (gm + 1))]))]) := by
  refine CtI.of c_RO_group 1 (some .int) (by decide) rfl (Nat.le_of_ble_eq_true rfl) ?_
  intro p e s m args below meth c A Q hA9 hQ9 X hr9 hlk9 hin9
  refine g_aload_n X 0 d_RO_group_0 rfl rfl ?_
  refine g_get (C := R_RO) (T := T_RO) (N := 6) X 0 3 in_RO rfl rfl (by decide) t1_145 rfl rfl d_RO_group_1 ?_
  refine g_calliV (n := 0) X [] (k_Groups_made hg gh gl gr gm ) t3_15 t3_16 t3_17 t1_8 t3_18 rfl rfl (by decide +kernel) ⟨by decide, by decide⟩ [1] [0] [(ho, .inr (7, [.ref hr, .ref hs, .ref h, .ref hg, .ref ha, .int vm]))] rfl rfl rfl rfl (by decide) 0 rfl rfl rfl rfl (Nat.le_of_ble_eq_true rfl) d_RO_group_4 ⟨by decide, by decide⟩ (fun r1 w9u1 hw1 => ?_)
  subst hw1
  refine g_bipush (v := nI 12) X d_RO_group_7 rfl ?_
  refine n_icmp_lt X 22 d_RO_group_9 (by decide) (by omega) (by omega) (fun h9 => ?_) (fun h9 => absurd h9 (by omega))
  refine g_aload_n X 0 d_RO_group_22 rfl rfl ?_
  refine g_get (C := R_RO) (T := T_RO) (N := 6) X 0 3 in_RO rfl rfl (by decide) t1_145 rfl rfl d_RO_group_23 ?_
  refine g_calliV (n := 0) X [] (k_Groups_add hg gh gl gr gm (by omega)) t3_20 t3_21 t3_22 t1_8 t3_23 rfl rfl (by decide +kernel) ⟨by decide, by decide⟩ [1] [0] [(ho, .inr (7, [.ref hr, .ref hs, .ref h, .ref hg, .ref ha, .int vm]))] rfl rfl rfl rfl (by decide) 0 rfl rfl rfl rfl (Nat.le_of_ble_eq_true rfl) d_RO_group_26 ⟨by decide, by decide⟩ (fun r2 w9u2 hw2 => ?_)
  subst hw2
  exact g_iret X hA9 hQ9 hr9 hlk9 () [0, 1] rfl rfl d_RO_group_29 (rfl)

set_option maxHeartbeats 4000000 in
set_option maxRecDepth 100000 in
theorem k_RO_into (ho : Nat) (hr : Nat) (hs : Nat) (h : Nat) (hg : Nat) (ha : Nat) (vm : Int32) (gh : Nat) (gl : Nat) (gr : Nat) (xh : Nat) (fH : Nat → Int32) (xl : Nat) (fL : Nat → Int64) (rp : Nat) (ly : Nat) (ln : Int32) (ap : Nat) (P : Nat → Int32) (Y : Nat → Int64) (sn : Nat) (ss : Nat) (su : Nat) (K : Nat) (xn : Nat) (fN : Nat → Int32) (xu : Nat) (fU : Nat → Int64) (nm : Nat → Nat) (hm : Nat → Nat) (grp : Nat) (ctx : Nat) (gm : Nat) (hK : K ≤ 48) (hN : ∀ z, z < K → fN z = nI (nm z) ∧ nm z < 48) (hH : ∀ z, z < 48 → fH z = hI (hm z)) (hgp : grp < 12) (hcx : ctx < 48) (hgm : grp < gm) (hgm2 : gm ≤ 12) (hctx : ctx < K) (hd : ∀ k, ¬ gw (gpE (fun x y => lb (fU (nm x)) (nm y)) (fun z => if z = ctx then grp else hm z) K) (k + 1) grp grp) : CtI l y_RO_into (Cond.code y_RO_into c_RO_into 3 (some .boolean) :: TB) ({ frames := 5, cells := 0, slots := 0, locals := 113 } : Room) D (tysv cI cJ cZ cQ) [.ref ho, .int (nI grp), .int (nI ctx)] [(ho, .inr (7, [.ref hr, .ref hs, .ref h, .ref hg, .ref ha, .int vm])), (hg, .inr (5, [.ref gh, .ref gl, .ref gr, .int (nI gm)])), (gh, .inr (0, [.ref xh])), (xh, .inl (cI, 48, .inl fH)), (gl, .inr (1, [.ref xl])), (xl, .inl (cJ, 12, .inr (.inl fL))), (gr, .inr (3, [.ref rp, .ref ly, .int ln])), (rp, .inr (0, [.ref ap])), (ap, .inl (cI, 48, .inl P)), (ly, .inl (cJ, 48, .inr (.inl Y))), (hs, .inr (4, [.ref sn, .ref ss, .ref su, .int (nI K)])), (sn, .inr (0, [.ref xn])), (xn, .inl (cI, 48, .inl fN)), (su, .inr (1, [.ref xu])), (xu, .inl (cJ, 48, .inr (.inl fU)))] 0 0 (fun (r : Int32) (u : (Nat → Int64) × (Nat → Int64)) => r = bI true) (fun (u : (Nat → Int64) × (Nat → Int64)) => [(ho, .inr (7, [.ref hr, .ref hs, .ref h, .ref hg, .ref ha, .int vm])), (hg, .inr (5, [.ref gh, .ref gl, .ref gr, .int (nI gm)])), (gh, .inr (0, [.ref xh])), (xh, .inl (cI, 48, .inl (upd fH ctx (nI grp)))), (gl, .inr (1, [.ref xl])), (xl, .inl (cJ, 12, .inr (.inl u.1))), (gr, .inr (3, [.ref rp, .ref ly, .int ln])), (rp, .inr (0, [.ref ap])), (ap, .inl (cI, 48, .inl P)), (ly, .inl (cJ, 48, .inr (.inl u.2))), (hs, .inr (4, [.ref sn, .ref ss, .ref su, .int (nI K)])), (sn, .inr (0, [.ref xn])), (xn, .inl (cI, 48, .inl fN)), (su, .inr (1, [.ref xu])), (xu, .inl (cJ, 48, .inr (.inl fU)))]) := by
  refine CtI.of c_RO_into 3 (some .boolean) (by decide) rfl (Nat.le_of_ble_eq_true rfl) ?_
  intro p e s m args below meth c A Q hA9 hQ9 X hr9 hlk9 hin9
  refine g_iload_n X 1 d_RO_into_0 rfl rfl ?_
  refine n_if_lt X 15 d_RO_into_1 (by decide) (by omega) (fun h1 => absurd h1 (by omega)) (fun h1 => ?_)
  refine g_iload_n X 1 d_RO_into_4 rfl rfl ?_
  refine g_aload_n X 0 d_RO_into_5 rfl rfl ?_
  refine g_get (C := R_RO) (T := T_RO) (N := 6) X 0 3 in_RO rfl rfl (by decide) t1_145 rfl rfl d_RO_into_6 ?_
  refine g_calliV (n := 0) X [] (k_Groups_made hg gh gl gr gm ) t3_15 t3_16 t3_17 t1_8 t3_18 rfl rfl (by decide +kernel) ⟨by decide, by decide⟩ [1] [0, 2, 3, 4, 5, 6, 7, 8, 9, 10, 11, 12, 13, 14] [(ho, .inr (7, [.ref hr, .ref hs, .ref h, .ref hg, .ref ha, .int vm])), (gh, .inr (0, [.ref xh])), (xh, .inl (cI, 48, .inl fH)), (gl, .inr (1, [.ref xl])), (xl, .inl (cJ, 12, .inr (.inl fL))), (gr, .inr (3, [.ref rp, .ref ly, .int ln])), (rp, .inr (0, [.ref ap])), (ap, .inl (cI, 48, .inl P)), (ly, .inl (cJ, 48, .inr (.inl Y))), (hs, .inr (4, [.ref sn, .ref ss, .ref su, .int (nI K)])), (sn, .inr (0, [.ref xn])), (xn, .inl (cI, 48, .inl fN)), (su, .inr (1, [.ref xu])), (xu, .inl (cJ, 48, .inr (.inl fU)))] rfl rfl rfl rfl (by decide) 0 rfl rfl rfl rfl (Nat.le_of_ble_eq_true rfl) d_RO_into_9 ⟨by decide, by decide⟩ (fun r1 w9u1 hw1 => ?_)
  subst hw1
  refine n_icmp_lt X 25 d_RO_into_12 (by decide) (by omega) (by omega) (fun h12 => ?_) (fun h12 => absurd h12 (by omega))
  refine g_aload_n X 0 d_RO_into_25 rfl rfl ?_
  refine g_iload_n X 2 d_RO_into_26 rfl rfl ?_
  refine g_callvV (n := 1) X [.int (nI ctx)] (k_RO_checkContext ho hr hs h hg ha vm sn ss su K ctx (by omega) (by omega)) t2_47 t2_49 ts_3 t1_1 t2_50 rfl rfl (by decide +kernel) ⟨by decide, by decide⟩ [0, 9] [1, 2, 3, 4, 5, 6, 7, 8, 10, 11, 12, 13, 14] [(gh, .inr (0, [.ref xh])), (xh, .inl (cI, 48, .inl fH)), (gl, .inr (1, [.ref xl])), (xl, .inl (cJ, 12, .inr (.inl fL))), (gr, .inr (3, [.ref rp, .ref ly, .int ln])), (rp, .inr (0, [.ref ap])), (ap, .inl (cI, 48, .inl P)), (ly, .inl (cJ, 48, .inr (.inl Y))), (sn, .inr (0, [.ref xn])), (xn, .inl (cI, 48, .inl fN)), (su, .inr (1, [.ref xu])), (xu, .inl (cJ, 48, .inr (.inl fU))), (hg, .inr (5, [.ref gh, .ref gl, .ref gr, .int (nI gm)]))] rfl rfl rfl rfl (by decide) 0 rfl rfl rfl rfl (Nat.le_of_ble_eq_true rfl) d_RO_into_27 ⟨by decide, by decide⟩ (fun w9u2 hw2 => ?_)
  refine g_aload_n X 0 d_RO_into_30 rfl rfl ?_
  refine g_get (C := R_RO) (T := T_RO) (N := 6) X 13 3 in_RO rfl rfl (by decide) t1_145 rfl rfl d_RO_into_31 ?_
  refine g_iload_n X 1 d_RO_into_34 rfl rfl ?_
  refine g_iload_n X 2 d_RO_into_35 rfl rfl ?_
  refine g_aload_n X 0 d_RO_into_36 rfl rfl ?_
  refine g_get (C := R_RO) (T := T_RO) (N := 6) X 13 1 in_RO rfl rfl (by decide) t1_143 rfl rfl d_RO_into_37 ?_
  refine g_calliV (n := 3) X [.int (nI grp), .int (nI ctx), .ref hs] (k_Groups_move hg gh gl gr (nI gm) xh fH xl fL rp ly ln ap P Y hs sn ss su K xn fN xu fU nm hm grp ctx (by omega) (hN) (hH) (by omega) (by omega) (hd)) t3_32 t3_33 t3_34 t1_8 t3_35 rfl rfl (by decide +kernel) ⟨by decide, by decide⟩ [12, 0, 1, 2, 3, 4, 5, 6, 7, 14, 8, 9, 10, 11] [13] [(ho, .inr (7, [.ref hr, .ref hs, .ref h, .ref hg, .ref ha, .int vm]))] rfl rfl rfl rfl (by decide) 0 rfl rfl rfl rfl (Nat.le_of_ble_eq_true rfl) d_RO_into_40 ⟨by decide, by decide⟩ (fun r3 ⟨gL_3, Z_3⟩ hw3 => ?_)
  subst hw3
  exact g_zret X hA9 hQ9 hr9 (by first | exact Or.inl rfl | exact Or.inr rfl) hlk9 ⟨gL_3, Z_3⟩ [0, 1, 2, 3, 4, 5, 6, 7, 8, 9, 10, 11, 12, 13, 14] rfl rfl d_RO_into_43 (rfl)

set_option maxHeartbeats 4000000 in
set_option maxRecDepth 100000 in
theorem k_RO_intoR (ho : Nat) (hr : Nat) (hs : Nat) (h : Nat) (hg : Nat) (ha : Nat) (vm : Int32) (gh : Nat) (gl : Nat) (gr : Nat) (xh : Nat) (fH : Nat → Int32) (xl : Nat) (fL : Nat → Int64) (rp : Nat) (ly : Nat) (ln : Int32) (ap : Nat) (P : Nat → Int32) (Y : Nat → Int64) (sn : Nat) (ss : Nat) (su : Nat) (K : Nat) (xn : Nat) (fN : Nat → Int32) (xu : Nat) (fU : Nat → Int64) (nm : Nat → Nat) (hm : Nat → Nat) (grp : Nat) (ctx : Nat) (gm : Nat) (d : Nat) (pp : Nat → Nat) (hK : K ≤ 48) (hN : ∀ z, z < K → fN z = nI (nm z) ∧ nm z < 48) (hH : ∀ z, z < 48 → fH z = hI (hm z)) (hgp : grp < 12) (hcx : ctx < 48) (hgm : grp < gm) (hgm2 : gm ≤ 12) (hctx : ctx < K) (hd : gring (gpE (fun x y => lb (fU (nm x)) (nm y)) (fun z => if z = ctx then grp else hm z) K) grp d pp) : CtI l y_RO_into (Cond.code y_RO_into c_RO_into 3 (some .boolean) :: TB) ({ frames := 5, cells := 0, slots := 0, locals := 115 } : Room) D (tysv cI cJ cZ cQ) [.ref ho, .int (nI grp), .int (nI ctx)] [(ho, .inr (7, [.ref hr, .ref hs, .ref h, .ref hg, .ref ha, .int vm])), (hg, .inr (5, [.ref gh, .ref gl, .ref gr, .int (nI gm)])), (gh, .inr (0, [.ref xh])), (xh, .inl (cI, 48, .inl fH)), (gl, .inr (1, [.ref xl])), (xl, .inl (cJ, 12, .inr (.inl fL))), (gr, .inr (3, [.ref rp, .ref ly, .int ln])), (rp, .inr (0, [.ref ap])), (ap, .inl (cI, 48, .inl P)), (ly, .inl (cJ, 48, .inr (.inl Y))), (hs, .inr (4, [.ref sn, .ref ss, .ref su, .int (nI K)])), (sn, .inr (0, [.ref xn])), (xn, .inl (cI, 48, .inl fN)), (su, .inr (1, [.ref xu])), (xu, .inl (cJ, 48, .inr (.inl fU)))] 0 0 (fun (r : Int32) (u : (Nat → Int64) × (Nat → Int32) × (Nat → Int64)) => r = bI false ∧ ∀ j, j < d → u.2.1 j = nI (pp j)) (fun (u : (Nat → Int64) × (Nat → Int32) × (Nat → Int64)) => [(ho, .inr (7, [.ref hr, .ref hs, .ref h, .ref hg, .ref ha, .int vm])), (hg, .inr (5, [.ref gh, .ref gl, .ref gr, .int (nI gm)])), (gh, .inr (0, [.ref xh])), (xh, .inl (cI, 48, .inl fH)), (gl, .inr (1, [.ref xl])), (xl, .inl (cJ, 12, .inr (.inl u.1))), (gr, .inr (3, [.ref rp, .ref ly, .int (nI d)])), (rp, .inr (0, [.ref ap])), (ap, .inl (cI, 48, .inl u.2.1)), (ly, .inl (cJ, 48, .inr (.inl u.2.2))), (hs, .inr (4, [.ref sn, .ref ss, .ref su, .int (nI K)])), (sn, .inr (0, [.ref xn])), (xn, .inl (cI, 48, .inl fN)), (su, .inr (1, [.ref xu])), (xu, .inl (cJ, 48, .inr (.inl fU)))]) := by
  refine CtI.of c_RO_into 3 (some .boolean) (by decide) rfl (Nat.le_of_ble_eq_true rfl) ?_
  intro p e s m args below meth c A Q hA9 hQ9 X hr9 hlk9 hin9
  refine g_iload_n X 1 d_RO_into_0 rfl rfl ?_
  refine n_if_lt X 15 d_RO_into_1 (by decide) (by omega) (fun h1 => absurd h1 (by omega)) (fun h1 => ?_)
  refine g_iload_n X 1 d_RO_into_4 rfl rfl ?_
  refine g_aload_n X 0 d_RO_into_5 rfl rfl ?_
  refine g_get (C := R_RO) (T := T_RO) (N := 6) X 0 3 in_RO rfl rfl (by decide) t1_145 rfl rfl d_RO_into_6 ?_
  refine g_calliV (n := 0) X [] (k_Groups_made hg gh gl gr gm ) t3_15 t3_16 t3_17 t1_8 t3_18 rfl rfl (by decide +kernel) ⟨by decide, by decide⟩ [1] [0, 2, 3, 4, 5, 6, 7, 8, 9, 10, 11, 12, 13, 14] [(ho, .inr (7, [.ref hr, .ref hs, .ref h, .ref hg, .ref ha, .int vm])), (gh, .inr (0, [.ref xh])), (xh, .inl (cI, 48, .inl fH)), (gl, .inr (1, [.ref xl])), (xl, .inl (cJ, 12, .inr (.inl fL))), (gr, .inr (3, [.ref rp, .ref ly, .int ln])), (rp, .inr (0, [.ref ap])), (ap, .inl (cI, 48, .inl P)), (ly, .inl (cJ, 48, .inr (.inl Y))), (hs, .inr (4, [.ref sn, .ref ss, .ref su, .int (nI K)])), (sn, .inr (0, [.ref xn])), (xn, .inl (cI, 48, .inl fN)), (su, .inr (1, [.ref xu])), (xu, .inl (cJ, 48, .inr (.inl fU)))] rfl rfl rfl rfl (by decide) 0 rfl rfl rfl rfl (Nat.le_of_ble_eq_true rfl) d_RO_into_9 ⟨by decide, by decide⟩ (fun r1 w9u1 hw1 => ?_)
  subst hw1
  refine n_icmp_lt X 25 d_RO_into_12 (by decide) (by omega) (by omega) (fun h12 => ?_) (fun h12 => absurd h12 (by omega))
  refine g_aload_n X 0 d_RO_into_25 rfl rfl ?_
  refine g_iload_n X 2 d_RO_into_26 rfl rfl ?_
  refine g_callvV (n := 1) X [.int (nI ctx)] (k_RO_checkContext ho hr hs h hg ha vm sn ss su K ctx (by omega) (by omega)) t2_47 t2_49 ts_3 t1_1 t2_50 rfl rfl (by decide +kernel) ⟨by decide, by decide⟩ [0, 9] [1, 2, 3, 4, 5, 6, 7, 8, 10, 11, 12, 13, 14] [(gh, .inr (0, [.ref xh])), (xh, .inl (cI, 48, .inl fH)), (gl, .inr (1, [.ref xl])), (xl, .inl (cJ, 12, .inr (.inl fL))), (gr, .inr (3, [.ref rp, .ref ly, .int ln])), (rp, .inr (0, [.ref ap])), (ap, .inl (cI, 48, .inl P)), (ly, .inl (cJ, 48, .inr (.inl Y))), (sn, .inr (0, [.ref xn])), (xn, .inl (cI, 48, .inl fN)), (su, .inr (1, [.ref xu])), (xu, .inl (cJ, 48, .inr (.inl fU))), (hg, .inr (5, [.ref gh, .ref gl, .ref gr, .int (nI gm)]))] rfl rfl rfl rfl (by decide) 0 rfl rfl rfl rfl (Nat.le_of_ble_eq_true rfl) d_RO_into_27 ⟨by decide, by decide⟩ (fun w9u2 hw2 => ?_)
  refine g_aload_n X 0 d_RO_into_30 rfl rfl ?_
  refine g_get (C := R_RO) (T := T_RO) (N := 6) X 13 3 in_RO rfl rfl (by decide) t1_145 rfl rfl d_RO_into_31 ?_
  refine g_iload_n X 1 d_RO_into_34 rfl rfl ?_
  refine g_iload_n X 2 d_RO_into_35 rfl rfl ?_
  refine g_aload_n X 0 d_RO_into_36 rfl rfl ?_
  refine g_get (C := R_RO) (T := T_RO) (N := 6) X 13 1 in_RO rfl rfl (by decide) t1_143 rfl rfl d_RO_into_37 ?_
  refine g_calliV (n := 3) X [.int (nI grp), .int (nI ctx), .ref hs] (k_Groups_moveR hg gh gl gr (nI gm) xh fH xl fL rp ly ln ap P Y hs sn ss su K xn fN xu fU nm hm grp ctx d pp (by omega) (hN) (hH) (by omega) (by omega) (hd)) t3_32 t3_33 t3_34 t1_8 t3_35 rfl rfl (by decide +kernel) ⟨by decide, by decide⟩ [12, 0, 1, 2, 3, 4, 5, 6, 7, 14, 8, 9, 10, 11] [13] [(ho, .inr (7, [.ref hr, .ref hs, .ref h, .ref hg, .ref ha, .int vm]))] rfl rfl rfl rfl (by decide) 0 rfl rfl rfl rfl (Nat.le_of_ble_eq_true rfl) d_RO_into_40 ⟨by decide, by decide⟩ (fun r3 ⟨gL_3, P2_3, Z_3⟩ hPP => ?_)
  obtain ⟨rfl, hPP⟩ := hPP
  exact g_zret X hA9 hQ9 hr9 (by first | exact Or.inl rfl | exact Or.inr rfl) hlk9 ⟨gL_3, P2_3, Z_3⟩ [0, 1, 2, 3, 4, 5, 6, 7, 8, 9, 10, 11, 12, 13, 14] rfl rfl d_RO_into_43 (by (try dsimp only); exact (⟨rfl, hPP⟩))

set_option maxHeartbeats 4000000 in
set_option maxRecDepth 100000 in
theorem k_RO_groupRing (ho : Nat) (hr : Nat) (hs : Nat) (h : Nat) (hg : Nat) (ha : Nat) (vm : Int32) (gh : Nat) (gl : Nat) (gr : Nat) (mk : Int32) (rp : Nat) (ly : Nat) (d : Nat) (ap : Nat) (P : Nat → Int32) (k : Nat) (hk : k < d) (hd : d ≤ 48) : CtI l y_RO_groupRing (Cond.code y_RO_groupRing c_RO_groupRing 2 (some .int) :: TB) ({ frames := 3, cells := 0, slots := 0, locals := 63 } : Room) D (tysv cI cJ cZ cQ) [.ref ho, .int (nI k)] [(ho, .inr (7, [.ref hr, .ref hs, .ref h, .ref hg, .ref ha, .int vm])), (hg, .inr (5, [.ref gh, .ref gl, .ref gr, .int mk])), (gr, .inr (3, [.ref rp, .ref ly, .int (nI d)])), (rp, .inr (0, [.ref ap])), (ap, .inl (cI, 48, .inl P))] 0 0 (fun (r : Int32) (_ : Unit) => r = P k) (fun (_ : Unit) => [(ho, .inr (7, [.ref hr, .ref hs, .ref h, .ref hg, .ref ha, .int vm])), (hg, .inr (5, [.ref gh, .ref gl, .ref gr, .int mk])), (gr, .inr (3, [.ref rp, .ref ly, .int (nI d)])), (rp, .inr (0, [.ref ap])), (ap, .inl (cI, 48, .inl P))]) := by
  refine CtI.of c_RO_groupRing 2 (some .int) (by decide) rfl (Nat.le_of_ble_eq_true rfl) ?_
  intro p e s m args below meth c A Q hA9 hQ9 X hr9 hlk9 hin9
  refine g_iload_n X 1 d_RO_groupRing_0 rfl rfl ?_
  refine g_callvS (n := 1) X [.int (nI k)] (k_RO_checkPlace k (by omega)) t2_168 t2_169 t1_1 t2_170 rfl rfl (by decide +kernel) ⟨by decide, by decide⟩ [] [0, 1, 2, 3, 4] [(ho, .inr (7, [.ref hr, .ref hs, .ref h, .ref hg, .ref ha, .int vm])), (hg, .inr (5, [.ref gh, .ref gl, .ref gr, .int mk])), (gr, .inr (3, [.ref rp, .ref ly, .int (nI d)])), (rp, .inr (0, [.ref ap])), (ap, .inl (cI, 48, .inl P))] rfl rfl rfl rfl (by decide) rfl rfl (Nat.le_of_ble_eq_true rfl) d_RO_groupRing_1 ⟨by decide, by decide⟩ (fun w9u1 hw1 => ?_)
  refine g_aload_n X 0 d_RO_groupRing_4 rfl rfl ?_
  refine g_get (C := R_RO) (T := T_RO) (N := 6) X 0 3 in_RO rfl rfl (by decide) t1_145 rfl rfl d_RO_groupRing_5 ?_
  refine g_iload_n X 1 d_RO_groupRing_8 rfl rfl ?_
  refine g_calliV (n := 1) X [.int (nI k)] (k_Groups_ringPlace hg gh gl gr mk rp ly d ap P k (by omega) (by omega)) t3_54 t3_55 t3_56 t1_8 t3_57 rfl rfl (by decide +kernel) ⟨by decide, by decide⟩ [1, 2, 3, 4] [0] [(ho, .inr (7, [.ref hr, .ref hs, .ref h, .ref hg, .ref ha, .int vm]))] rfl rfl rfl rfl (by decide) 0 rfl rfl rfl rfl (Nat.le_of_ble_eq_true rfl) d_RO_groupRing_9 ⟨by decide, by decide⟩ (fun r2 w9u2 hw2 => ?_)
  subst hw2
  exact g_iret X hA9 hQ9 hr9 hlk9 () [0, 1, 2, 3, 4] rfl rfl d_RO_groupRing_12 (rfl)

set_option maxHeartbeats 4000000 in
set_option maxRecDepth 100000 in
theorem k_RO_groupRingN (ho : Nat) (hr : Nat) (hs : Nat) (h : Nat) (hg : Nat) (ha : Nat) (vm : Int32) (gh : Nat) (gl : Nat) (gr : Nat) (mk : Int32) (rp : Nat) (ly : Nat) (d : Nat) (k : Nat) (hk : d ≤ k) (hk2 : k < 2 ^ 31) : CtI l y_RO_groupRing (Cond.code y_RO_groupRing c_RO_groupRing 2 (some .int) :: TB) ({ frames := 2, cells := 0, slots := 0, locals := 42 } : Room) D (tysv cI cJ cZ cQ) [.ref ho, .int (nI k)] [(ho, .inr (7, [.ref hr, .ref hs, .ref h, .ref hg, .ref ha, .int vm])), (hg, .inr (5, [.ref gh, .ref gl, .ref gr, .int mk])), (gr, .inr (3, [.ref rp, .ref ly, .int (nI d)]))] 0 0 (fun (r : Int32) (_ : Unit) => r = -1) (fun (_ : Unit) => [(ho, .inr (7, [.ref hr, .ref hs, .ref h, .ref hg, .ref ha, .int vm])), (hg, .inr (5, [.ref gh, .ref gl, .ref gr, .int mk])), (gr, .inr (3, [.ref rp, .ref ly, .int (nI d)]))]) := by
  refine CtI.of c_RO_groupRing 2 (some .int) (by decide) rfl (Nat.le_of_ble_eq_true rfl) ?_
  intro p e s m args below meth c A Q hA9 hQ9 X hr9 hlk9 hin9
  refine g_iload_n X 1 d_RO_groupRing_0 rfl rfl ?_
  refine g_callvS (n := 1) X [.int (nI k)] (k_RO_checkPlace k (by omega)) t2_168 t2_169 t1_1 t2_170 rfl rfl (by decide +kernel) ⟨by decide, by decide⟩ [] [0, 1, 2] [(ho, .inr (7, [.ref hr, .ref hs, .ref h, .ref hg, .ref ha, .int vm])), (hg, .inr (5, [.ref gh, .ref gl, .ref gr, .int mk])), (gr, .inr (3, [.ref rp, .ref ly, .int (nI d)]))] rfl rfl rfl rfl (by decide) rfl rfl (Nat.le_of_ble_eq_true rfl) d_RO_groupRing_1 ⟨by decide, by decide⟩ (fun w9u1 hw1 => ?_)
  refine g_aload_n X 0 d_RO_groupRing_4 rfl rfl ?_
  refine g_get (C := R_RO) (T := T_RO) (N := 6) X 0 3 in_RO rfl rfl (by decide) t1_145 rfl rfl d_RO_groupRing_5 ?_
  refine g_iload_n X 1 d_RO_groupRing_8 rfl rfl ?_
  refine g_calliV (n := 1) X [.int (nI k)] (k_Groups_ringPlaceN hg gh gl gr mk rp ly d k (by omega) (by omega)) t3_54 t3_55 t3_56 t1_8 t3_57 rfl rfl (by decide +kernel) ⟨by decide, by decide⟩ [1, 2] [0] [(ho, .inr (7, [.ref hr, .ref hs, .ref h, .ref hg, .ref ha, .int vm]))] rfl rfl rfl rfl (by decide) 0 rfl rfl rfl rfl (Nat.le_of_ble_eq_true rfl) d_RO_groupRing_9 ⟨by decide, by decide⟩ (fun r2 w9u2 hw2 => ?_)
  subst hw2
  exact g_iret X hA9 hQ9 hr9 hlk9 () [0, 1, 2] rfl rfl d_RO_groupRing_12 (rfl)

set_option maxHeartbeats 4000000 in
set_option maxRecDepth 100000 in
theorem k_RO_groupOf (ho : Nat) (hr : Nat) (hs : Nat) (h : Nat) (hg : Nat) (ha : Nat) (vm : Int32) (sn : Nat) (ss : Nat) (su : Nat) (K : Nat) (gh : Nat) (gl : Nat) (gr : Nat) (mk : Int32) (xh : Nat) (fH : Nat → Int32) (j : Nat) (hj : j < K) (hK : K ≤ 48) : CtI l y_RO_groupOf (Cond.code y_RO_groupOf c_RO_groupOf 2 (some .int) :: TB) ({ frames := 2, cells := 0, slots := 0, locals := 42 } : Room) D (tysv cI cJ cZ cQ) [.ref ho, .int (nI j)] [(ho, .inr (7, [.ref hr, .ref hs, .ref h, .ref hg, .ref ha, .int vm])), (hs, .inr (4, [.ref sn, .ref ss, .ref su, .int (nI K)])), (hg, .inr (5, [.ref gh, .ref gl, .ref gr, .int mk])), (gh, .inr (0, [.ref xh])), (xh, .inl (cI, 48, .inl fH))] 0 0 (fun (r : Int32) (_ : Unit) => r = fH j) (fun (_ : Unit) => [(ho, .inr (7, [.ref hr, .ref hs, .ref h, .ref hg, .ref ha, .int vm])), (hs, .inr (4, [.ref sn, .ref ss, .ref su, .int (nI K)])), (hg, .inr (5, [.ref gh, .ref gl, .ref gr, .int mk])), (gh, .inr (0, [.ref xh])), (xh, .inl (cI, 48, .inl fH))]) := by
  refine CtI.of c_RO_groupOf 2 (some .int) (by decide) rfl (Nat.le_of_ble_eq_true rfl) ?_
  intro p e s m args below meth c A Q hA9 hQ9 X hr9 hlk9 hin9
  refine g_aload_n X 0 d_RO_groupOf_0 rfl rfl ?_
  refine g_iload_n X 1 d_RO_groupOf_1 rfl rfl ?_
  refine g_callvV (n := 1) X [.int (nI j)] (k_RO_checkContext ho hr hs h hg ha vm sn ss su K j (by omega) (by omega)) t2_47 t2_49 ts_3 t1_1 t2_50 rfl rfl (by decide +kernel) ⟨by decide, by decide⟩ [0, 1] [2, 3, 4] [(hg, .inr (5, [.ref gh, .ref gl, .ref gr, .int mk])), (gh, .inr (0, [.ref xh])), (xh, .inl (cI, 48, .inl fH))] rfl rfl rfl rfl (by decide) 0 rfl rfl rfl rfl (Nat.le_of_ble_eq_true rfl) d_RO_groupOf_2 ⟨by decide, by decide⟩ (fun w9u1 hw1 => ?_)
  refine g_aload_n X 0 d_RO_groupOf_5 rfl rfl ?_
  refine g_get (C := R_RO) (T := T_RO) (N := 6) X 3 3 in_RO rfl rfl (by decide) t1_145 rfl rfl d_RO_groupOf_6 ?_
  refine g_iload_n X 1 d_RO_groupOf_9 rfl rfl ?_
  refine g_calliV (n := 1) X [.int (nI j)] (k_Groups_homeOf hg gh gl gr mk xh fH j (by omega)) t3_66 t3_67 t3_68 t1_8 t3_69 rfl rfl (by decide +kernel) ⟨by decide, by decide⟩ [0, 1, 2] [3, 4] [(ho, .inr (7, [.ref hr, .ref hs, .ref h, .ref hg, .ref ha, .int vm])), (hs, .inr (4, [.ref sn, .ref ss, .ref su, .int (nI K)]))] rfl rfl rfl rfl (by decide) 0 rfl rfl rfl rfl (Nat.le_of_ble_eq_true rfl) d_RO_groupOf_10 ⟨by decide, by decide⟩ (fun r2 w9u2 hw2 => ?_)
  subst hw2
  exact g_iret X hA9 hQ9 hr9 hlk9 () [0, 1, 2, 3, 4] rfl rfl d_RO_groupOf_13 (rfl)

set_option maxHeartbeats 4000000 in
set_option maxRecDepth 100000 in
theorem k_RO_version (ho : Nat) (hr : Nat) (hs : Nat) (h : Nat) (hg : Nat) (ha : Nat) (vv : Nat) (fV : Nat → Option Nat) (sn : Nat) (ss : Nat) (su : Nat) (K : Nat) (xn : Nat) (fN : Nat → Int32) (xu : Nat) (fU : Nat → Int64) (nm : Nat → Nat) (hv9 : vv < 8) (hK : K ≤ 48) (hN : ∀ z, z < K → fN z = nI (nm z) ∧ nm z < 48) : CtI l y_RO_version (Cond.code y_RO_version c_RO_version 1 (some .int) :: TB) ({ frames := 4, cells := 7, slots := 150, locals := 88 } : Room) D (tysv cI cJ cZ cQ) [.ref ho] [(ho, .inr (7, [.ref hr, .ref hs, .ref h, .ref hg, .ref ha, .int (nI vv)])), (ha, .inl (cQ, 8, .inr (.inr (.inr (.inr fV))))), (hs, .inr (4, [.ref sn, .ref ss, .ref su, .int (nI K)])), (sn, .inr (0, [.ref xn])), (xn, .inl (cI, 48, .inl fN)), (su, .inr (1, [.ref xu])), (xu, .inl (cJ, 48, .inr (.inl fU)))] 7 150 (fun (r : Int32) (u : Nat × Nat × Nat × Nat × Nat × Nat × Nat × (Nat → Int32) × (Nat → Int64) × (Nat → Int64)) => r = nI vv ∧ (∀ k, k < K → u.2.2.2.2.2.2.2.1 k = fN k) ∧ (∀ k, K ≤ k → k < 48 → u.2.2.2.2.2.2.2.1 k = -1) ∧ vvA (fun x y => lb (fU (nm x)) (nm y)) K K 0 u.2.2.2.2.2.2.2.2.1 ∧ vvB (fun x y => lb (fU (nm x)) (nm y)) K K 0 u.2.2.2.2.2.2.2.2.2) (fun (u : Nat × Nat × Nat × Nat × Nat × Nat × Nat × (Nat → Int32) × (Nat → Int64) × (Nat → Int64)) => [(ho, .inr (7, [.ref hr, .ref hs, .ref h, .ref hg, .ref ha, .int (nI (vv + 1))])), (ha, .inl (cQ, 8, .inr (.inr (.inr (.inr (va_up fV vv (some u.1))))))), (hs, .inr (4, [.ref sn, .ref ss, .ref su, .int (nI K)])), (sn, .inr (0, [.ref xn])), (xn, .inl (cI, 48, .inl fN)), (su, .inr (1, [.ref xu])), (xu, .inl (cJ, 48, .inr (.inl fU))), (u.1, .inr (6, [.ref u.2.1, .ref u.2.2.2.1, .ref u.2.2.2.2.2.1])), (u.2.1, .inr (0, [.ref u.2.2.1])), (u.2.2.1, .inl (cI, 48, .inl u.2.2.2.2.2.2.2.1)), (u.2.2.2.1, .inr (1, [.ref u.2.2.2.2.1])), (u.2.2.2.2.1, .inl (cJ, 48, .inr (.inl u.2.2.2.2.2.2.2.2.1))), (u.2.2.2.2.2.1, .inr (1, [.ref u.2.2.2.2.2.2.1])), (u.2.2.2.2.2.2.1, .inl (cJ, 48, .inr (.inl u.2.2.2.2.2.2.2.2.2)))]) := by
  refine CtI.of c_RO_version 1 (some .int) (by decide) rfl (Nat.le_of_ble_eq_true rfl) ?_
  intro p e s m args below meth c A Q hA9 hQ9 X hr9 hlk9 hin9
  refine g_aload_n X 0 d_RO_version_0 rfl rfl ?_
  refine g_get (C := R_RO) (T := T_RO) (N := 6) X 0 5 in_RO rfl rfl (by decide) t1_147 rfl rfl d_RO_version_1 ?_
  refine n_if_lt X 19 d_RO_version_4 (by decide) (by omega) (fun h4 => absurd h4 (by omega)) (fun h4 => ?_)
  refine g_aload_n X 0 d_RO_version_7 rfl rfl ?_
  refine g_get (C := R_RO) (T := T_RO) (N := 6) X 0 5 in_RO rfl rfl (by decide) t1_147 rfl rfl d_RO_version_8 ?_
  refine g_aload_n X 0 d_RO_version_11 rfl rfl ?_
  refine g_get (C := R_RO) (T := T_RO) (N := 6) X 0 4 in_RO rfl rfl (by decide) t1_146 rfl rfl d_RO_version_12 ?_
  refine g_alen X 1 3 rfl rfl d_RO_version_15 ?_
  refine n_icmp_lt X 29 d_RO_version_16 (by decide) (by omega) (by omega) (fun h16 => ?_) (fun h16 => absurd h16 (by omega))
  refine g_aload_n X 0 d_RO_version_29 rfl rfl ?_
  refine g_get (C := R_RO) (T := T_RO) (N := 6) X 0 4 in_RO rfl rfl (by decide) t1_146 rfl rfl d_RO_version_30 ?_
  refine g_aload_n X 0 d_RO_version_33 rfl rfl ?_
  refine g_get (C := R_RO) (T := T_RO) (N := 6) X 0 5 in_RO rfl rfl (by decide) t1_147 rfl rfl d_RO_version_34 ?_
  refine g_new (ci := 6) (fs := [.null, .null, .null]) (C := R_Version) (T := T_Version) (N := 3) X t_Version ty_Version in_Version t1_140 t3_78 t1_16 rfl (fun j hj => by rcases (show j = 0 ∨ j = 1 ∨ j = 2 by omega) with rfl | rfl | rfl <;> rfl) (by decide) (by decide) d_RO_version_37 (fun q1 => ?_)
  refine g_dup X d_RO_version_40 rfl ?_
  refine g_aload_n X 0 d_RO_version_41 rfl rfl ?_
  refine g_get (C := R_RO) (T := T_RO) (N := 6) X 0 1 in_RO rfl rfl (by decide) t1_143 rfl rfl d_RO_version_42 ?_
  refine g_callvI (n := 1) X [.ref hs] (k_Version_init q1 hs sn ss su K xn fN xu fU nm (by omega) (hN)) t3_79 t3_80 rfl t1_16 t3_81 rfl rfl (by decide +kernel) ⟨by decide, by decide⟩ [7, 2, 3, 4, 5, 6] [0, 1] [(ho, .inr (7, [.ref hr, .ref hs, .ref h, .ref hg, .ref ha, .int (nI vv)])), (ha, .inl (cQ, 8, .inr (.inr (.inr (.inr fV)))))] rfl rfl rfl rfl (by decide) rfl rfl (Nat.le_of_ble_eq_true rfl) d_RO_version_45 ⟨by decide, by decide⟩ (fun ⟨vn_2, yn_2, vu_2, yu_2, vo_2, yo_2, gN_2, gA_2, gB_2⟩ hV9 => ?_)
  refine g_astq (r := (R_Version, T_Version, 3)) X 1 3 2 [(ho, .inr (7, [.ref hr, .ref hs, .ref h, .ref hg, .ref ha, .int (nI vv)])), (ha, .inl (cQ, 8, .inr (.inr (.inr (.inr (va_up fV vv (some q1))))))), (q1, .inr (6, [.ref vn_2, .ref vu_2, .ref vo_2])), (vn_2, .inr (0, [.ref yn_2])), (yn_2, .inl (cI, 48, .inl gN_2)), (vu_2, .inr (1, [.ref yu_2])), (yu_2, .inl (cJ, 48, .inr (.inl gA_2))), (vo_2, .inr (1, [.ref yo_2])), (yo_2, .inl (cJ, 48, .inr (.inl gB_2))), (hs, .inr (4, [.ref sn, .ref ss, .ref su, .int (nI K)])), (sn, .inr (0, [.ref xn])), (xn, .inl (cI, 48, .inl fN)), (su, .inr (1, [.ref xu])), (xu, .inl (cJ, 48, .inr (.inl fU)))] rfl rfl rfl rfl (by omega) (by omega) rfl d_RO_version_48 ?_
  refine g_aload_n X 0 d_RO_version_49 rfl rfl ?_
  refine g_dup X d_RO_version_50 rfl ?_
  refine g_get (C := R_RO) (T := T_RO) (N := 6) X 0 5 in_RO rfl rfl (by decide) t1_147 rfl rfl d_RO_version_51 ?_
  refine g_iconst (v := nI 1) X d_RO_version_54 rfl ?_
  refine g_iadd X (nI (vv + 1)) d_RO_version_55 (nI_add vv 1) ?_
  refine g_put (C := R_RO) (T := T_RO) (N := 6) (ty := .int) X 0 5 [(ho, .inr (7, [.ref hr, .ref hs, .ref h, .ref hg, .ref ha, .int (nI (vv + 1))])), (ha, .inl (cQ, 8, .inr (.inr (.inr (.inr (va_up fV vv (some q1))))))), (q1, .inr (6, [.ref vn_2, .ref vu_2, .ref vo_2])), (vn_2, .inr (0, [.ref yn_2])), (yn_2, .inl (cI, 48, .inl gN_2)), (vu_2, .inr (1, [.ref yu_2])), (yu_2, .inl (cJ, 48, .inr (.inl gA_2))), (vo_2, .inr (1, [.ref yo_2])), (yo_2, .inl (cJ, 48, .inr (.inl gB_2))), (hs, .inr (4, [.ref sn, .ref ss, .ref su, .int (nI K)])), (sn, .inr (0, [.ref xn])), (xn, .inl (cI, 48, .inl fN)), (su, .inr (1, [.ref xu])), (xu, .inl (cJ, 48, .inr (.inl fU)))] t_RO ty_RO nm_RO in_RO rfl rfl (by decide) t1_147 rfl rfl (by decide +kernel) rfl rfl (Nat.le_of_ble_eq_true rfl) rfl d_RO_version_56 ?_
  refine g_aload_n X 0 d_RO_version_59 rfl rfl ?_
  refine g_get (C := R_RO) (T := T_RO) (N := 6) X 0 5 in_RO rfl rfl (by decide) t1_147 rfl rfl d_RO_version_60 ?_
  refine g_iconst (v := nI 1) X d_RO_version_63 rfl ?_
  refine g_isub X (nI ((vv + 1) - 1)) d_RO_version_64 (pk_sub (by omega)) ?_
  exact g_iret X hA9 hQ9 hr9 hlk9 ⟨q1, vn_2, yn_2, vu_2, yu_2, vo_2, yo_2, gN_2, gA_2, gB_2⟩ [0, 1, 9, 10, 11, 12, 13, 2, 3, 4, 5, 6, 7, 8] rfl rfl d_RO_version_65 (by (try dsimp only); exact (⟨by rw [Nat.add_sub_cancel], hV9⟩))

set_option maxHeartbeats 4000000 in
set_option maxRecDepth 100000 in
theorem k_RO_versionAt (ho : Nat) (hr : Nat) (hs : Nat) (h : Nat) (hg : Nat) (ha : Nat) (vm : Int32) (fV : Nat → Option Nat) (j : Nat) (ad : Nat) (hj : j < 8) (hf : fV j = some ad) : CtQ l y_RO_versionAt (Cond.code y_RO_versionAt c_RO_versionAt 2 (Option.some (FieldType.object "RelationOrder$Version")) :: TB) ({ frames := 0, cells := 0, slots := 0, locals := 0 } : Room) D (tysv cI cJ cZ cQ) [.ref ho, .int (nI j)] [(ho, .inr (7, [.ref hr, .ref hs, .ref h, .ref hg, .ref ha, .int vm])), (ha, .inl (cQ, 8, .inr (.inr (.inr (.inr fV)))))] 0 0 (fun (r : Option Nat) (_ : Unit) => r = some ad) (fun (_ : Unit) => [(ho, .inr (7, [.ref hr, .ref hs, .ref h, .ref hg, .ref ha, .int vm])), (ha, .inl (cQ, 8, .inr (.inr (.inr (.inr fV)))))]) := by
  refine CtQ.of c_RO_versionAt 2 (Option.some (FieldType.object "RelationOrder$Version")) (by decide) rfl (Nat.le_of_ble_eq_true rfl) ?_
  intro p e s m args below meth c A Q hA9 hQ9 X hr9 hlk9 hin9
  refine g_iload_n X 1 d_RO_versionAt_0 rfl rfl ?_
  refine n_if_lt X 22 d_RO_versionAt_1 (by decide) (by omega) (fun h1 => absurd h1 (by omega)) (fun h1 => ?_)
  refine g_iload_n X 1 d_RO_versionAt_4 rfl rfl ?_
  refine g_aload_n X 0 d_RO_versionAt_5 rfl rfl ?_
  refine g_get (C := R_RO) (T := T_RO) (N := 6) X 0 4 in_RO rfl rfl (by decide) t1_146 rfl rfl d_RO_versionAt_6 ?_
  refine g_alen X 1 3 rfl rfl d_RO_versionAt_9 ?_
  refine n_icmp_ge X 22 d_RO_versionAt_10 (by decide) (by omega) (by omega) (fun h10 => absurd h10 (by omega)) (fun h10 => ?_)
  refine g_aload_n X 0 d_RO_versionAt_13 rfl rfl ?_
  refine g_get (C := R_RO) (T := T_RO) (N := 6) X 0 4 in_RO rfl rfl (by decide) t1_146 rfl rfl d_RO_versionAt_14 ?_
  refine g_iload_n X 1 d_RO_versionAt_17 rfl rfl ?_
  refine g_aldq X 1 3 rfl rfl (by omega) (by omega) d_RO_versionAt_18 ?_
  refine g_goto X 23 d_RO_versionAt_19 (by decide) ?_
  exact g_qret X hA9 hQ9 hr9 hlk9 () [0, 1] rfl rfl d_RO_versionAt_23 (hf)

set_option maxHeartbeats 4000000 in
set_option maxRecDepth 100000 in
theorem k_RO_versionAtN (ho : Nat) (hr : Nat) (hs : Nat) (h : Nat) (hg : Nat) (ha : Nat) (vm : Int32) (fV : Nat → Option Nat) (j : Nat) (hj : j < 8) (hf : fV j = none) : CtQ l y_RO_versionAt (Cond.code y_RO_versionAt c_RO_versionAt 2 (Option.some (FieldType.object "RelationOrder$Version")) :: TB) ({ frames := 0, cells := 0, slots := 0, locals := 0 } : Room) D (tysv cI cJ cZ cQ) [.ref ho, .int (nI j)] [(ho, .inr (7, [.ref hr, .ref hs, .ref h, .ref hg, .ref ha, .int vm])), (ha, .inl (cQ, 8, .inr (.inr (.inr (.inr fV)))))] 0 0 (fun (r : Option Nat) (_ : Unit) => r = none) (fun (_ : Unit) => [(ho, .inr (7, [.ref hr, .ref hs, .ref h, .ref hg, .ref ha, .int vm])), (ha, .inl (cQ, 8, .inr (.inr (.inr (.inr fV)))))]) := by
  refine CtQ.of c_RO_versionAt 2 (Option.some (FieldType.object "RelationOrder$Version")) (by decide) rfl (Nat.le_of_ble_eq_true rfl) ?_
  intro p e s m args below meth c A Q hA9 hQ9 X hr9 hlk9 hin9
  refine g_iload_n X 1 d_RO_versionAt_0 rfl rfl ?_
  refine n_if_lt X 22 d_RO_versionAt_1 (by decide) (by omega) (fun h1 => absurd h1 (by omega)) (fun h1 => ?_)
  refine g_iload_n X 1 d_RO_versionAt_4 rfl rfl ?_
  refine g_aload_n X 0 d_RO_versionAt_5 rfl rfl ?_
  refine g_get (C := R_RO) (T := T_RO) (N := 6) X 0 4 in_RO rfl rfl (by decide) t1_146 rfl rfl d_RO_versionAt_6 ?_
  refine g_alen X 1 3 rfl rfl d_RO_versionAt_9 ?_
  refine n_icmp_ge X 22 d_RO_versionAt_10 (by decide) (by omega) (by omega) (fun h10 => absurd h10 (by omega)) (fun h10 => ?_)
  refine g_aload_n X 0 d_RO_versionAt_13 rfl rfl ?_
  refine g_get (C := R_RO) (T := T_RO) (N := 6) X 0 4 in_RO rfl rfl (by decide) t1_146 rfl rfl d_RO_versionAt_14 ?_
  refine g_iload_n X 1 d_RO_versionAt_17 rfl rfl ?_
  refine g_aldq X 1 3 rfl rfl (by omega) (by omega) d_RO_versionAt_18 ?_
  refine g_goto X 23 d_RO_versionAt_19 (by decide) ?_
  exact g_qret X hA9 hQ9 hr9 hlk9 () [0, 1] rfl rfl d_RO_versionAt_23 (hf)

set_option maxHeartbeats 4000000 in
set_option maxRecDepth 100000 in
theorem k_RO_versionAtB (ho : Nat) (hr : Nat) (hs : Nat) (h : Nat) (hg : Nat) (ha : Nat) (vm : Int32) (fV : Nat → Option Nat) (x : Int32) (hx : x < 0 ∨ nI 8 ≤ x) : CtQ l y_RO_versionAt (Cond.code y_RO_versionAt c_RO_versionAt 2 (Option.some (FieldType.object "RelationOrder$Version")) :: TB) ({ frames := 0, cells := 0, slots := 0, locals := 0 } : Room) D (tysv cI cJ cZ cQ) [.ref ho, .int x] [(ho, .inr (7, [.ref hr, .ref hs, .ref h, .ref hg, .ref ha, .int vm])), (ha, .inl (cQ, 8, .inr (.inr (.inr (.inr fV)))))] 0 0 (fun (r : Option Nat) (_ : Unit) => r = none) (fun (_ : Unit) => [(ho, .inr (7, [.ref hr, .ref hs, .ref h, .ref hg, .ref ha, .int vm])), (ha, .inl (cQ, 8, .inr (.inr (.inr (.inr fV)))))]) := by
  refine CtQ.of c_RO_versionAt 2 (Option.some (FieldType.object "RelationOrder$Version")) (by decide) rfl (Nat.le_of_ble_eq_true rfl) ?_
  intro p e s m args below meth c A Q hA9 hQ9 X hr9 hlk9 hin9
  refine g_iload_n X 1 d_RO_versionAt_0 rfl rfl ?_
  refine g_if_lt X 22 d_RO_versionAt_1 (by decide) (fun h1 => ?_) (fun h1 => ?_)
  · refine g_null X d_RO_versionAt_22 ?_
    exact g_qret X hA9 hQ9 hr9 hlk9 () [0, 1] rfl rfl d_RO_versionAt_23 (rfl)
  · refine g_iload_n X 1 d_RO_versionAt_4 rfl rfl ?_
    refine g_aload_n X 0 d_RO_versionAt_5 rfl rfl ?_
    refine g_get (C := R_RO) (T := T_RO) (N := 6) X 0 4 in_RO rfl rfl (by decide) t1_146 rfl rfl d_RO_versionAt_6 ?_
    refine g_alen X 1 3 rfl rfl d_RO_versionAt_9 ?_
    refine g_icmp_ge X 22 d_RO_versionAt_10 (by decide) (fun h10 => ?_) (fun h10 => absurd h10 (not_not_intro (hx.resolve_left h1)))
    refine g_null X d_RO_versionAt_22 ?_
    exact g_qret X hA9 hQ9 hr9 hlk9 () [0, 1] rfl rfl d_RO_versionAt_23 (rfl)

set_option maxHeartbeats 4000000 in
set_option maxRecDepth 100000 in
theorem k_RO_differs (ho : Nat) (hr : Nat) (hs : Nat) (h : Nat) (hg : Nat) (ha : Nat) (vm : Int32) (fV : Nat → Option Nat) (hv : Nat) (vn : Nat) (vu : Nat) (vo : Nat) (yn : Nat) (yu : Nat) (yo : Nat) (n1 : Nat → Int32) (u1 : Nat → Int64) (o1 : Nat → Int64) (hw : Nat) (wn : Nat) (wu : Nat) (wo : Nat) (zn : Nat) (zu : Nat) (zo : Nat) (n2 : Nat → Int32) (u2 : Nat → Int64) (o2 : Nat → Int64) (i : Nat) (j : Nat) (k : Nat) (hi : i < 8) (hj : j < 8) (hi2 : fV i = some hv) (hj2 : fV j = some hw) (hk : k < 2 ^ 20) (hx : ∃ x, x < 48 ∧ dfB n1 n2 u1 u2 o1 o2 x = true ∧ cnt (dfB n1 n2 u1 u2 o1 o2) x = k) : CtI l y_RO_differs (Cond.code y_RO_differs c_RO_differs 6 (some .int) :: TB) ({ frames := 3, cells := 0, slots := 0, locals := 66 } : Room) D (tysv cI cJ cZ cQ) [.ref ho, .int (nI i), .int (nI j), .int (nI k)] [(ho, .inr (7, [.ref hr, .ref hs, .ref h, .ref hg, .ref ha, .int vm])), (ha, .inl (cQ, 8, .inr (.inr (.inr (.inr fV))))), (hv, .inr (6, [.ref vn, .ref vu, .ref vo])), (vn, .inr (0, [.ref yn])), (yn, .inl (cI, 48, .inl n1)), (vu, .inr (1, [.ref yu])), (yu, .inl (cJ, 48, .inr (.inl u1))), (vo, .inr (1, [.ref yo])), (yo, .inl (cJ, 48, .inr (.inl o1))), (hw, .inr (6, [.ref wn, .ref wu, .ref wo])), (wn, .inr (0, [.ref zn])), (zn, .inl (cI, 48, .inl n2)), (wu, .inr (1, [.ref zu])), (zu, .inl (cJ, 48, .inr (.inl u2))), (wo, .inr (1, [.ref zo])), (zo, .inl (cJ, 48, .inr (.inl o2)))] 0 0 (fun (r : Int32) (x : Nat) => r = nI x ∧ x < 48 ∧ dfB n1 n2 u1 u2 o1 o2 x = true ∧ cnt (dfB n1 n2 u1 u2 o1 o2) x = k) (fun (x : Nat) => [(ho, .inr (7, [.ref hr, .ref hs, .ref h, .ref hg, .ref ha, .int vm])), (ha, .inl (cQ, 8, .inr (.inr (.inr (.inr fV))))), (hv, .inr (6, [.ref vn, .ref vu, .ref vo])), (vn, .inr (0, [.ref yn])), (yn, .inl (cI, 48, .inl n1)), (vu, .inr (1, [.ref yu])), (yu, .inl (cJ, 48, .inr (.inl u1))), (vo, .inr (1, [.ref yo])), (yo, .inl (cJ, 48, .inr (.inl o1))), (hw, .inr (6, [.ref wn, .ref wu, .ref wo])), (wn, .inr (0, [.ref zn])), (zn, .inl (cI, 48, .inl n2)), (wu, .inr (1, [.ref zu])), (zu, .inl (cJ, 48, .inr (.inl u2))), (wo, .inr (1, [.ref zo])), (zo, .inl (cJ, 48, .inr (.inl o2)))]) := by
  refine CtI.of c_RO_differs 6 (some .int) (by decide) rfl (Nat.le_of_ble_eq_true rfl) ?_
  intro p e s m args below meth c A Q hA9 hQ9 X hr9 hlk9 hin9
  refine g_aload_n X 0 d_RO_differs_0 rfl rfl ?_
  refine g_iload_n X 1 d_RO_differs_1 rfl rfl ?_
  refine g_callqV (n := 1) X [.int (nI i)] (k_RO_versionAt ho hr hs h hg ha vm fV i hv (by omega) (hi2)) t3_109 t3_111 ts_10 t1_1 t3_112 rfl rfl (by decide +kernel) ⟨by decide, by decide⟩ [0, 1] [2, 3, 4, 5, 6, 7, 8, 9, 10, 11, 12, 13, 14, 15] [(hv, .inr (6, [.ref vn, .ref vu, .ref vo])), (vn, .inr (0, [.ref yn])), (yn, .inl (cI, 48, .inl n1)), (vu, .inr (1, [.ref yu])), (yu, .inl (cJ, 48, .inr (.inl u1))), (vo, .inr (1, [.ref yo])), (yo, .inl (cJ, 48, .inr (.inl o1))), (hw, .inr (6, [.ref wn, .ref wu, .ref wo])), (wn, .inr (0, [.ref zn])), (zn, .inl (cI, 48, .inl n2)), (wu, .inr (1, [.ref zu])), (zu, .inl (cJ, 48, .inr (.inl u2))), (wo, .inr (1, [.ref zo])), (zo, .inl (cJ, 48, .inr (.inl o2)))] rfl rfl rfl rfl (by decide) 0 rfl rfl rfl rfl (Nat.le_of_ble_eq_true rfl) d_RO_differs_2 ⟨by decide, by decide⟩ (fun r1 w9u1 hw1 => ?_)
  subst hw1
  refine g_astore X [(4, .ref hv), (0, .ref ho), (1, .int (nI i)), (2, .int (nI j)), (3, .int (nI k))] d_RO_differs_5 (by decide) rfl ?_
  refine g_aload_n X 0 d_RO_differs_7 rfl rfl ?_
  refine g_iload_n X 2 d_RO_differs_8 rfl rfl ?_
  refine g_callqV (n := 1) X [.int (nI j)] (k_RO_versionAt ho hr hs h hg ha vm fV j hw (by omega) (hj2)) t3_109 t3_111 ts_10 t1_1 t3_112 rfl rfl (by decide +kernel) ⟨by decide, by decide⟩ [14, 15] [0, 1, 2, 3, 4, 5, 6, 7, 8, 9, 10, 11, 12, 13] [(hv, .inr (6, [.ref vn, .ref vu, .ref vo])), (vn, .inr (0, [.ref yn])), (yn, .inl (cI, 48, .inl n1)), (vu, .inr (1, [.ref yu])), (yu, .inl (cJ, 48, .inr (.inl u1))), (vo, .inr (1, [.ref yo])), (yo, .inl (cJ, 48, .inr (.inl o1))), (hw, .inr (6, [.ref wn, .ref wu, .ref wo])), (wn, .inr (0, [.ref zn])), (zn, .inl (cI, 48, .inl n2)), (wu, .inr (1, [.ref zu])), (zu, .inl (cJ, 48, .inr (.inl u2))), (wo, .inr (1, [.ref zo])), (zo, .inl (cJ, 48, .inr (.inl o2)))] rfl rfl rfl rfl (by decide) 0 rfl rfl rfl rfl (Nat.le_of_ble_eq_true rfl) d_RO_differs_9 ⟨by decide, by decide⟩ (fun r2 w9u2 hw2 => ?_)
  subst hw2
  refine g_astore X [(5, .ref hw), (4, .ref hv), (0, .ref ho), (1, .int (nI i)), (2, .int (nI j)), (3, .int (nI k))] d_RO_differs_12 (by decide) rfl ?_
  refine g_aload X 4 d_RO_differs_14 rfl ?_
  refine g_ifnull X d_RO_differs_16 ?_
  refine g_aload X 5 d_RO_differs_19 rfl ?_
  refine g_ifnonnull X 34 d_RO_differs_21 (by decide) ?_
  refine g_iload_n X 3 d_RO_differs_34 rfl rfl ?_
  refine g_callvS (n := 1) X [.int (nI k)] (k_RO_checkPlace k (by omega)) t2_168 t2_169 t1_1 t2_170 rfl rfl (by decide +kernel) ⟨by decide, by decide⟩ [] [0, 1, 2, 3, 4, 5, 6, 7, 8, 9, 10, 11, 12, 13, 14, 15] [(hv, .inr (6, [.ref vn, .ref vu, .ref vo])), (vn, .inr (0, [.ref yn])), (yn, .inl (cI, 48, .inl n1)), (vu, .inr (1, [.ref yu])), (yu, .inl (cJ, 48, .inr (.inl u1))), (vo, .inr (1, [.ref yo])), (yo, .inl (cJ, 48, .inr (.inl o1))), (hw, .inr (6, [.ref wn, .ref wu, .ref wo])), (wn, .inr (0, [.ref zn])), (zn, .inl (cI, 48, .inl n2)), (wu, .inr (1, [.ref zu])), (zu, .inl (cJ, 48, .inr (.inl u2))), (wo, .inr (1, [.ref zo])), (zo, .inl (cJ, 48, .inr (.inl o2))), (ho, .inr (7, [.ref hr, .ref hs, .ref h, .ref hg, .ref ha, .int vm])), (ha, .inl (cQ, 8, .inr (.inr (.inr (.inr fV)))))] rfl rfl rfl rfl (by decide) rfl rfl (Nat.le_of_ble_eq_true rfl) d_RO_differs_35 ⟨by decide, by decide⟩ (fun w9u3 hw3 => ?_)
  refine g_aload X 4 d_RO_differs_38 rfl ?_
  refine g_aload X 5 d_RO_differs_40 rfl ?_
  refine g_calllV (n := 1) X [.ref hw] (k_Version_differences hv vn vu vo yn yu yo n1 u1 o1 hw wn wu wo zn zu zo n2 u2 o2 ) t3_114 t3_115 t3_116 t1_16 t3_117 rfl rfl (by decide +kernel) ⟨by decide, by decide⟩ [0, 1, 2, 3, 4, 5, 6, 7, 8, 9, 10, 11, 12, 13] [14, 15] [(ho, .inr (7, [.ref hr, .ref hs, .ref h, .ref hg, .ref ha, .int vm])), (ha, .inl (cQ, 8, .inr (.inr (.inr (.inr fV)))))] rfl rfl rfl rfl (by decide) 0 rfl rfl rfl rfl (Nat.le_of_ble_eq_true rfl) d_RO_differs_42 ⟨by decide, by decide⟩ (fun r4 w9u4 hdd => ?_)
  have hfn := df_fun hdd
  refine g_iload_n X 3 d_RO_differs_45 rfl rfl ?_
  refine g_calliS (n := 2) X [.long r4, .int (nI k)] (k_RO_nthOf r4 k (by omega) (by rw [hfn]; exact hx)) t3_120 t2_113 t1_1 t2_114 rfl rfl (by decide +kernel) ⟨by decide, by decide⟩ [] [0, 1, 2, 3, 4, 5, 6, 7, 8, 9, 10, 11, 12, 13, 14, 15] [(ho, .inr (7, [.ref hr, .ref hs, .ref h, .ref hg, .ref ha, .int vm])), (ha, .inl (cQ, 8, .inr (.inr (.inr (.inr fV))))), (hv, .inr (6, [.ref vn, .ref vu, .ref vo])), (vn, .inr (0, [.ref yn])), (yn, .inl (cI, 48, .inl n1)), (vu, .inr (1, [.ref yu])), (yu, .inl (cJ, 48, .inr (.inl u1))), (vo, .inr (1, [.ref yo])), (yo, .inl (cJ, 48, .inr (.inl o1))), (hw, .inr (6, [.ref wn, .ref wu, .ref wo])), (wn, .inr (0, [.ref zn])), (zn, .inl (cI, 48, .inl n2)), (wu, .inr (1, [.ref zu])), (zu, .inl (cJ, 48, .inr (.inl u2))), (wo, .inr (1, [.ref zo])), (zo, .inl (cJ, 48, .inr (.inl o2)))] rfl rfl rfl rfl (by decide) rfl rfl (Nat.le_of_ble_eq_true rfl) d_RO_differs_46 ⟨by decide, by decide⟩ (fun r5 x_5 hx9 => ?_)
  obtain ⟨rfl, hx9⟩ := hx9
  rw [hfn] at hx9
  exact g_iret X hA9 hQ9 hr9 hlk9 x_5 [0, 1, 2, 3, 4, 5, 6, 7, 8, 9, 10, 11, 12, 13, 14, 15] rfl rfl d_RO_differs_49 (⟨rfl, hx9⟩)

set_option maxHeartbeats 4000000 in
set_option maxRecDepth 100000 in
theorem k_RO_differsN (ho : Nat) (hr : Nat) (hs : Nat) (h : Nat) (hg : Nat) (ha : Nat) (vm : Int32) (fV : Nat → Option Nat) (hv : Nat) (vn : Nat) (vu : Nat) (vo : Nat) (yn : Nat) (yu : Nat) (yo : Nat) (n1 : Nat → Int32) (u1 : Nat → Int64) (o1 : Nat → Int64) (hw : Nat) (wn : Nat) (wu : Nat) (wo : Nat) (zn : Nat) (zu : Nat) (zo : Nat) (n2 : Nat → Int32) (u2 : Nat → Int64) (o2 : Nat → Int64) (i : Nat) (j : Nat) (k : Nat) (hi : i < 8) (hj : j < 8) (hi2 : fV i = some hv) (hj2 : fV j = some hw) (hk : k < 2 ^ 31) (hx : cnt (dfB n1 n2 u1 u2 o1 o2) 48 ≤ k) : CtI l y_RO_differs (Cond.code y_RO_differs c_RO_differs 6 (some .int) :: TB) ({ frames := 3, cells := 0, slots := 0, locals := 66 } : Room) D (tysv cI cJ cZ cQ) [.ref ho, .int (nI i), .int (nI j), .int (nI k)] [(ho, .inr (7, [.ref hr, .ref hs, .ref h, .ref hg, .ref ha, .int vm])), (ha, .inl (cQ, 8, .inr (.inr (.inr (.inr fV))))), (hv, .inr (6, [.ref vn, .ref vu, .ref vo])), (vn, .inr (0, [.ref yn])), (yn, .inl (cI, 48, .inl n1)), (vu, .inr (1, [.ref yu])), (yu, .inl (cJ, 48, .inr (.inl u1))), (vo, .inr (1, [.ref yo])), (yo, .inl (cJ, 48, .inr (.inl o1))), (hw, .inr (6, [.ref wn, .ref wu, .ref wo])), (wn, .inr (0, [.ref zn])), (zn, .inl (cI, 48, .inl n2)), (wu, .inr (1, [.ref zu])), (zu, .inl (cJ, 48, .inr (.inl u2))), (wo, .inr (1, [.ref zo])), (zo, .inl (cJ, 48, .inr (.inl o2)))] 0 0 (fun (r : Int32) (_ : Unit) => r = -1) (fun (_ : Unit) => [(ho, .inr (7, [.ref hr, .ref hs, .ref h, .ref hg, .ref ha, .int vm])), (ha, .inl (cQ, 8, .inr (.inr (.inr (.inr fV))))), (hv, .inr (6, [.ref vn, .ref vu, .ref vo])), (vn, .inr (0, [.ref yn])), (yn, .inl (cI, 48, .inl n1)), (vu, .inr (1, [.ref yu])), (yu, .inl (cJ, 48, .inr (.inl u1))), (vo, .inr (1, [.ref yo])), (yo, .inl (cJ, 48, .inr (.inl o1))), (hw, .inr (6, [.ref wn, .ref wu, .ref wo])), (wn, .inr (0, [.ref zn])), (zn, .inl (cI, 48, .inl n2)), (wu, .inr (1, [.ref zu])), (zu, .inl (cJ, 48, .inr (.inl u2))), (wo, .inr (1, [.ref zo])), (zo, .inl (cJ, 48, .inr (.inl o2)))]) := by
  refine CtI.of c_RO_differs 6 (some .int) (by decide) rfl (Nat.le_of_ble_eq_true rfl) ?_
  intro p e s m args below meth c A Q hA9 hQ9 X hr9 hlk9 hin9
  refine g_aload_n X 0 d_RO_differs_0 rfl rfl ?_
  refine g_iload_n X 1 d_RO_differs_1 rfl rfl ?_
  refine g_callqV (n := 1) X [.int (nI i)] (k_RO_versionAt ho hr hs h hg ha vm fV i hv (by omega) (hi2)) t3_109 t3_111 ts_10 t1_1 t3_112 rfl rfl (by decide +kernel) ⟨by decide, by decide⟩ [0, 1] [2, 3, 4, 5, 6, 7, 8, 9, 10, 11, 12, 13, 14, 15] [(hv, .inr (6, [.ref vn, .ref vu, .ref vo])), (vn, .inr (0, [.ref yn])), (yn, .inl (cI, 48, .inl n1)), (vu, .inr (1, [.ref yu])), (yu, .inl (cJ, 48, .inr (.inl u1))), (vo, .inr (1, [.ref yo])), (yo, .inl (cJ, 48, .inr (.inl o1))), (hw, .inr (6, [.ref wn, .ref wu, .ref wo])), (wn, .inr (0, [.ref zn])), (zn, .inl (cI, 48, .inl n2)), (wu, .inr (1, [.ref zu])), (zu, .inl (cJ, 48, .inr (.inl u2))), (wo, .inr (1, [.ref zo])), (zo, .inl (cJ, 48, .inr (.inl o2)))] rfl rfl rfl rfl (by decide) 0 rfl rfl rfl rfl (Nat.le_of_ble_eq_true rfl) d_RO_differs_2 ⟨by decide, by decide⟩ (fun r1 w9u1 hw1 => ?_)
  subst hw1
  refine g_astore X [(4, .ref hv), (0, .ref ho), (1, .int (nI i)), (2, .int (nI j)), (3, .int (nI k))] d_RO_differs_5 (by decide) rfl ?_
  refine g_aload_n X 0 d_RO_differs_7 rfl rfl ?_
  refine g_iload_n X 2 d_RO_differs_8 rfl rfl ?_
  refine g_callqV (n := 1) X [.int (nI j)] (k_RO_versionAt ho hr hs h hg ha vm fV j hw (by omega) (hj2)) t3_109 t3_111 ts_10 t1_1 t3_112 rfl rfl (by decide +kernel) ⟨by decide, by decide⟩ [14, 15] [0, 1, 2, 3, 4, 5, 6, 7, 8, 9, 10, 11, 12, 13] [(hv, .inr (6, [.ref vn, .ref vu, .ref vo])), (vn, .inr (0, [.ref yn])), (yn, .inl (cI, 48, .inl n1)), (vu, .inr (1, [.ref yu])), (yu, .inl (cJ, 48, .inr (.inl u1))), (vo, .inr (1, [.ref yo])), (yo, .inl (cJ, 48, .inr (.inl o1))), (hw, .inr (6, [.ref wn, .ref wu, .ref wo])), (wn, .inr (0, [.ref zn])), (zn, .inl (cI, 48, .inl n2)), (wu, .inr (1, [.ref zu])), (zu, .inl (cJ, 48, .inr (.inl u2))), (wo, .inr (1, [.ref zo])), (zo, .inl (cJ, 48, .inr (.inl o2)))] rfl rfl rfl rfl (by decide) 0 rfl rfl rfl rfl (Nat.le_of_ble_eq_true rfl) d_RO_differs_9 ⟨by decide, by decide⟩ (fun r2 w9u2 hw2 => ?_)
  subst hw2
  refine g_astore X [(5, .ref hw), (4, .ref hv), (0, .ref ho), (1, .int (nI i)), (2, .int (nI j)), (3, .int (nI k))] d_RO_differs_12 (by decide) rfl ?_
  refine g_aload X 4 d_RO_differs_14 rfl ?_
  refine g_ifnull X d_RO_differs_16 ?_
  refine g_aload X 5 d_RO_differs_19 rfl ?_
  refine g_ifnonnull X 34 d_RO_differs_21 (by decide) ?_
  refine g_iload_n X 3 d_RO_differs_34 rfl rfl ?_
  refine g_callvS (n := 1) X [.int (nI k)] (k_RO_checkPlace k (by omega)) t2_168 t2_169 t1_1 t2_170 rfl rfl (by decide +kernel) ⟨by decide, by decide⟩ [] [0, 1, 2, 3, 4, 5, 6, 7, 8, 9, 10, 11, 12, 13, 14, 15] [(hv, .inr (6, [.ref vn, .ref vu, .ref vo])), (vn, .inr (0, [.ref yn])), (yn, .inl (cI, 48, .inl n1)), (vu, .inr (1, [.ref yu])), (yu, .inl (cJ, 48, .inr (.inl u1))), (vo, .inr (1, [.ref yo])), (yo, .inl (cJ, 48, .inr (.inl o1))), (hw, .inr (6, [.ref wn, .ref wu, .ref wo])), (wn, .inr (0, [.ref zn])), (zn, .inl (cI, 48, .inl n2)), (wu, .inr (1, [.ref zu])), (zu, .inl (cJ, 48, .inr (.inl u2))), (wo, .inr (1, [.ref zo])), (zo, .inl (cJ, 48, .inr (.inl o2))), (ho, .inr (7, [.ref hr, .ref hs, .ref h, .ref hg, .ref ha, .int vm])), (ha, .inl (cQ, 8, .inr (.inr (.inr (.inr fV)))))] rfl rfl rfl rfl (by decide) rfl rfl (Nat.le_of_ble_eq_true rfl) d_RO_differs_35 ⟨by decide, by decide⟩ (fun w9u3 hw3 => ?_)
  refine g_aload X 4 d_RO_differs_38 rfl ?_
  refine g_aload X 5 d_RO_differs_40 rfl ?_
  refine g_calllV (n := 1) X [.ref hw] (k_Version_differences hv vn vu vo yn yu yo n1 u1 o1 hw wn wu wo zn zu zo n2 u2 o2 ) t3_114 t3_115 t3_116 t1_16 t3_117 rfl rfl (by decide +kernel) ⟨by decide, by decide⟩ [0, 1, 2, 3, 4, 5, 6, 7, 8, 9, 10, 11, 12, 13] [14, 15] [(ho, .inr (7, [.ref hr, .ref hs, .ref h, .ref hg, .ref ha, .int vm])), (ha, .inl (cQ, 8, .inr (.inr (.inr (.inr fV)))))] rfl rfl rfl rfl (by decide) 0 rfl rfl rfl rfl (Nat.le_of_ble_eq_true rfl) d_RO_differs_42 ⟨by decide, by decide⟩ (fun r4 w9u4 hdd => ?_)
  have hfn := df_fun hdd
  refine g_iload_n X 3 d_RO_differs_45 rfl rfl ?_
  refine g_calliS (n := 2) X [.long r4, .int (nI k)] (k_RO_nthOfN r4 k (by omega) (by rw [hfn]; exact hx)) t3_120 t2_113 t1_1 t2_114 rfl rfl (by decide +kernel) ⟨by decide, by decide⟩ [] [0, 1, 2, 3, 4, 5, 6, 7, 8, 9, 10, 11, 12, 13, 14, 15] [(ho, .inr (7, [.ref hr, .ref hs, .ref h, .ref hg, .ref ha, .int vm])), (ha, .inl (cQ, 8, .inr (.inr (.inr (.inr fV))))), (hv, .inr (6, [.ref vn, .ref vu, .ref vo])), (vn, .inr (0, [.ref yn])), (yn, .inl (cI, 48, .inl n1)), (vu, .inr (1, [.ref yu])), (yu, .inl (cJ, 48, .inr (.inl u1))), (vo, .inr (1, [.ref yo])), (yo, .inl (cJ, 48, .inr (.inl o1))), (hw, .inr (6, [.ref wn, .ref wu, .ref wo])), (wn, .inr (0, [.ref zn])), (zn, .inl (cI, 48, .inl n2)), (wu, .inr (1, [.ref zu])), (zu, .inl (cJ, 48, .inr (.inl u2))), (wo, .inr (1, [.ref zo])), (zo, .inl (cJ, 48, .inr (.inl o2)))] rfl rfl rfl rfl (by decide) rfl rfl (Nat.le_of_ble_eq_true rfl) d_RO_differs_46 ⟨by decide, by decide⟩ (fun r5 w9u5 hw5 => ?_)
  subst hw5
  exact g_iret X hA9 hQ9 hr9 hlk9 () [0, 1, 2, 3, 4, 5, 6, 7, 8, 9, 10, 11, 12, 13, 14, 15] rfl rfl d_RO_differs_49 (rfl)

set_option maxHeartbeats 4000000 in
set_option maxRecDepth 100000 in
theorem k_RO_differsS (ho : Nat) (hr : Nat) (hs : Nat) (h : Nat) (hg : Nat) (ha : Nat) (vm : Int32) (fV : Nat → Option Nat) (hv : Nat) (vn : Nat) (vu : Nat) (vo : Nat) (yn : Nat) (yu : Nat) (yo : Nat) (n1 : Nat → Int32) (u1 : Nat → Int64) (o1 : Nat → Int64) (i : Nat) (j : Nat) (k : Nat) (hi : i < 8) (hj : j < 8) (hi2 : fV i = some hv) (hj2 : fV j = some hv) (hk : k < 2 ^ 31) : CtI l y_RO_differs (Cond.code y_RO_differs c_RO_differs 6 (some .int) :: TB) ({ frames := 3, cells := 0, slots := 0, locals := 66 } : Room) D (tysv cI cJ cZ cQ) [.ref ho, .int (nI i), .int (nI j), .int (nI k)] [(ho, .inr (7, [.ref hr, .ref hs, .ref h, .ref hg, .ref ha, .int vm])), (ha, .inl (cQ, 8, .inr (.inr (.inr (.inr fV))))), (hv, .inr (6, [.ref vn, .ref vu, .ref vo])), (vn, .inr (0, [.ref yn])), (yn, .inl (cI, 48, .inl n1)), (vu, .inr (1, [.ref yu])), (yu, .inl (cJ, 48, .inr (.inl u1))), (vo, .inr (1, [.ref yo])), (yo, .inl (cJ, 48, .inr (.inl o1)))] 0 0 (fun (r : Int32) (_ : Unit) => r = -1) (fun (_ : Unit) => [(ho, .inr (7, [.ref hr, .ref hs, .ref h, .ref hg, .ref ha, .int vm])), (ha, .inl (cQ, 8, .inr (.inr (.inr (.inr fV))))), (hv, .inr (6, [.ref vn, .ref vu, .ref vo])), (vn, .inr (0, [.ref yn])), (yn, .inl (cI, 48, .inl n1)), (vu, .inr (1, [.ref yu])), (yu, .inl (cJ, 48, .inr (.inl u1))), (vo, .inr (1, [.ref yo])), (yo, .inl (cJ, 48, .inr (.inl o1)))]) := by
  refine CtI.of c_RO_differs 6 (some .int) (by decide) rfl (Nat.le_of_ble_eq_true rfl) ?_
  intro p e s m args below meth c A Q hA9 hQ9 X hr9 hlk9 hin9
  refine g_aload_n X 0 d_RO_differs_0 rfl rfl ?_
  refine g_iload_n X 1 d_RO_differs_1 rfl rfl ?_
  refine g_callqV (n := 1) X [.int (nI i)] (k_RO_versionAt ho hr hs h hg ha vm fV i hv (by omega) (hi2)) t3_109 t3_111 ts_10 t1_1 t3_112 rfl rfl (by decide +kernel) ⟨by decide, by decide⟩ [0, 1] [2, 3, 4, 5, 6, 7, 8] [(hv, .inr (6, [.ref vn, .ref vu, .ref vo])), (vn, .inr (0, [.ref yn])), (yn, .inl (cI, 48, .inl n1)), (vu, .inr (1, [.ref yu])), (yu, .inl (cJ, 48, .inr (.inl u1))), (vo, .inr (1, [.ref yo])), (yo, .inl (cJ, 48, .inr (.inl o1)))] rfl rfl rfl rfl (by decide) 0 rfl rfl rfl rfl (Nat.le_of_ble_eq_true rfl) d_RO_differs_2 ⟨by decide, by decide⟩ (fun r1 w9u1 hw1 => ?_)
  subst hw1
  refine g_astore X [(4, .ref hv), (0, .ref ho), (1, .int (nI i)), (2, .int (nI j)), (3, .int (nI k))] d_RO_differs_5 (by decide) rfl ?_
  refine g_aload_n X 0 d_RO_differs_7 rfl rfl ?_
  refine g_iload_n X 2 d_RO_differs_8 rfl rfl ?_
  refine g_callqV (n := 1) X [.int (nI j)] (k_RO_versionAt ho hr hs h hg ha vm fV j hv (by omega) (hj2)) t3_109 t3_111 ts_10 t1_1 t3_112 rfl rfl (by decide +kernel) ⟨by decide, by decide⟩ [7, 8] [0, 1, 2, 3, 4, 5, 6] [(hv, .inr (6, [.ref vn, .ref vu, .ref vo])), (vn, .inr (0, [.ref yn])), (yn, .inl (cI, 48, .inl n1)), (vu, .inr (1, [.ref yu])), (yu, .inl (cJ, 48, .inr (.inl u1))), (vo, .inr (1, [.ref yo])), (yo, .inl (cJ, 48, .inr (.inl o1)))] rfl rfl rfl rfl (by decide) 0 rfl rfl rfl rfl (Nat.le_of_ble_eq_true rfl) d_RO_differs_9 ⟨by decide, by decide⟩ (fun r2 w9u2 hw2 => ?_)
  subst hw2
  refine g_astore X [(5, .ref hv), (4, .ref hv), (0, .ref ho), (1, .int (nI i)), (2, .int (nI j)), (3, .int (nI k))] d_RO_differs_12 (by decide) rfl ?_
  refine g_aload X 4 d_RO_differs_14 rfl ?_
  refine g_ifnull X d_RO_differs_16 ?_
  refine g_aload X 5 d_RO_differs_19 rfl ?_
  refine g_ifnonnull X 34 d_RO_differs_21 (by decide) ?_
  refine g_iload_n X 3 d_RO_differs_34 rfl rfl ?_
  refine g_callvS (n := 1) X [.int (nI k)] (k_RO_checkPlace k (by omega)) t2_168 t2_169 t1_1 t2_170 rfl rfl (by decide +kernel) ⟨by decide, by decide⟩ [] [0, 1, 2, 3, 4, 5, 6, 7, 8] [(hv, .inr (6, [.ref vn, .ref vu, .ref vo])), (vn, .inr (0, [.ref yn])), (yn, .inl (cI, 48, .inl n1)), (vu, .inr (1, [.ref yu])), (yu, .inl (cJ, 48, .inr (.inl u1))), (vo, .inr (1, [.ref yo])), (yo, .inl (cJ, 48, .inr (.inl o1))), (ho, .inr (7, [.ref hr, .ref hs, .ref h, .ref hg, .ref ha, .int vm])), (ha, .inl (cQ, 8, .inr (.inr (.inr (.inr fV)))))] rfl rfl rfl rfl (by decide) rfl rfl (Nat.le_of_ble_eq_true rfl) d_RO_differs_35 ⟨by decide, by decide⟩ (fun w9u3 hw3 => ?_)
  refine g_aload X 4 d_RO_differs_38 rfl ?_
  refine g_aload X 5 d_RO_differs_40 rfl ?_
  refine g_calllV (n := 1) X [.ref hv] (k_Version_differencesS hv vn vu vo yn yu yo n1 u1 o1 ) t3_114 t3_115 t3_116 t1_16 t3_117 rfl rfl (by decide +kernel) ⟨by decide, by decide⟩ [0, 1, 2, 3, 4, 5, 6] [7, 8] [(ho, .inr (7, [.ref hr, .ref hs, .ref h, .ref hg, .ref ha, .int vm])), (ha, .inl (cQ, 8, .inr (.inr (.inr (.inr fV)))))] rfl rfl rfl rfl (by decide) 0 rfl rfl rfl rfl (Nat.le_of_ble_eq_true rfl) d_RO_differs_42 ⟨by decide, by decide⟩ (fun r4 w9u4 hw4 => ?_)
  subst hw4
  refine g_iload_n X 3 d_RO_differs_45 rfl rfl ?_
  refine g_calliS (n := 2) X [.long 0, .int (nI k)] (k_RO_nthOfN 0 k (by omega) (by rw [cnt_zero]; exact Nat.zero_le k)) t3_120 t2_113 t1_1 t2_114 rfl rfl (by decide +kernel) ⟨by decide, by decide⟩ [] [0, 1, 2, 3, 4, 5, 6, 7, 8] [(ho, .inr (7, [.ref hr, .ref hs, .ref h, .ref hg, .ref ha, .int vm])), (ha, .inl (cQ, 8, .inr (.inr (.inr (.inr fV))))), (hv, .inr (6, [.ref vn, .ref vu, .ref vo])), (vn, .inr (0, [.ref yn])), (yn, .inl (cI, 48, .inl n1)), (vu, .inr (1, [.ref yu])), (yu, .inl (cJ, 48, .inr (.inl u1))), (vo, .inr (1, [.ref yo])), (yo, .inl (cJ, 48, .inr (.inl o1)))] rfl rfl rfl rfl (by decide) rfl rfl (Nat.le_of_ble_eq_true rfl) d_RO_differs_46 ⟨by decide, by decide⟩ (fun r5 w9u5 hw5 => ?_)
  subst hw5
  exact g_iret X hA9 hQ9 hr9 hlk9 () [0, 1, 2, 3, 4, 5, 6, 7, 8] rfl rfl d_RO_differs_49 (rfl)

set_option maxHeartbeats 4000000 in
set_option maxRecDepth 100000 in
theorem k_RO_count0 (ho : Nat) (hr : Nat) (hs : Nat) (h : Nat) (hg : Nat) (ha : Nat) (vm : Int32) (sn : Nat) (ss : Nat) (su : Nat) (K : Nat)  : CtI l y_RO_count (Cond.code y_RO_count c_RO_count 2 (some .int) :: TB) ({ frames := 1, cells := 0, slots := 0, locals := 20 } : Room) D (tysv cI cJ cZ cQ) [.ref ho, .int (nI 0)] [(ho, .inr (7, [.ref hr, .ref hs, .ref h, .ref hg, .ref ha, .int vm])), (hs, .inr (4, [.ref sn, .ref ss, .ref su, .int (nI K)]))] 0 0 (fun (r : Int32) (_ : Unit) => r = nI K) (fun (_ : Unit) => [(ho, .inr (7, [.ref hr, .ref hs, .ref h, .ref hg, .ref ha, .int vm])), (hs, .inr (4, [.ref sn, .ref ss, .ref su, .int (nI K)]))]) := by
  refine CtI.of c_RO_count 2 (some .int) (by decide) rfl (Nat.le_of_ble_eq_true rfl) ?_
  intro p e s m args below meth c A Q hA9 hQ9 X hr9 hlk9 hin9
  refine g_iload_n X 1 d_RO_count_0 rfl rfl ?_
  refine g_tswIn X 36 d_RO_count_1 (by decide) (by decide) (by decide) rfl (by decide) ?_
  refine g_aload_n X 0 d_RO_count_36 rfl rfl ?_
  refine g_get (C := R_RO) (T := T_RO) (N := 6) X 0 1 in_RO rfl rfl (by decide) t1_143 rfl rfl d_RO_count_37 ?_
  refine g_calliV (n := 0) X [] (k_Strata_contexts hs sn ss su K ) t1_200 t1_201 t1_202 t1_5 t1_203 rfl rfl (by decide +kernel) ⟨by decide, by decide⟩ [1] [0] [(ho, .inr (7, [.ref hr, .ref hs, .ref h, .ref hg, .ref ha, .int vm]))] rfl rfl rfl rfl (by decide) 0 rfl rfl rfl rfl (Nat.le_of_ble_eq_true rfl) d_RO_count_40 ⟨by decide, by decide⟩ (fun r1 w9u1 hw1 => ?_)
  subst hw1
  exact g_iret X hA9 hQ9 hr9 hlk9 () [0, 1] rfl rfl d_RO_count_43 (rfl)

set_option maxHeartbeats 4000000 in
set_option maxRecDepth 100000 in
theorem k_RO_count1 (ho : Nat) (hr : Nat) (hs : Nat) (h : Nat) (hg : Nat) (ha : Nat) (vm : Int32) (ru : Nat) (rw : Nat) (rk : Nat) (R : Nat) (sd : Nat)  : CtI l y_RO_count (Cond.code y_RO_count c_RO_count 2 (some .int) :: TB) ({ frames := 1, cells := 0, slots := 0, locals := 20 } : Room) D (tysv cI cJ cZ cQ) [.ref ho, .int (nI 1)] [(ho, .inr (7, [.ref hr, .ref hs, .ref h, .ref hg, .ref ha, .int vm])), (hr, .inr (2, [.ref ru, .ref rw, .ref rk, .int (nI R), .int (nI sd)]))] 0 0 (fun (r : Int32) (_ : Unit) => r = nI sd) (fun (_ : Unit) => [(ho, .inr (7, [.ref hr, .ref hs, .ref h, .ref hg, .ref ha, .int vm])), (hr, .inr (2, [.ref ru, .ref rw, .ref rk, .int (nI R), .int (nI sd)]))]) := by
  refine CtI.of c_RO_count 2 (some .int) (by decide) rfl (Nat.le_of_ble_eq_true rfl) ?_
  intro p e s m args below meth c A Q hA9 hQ9 X hr9 hlk9 hin9
  refine g_iload_n X 1 d_RO_count_0 rfl rfl ?_
  refine g_tswIn X 44 d_RO_count_1 (by decide) (by decide) (by decide) rfl (by decide) ?_
  refine g_aload_n X 0 d_RO_count_44 rfl rfl ?_
  refine g_get (C := R_RO) (T := T_RO) (N := 6) X 0 0 in_RO rfl rfl (by decide) t1_142 rfl rfl d_RO_count_45 ?_
  refine g_calliV (n := 0) X [] (k_Relations_standing hr ru rw rk R sd ) t3_128 t3_129 t3_130 t1_2 t3_131 rfl rfl (by decide +kernel) ⟨by decide, by decide⟩ [1] [0] [(ho, .inr (7, [.ref hr, .ref hs, .ref h, .ref hg, .ref ha, .int vm]))] rfl rfl rfl rfl (by decide) 0 rfl rfl rfl rfl (Nat.le_of_ble_eq_true rfl) d_RO_count_48 ⟨by decide, by decide⟩ (fun r1 w9u1 hw1 => ?_)
  subst hw1
  exact g_iret X hA9 hQ9 hr9 hlk9 () [0, 1] rfl rfl d_RO_count_51 (rfl)

set_option maxHeartbeats 4000000 in
set_option maxRecDepth 100000 in
theorem k_RO_count2 (ho : Nat) (hr : Nat) (hs : Nat) (h : Nat) (hg : Nat) (ha : Nat) (vm : Int32) (sn : Nat) (ss : Nat) (su : Nat) (K : Nat) (xn : Nat) (fN : Nat → Int32) (hK : K ≤ 48) : CtI l y_RO_count (Cond.code y_RO_count c_RO_count 2 (some .int) :: TB) ({ frames := 2, cells := 0, slots := 0, locals := 43 } : Room) D (tysv cI cJ cZ cQ) [.ref ho, .int (nI 2)] [(ho, .inr (7, [.ref hr, .ref hs, .ref h, .ref hg, .ref ha, .int vm])), (hs, .inr (4, [.ref sn, .ref ss, .ref su, .int (nI K)])), (sn, .inr (0, [.ref xn])), (xn, .inl (cI, 48, .inl fN))] 0 0 (fun (r : Int32) (_ : Unit) => r = nI (cnt (fun z => decide (fN z = nI z)) K)) (fun (_ : Unit) => [(ho, .inr (7, [.ref hr, .ref hs, .ref h, .ref hg, .ref ha, .int vm])), (hs, .inr (4, [.ref sn, .ref ss, .ref su, .int (nI K)])), (sn, .inr (0, [.ref xn])), (xn, .inl (cI, 48, .inl fN))]) := by
  refine CtI.of c_RO_count 2 (some .int) (by decide) rfl (Nat.le_of_ble_eq_true rfl) ?_
  intro p e s m args below meth c A Q hA9 hQ9 X hr9 hlk9 hin9
  refine g_iload_n X 1 d_RO_count_0 rfl rfl ?_
  refine g_tswIn X 52 d_RO_count_1 (by decide) (by decide) (by decide) rfl (by decide) ?_
  refine g_aload_n X 0 d_RO_count_52 rfl rfl ?_
  refine g_get (C := R_RO) (T := T_RO) (N := 6) X 0 1 in_RO rfl rfl (by decide) t1_143 rfl rfl d_RO_count_53 ?_
  refine g_calliV (n := 0) X [] (k_Strata_joinedCount hs sn ss su K xn fN (by omega)) t3_132 t3_133 t3_134 t1_5 t3_135 rfl rfl (by decide +kernel) ⟨by decide, by decide⟩ [1, 2, 3] [0] [(ho, .inr (7, [.ref hr, .ref hs, .ref h, .ref hg, .ref ha, .int vm]))] rfl rfl rfl rfl (by decide) 0 rfl rfl rfl rfl (Nat.le_of_ble_eq_true rfl) d_RO_count_56 ⟨by decide, by decide⟩ (fun r1 w9u1 hw1 => ?_)
  subst hw1
  exact g_iret X hA9 hQ9 hr9 hlk9 () [0, 1, 2, 3] rfl rfl d_RO_count_59 (rfl)

set_option maxHeartbeats 4000000 in
set_option maxRecDepth 100000 in
theorem k_RO_count3 (ho : Nat) (hr : Nat) (hs : Nat) (h : Nat) (hg : Nat) (ha : Nat) (vm : Int32) (sn : Nat) (ss : Nat) (su : Nat) (K : Nat) (xu : Nat) (fU : Nat → Int64) (hK : K ≤ 48) : CtI l y_RO_count (Cond.code y_RO_count c_RO_count 2 (some .int) :: TB) ({ frames := 3, cells := 0, slots := 0, locals := 64 } : Room) D (tysv cI cJ cZ cQ) [.ref ho, .int (nI 3)] [(ho, .inr (7, [.ref hr, .ref hs, .ref h, .ref hg, .ref ha, .int vm])), (hs, .inr (4, [.ref sn, .ref ss, .ref su, .int (nI K)])), (su, .inr (1, [.ref xu])), (xu, .inl (cJ, 48, .inr (.inl fU)))] 0 0 (fun (r : Int32) (_ : Unit) => r = nI (lsum (fun z9 => cnt (lb (fU z9)) 64) K)) (fun (_ : Unit) => [(ho, .inr (7, [.ref hr, .ref hs, .ref h, .ref hg, .ref ha, .int vm])), (hs, .inr (4, [.ref sn, .ref ss, .ref su, .int (nI K)])), (su, .inr (1, [.ref xu])), (xu, .inl (cJ, 48, .inr (.inl fU)))]) := by
  refine CtI.of c_RO_count 2 (some .int) (by decide) rfl (Nat.le_of_ble_eq_true rfl) ?_
  intro p e s m args below meth c A Q hA9 hQ9 X hr9 hlk9 hin9
  refine g_iload_n X 1 d_RO_count_0 rfl rfl ?_
  refine g_tswIn X 60 d_RO_count_1 (by decide) (by decide) (by decide) rfl (by decide) ?_
  refine g_aload_n X 0 d_RO_count_60 rfl rfl ?_
  refine g_get (C := R_RO) (T := T_RO) (N := 6) X 0 1 in_RO rfl rfl (by decide) t1_143 rfl rfl d_RO_count_61 ?_
  refine g_calliV (n := 0) X [] (k_Strata_pairCount hs sn ss su K xu fU (by omega)) t3_136 t3_137 t3_138 t1_5 t3_139 rfl rfl (by decide +kernel) ⟨by decide, by decide⟩ [1, 2, 3] [0] [(ho, .inr (7, [.ref hr, .ref hs, .ref h, .ref hg, .ref ha, .int vm]))] rfl rfl rfl rfl (by decide) 0 rfl rfl rfl rfl (Nat.le_of_ble_eq_true rfl) d_RO_count_64 ⟨by decide, by decide⟩ (fun r1 w9u1 hw1 => ?_)
  subst hw1
  exact g_iret X hA9 hQ9 hr9 hlk9 () [0, 1, 2, 3] rfl rfl d_RO_count_67 (rfl)

set_option maxHeartbeats 4000000 in
set_option maxRecDepth 100000 in
theorem k_RO_count4 (ho : Nat) (hr : Nat) (hs : Nat) (h : Nat) (hg : Nat) (ha : Nat) (vm : Int32) (gh : Nat) (gl : Nat) (gr : Nat) (gm : Nat)  : CtI l y_RO_count (Cond.code y_RO_count c_RO_count 2 (some .int) :: TB) ({ frames := 1, cells := 0, slots := 0, locals := 20 } : Room) D (tysv cI cJ cZ cQ) [.ref ho, .int (nI 4)] [(ho, .inr (7, [.ref hr, .ref hs, .ref h, .ref hg, .ref ha, .int vm])), (hg, .inr (5, [.ref gh, .ref gl, .ref gr, .int (nI gm)]))] 0 0 (fun (r : Int32) (_ : Unit) => r = nI gm) (fun (_ : Unit) => [(ho, .inr (7, [.ref hr, .ref hs, .ref h, .ref hg, .ref ha, .int vm])), (hg, .inr (5, [.ref gh, .ref gl, .ref gr, .int (nI gm)]))]) := by
  refine CtI.of c_RO_count 2 (some .int) (by decide) rfl (Nat.le_of_ble_eq_true rfl) ?_
  intro p e s m args below meth c A Q hA9 hQ9 X hr9 hlk9 hin9
  refine g_iload_n X 1 d_RO_count_0 rfl rfl ?_
  refine g_tswIn X 68 d_RO_count_1 (by decide) (by decide) (by decide) rfl (by decide) ?_
  refine g_aload_n X 0 d_RO_count_68 rfl rfl ?_
  refine g_get (C := R_RO) (T := T_RO) (N := 6) X 0 3 in_RO rfl rfl (by decide) t1_145 rfl rfl d_RO_count_69 ?_
  refine g_calliV (n := 0) X [] (k_Groups_made hg gh gl gr gm ) t3_15 t3_16 t3_17 t1_8 t3_18 rfl rfl (by decide +kernel) ⟨by decide, by decide⟩ [1] [0] [(ho, .inr (7, [.ref hr, .ref hs, .ref h, .ref hg, .ref ha, .int vm]))] rfl rfl rfl rfl (by decide) 0 rfl rfl rfl rfl (Nat.le_of_ble_eq_true rfl) d_RO_count_72 ⟨by decide, by decide⟩ (fun r1 w9u1 hw1 => ?_)
  subst hw1
  exact g_iret X hA9 hQ9 hr9 hlk9 () [0, 1] rfl rfl d_RO_count_75 (rfl)
