variable {l : Launch} {D : va_G} {cI cJ cZ cQ : ClassId}
set_option maxHeartbeats 4000000 in
set_option maxRecDepth 100000 in
theorem k_Version_init (hv : Nat) (hs : Nat) (sn : Nat) (ss : Nat) (su : Nat) (K : Nat) (xn : Nat) (fN : Nat → Int32) (xu : Nat) (fU : Nat → Int64) (nm : Nat → Nat) (hK : K ≤ 48) (hN : ∀ z, z < K → fN z = nI (nm z) ∧ nm z < 48) : CtV l y_Version_init (Cond.code y_Version_init c_Version_init 4 none :: TB) ({ frames := 3, cells := 6, slots := 147, locals := 65 } : Room) D (tysv cI cJ cZ cQ) [.ref hv, .ref hs] [(hv, .inr (6, [.null, .null, .null])), (hs, .inr (4, [.ref sn, .ref ss, .ref su, .int (nI K)])), (sn, .inr (0, [.ref xn])), (xn, .inl (cI, 48, .inl fN)), (su, .inr (1, [.ref xu])), (xu, .inl (cJ, 48, .inr (.inl fU)))] 6 147 (fun (u : Nat × Nat × Nat × Nat × Nat × Nat × (Nat → Int32) × (Nat → Int64) × (Nat → Int64)) => (∀ k, k < K → u.2.2.2.2.2.2.1 k = fN k) ∧ (∀ k, K ≤ k → k < 48 → u.2.2.2.2.2.2.1 k = -1) ∧ vvA (fun x y => lb (fU (nm x)) (nm y)) K K 0 u.2.2.2.2.2.2.2.1 ∧ vvB (fun x y => lb (fU (nm x)) (nm y)) K K 0 u.2.2.2.2.2.2.2.2) (fun (u : Nat × Nat × Nat × Nat × Nat × Nat × (Nat → Int32) × (Nat → Int64) × (Nat → Int64)) => [(hv, .inr (6, [.ref u.1, .ref u.2.2.1, .ref u.2.2.2.2.1])), (u.1, .inr (0, [.ref u.2.1])), (u.2.1, .inl (cI, 48, .inl u.2.2.2.2.2.2.1)), (u.2.2.1, .inr (1, [.ref u.2.2.2.1])), (u.2.2.2.1, .inl (cJ, 48, .inr (.inl u.2.2.2.2.2.2.2.1))), (u.2.2.2.2.1, .inr (1, [.ref u.2.2.2.2.2.1])), (u.2.2.2.2.2.1, .inl (cJ, 48, .inr (.inl u.2.2.2.2.2.2.2.2))), (hs, .inr (4, [.ref sn, .ref ss, .ref su, .int (nI K)])), (sn, .inr (0, [.ref xn])), (xn, .inl (cI, 48, .inl fN)), (su, .inr (1, [.ref xu])), (xu, .inl (cJ, 48, .inr (.inl fU)))]) := by
  refine CtV.of c_Version_init 4 none (by decide) rfl (Nat.le_of_ble_eq_true rfl) ?_
  intro p e s m args below meth c A Q hA9 hQ9 X hr9 hlk9 hin9
  refine g_aload_n X 0 d_Version_init_0 rfl rfl ?_
  refine g_objInit X t3_82 t1_23 t1_24 d_Version_init_1 (by decide) (Nat.le_of_ble_eq_true rfl) ?_
  refine g_aload_n X 0 d_Version_init_4 rfl rfl ?_
  refine g_new (ci := 0) (fs := [.null]) (C := R_Cells) (T := T_Cells) (N := 1) X t_Cells ty_Cells in_Cells t3_83 t1_32 t1_3 rfl (fun j hj => by rcases (show j = 0 by omega) with rfl <;> rfl) (by decide) (by decide) d_Version_init_5 (fun q1 => ?_)
  refine g_dup X d_Version_init_8 rfl ?_
  refine g_bipush (v := nI 48) X d_Version_init_9 rfl ?_
  refine g_callvI (n := 1) X [.int (nI 48)] (k_Cells_init48 q1 ) t3_84 t1_34 rfl t1_3 t1_35 rfl rfl (by decide +kernel) ⟨by decide, by decide⟩ [6] [0, 1, 2, 3, 4, 5] [(hv, .inr (6, [.null, .null, .null])), (hs, .inr (4, [.ref sn, .ref ss, .ref su, .int (nI K)])), (sn, .inr (0, [.ref xn])), (xn, .inl (cI, 48, .inl fN)), (su, .inr (1, [.ref xu])), (xu, .inl (cJ, 48, .inr (.inl fU)))] rfl rfl rfl rfl (by decide) rfl rfl (Nat.le_of_ble_eq_true rfl) d_Version_init_11 ⟨by decide, by decide⟩ (fun ⟨q_2, g_2⟩ w1 => ?_)
  refine g_putF (C := R_Version) (T := T_Version) (N := 3) (ty := .object "RelationOrder$Cells") X 0 0 [(hv, .inr (6, [.ref q1, .null, .null])), (hs, .inr (4, [.ref sn, .ref ss, .ref su, .int (nI K)])), (sn, .inr (0, [.ref xn])), (xn, .inl (cI, 48, .inl fN)), (su, .inr (1, [.ref xu])), (xu, .inl (cJ, 48, .inr (.inl fU))), (q1, .inr (0, [.ref q_2])), (q_2, .inl (cI, 48, .inl g_2))] t_Version ty_Version nm_Version in_Version rfl rfl (by decide) t3_92 rfl rfl hin9 rfl (by decide +kernel) rfl rfl (Nat.le_of_ble_eq_true rfl) rfl d_Version_init_14 ?_
  refine g_aload_n X 0 d_Version_init_17 rfl rfl ?_
  refine g_new (ci := 1) (fs := [.null]) (C := R_Rows) (T := T_Rows) (N := 1) X t_Rows ty_Rows in_Rows t3_85 t1_70 t1_6 rfl (fun j hj => by rcases (show j = 0 by omega) with rfl <;> rfl) (by decide) (by decide) d_Version_init_18 (fun q3 => ?_)
  refine g_dup X d_Version_init_21 rfl ?_
  refine g_bipush (v := nI 48) X d_Version_init_22 rfl ?_
  refine g_callvI (n := 1) X [.int (nI 48)] (k_Rows_init48 q3 ) t3_86 t1_72 rfl t1_6 t1_73 rfl rfl (by decide +kernel) ⟨by decide, by decide⟩ [8] [0, 1, 2, 3, 4, 5, 6, 7] [(hv, .inr (6, [.ref q1, .null, .null])), (hs, .inr (4, [.ref sn, .ref ss, .ref su, .int (nI K)])), (sn, .inr (0, [.ref xn])), (xn, .inl (cI, 48, .inl fN)), (su, .inr (1, [.ref xu])), (xu, .inl (cJ, 48, .inr (.inl fU))), (q1, .inr (0, [.ref q_2])), (q_2, .inl (cI, 48, .inl g_2))] rfl rfl rfl rfl (by decide) rfl rfl (Nat.le_of_ble_eq_true rfl) d_Version_init_24 ⟨by decide, by decide⟩ (fun q_4 hw4 => ?_)
  refine g_putF (C := R_Version) (T := T_Version) (N := 3) (ty := .object "RelationOrder$Rows") X 0 1 [(hv, .inr (6, [.ref q1, .ref q3, .null])), (hs, .inr (4, [.ref sn, .ref ss, .ref su, .int (nI K)])), (sn, .inr (0, [.ref xn])), (xn, .inl (cI, 48, .inl fN)), (su, .inr (1, [.ref xu])), (xu, .inl (cJ, 48, .inr (.inl fU))), (q1, .inr (0, [.ref q_2])), (q_2, .inl (cI, 48, .inl g_2)), (q3, .inr (1, [.ref q_4])), (q_4, .inl (cJ, 48, .inr (.inl (fun _ => 0))))] t_Version ty_Version nm_Version in_Version rfl rfl (by decide) t3_93 rfl rfl hin9 rfl (by decide +kernel) rfl rfl (Nat.le_of_ble_eq_true rfl) rfl d_Version_init_27 ?_
  refine g_aload_n X 0 d_Version_init_30 rfl rfl ?_
  refine g_new (ci := 1) (fs := [.null]) (C := R_Rows) (T := T_Rows) (N := 1) X t_Rows ty_Rows in_Rows t3_85 t1_70 t1_6 rfl (fun j hj => by rcases (show j = 0 by omega) with rfl <;> rfl) (by decide) (by decide) d_Version_init_31 (fun q5 => ?_)
  refine g_dup X d_Version_init_34 rfl ?_
  refine g_bipush (v := nI 48) X d_Version_init_35 rfl ?_
  refine g_callvI (n := 1) X [.int (nI 48)] (k_Rows_init48 q5 ) t3_86 t1_72 rfl t1_6 t1_73 rfl rfl (by decide +kernel) ⟨by decide, by decide⟩ [10] [0, 1, 2, 3, 4, 5, 6, 7, 8, 9] [(hv, .inr (6, [.ref q1, .ref q3, .null])), (hs, .inr (4, [.ref sn, .ref ss, .ref su, .int (nI K)])), (sn, .inr (0, [.ref xn])), (xn, .inl (cI, 48, .inl fN)), (su, .inr (1, [.ref xu])), (xu, .inl (cJ, 48, .inr (.inl fU))), (q1, .inr (0, [.ref q_2])), (q_2, .inl (cI, 48, .inl g_2)), (q3, .inr (1, [.ref q_4])), (q_4, .inl (cJ, 48, .inr (.inl (fun _ => 0))))] rfl rfl rfl rfl (by decide) rfl rfl (Nat.le_of_ble_eq_true rfl) d_Version_init_37 ⟨by decide, by decide⟩ (fun q_6 hw6 => ?_)
  refine g_putF (C := R_Version) (T := T_Version) (N := 3) (ty := .object "RelationOrder$Rows") X 0 2 [(hv, .inr (6, [.ref q1, .ref q3, .ref q5])), (hs, .inr (4, [.ref sn, .ref ss, .ref su, .int (nI K)])), (sn, .inr (0, [.ref xn])), (xn, .inl (cI, 48, .inl fN)), (su, .inr (1, [.ref xu])), (xu, .inl (cJ, 48, .inr (.inl fU))), (q1, .inr (0, [.ref q_2])), (q_2, .inl (cI, 48, .inl g_2)), (q3, .inr (1, [.ref q_4])), (q_4, .inl (cJ, 48, .inr (.inl (fun _ => 0)))), (q5, .inr (1, [.ref q_6])), (q_6, .inl (cJ, 48, .inr (.inl (fun _ => 0))))] t_Version ty_Version nm_Version in_Version rfl rfl (by decide) t3_94 rfl rfl hin9 rfl (by decide +kernel) rfl rfl (Nat.le_of_ble_eq_true rfl) rfl d_Version_init_40 ?_
  have L45 : ∀ (N45 : Nat) (i : Nat) (gN : Nat → Int32) (gA : Nat → Int64) (gB : Nat → Int64), (K - i) < N45 → (i ≤ K) → (∀ k, k < i → gN k = fN k) → (∀ k, K ≤ k → k < 48 → gN k = -1) → (vvA (fun x y => lb (fU (nm x)) (nm y)) K i 0 gA) → (vvB (fun x y => lb (fU (nm x)) (nm y)) K i 0 gB) → G p l e ({ frames := 3, cells := 6, slots := 147, locals := 65 } : Room) s m args below meth c 4 D A s.heap Q 6 147 [(hv, .inr (6, [.ref q1, .ref q3, .ref q5])), (hs, .inr (4, [.ref sn, .ref ss, .ref su, .int (nI K)])), (sn, .inr (0, [.ref xn])), (xn, .inl (cI, 48, .inl fN)), (su, .inr (1, [.ref xu])), (xu, .inl (cJ, 48, .inr (.inl fU))), (q1, .inr (0, [.ref q_2])), (q_2, .inl (cI, 48, .inl gN)), (q3, .inr (1, [.ref q_4])), (q_4, .inl (cJ, 48, .inr (.inl gA))), (q5, .inr (1, [.ref q_6])), (q_6, .inl (cJ, 48, .inr (.inl gB)))] [(0, .ref hv), (1, .ref hs), (2, .int (nI i))] 45 [] := by
    intro N45
    induction N45 with
    | zero =>
      intro i gN gA gB hN
      exact absurd hN (Nat.not_lt_zero _)
    | succ N45 ih45 =>
      intro i gN gA gB hN45 hi n1 n2 a1 b1
      refine g_iload_n X 2 d_Version_init_45 rfl rfl ?_
      refine g_aload_n X 1 d_Version_init_46 rfl rfl ?_
      refine g_calliV (n := 0) X [] (k_Strata_contexts hs sn ss su K ) t3_87 t1_201 t1_202 t1_5 t1_203 rfl rfl (by decide +kernel) ⟨by decide, by decide⟩ [1] [0, 2, 3, 4, 5, 6, 7, 8, 9, 10, 11] [(hv, .inr (6, [.ref q1, .ref q3, .ref q5])), (sn, .inr (0, [.ref xn])), (xn, .inl (cI, 48, .inl fN)), (su, .inr (1, [.ref xu])), (xu, .inl (cJ, 48, .inr (.inl fU))), (q1, .inr (0, [.ref q_2])), (q_2, .inl (cI, 48, .inl gN)), (q3, .inr (1, [.ref q_4])), (q_4, .inl (cJ, 48, .inr (.inl gA))), (q5, .inr (1, [.ref q_6])), (q_6, .inl (cJ, 48, .inr (.inl gB)))] rfl rfl rfl rfl (by decide) 0 rfl rfl rfl rfl (Nat.le_of_ble_eq_true rfl) d_Version_init_47 ⟨by decide, by decide⟩ (fun r7 w9u7 hw7 => ?_)
      subst hw7
      refine n_icmp_ge X 115 d_Version_init_50 (by decide) (by omega) (by omega) (fun h50 => ?_) (fun h50 => ?_)
      · exact g_vret X hA9 hQ9 hr9 hlk9 ⟨q1, q_2, q3, q_4, q5, q_6, gN, gA, gB⟩ [0, 5, 6, 7, 8, 9, 10, 11, 1, 2, 3, 4] rfl rfl d_Version_init_115 (by (try dsimp only); exact (by have e9 : i = K := (by omega); subst e9; exact ⟨n1, n2, a1, b1⟩))
      · have m1 := vnum_step (fN := fN) (show i < K by omega) n1
        have n3 := upd_far (x := fN i) (show i < K by omega) n2
        refine g_aload_n X 0 d_Version_init_53 rfl rfl ?_
        refine g_get (C := R_Version) (T := T_Version) (N := 3) X 0 0 in_Version rfl rfl (by decide) t3_92 rfl rfl d_Version_init_54 ?_
        refine g_iload_n X 2 d_Version_init_57 rfl rfl ?_
        refine g_aload_n X 1 d_Version_init_58 rfl rfl ?_
        refine g_iload_n X 2 d_Version_init_59 rfl rfl ?_
        refine g_calliV (n := 1) X [.int (nI i)] (k_Strata_numberOf hs sn ss su K xn fN i (by omega)) t3_88 t2_74 t2_75 t1_5 t2_76 rfl rfl (by decide +kernel) ⟨by decide, by decide⟩ [11, 1, 2] [0, 3, 4, 5, 6, 7, 8, 9, 10] [(hv, .inr (6, [.ref q1, .ref q3, .ref q5])), (su, .inr (1, [.ref xu])), (xu, .inl (cJ, 48, .inr (.inl fU))), (q1, .inr (0, [.ref q_2])), (q_2, .inl (cI, 48, .inl gN)), (q3, .inr (1, [.ref q_4])), (q_4, .inl (cJ, 48, .inr (.inl gA))), (q5, .inr (1, [.ref q_6])), (q_6, .inl (cJ, 48, .inr (.inl gB)))] rfl rfl rfl rfl (by decide) 0 rfl rfl rfl rfl (Nat.le_of_ble_eq_true rfl) d_Version_init_60 ⟨by decide, by decide⟩ (fun r8 w9u8 hw8 => ?_)
        subst hw8
        refine g_callvV (n := 2) X [.int (nI i), .int (fN i)] (k_Cells_put q1 q_2 48 gN i (fN i) (by omega) (by omega)) t3_89 t2_36 t2_37 t1_3 t2_38 rfl rfl (by decide +kernel) ⟨by decide, by decide⟩ [3, 4] [0, 1, 2, 5, 6, 7, 8, 9, 10, 11] [(hv, .inr (6, [.ref q1, .ref q3, .ref q5])), (su, .inr (1, [.ref xu])), (xu, .inl (cJ, 48, .inr (.inl fU))), (q3, .inr (1, [.ref q_4])), (q_4, .inl (cJ, 48, .inr (.inl gA))), (q5, .inr (1, [.ref q_6])), (q_6, .inl (cJ, 48, .inr (.inl gB))), (hs, .inr (4, [.ref sn, .ref ss, .ref su, .int (nI K)])), (sn, .inr (0, [.ref xn])), (xn, .inl (cI, 48, .inl fN))] rfl rfl rfl rfl (by decide) 0 rfl rfl rfl rfl (Nat.le_of_ble_eq_true rfl) d_Version_init_63 ⟨by decide, by decide⟩ (fun w9u9 hw9 => ?_)
        have L68 : ∀ (N68 : Nat) (k : Nat) (fa : Nat → Int64) (fb : Nat → Int64), (K - k) < N68 → (k ≤ K) → (vvA (fun x y => lb (fU (nm x)) (nm y)) K i k fa) → (vvB (fun x y => lb (fU (nm x)) (nm y)) K i k fb) → G p l e ({ frames := 3, cells := 6, slots := 147, locals := 65 } : Room) s m args below meth c 4 D A s.heap Q 6 147 [(hv, .inr (6, [.ref q1, .ref q3, .ref q5])), (su, .inr (1, [.ref xu])), (xu, .inl (cJ, 48, .inr (.inl fU))), (q3, .inr (1, [.ref q_4])), (q_4, .inl (cJ, 48, .inr (.inl fa))), (q5, .inr (1, [.ref q_6])), (q_6, .inl (cJ, 48, .inr (.inl fb))), (hs, .inr (4, [.ref sn, .ref ss, .ref su, .int (nI K)])), (sn, .inr (0, [.ref xn])), (xn, .inl (cI, 48, .inl fN)), (q1, .inr (0, [.ref q_2])), (q_2, .inl (cI, 48, .inl (upd gN i (fN i))))] [(0, .ref hv), (1, .ref hs), (2, .int (nI i)), (3, .int (nI k))] 68 [] := by
          intro N68
          induction N68 with
          | zero =>
            intro k fa fb hN
            exact absurd hN (Nat.not_lt_zero _)
          | succ N68 ih68 =>
            intro k fa fb hN68 hk a2 b2
            refine g_iload_n X 3 d_Version_init_68 rfl rfl ?_
            refine g_aload_n X 1 d_Version_init_69 rfl rfl ?_
            refine g_calliV (n := 0) X [] (k_Strata_contexts hs sn ss su K ) t3_87 t1_201 t1_202 t1_5 t1_203 rfl rfl (by decide +kernel) ⟨by decide, by decide⟩ [7] [0, 1, 2, 3, 4, 5, 6, 8, 9, 10, 11] [(hv, .inr (6, [.ref q1, .ref q3, .ref q5])), (su, .inr (1, [.ref xu])), (xu, .inl (cJ, 48, .inr (.inl fU))), (q3, .inr (1, [.ref q_4])), (q_4, .inl (cJ, 48, .inr (.inl fa))), (q5, .inr (1, [.ref q_6])), (q_6, .inl (cJ, 48, .inr (.inl fb))), (sn, .inr (0, [.ref xn])), (xn, .inl (cI, 48, .inl fN)), (q1, .inr (0, [.ref q_2])), (q_2, .inl (cI, 48, .inl (upd gN i (fN i))))] rfl rfl rfl rfl (by decide) 0 rfl rfl rfl rfl (Nat.le_of_ble_eq_true rfl) d_Version_init_70 ⟨by decide, by decide⟩ (fun r10 w9u10 hw10 => ?_)
            subst hw10
            refine n_icmp_ge X 109 d_Version_init_73 (by decide) (by omega) (by omega) (fun h73 => ?_) (fun h73 => ?_)
            · refine g_iinc X (nI (i + 1)) [(2, .int (nI (i + 1))), (0, .ref hv), (1, .ref hs), (3, .int (nI k))] d_Version_init_109 (k := 2) rfl (nI_1 i) (by decide) rfl ?_
              refine g_goto X 45 d_Version_init_112 (by decide) ?_
              refine g_ws [(hv, .inr (6, [.ref q1, .ref q3, .ref q5])), (hs, .inr (4, [.ref sn, .ref ss, .ref su, .int (nI K)])), (sn, .inr (0, [.ref xn])), (xn, .inl (cI, 48, .inl fN)), (su, .inr (1, [.ref xu])), (xu, .inl (cJ, 48, .inr (.inl fU))), (q1, .inr (0, [.ref q_2])), (q_2, .inl (cI, 48, .inl (upd gN i (fN i)))), (q3, .inr (1, [.ref q_4])), (q_4, .inl (cJ, 48, .inr (.inl fa))), (q5, .inr (1, [.ref q_6])), (q_6, .inl (cJ, 48, .inr (.inl fb)))] [0, 11, 7, 8, 1, 2, 9, 10, 3, 4, 5, 6] rfl rfl ?_
              refine g_lv [1, 2, 0] rfl ?_
              exact ih45 (i + 1) (upd gN i (fN i)) fa fb (by omega) (by omega) (m1) (n3) (vvA_row a2 (by omega)) (vvB_row b2 (by omega))
            · refine g_aload_n X 1 d_Version_init_76 rfl rfl ?_
              refine g_iload_n X 2 d_Version_init_77 rfl rfl ?_
              refine g_iload_n X 3 d_Version_init_78 rfl rfl ?_
              refine g_calliV (n := 2) X [.int (nI i), .int (nI k)] (k_Strata_isOver hs sn ss su K xn fN xu fU i k (nm i) (nm k) (by omega) (by omega) ((hN _ (by omega)).1) ((hN _ (by omega)).1) ((hN _ (by omega)).2) ((hN _ (by omega)).2)) t3_90 t2_197 t2_198 t1_5 t2_199 rfl rfl (by decide +kernel) ⟨by decide, by decide⟩ [11, 7, 8, 1, 2] [0, 3, 4, 5, 6, 9, 10] [(hv, .inr (6, [.ref q1, .ref q3, .ref q5])), (q3, .inr (1, [.ref q_4])), (q_4, .inl (cJ, 48, .inr (.inl fa))), (q5, .inr (1, [.ref q_6])), (q_6, .inl (cJ, 48, .inr (.inl fb))), (q1, .inr (0, [.ref q_2])), (q_2, .inl (cI, 48, .inl (upd gN i (fN i))))] rfl rfl rfl rfl (by decide) 0 rfl rfl rfl rfl (Nat.le_of_ble_eq_true rfl) d_Version_init_79 ⟨by decide, by decide⟩ (fun r11 w9u11 hw11 => ?_)
              subst hw11
              refine b_if_eq X 103 d_Version_init_82 (by decide) (fun h82 => ?_) (fun h82 => ?_)
              · refine g_iinc X (nI (k + 1)) [(3, .int (nI (k + 1))), (0, .ref hv), (1, .ref hs), (2, .int (nI i))] d_Version_init_103 (k := 3) rfl (nI_1 k) (by decide) rfl ?_
                refine g_goto X 68 d_Version_init_106 (by decide) ?_
                refine g_ws [(hv, .inr (6, [.ref q1, .ref q3, .ref q5])), (su, .inr (1, [.ref xu])), (xu, .inl (cJ, 48, .inr (.inl fU))), (q3, .inr (1, [.ref q_4])), (q_4, .inl (cJ, 48, .inr (.inl fa))), (q5, .inr (1, [.ref q_6])), (q_6, .inl (cJ, 48, .inr (.inl fb))), (hs, .inr (4, [.ref sn, .ref ss, .ref su, .int (nI K)])), (sn, .inr (0, [.ref xn])), (xn, .inl (cI, 48, .inl fN)), (q1, .inr (0, [.ref q_2])), (q_2, .inl (cI, 48, .inl (upd gN i (fN i))))] [0, 10, 11, 1, 2, 3, 4, 7, 8, 9, 5, 6] rfl rfl ?_
                refine g_lv [1, 2, 3, 0] rfl ?_
                exact ih68 (k + 1) fa fb (by omega) (by omega) (by first | exact vvA_skip a2 h82 | exact vvA_put a2 (by omega) h82) (by first | exact vvB_skip b2 h82 | exact vvB_put b2 (by omega) h82)
              · refine g_aload_n X 0 d_Version_init_85 rfl rfl ?_
                refine g_get (C := R_Version) (T := T_Version) (N := 3) X 0 1 in_Version rfl rfl (by decide) t3_93 rfl rfl d_Version_init_86 ?_
                refine g_iload_n X 2 d_Version_init_89 rfl rfl ?_
                refine g_iload_n X 3 d_Version_init_90 rfl rfl ?_
                refine g_callvV (n := 2) X [.int (nI i), .int (nI k)] (k_Rows_mark q3 q_4 48 fa i k (by omega) (by omega) (by omega)) t3_91 t2_90 t2_91 t1_6 t2_92 rfl rfl (by decide +kernel) ⟨by decide, by decide⟩ [1, 2] [0, 3, 4, 5, 6, 7, 8, 9, 10, 11] [(hv, .inr (6, [.ref q1, .ref q3, .ref q5])), (q5, .inr (1, [.ref q_6])), (q_6, .inl (cJ, 48, .inr (.inl fb))), (q1, .inr (0, [.ref q_2])), (q_2, .inl (cI, 48, .inl (upd gN i (fN i)))), (hs, .inr (4, [.ref sn, .ref ss, .ref su, .int (nI K)])), (sn, .inr (0, [.ref xn])), (xn, .inl (cI, 48, .inl fN)), (su, .inr (1, [.ref xu])), (xu, .inl (cJ, 48, .inr (.inl fU)))] rfl rfl rfl rfl (by decide) 0 rfl rfl rfl rfl (Nat.le_of_ble_eq_true rfl) d_Version_init_91 ⟨by decide, by decide⟩ (fun w9u12 hw12 => ?_)
                refine g_aload_n X 0 d_Version_init_94 rfl rfl ?_
                refine g_get (C := R_Version) (T := T_Version) (N := 3) X 0 2 in_Version rfl rfl (by decide) t3_94 rfl rfl d_Version_init_95 ?_
                refine g_iload_n X 3 d_Version_init_98 rfl rfl ?_
                refine g_iload_n X 2 d_Version_init_99 rfl rfl ?_
                refine g_callvV (n := 2) X [.int (nI k), .int (nI i)] (k_Rows_mark q5 q_6 48 fb k i (by omega) (by omega) (by omega)) t3_91 t2_90 t2_91 t1_6 t2_92 rfl rfl (by decide +kernel) ⟨by decide, by decide⟩ [1, 2] [0, 3, 4, 5, 6, 7, 8, 9, 10, 11] [(hv, .inr (6, [.ref q1, .ref q3, .ref q5])), (q1, .inr (0, [.ref q_2])), (q_2, .inl (cI, 48, .inl (upd gN i (fN i)))), (hs, .inr (4, [.ref sn, .ref ss, .ref su, .int (nI K)])), (sn, .inr (0, [.ref xn])), (xn, .inl (cI, 48, .inl fN)), (su, .inr (1, [.ref xu])), (xu, .inl (cJ, 48, .inr (.inl fU))), (q3, .inr (1, [.ref q_4])), (q_4, .inl (cJ, 48, .inr (.inl (vp_updL fa i (fa i ||| ((1 : Int64) <<< ((nI k).toInt64 &&& 63)))))))] rfl rfl rfl rfl (by decide) 0 rfl rfl rfl rfl (Nat.le_of_ble_eq_true rfl) d_Version_init_100 ⟨by decide, by decide⟩ (fun w9u13 hw13 => ?_)
                refine g_iinc X (nI (k + 1)) [(3, .int (nI (k + 1))), (0, .ref hv), (1, .ref hs), (2, .int (nI i))] d_Version_init_103 (k := 3) rfl (nI_1 k) (by decide) rfl ?_
                refine g_goto X 68 d_Version_init_106 (by decide) ?_
                refine g_ws [(hv, .inr (6, [.ref q1, .ref q3, .ref q5])), (su, .inr (1, [.ref xu])), (xu, .inl (cJ, 48, .inr (.inl fU))), (q3, .inr (1, [.ref q_4])), (q_4, .inl (cJ, 48, .inr (.inl (vp_updL fa i (fa i ||| ((1 : Int64) <<< ((nI k).toInt64 &&& 63))))))), (q5, .inr (1, [.ref q_6])), (q_6, .inl (cJ, 48, .inr (.inl (vp_updL fb k (fb k ||| ((1 : Int64) <<< ((nI i).toInt64 &&& 63))))))), (hs, .inr (4, [.ref sn, .ref ss, .ref su, .int (nI K)])), (sn, .inr (0, [.ref xn])), (xn, .inl (cI, 48, .inl fN)), (q1, .inr (0, [.ref q_2])), (q_2, .inl (cI, 48, .inl (upd gN i (fN i))))] [0, 6, 7, 8, 9, 10, 11, 3, 4, 5, 1, 2] rfl rfl ?_
                refine g_lv [1, 2, 3, 0] rfl ?_
                exact ih68 (k + 1) (vp_updL fa i (fa i ||| ((1 : Int64) <<< ((nI k).toInt64 &&& 63)))) (vp_updL fb k (fb k ||| ((1 : Int64) <<< ((nI i).toInt64 &&& 63)))) (by omega) (by omega) (by first | exact vvA_skip a2 h82 | exact vvA_put a2 (by omega) h82) (by first | exact vvB_skip b2 h82 | exact vvB_put b2 (by omega) h82)
        refine g_iconst (v := nI 0) X d_Version_init_66 rfl ?_
        refine g_istore_n X [(3, .int (nI 0)), (0, .ref hv), (1, .ref hs), (2, .int (nI i))] d_Version_init_67 rfl (by decide) rfl ?_
        refine g_lv [1, 2, 3, 0] rfl ?_
        exact L68 ((K - 0) + 1) 0 gA gB (Nat.lt_succ_self _) (by omega) (a1) (b1)
  refine g_iconst (v := nI 0) X d_Version_init_43 rfl ?_
  refine g_istore_n X [(2, .int (nI 0)), (0, .ref hv), (1, .ref hs)] d_Version_init_44 rfl (by decide) rfl ?_
  refine g_lv [1, 2, 0] rfl ?_
  exact L45 ((K - 0) + 1) 0 g_2 (fun _ => 0) (fun _ => 0) (Nat.lt_succ_self _) (by omega) (fun j hj => absurd hj (Nat.not_lt_zero j)) (fun k _ hk => w1 k hk) (vvA_0) (vvB_0)

set_option maxHeartbeats 4000000 in
set_option maxRecDepth 100000 in
theorem k_Version_differences (hv : Nat) (vn : Nat) (vu : Nat) (vo : Nat) (yn : Nat) (yu : Nat) (yo : Nat) (n1 : Nat → Int32) (u1 : Nat → Int64) (o1 : Nat → Int64) (hw : Nat) (wn : Nat) (wu : Nat) (wo : Nat) (zn : Nat) (zu : Nat) (zo : Nat) (n2 : Nat → Int32) (u2 : Nat → Int64) (o2 : Nat → Int64)  : CtL l y_Version_differences (Cond.code y_Version_differences c_Version_differences 5 (some .long) :: TB) ({ frames := 2, cells := 0, slots := 0, locals := 42 } : Room) D (tysv cI cJ cZ cQ) [.ref hv, .ref hw] [(hv, .inr (6, [.ref vn, .ref vu, .ref vo])), (vn, .inr (0, [.ref yn])), (yn, .inl (cI, 48, .inl n1)), (vu, .inr (1, [.ref yu])), (yu, .inl (cJ, 48, .inr (.inl u1))), (vo, .inr (1, [.ref yo])), (yo, .inl (cJ, 48, .inr (.inl o1))), (hw, .inr (6, [.ref wn, .ref wu, .ref wo])), (wn, .inr (0, [.ref zn])), (zn, .inl (cI, 48, .inl n2)), (wu, .inr (1, [.ref zu])), (zu, .inl (cJ, 48, .inr (.inl u2))), (wo, .inr (1, [.ref zo])), (zo, .inl (cJ, 48, .inr (.inl o2)))] 0 0 (fun (r : Int64) (_ : Unit) => ∀ x, lb r x = true ↔ x < 48 ∧ ¬ dfI n1 n2 u1 u2 o1 o2 x) (fun (_ : Unit) => [(hv, .inr (6, [.ref vn, .ref vu, .ref vo])), (vn, .inr (0, [.ref yn])), (yn, .inl (cI, 48, .inl n1)), (vu, .inr (1, [.ref yu])), (yu, .inl (cJ, 48, .inr (.inl u1))), (vo, .inr (1, [.ref yo])), (yo, .inl (cJ, 48, .inr (.inl o1))), (hw, .inr (6, [.ref wn, .ref wu, .ref wo])), (wn, .inr (0, [.ref zn])), (zn, .inl (cI, 48, .inl n2)), (wu, .inr (1, [.ref zu])), (zu, .inl (cJ, 48, .inr (.inl u2))), (wo, .inr (1, [.ref zo])), (zo, .inl (cJ, 48, .inr (.inl o2)))]) := by
  refine CtL.of c_Version_differences 5 (some .long) (by decide) rfl (Nat.le_of_ble_eq_true rfl) ?_
  intro p e s m args below meth c A Q hA9 hQ9 X hr9 hlk9 hin9
  have L5 : ∀ (N5 : Nat) (i : Nat) (w : Int64), (48 - i) < N5 → (i ≤ 48) → (∀ x, lb w x = true ↔ x < i ∧ ¬ dfI n1 n2 u1 u2 o1 o2 x) → G p l e ({ frames := 2, cells := 0, slots := 0, locals := 42 } : Room) s m args below meth c 5 D A s.heap Q 0 0 [(hv, .inr (6, [.ref vn, .ref vu, .ref vo])), (vn, .inr (0, [.ref yn])), (yn, .inl (cI, 48, .inl n1)), (vu, .inr (1, [.ref yu])), (yu, .inl (cJ, 48, .inr (.inl u1))), (vo, .inr (1, [.ref yo])), (yo, .inl (cJ, 48, .inr (.inl o1))), (hw, .inr (6, [.ref wn, .ref wu, .ref wo])), (wn, .inr (0, [.ref zn])), (zn, .inl (cI, 48, .inl n2)), (wu, .inr (1, [.ref zu])), (zu, .inl (cJ, 48, .inr (.inl u2))), (wo, .inr (1, [.ref zo])), (zo, .inl (cJ, 48, .inr (.inl o2)))] [(0, .ref hv), (1, .ref hw), (2, .long w), (4, .int (nI i))] 5 [] := by
    intro N5
    induction N5 with
    | zero =>
      intro i w hN
      exact absurd hN (Nat.not_lt_zero _)
    | succ N5 ih5 =>
      intro i w hN5 hi h1
      refine g_iload X 4 d_Version_differences_5 rfl ?_
      refine g_bipush (v := nI 48) X d_Version_differences_7 rfl ?_
      refine n_icmp_ge X 90 d_Version_differences_9 (by decide) (by omega) (by omega) (fun h9 => ?_) (fun h9 => ?_)
      · refine g_lload_n X 2 d_Version_differences_90 rfl rfl ?_
        exact g_lret X hA9 hQ9 hr9 hlk9 () [0, 1, 2, 3, 4, 5, 6, 7, 8, 9, 10, 11, 12, 13] rfl rfl d_Version_differences_91 (by have e9 : i = 48 := (by omega); subst e9; exact h1)
      · refine g_aload_n X 0 d_Version_differences_12 rfl rfl ?_
        refine g_get (C := R_Version) (T := T_Version) (N := 3) X 0 0 in_Version rfl rfl (by decide) t3_92 rfl rfl d_Version_differences_13 ?_
        refine g_iload X 4 d_Version_differences_16 rfl ?_
        refine g_calliV (n := 1) X [.int (nI i)] (k_Cells_at vn yn 48 n1 i (by omega) (by omega)) t3_118 t2_78 t2_79 t1_3 t2_80 rfl rfl (by decide +kernel) ⟨by decide, by decide⟩ [1, 2] [0, 3, 4, 5, 6, 7, 8, 9, 10, 11, 12, 13] [(hv, .inr (6, [.ref vn, .ref vu, .ref vo])), (vu, .inr (1, [.ref yu])), (yu, .inl (cJ, 48, .inr (.inl u1))), (vo, .inr (1, [.ref yo])), (yo, .inl (cJ, 48, .inr (.inl o1))), (hw, .inr (6, [.ref wn, .ref wu, .ref wo])), (wn, .inr (0, [.ref zn])), (zn, .inl (cI, 48, .inl n2)), (wu, .inr (1, [.ref zu])), (zu, .inl (cJ, 48, .inr (.inl u2))), (wo, .inr (1, [.ref zo])), (zo, .inl (cJ, 48, .inr (.inl o2)))] rfl rfl rfl rfl (by decide) 0 rfl rfl rfl rfl (Nat.le_of_ble_eq_true rfl) d_Version_differences_18 ⟨by decide, by decide⟩ (fun r1 w9u1 hw1 => ?_)
        subst hw1
        refine g_aload_n X 1 d_Version_differences_21 rfl rfl ?_
        refine g_get (C := R_Version) (T := T_Version) (N := 3) X 5 0 in_Version rfl rfl (by decide) t3_92 rfl rfl d_Version_differences_22 ?_
        refine g_iload X 4 d_Version_differences_25 rfl ?_
        refine g_calliV (n := 1) X [.int (nI i)] (k_Cells_at wn zn 48 n2 i (by omega) (by omega)) t3_118 t2_78 t2_79 t1_3 t2_80 rfl rfl (by decide +kernel) ⟨by decide, by decide⟩ [6, 7] [0, 1, 2, 3, 4, 5, 8, 9, 10, 11, 12, 13] [(hv, .inr (6, [.ref vn, .ref vu, .ref vo])), (vu, .inr (1, [.ref yu])), (yu, .inl (cJ, 48, .inr (.inl u1))), (vo, .inr (1, [.ref yo])), (yo, .inl (cJ, 48, .inr (.inl o1))), (hw, .inr (6, [.ref wn, .ref wu, .ref wo])), (wu, .inr (1, [.ref zu])), (zu, .inl (cJ, 48, .inr (.inl u2))), (wo, .inr (1, [.ref zo])), (zo, .inl (cJ, 48, .inr (.inl o2))), (vn, .inr (0, [.ref yn])), (yn, .inl (cI, 48, .inl n1))] rfl rfl rfl rfl (by decide) 0 rfl rfl rfl rfl (Nat.le_of_ble_eq_true rfl) d_Version_differences_27 ⟨by decide, by decide⟩ (fun r2 w9u2 hw2 => ?_)
        subst hw2
        refine g_icmp_ne X 77 d_Version_differences_30 (by decide) (fun h30 => ?_) (fun h30 => ?_)
        · refine g_lload_n X 2 d_Version_differences_77 rfl rfl ?_
          refine g_lconst (v := 1) X d_Version_differences_78 rfl ?_
          refine g_iload X 4 d_Version_differences_79 rfl ?_
          refine g_lshl X (1 <<< ((nI i).toInt64 &&& 63)) d_Version_differences_81 rfl ?_
          refine g_lor X (w ||| (1 <<< ((nI i).toInt64 &&& 63))) d_Version_differences_82 rfl ?_
          refine g_lstore_n X [(2, .long (w ||| (1 <<< ((nI i).toInt64 &&& 63)))), (0, .ref hv), (1, .ref hw), (4, .int (nI i))] d_Version_differences_83 rfl (by decide) rfl ?_
          refine g_iinc X (nI (i + 1)) [(4, .int (nI (i + 1))), (2, .long (w ||| (1 <<< ((nI i).toInt64 &&& 63)))), (0, .ref hv), (1, .ref hw)] d_Version_differences_84 (k := 3) rfl (nI_1 i) (by decide) rfl ?_
          refine g_goto X 5 d_Version_differences_87 (by decide) ?_
          refine g_ws [(hv, .inr (6, [.ref vn, .ref vu, .ref vo])), (vn, .inr (0, [.ref yn])), (yn, .inl (cI, 48, .inl n1)), (vu, .inr (1, [.ref yu])), (yu, .inl (cJ, 48, .inr (.inl u1))), (vo, .inr (1, [.ref yo])), (yo, .inl (cJ, 48, .inr (.inl o1))), (hw, .inr (6, [.ref wn, .ref wu, .ref wo])), (wn, .inr (0, [.ref zn])), (zn, .inl (cI, 48, .inl n2)), (wu, .inr (1, [.ref zu])), (zu, .inl (cJ, 48, .inr (.inl u2))), (wo, .inr (1, [.ref zo])), (zo, .inl (cJ, 48, .inr (.inl o2)))] [0, 10, 11, 1, 2, 3, 4, 5, 12, 13, 6, 7, 8, 9] rfl rfl ?_
          refine g_lv [2, 3, 1, 0] rfl ?_
          exact ih5 (i + 1) (w ||| (1 <<< ((nI i).toInt64 &&& 63))) (by omega) (by omega) (by first | exact df_keep h1 h30 h52 h74 | exact df_put (by omega) h1 (fun z9 => h30 z9.1) | exact df_put (by omega) h1 (fun z9 => h52 z9.2.1) | exact df_put (by omega) h1 (fun z9 => h74 z9.2.2))
        · refine g_aload_n X 0 d_Version_differences_33 rfl rfl ?_
          refine g_get (C := R_Version) (T := T_Version) (N := 3) X 0 1 in_Version rfl rfl (by decide) t3_93 rfl rfl d_Version_differences_34 ?_
          refine g_iload X 4 d_Version_differences_37 rfl ?_
          refine g_calllV (n := 1) X [.int (nI i)] (k_Rows_row vu yu 48 u1 i (by omega) (by omega)) t3_119 t1_174 t1_175 t1_6 t1_176 rfl rfl (by decide +kernel) ⟨by decide, by decide⟩ [1, 2] [0, 3, 4, 5, 6, 7, 8, 9, 10, 11, 12, 13] [(hv, .inr (6, [.ref vn, .ref vu, .ref vo])), (vo, .inr (1, [.ref yo])), (yo, .inl (cJ, 48, .inr (.inl o1))), (hw, .inr (6, [.ref wn, .ref wu, .ref wo])), (wu, .inr (1, [.ref zu])), (zu, .inl (cJ, 48, .inr (.inl u2))), (wo, .inr (1, [.ref zo])), (zo, .inl (cJ, 48, .inr (.inl o2))), (vn, .inr (0, [.ref yn])), (yn, .inl (cI, 48, .inl n1)), (wn, .inr (0, [.ref zn])), (zn, .inl (cI, 48, .inl n2))] rfl rfl rfl rfl (by decide) 0 rfl rfl rfl rfl (Nat.le_of_ble_eq_true rfl) d_Version_differences_39 ⟨by decide, by decide⟩ (fun r3 w9u3 hw3 => ?_)
          subst hw3
          refine g_aload_n X 1 d_Version_differences_42 rfl rfl ?_
          refine g_get (C := R_Version) (T := T_Version) (N := 3) X 3 1 in_Version rfl rfl (by decide) t3_93 rfl rfl d_Version_differences_43 ?_
          refine g_iload X 4 d_Version_differences_46 rfl ?_
          refine g_calllV (n := 1) X [.int (nI i)] (k_Rows_row wu zu 48 u2 i (by omega) (by omega)) t3_119 t1_174 t1_175 t1_6 t1_176 rfl rfl (by decide +kernel) ⟨by decide, by decide⟩ [4, 5] [0, 1, 2, 3, 6, 7, 8, 9, 10, 11, 12, 13] [(hv, .inr (6, [.ref vn, .ref vu, .ref vo])), (vo, .inr (1, [.ref yo])), (yo, .inl (cJ, 48, .inr (.inl o1))), (hw, .inr (6, [.ref wn, .ref wu, .ref wo])), (wo, .inr (1, [.ref zo])), (zo, .inl (cJ, 48, .inr (.inl o2))), (vn, .inr (0, [.ref yn])), (yn, .inl (cI, 48, .inl n1)), (wn, .inr (0, [.ref zn])), (zn, .inl (cI, 48, .inl n2)), (vu, .inr (1, [.ref yu])), (yu, .inl (cJ, 48, .inr (.inl u1)))] rfl rfl rfl rfl (by decide) 0 rfl rfl rfl rfl (Nat.le_of_ble_eq_true rfl) d_Version_differences_48 ⟨by decide, by decide⟩ (fun r4 w9u4 hw4 => ?_)
          subst hw4
          refine g_lcmp X d_Version_differences_51 ?_
          refine lc_if_ne X 77 d_Version_differences_52 (by decide) (fun h52 => ?_) (fun h52 => ?_)
          · refine g_lload_n X 2 d_Version_differences_77 rfl rfl ?_
            refine g_lconst (v := 1) X d_Version_differences_78 rfl ?_
            refine g_iload X 4 d_Version_differences_79 rfl ?_
            refine g_lshl X (1 <<< ((nI i).toInt64 &&& 63)) d_Version_differences_81 rfl ?_
            refine g_lor X (w ||| (1 <<< ((nI i).toInt64 &&& 63))) d_Version_differences_82 rfl ?_
            refine g_lstore_n X [(2, .long (w ||| (1 <<< ((nI i).toInt64 &&& 63)))), (0, .ref hv), (1, .ref hw), (4, .int (nI i))] d_Version_differences_83 rfl (by decide) rfl ?_
            refine g_iinc X (nI (i + 1)) [(4, .int (nI (i + 1))), (2, .long (w ||| (1 <<< ((nI i).toInt64 &&& 63)))), (0, .ref hv), (1, .ref hw)] d_Version_differences_84 (k := 3) rfl (nI_1 i) (by decide) rfl ?_
            refine g_goto X 5 d_Version_differences_87 (by decide) ?_
            refine g_ws [(hv, .inr (6, [.ref vn, .ref vu, .ref vo])), (vn, .inr (0, [.ref yn])), (yn, .inl (cI, 48, .inl n1)), (vu, .inr (1, [.ref yu])), (yu, .inl (cJ, 48, .inr (.inl u1))), (vo, .inr (1, [.ref yo])), (yo, .inl (cJ, 48, .inr (.inl o1))), (hw, .inr (6, [.ref wn, .ref wu, .ref wo])), (wn, .inr (0, [.ref zn])), (zn, .inl (cI, 48, .inl n2)), (wu, .inr (1, [.ref zu])), (zu, .inl (cJ, 48, .inr (.inl u2))), (wo, .inr (1, [.ref zo])), (zo, .inl (cJ, 48, .inr (.inl o2)))] [0, 6, 7, 10, 11, 1, 2, 3, 8, 9, 12, 13, 4, 5] rfl rfl ?_
            refine g_lv [2, 3, 1, 0] rfl ?_
            exact ih5 (i + 1) (w ||| (1 <<< ((nI i).toInt64 &&& 63))) (by omega) (by omega) (by first | exact df_keep h1 h30 h52 h74 | exact df_put (by omega) h1 (fun z9 => h30 z9.1) | exact df_put (by omega) h1 (fun z9 => h52 z9.2.1) | exact df_put (by omega) h1 (fun z9 => h74 z9.2.2))
          · refine g_aload_n X 0 d_Version_differences_55 rfl rfl ?_
            refine g_get (C := R_Version) (T := T_Version) (N := 3) X 0 2 in_Version rfl rfl (by decide) t3_94 rfl rfl d_Version_differences_56 ?_
            refine g_iload X 4 d_Version_differences_59 rfl ?_
            refine g_calllV (n := 1) X [.int (nI i)] (k_Rows_row vo yo 48 o1 i (by omega) (by omega)) t3_119 t1_174 t1_175 t1_6 t1_176 rfl rfl (by decide +kernel) ⟨by decide, by decide⟩ [1, 2] [0, 3, 4, 5, 6, 7, 8, 9, 10, 11, 12, 13] [(hv, .inr (6, [.ref vn, .ref vu, .ref vo])), (hw, .inr (6, [.ref wn, .ref wu, .ref wo])), (wo, .inr (1, [.ref zo])), (zo, .inl (cJ, 48, .inr (.inl o2))), (vn, .inr (0, [.ref yn])), (yn, .inl (cI, 48, .inl n1)), (wn, .inr (0, [.ref zn])), (zn, .inl (cI, 48, .inl n2)), (vu, .inr (1, [.ref yu])), (yu, .inl (cJ, 48, .inr (.inl u1))), (wu, .inr (1, [.ref zu])), (zu, .inl (cJ, 48, .inr (.inl u2)))] rfl rfl rfl rfl (by decide) 0 rfl rfl rfl rfl (Nat.le_of_ble_eq_true rfl) d_Version_differences_61 ⟨by decide, by decide⟩ (fun r5 w9u5 hw5 => ?_)
            subst hw5
            refine g_aload_n X 1 d_Version_differences_64 rfl rfl ?_
            refine g_get (C := R_Version) (T := T_Version) (N := 3) X 1 2 in_Version rfl rfl (by decide) t3_94 rfl rfl d_Version_differences_65 ?_
            refine g_iload X 4 d_Version_differences_68 rfl ?_
            refine g_calllV (n := 1) X [.int (nI i)] (k_Rows_row wo zo 48 o2 i (by omega) (by omega)) t3_119 t1_174 t1_175 t1_6 t1_176 rfl rfl (by decide +kernel) ⟨by decide, by decide⟩ [2, 3] [0, 1, 4, 5, 6, 7, 8, 9, 10, 11, 12, 13] [(hv, .inr (6, [.ref vn, .ref vu, .ref vo])), (hw, .inr (6, [.ref wn, .ref wu, .ref wo])), (vn, .inr (0, [.ref yn])), (yn, .inl (cI, 48, .inl n1)), (wn, .inr (0, [.ref zn])), (zn, .inl (cI, 48, .inl n2)), (vu, .inr (1, [.ref yu])), (yu, .inl (cJ, 48, .inr (.inl u1))), (wu, .inr (1, [.ref zu])), (zu, .inl (cJ, 48, .inr (.inl u2))), (vo, .inr (1, [.ref yo])), (yo, .inl (cJ, 48, .inr (.inl o1)))] rfl rfl rfl rfl (by decide) 0 rfl rfl rfl rfl (Nat.le_of_ble_eq_true rfl) d_Version_differences_70 ⟨by decide, by decide⟩ (fun r6 w9u6 hw6 => ?_)
            subst hw6
            refine g_lcmp X d_Version_differences_73 ?_
            refine lc_if_eq X 84 d_Version_differences_74 (by decide) (fun h74 => ?_) (fun h74 => ?_)
            · refine g_iinc X (nI (i + 1)) [(4, .int (nI (i + 1))), (0, .ref hv), (1, .ref hw), (2, .long w)] d_Version_differences_84 (k := 3) rfl (nI_1 i) (by decide) rfl ?_
              refine g_goto X 5 d_Version_differences_87 (by decide) ?_
              refine g_ws [(hv, .inr (6, [.ref vn, .ref vu, .ref vo])), (vn, .inr (0, [.ref yn])), (yn, .inl (cI, 48, .inl n1)), (vu, .inr (1, [.ref yu])), (yu, .inl (cJ, 48, .inr (.inl u1))), (vo, .inr (1, [.ref yo])), (yo, .inl (cJ, 48, .inr (.inl o1))), (hw, .inr (6, [.ref wn, .ref wu, .ref wo])), (wn, .inr (0, [.ref zn])), (zn, .inl (cI, 48, .inl n2)), (wu, .inr (1, [.ref zu])), (zu, .inl (cJ, 48, .inr (.inl u2))), (wo, .inr (1, [.ref zo])), (zo, .inl (cJ, 48, .inr (.inl o2)))] [0, 2, 3, 6, 7, 10, 11, 1, 4, 5, 8, 9, 12, 13] rfl rfl ?_
              refine g_lv [1, 2, 3, 0] rfl ?_
              exact ih5 (i + 1) w (by omega) (by omega) (by first | exact df_keep h1 h30 h52 h74 | exact df_put (by omega) h1 (fun z9 => h30 z9.1) | exact df_put (by omega) h1 (fun z9 => h52 z9.2.1) | exact df_put (by omega) h1 (fun z9 => h74 z9.2.2))
            · refine g_lload_n X 2 d_Version_differences_77 rfl rfl ?_
              refine g_lconst (v := 1) X d_Version_differences_78 rfl ?_
              refine g_iload X 4 d_Version_differences_79 rfl ?_
              refine g_lshl X (1 <<< ((nI i).toInt64 &&& 63)) d_Version_differences_81 rfl ?_
              refine g_lor X (w ||| (1 <<< ((nI i).toInt64 &&& 63))) d_Version_differences_82 rfl ?_
              refine g_lstore_n X [(2, .long (w ||| (1 <<< ((nI i).toInt64 &&& 63)))), (0, .ref hv), (1, .ref hw), (4, .int (nI i))] d_Version_differences_83 rfl (by decide) rfl ?_
              refine g_iinc X (nI (i + 1)) [(4, .int (nI (i + 1))), (2, .long (w ||| (1 <<< ((nI i).toInt64 &&& 63)))), (0, .ref hv), (1, .ref hw)] d_Version_differences_84 (k := 3) rfl (nI_1 i) (by decide) rfl ?_
              refine g_goto X 5 d_Version_differences_87 (by decide) ?_
              refine g_ws [(hv, .inr (6, [.ref vn, .ref vu, .ref vo])), (vn, .inr (0, [.ref yn])), (yn, .inl (cI, 48, .inl n1)), (vu, .inr (1, [.ref yu])), (yu, .inl (cJ, 48, .inr (.inl u1))), (vo, .inr (1, [.ref yo])), (yo, .inl (cJ, 48, .inr (.inl o1))), (hw, .inr (6, [.ref wn, .ref wu, .ref wo])), (wn, .inr (0, [.ref zn])), (zn, .inl (cI, 48, .inl n2)), (wu, .inr (1, [.ref zu])), (zu, .inl (cJ, 48, .inr (.inl u2))), (wo, .inr (1, [.ref zo])), (zo, .inl (cJ, 48, .inr (.inl o2)))] [0, 2, 3, 6, 7, 10, 11, 1, 4, 5, 8, 9, 12, 13] rfl rfl ?_
              refine g_lv [2, 3, 1, 0] rfl ?_
              exact ih5 (i + 1) (w ||| (1 <<< ((nI i).toInt64 &&& 63))) (by omega) (by omega) (by first | exact df_keep h1 h30 h52 h74 | exact df_put (by omega) h1 (fun z9 => h30 z9.1) | exact df_put (by omega) h1 (fun z9 => h52 z9.2.1) | exact df_put (by omega) h1 (fun z9 => h74 z9.2.2))
  refine g_lconst (v := 0) X d_Version_differences_0 rfl ?_
  refine g_lstore_n X [(2, .long 0), (0, .ref hv), (1, .ref hw)] d_Version_differences_1 rfl (by decide) rfl ?_
  refine g_iconst (v := nI 0) X d_Version_differences_2 rfl ?_
  refine g_istore X [(4, .int (nI 0)), (2, .long 0), (0, .ref hv), (1, .ref hw)] d_Version_differences_3 (by decide) rfl ?_
  refine g_lv [2, 3, 1, 0] rfl ?_
  exact L5 ((48 - 0) + 1) 0 0 (Nat.lt_succ_self _) (by omega) (df_0)

set_option maxHeartbeats 4000000 in
set_option maxRecDepth 100000 in
theorem k_Version_differencesS (hv : Nat) (vn : Nat) (vu : Nat) (vo : Nat) (yn : Nat) (yu : Nat) (yo : Nat) (n1 : Nat → Int32) (u1 : Nat → Int64) (o1 : Nat → Int64)  : CtL l y_Version_differences (Cond.code y_Version_differences c_Version_differences 5 (some .long) :: TB) ({ frames := 2, cells := 0, slots := 0, locals := 42 } : Room) D (tysv cI cJ cZ cQ) [.ref hv, .ref hv] [(hv, .inr (6, [.ref vn, .ref vu, .ref vo])), (vn, .inr (0, [.ref yn])), (yn, .inl (cI, 48, .inl n1)), (vu, .inr (1, [.ref yu])), (yu, .inl (cJ, 48, .inr (.inl u1))), (vo, .inr (1, [.ref yo])), (yo, .inl (cJ, 48, .inr (.inl o1)))] 0 0 (fun (r : Int64) (_ : Unit) => r = 0) (fun (_ : Unit) => [(hv, .inr (6, [.ref vn, .ref vu, .ref vo])), (vn, .inr (0, [.ref yn])), (yn, .inl (cI, 48, .inl n1)), (vu, .inr (1, [.ref yu])), (yu, .inl (cJ, 48, .inr (.inl u1))), (vo, .inr (1, [.ref yo])), (yo, .inl (cJ, 48, .inr (.inl o1)))]) := by
  refine CtL.of c_Version_differences 5 (some .long) (by decide) rfl (Nat.le_of_ble_eq_true rfl) ?_
  intro p e s m args below meth c A Q hA9 hQ9 X hr9 hlk9 hin9
  have L5 : ∀ (N5 : Nat) (i : Nat), (48 - i) < N5 → (i ≤ 48) → G p l e ({ frames := 2, cells := 0, slots := 0, locals := 42 } : Room) s m args below meth c 5 D A s.heap Q 0 0 [(hv, .inr (6, [.ref vn, .ref vu, .ref vo])), (vn, .inr (0, [.ref yn])), (yn, .inl (cI, 48, .inl n1)), (vu, .inr (1, [.ref yu])), (yu, .inl (cJ, 48, .inr (.inl u1))), (vo, .inr (1, [.ref yo])), (yo, .inl (cJ, 48, .inr (.inl o1)))] [(0, .ref hv), (1, .ref hv), (2, .long 0), (4, .int (nI i))] 5 [] := by
    intro N5
    induction N5 with
    | zero =>
      intro i hN
      exact absurd hN (Nat.not_lt_zero _)
    | succ N5 ih5 =>
      intro i hN5 hi
      refine g_iload X 4 d_Version_differences_5 rfl ?_
      refine g_bipush (v := nI 48) X d_Version_differences_7 rfl ?_
      refine n_icmp_ge X 90 d_Version_differences_9 (by decide) (by omega) (by omega) (fun h9 => ?_) (fun h9 => ?_)
      · refine g_lload_n X 2 d_Version_differences_90 rfl rfl ?_
        exact g_lret X hA9 hQ9 hr9 hlk9 () [0, 1, 2, 3, 4, 5, 6] rfl rfl d_Version_differences_91 (rfl)
      · refine g_aload_n X 0 d_Version_differences_12 rfl rfl ?_
        refine g_get (C := R_Version) (T := T_Version) (N := 3) X 0 0 in_Version rfl rfl (by decide) t3_92 rfl rfl d_Version_differences_13 ?_
        refine g_iload X 4 d_Version_differences_16 rfl ?_
        refine g_calliV (n := 1) X [.int (nI i)] (k_Cells_at vn yn 48 n1 i (by omega) (by omega)) t3_118 t2_78 t2_79 t1_3 t2_80 rfl rfl (by decide +kernel) ⟨by decide, by decide⟩ [1, 2] [0, 3, 4, 5, 6] [(hv, .inr (6, [.ref vn, .ref vu, .ref vo])), (vu, .inr (1, [.ref yu])), (yu, .inl (cJ, 48, .inr (.inl u1))), (vo, .inr (1, [.ref yo])), (yo, .inl (cJ, 48, .inr (.inl o1)))] rfl rfl rfl rfl (by decide) 0 rfl rfl rfl rfl (Nat.le_of_ble_eq_true rfl) d_Version_differences_18 ⟨by decide, by decide⟩ (fun r1 w9u1 hw1 => ?_)
        subst hw1
        refine g_aload_n X 1 d_Version_differences_21 rfl rfl ?_
        refine g_get (C := R_Version) (T := T_Version) (N := 3) X 0 0 in_Version rfl rfl (by decide) t3_92 rfl rfl d_Version_differences_22 ?_
        refine g_iload X 4 d_Version_differences_25 rfl ?_
        refine g_calliV (n := 1) X [.int (nI i)] (k_Cells_at vn yn 48 n1 i (by omega) (by omega)) t3_118 t2_78 t2_79 t1_3 t2_80 rfl rfl (by decide +kernel) ⟨by decide, by decide⟩ [5, 6] [0, 1, 2, 3, 4] [(hv, .inr (6, [.ref vn, .ref vu, .ref vo])), (vu, .inr (1, [.ref yu])), (yu, .inl (cJ, 48, .inr (.inl u1))), (vo, .inr (1, [.ref yo])), (yo, .inl (cJ, 48, .inr (.inl o1)))] rfl rfl rfl rfl (by decide) 0 rfl rfl rfl rfl (Nat.le_of_ble_eq_true rfl) d_Version_differences_27 ⟨by decide, by decide⟩ (fun r2 w9u2 hw2 => ?_)
        subst hw2
        refine g_icmp_ne X 77 d_Version_differences_30 (by decide) (fun h30 => absurd h30 (fun z9 => z9 rfl)) (fun h30 => ?_)
        refine g_aload_n X 0 d_Version_differences_33 rfl rfl ?_
        refine g_get (C := R_Version) (T := T_Version) (N := 3) X 0 1 in_Version rfl rfl (by decide) t3_93 rfl rfl d_Version_differences_34 ?_
        refine g_iload X 4 d_Version_differences_37 rfl ?_
        refine g_calllV (n := 1) X [.int (nI i)] (k_Rows_row vu yu 48 u1 i (by omega) (by omega)) t3_119 t1_174 t1_175 t1_6 t1_176 rfl rfl (by decide +kernel) ⟨by decide, by decide⟩ [1, 2] [0, 3, 4, 5, 6] [(hv, .inr (6, [.ref vn, .ref vu, .ref vo])), (vo, .inr (1, [.ref yo])), (yo, .inl (cJ, 48, .inr (.inl o1))), (vn, .inr (0, [.ref yn])), (yn, .inl (cI, 48, .inl n1))] rfl rfl rfl rfl (by decide) 0 rfl rfl rfl rfl (Nat.le_of_ble_eq_true rfl) d_Version_differences_39 ⟨by decide, by decide⟩ (fun r3 w9u3 hw3 => ?_)
        subst hw3
        refine g_aload_n X 1 d_Version_differences_42 rfl rfl ?_
        refine g_get (C := R_Version) (T := T_Version) (N := 3) X 0 1 in_Version rfl rfl (by decide) t3_93 rfl rfl d_Version_differences_43 ?_
        refine g_iload X 4 d_Version_differences_46 rfl ?_
        refine g_calllV (n := 1) X [.int (nI i)] (k_Rows_row vu yu 48 u1 i (by omega) (by omega)) t3_119 t1_174 t1_175 t1_6 t1_176 rfl rfl (by decide +kernel) ⟨by decide, by decide⟩ [5, 6] [0, 1, 2, 3, 4] [(hv, .inr (6, [.ref vn, .ref vu, .ref vo])), (vo, .inr (1, [.ref yo])), (yo, .inl (cJ, 48, .inr (.inl o1))), (vn, .inr (0, [.ref yn])), (yn, .inl (cI, 48, .inl n1))] rfl rfl rfl rfl (by decide) 0 rfl rfl rfl rfl (Nat.le_of_ble_eq_true rfl) d_Version_differences_48 ⟨by decide, by decide⟩ (fun r4 w9u4 hw4 => ?_)
        subst hw4
        refine g_lcmp X d_Version_differences_51 ?_
        refine lc_if_ne X 77 d_Version_differences_52 (by decide) (fun h52 => absurd h52 (fun z9 => z9 rfl)) (fun h52 => ?_)
        refine g_aload_n X 0 d_Version_differences_55 rfl rfl ?_
        refine g_get (C := R_Version) (T := T_Version) (N := 3) X 0 2 in_Version rfl rfl (by decide) t3_94 rfl rfl d_Version_differences_56 ?_
        refine g_iload X 4 d_Version_differences_59 rfl ?_
        refine g_calllV (n := 1) X [.int (nI i)] (k_Rows_row vo yo 48 o1 i (by omega) (by omega)) t3_119 t1_174 t1_175 t1_6 t1_176 rfl rfl (by decide +kernel) ⟨by decide, by decide⟩ [1, 2] [0, 3, 4, 5, 6] [(hv, .inr (6, [.ref vn, .ref vu, .ref vo])), (vn, .inr (0, [.ref yn])), (yn, .inl (cI, 48, .inl n1)), (vu, .inr (1, [.ref yu])), (yu, .inl (cJ, 48, .inr (.inl u1)))] rfl rfl rfl rfl (by decide) 0 rfl rfl rfl rfl (Nat.le_of_ble_eq_true rfl) d_Version_differences_61 ⟨by decide, by decide⟩ (fun r5 w9u5 hw5 => ?_)
        subst hw5
        refine g_aload_n X 1 d_Version_differences_64 rfl rfl ?_
        refine g_get (C := R_Version) (T := T_Version) (N := 3) X 0 2 in_Version rfl rfl (by decide) t3_94 rfl rfl d_Version_differences_65 ?_
        refine g_iload X 4 d_Version_differences_68 rfl ?_
        refine g_calllV (n := 1) X [.int (nI i)] (k_Rows_row vo yo 48 o1 i (by omega) (by omega)) t3_119 t1_174 t1_175 t1_6 t1_176 rfl rfl (by decide +kernel) ⟨by decide, by decide⟩ [5, 6] [0, 1, 2, 3, 4] [(hv, .inr (6, [.ref vn, .ref vu, .ref vo])), (vn, .inr (0, [.ref yn])), (yn, .inl (cI, 48, .inl n1)), (vu, .inr (1, [.ref yu])), (yu, .inl (cJ, 48, .inr (.inl u1)))] rfl rfl rfl rfl (by decide) 0 rfl rfl rfl rfl (Nat.le_of_ble_eq_true rfl) d_Version_differences_70 ⟨by decide, by decide⟩ (fun r6 w9u6 hw6 => ?_)
        subst hw6
        refine g_lcmp X d_Version_differences_73 ?_
        refine lc_if_eq X 84 d_Version_differences_74 (by decide) (fun h74 => ?_) (fun h74 => absurd h74 (fun z9 => z9 rfl))
        refine g_iinc X (nI (i + 1)) [(4, .int (nI (i + 1))), (0, .ref hv), (1, .ref hv), (2, .long 0)] d_Version_differences_84 (k := 3) rfl (nI_1 i) (by decide) rfl ?_
        refine g_goto X 5 d_Version_differences_87 (by decide) ?_
        refine g_lv [1, 2, 3, 0] rfl ?_
        exact ih5 (i + 1) (by omega) (by omega)
  refine g_lconst (v := 0) X d_Version_differences_0 rfl ?_
  refine g_lstore_n X [(2, .long 0), (0, .ref hv), (1, .ref hv)] d_Version_differences_1 rfl (by decide) rfl ?_
  refine g_iconst (v := nI 0) X d_Version_differences_2 rfl ?_
  refine g_istore X [(4, .int (nI 0)), (2, .long 0), (0, .ref hv), (1, .ref hv)] d_Version_differences_3 (by decide) rfl ?_
  refine g_lv [2, 3, 1, 0] rfl ?_
  exact L5 ((48 - 0) + 1) 0 (Nat.lt_succ_self _) (by omega)
