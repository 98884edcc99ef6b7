variable {l : Launch} {D : va_G} {cI cJ cZ cQ : ClassId}
theorem bad_nlt {K : Nat} {x : Int32} (h : badI K x) (h1 : ¬ x < 0) : ¬ x < nI K := Int32.not_lt.mpr (h.resolve_left h1)
theorem gt1 {z : Int32} (h1 : ¬ z < 0) (h : nI 2 ≤ z) : ¬ z ≤ nI 1 := by
  intro q
  have e1 : (nI 1).toInt = 1 := by decide
  have e2 : (nI 2).toInt = 2 := by decide
  have a1 := Int32.le_iff_toInt_le.mp q
  have a2 := Int32.le_iff_toInt_le.mp h
  omega
theorem bad5_out {x : Int32} (h : badI 5 x) : x.toInt < 0 ∨ 4 < x.toInt := by
  rcases h with h | h
  · have := Int32.lt_iff_toInt_lt.mp h
    rw [show (0 : Int32).toInt = 0 from rfl] at this
    exact Or.inl this
  · have := Int32.le_iff_toInt_le.mp h
    rw [show (nI 5).toInt = 5 by decide] at this
    exact Or.inr (by omega)

set_option maxHeartbeats 4000000 in
set_option maxRecDepth 100000 in
theorem kx_RO_checkContext (ho : Nat) (hr : Nat) (hs : Nat) (h : Nat) (hg : Nat) (ha : Nat) (vm : Int32) (sn : Nat) (ss : Nat) (su : Nat) (K : Nat) (x : Int32) (hK : K ≤ 48) (hx : badI K x) : CtX l y_RO_checkContext (Cond.code y_RO_checkContext c_RO_checkContext 2 none :: TB) ({ frames := 6, cells := 1, slots := 6, locals := 82 } : Room) D (tysv cI cJ cZ cQ) [.ref ho, .int x] [(ho, .inr (7, [.ref hr, .ref hs, .ref h, .ref hg, .ref ha, .int vm])), (hs, .inr (4, [.ref sn, .ref ss, .ref su, .int (nI K)]))] 1 6 xIO := by
  refine CtX.of c_RO_checkContext 2 none (by decide) rfl (Nat.le_of_ble_eq_true rfl) ?_
  intro p e s m args below meth c A Q hA9 hQ9 X hx9
  refine g_iload_n X 1 d_RO_checkContext_0 rfl rfl ?_
  refine g_if_lt X 15 d_RO_checkContext_1 (by decide) (fun h1 => ?_) (fun h1 => ?_)
  · exact g_throwIO X hx9 hA9 hQ9 [0, 1] rfl rfl (show (172, "no such context") ∈ strs by decide) t2_51 t1_14 d_RO_checkContext_15 d_RO_checkContext_18 d_RO_checkContext_19 d_RO_checkContext_21 d_RO_checkContext_24 (by decide) (Nat.le_of_ble_eq_true rfl) (by decide) (by decide) (by decide) (by decide)
  · refine g_iload_n X 1 d_RO_checkContext_4 rfl rfl ?_
    refine g_aload_n X 0 d_RO_checkContext_5 rfl rfl ?_
    refine g_get (C := R_RO) (T := T_RO) (N := 6) X 0 1 in_RO rfl rfl (by decide) t1_143 rfl rfl d_RO_checkContext_6 ?_
    refine g_calliV (n := 0) X [] (k_Strata_contexts hs sn ss su K ) t1_200 t1_201 t1_202 t1_5 t1_203 rfl rfl (by decide +kernel) ⟨by decide, by decide⟩ [1] [0] [(ho, .inr (7, [.ref hr, .ref hs, .ref h, .ref hg, .ref ha, .int vm]))] rfl rfl rfl rfl (by decide) 0 rfl rfl rfl rfl (Nat.le_of_ble_eq_true rfl) d_RO_checkContext_9 ⟨by decide, by decide⟩ (fun r1 w9u1 hw1 => ?_)
    subst hw1
    refine g_icmp_lt X 25 d_RO_checkContext_12 (by decide) (fun h12 => absurd h12 (bad_nlt hx h1)) (fun h12 => ?_)
    exact g_throwIO X hx9 hA9 hQ9 [0, 1] rfl rfl (show (172, "no such context") ∈ strs by decide) t2_51 t1_14 d_RO_checkContext_15 d_RO_checkContext_18 d_RO_checkContext_19 d_RO_checkContext_21 d_RO_checkContext_24 (by decide) (Nat.le_of_ble_eq_true rfl) (by decide) (by decide) (by decide) (by decide)

set_option maxHeartbeats 4000000 in
set_option maxRecDepth 100000 in
theorem kx_RO_checkPlace (x : Int32) (hx : x < 0) : CtX l y_RO_checkPlace (Cond.code y_RO_checkPlace c_RO_checkPlace 1 none :: TB) ({ frames := 6, cells := 1, slots := 6, locals := 82 } : Room) D (tysv cI cJ cZ cQ) [.int x] [] 1 6 xIO := by
  refine CtX.of c_RO_checkPlace 1 none (by decide) rfl (Nat.le_of_ble_eq_true rfl) ?_
  intro p e s m args below meth c A Q hA9 hQ9 X hx9
  refine g_iload_n X 0 d_RO_checkPlace_0 rfl rfl ?_
  refine g_if_ge X 14 d_RO_checkPlace_1 (by decide) (fun h1 => absurd h1 (Int32.not_le.mpr hx)) (fun h1 => ?_)
  exact g_throwIO X hx9 hA9 hQ9 [] rfl rfl (show (174, "no such place") ∈ strs by decide) t2_51 t1_14 d_RO_checkPlace_4 d_RO_checkPlace_7 d_RO_checkPlace_8 d_RO_checkPlace_10 d_RO_checkPlace_13 (by decide) (Nat.le_of_ble_eq_true rfl) (by decide) (by decide) (by decide) (by decide)

set_option maxHeartbeats 4000000 in
set_option maxRecDepth 100000 in
theorem kx_RO_context (ho : Nat) (hr : Nat) (hs : Nat) (h : Nat) (hg : Nat) (ha : Nat) (vm : Int32) (sn : Nat) (ss : Nat) (su : Nat) (K : Nat) (hK : K = 48) : CtX l y_RO_context (Cond.code y_RO_context c_RO_context 1 (some .int) :: TB) ({ frames := 6, cells := 1, slots := 6, locals := 82 } : Room) D (tysv cI cJ cZ cQ) [.ref ho] [(ho, .inr (7, [.ref hr, .ref hs, .ref h, .ref hg, .ref ha, .int vm])), (hs, .inr (4, [.ref sn, .ref ss, .ref su, .int (nI K)]))] 1 6 xIS := by
  refine CtX.of c_RO_context 1 (some .int) (by decide) rfl (Nat.le_of_ble_eq_true rfl) ?_
  intro p e s m args below meth c A Q hA9 hQ9 X hx9
  refine g_aload_n X 0 d_RO_context_0 rfl rfl ?_
  refine g_get (C := R_RO) (T := T_RO) (N := 6) X 0 1 in_RO rfl rfl (by decide) t1_143 rfl rfl d_RO_context_1 ?_
  refine g_calliV (n := 0) X [] (k_Strata_contexts hs sn ss su K ) t1_200 t1_201 t1_202 t1_5 t1_203 rfl rfl (by decide +kernel) ⟨by decide, by decide⟩ [1] [0] [(ho, .inr (7, [.ref hr, .ref hs, .ref h, .ref hg, .ref ha, .int vm]))] rfl rfl rfl rfl (by decide) 0 rfl rfl rfl rfl (Nat.le_of_ble_eq_true rfl) d_RO_context_4 ⟨by decide, by decide⟩ (fun r1 w9u1 hw1 => ?_)
  subst hw1
  refine g_bipush (v := nI 48) X d_RO_context_7 rfl ?_
  refine n_icmp_lt X 22 d_RO_context_9 (by decide) (by omega) (by omega) (fun h9 => absurd h9 (by omega)) (fun h9 => ?_)
  exact g_throwIS X hx9 hA9 hQ9 [0, 1] rfl rfl (show (53, "there are 48 contexts") ∈ strs by decide) t1_204 t1_13 d_RO_context_12 d_RO_context_15 d_RO_context_16 d_RO_context_18 d_RO_context_21 (by decide) (Nat.le_of_ble_eq_true rfl) (by decide) (by decide) (by decide) (by decide)

set_option maxHeartbeats 4000000 in
set_option maxRecDepth 100000 in
theorem kx_RO_relate1 (ho : Nat) (hr : Nat) (hs : Nat) (h : Nat) (hg : Nat) (ha : Nat) (vm : Int32) (sn : Nat) (ss : Nat) (su : Nat) (K : Nat) (x : Int32) (y : Int32) (z : Int32) (hK : K ≤ 48) (hx : badI K x) : CtX l y_RO_relate (Cond.code y_RO_relate c_RO_relate 5 (some .int) :: TB) ({ frames := 7, cells := 1, slots := 6, locals := 103 } : Room) D (tysv cI cJ cZ cQ) [.ref ho, .int x, .int y, .int z] [(ho, .inr (7, [.ref hr, .ref hs, .ref h, .ref hg, .ref ha, .int vm])), (hs, .inr (4, [.ref sn, .ref ss, .ref su, .int (nI K)]))] 1 6 xIO := by
  refine CtX.of c_RO_relate 5 (some .int) (by decide) rfl (Nat.le_of_ble_eq_true rfl) ?_
  intro p e s m args below meth c A Q hA9 hQ9 X hx9
  refine g_aload_n X 0 d_RO_relate_0 rfl rfl ?_
  refine g_iload_n X 1 d_RO_relate_1 rfl rfl ?_
  refine g_callXV (n := 1) X hx9 [.int x] (kx_RO_checkContext ho hr hs h hg ha vm sn ss su K x (by omega) (hx)) t2_47 t2_49 ts_3 t1_1 t2_50 rfl rfl (by decide +kernel) ⟨by decide, by decide⟩ [0, 1] [] [] rfl rfl rfl rfl (by decide) 0 rfl rfl rfl rfl (Nat.le_of_ble_eq_true rfl) d_RO_relate_2 ⟨by decide, by decide⟩ ?_
  exact gx_out X hx9 hA9 hQ9 [0, 1] rfl rfl (by decide) (by decide)

set_option maxHeartbeats 4000000 in
set_option maxRecDepth 100000 in
theorem kx_RO_relate2 (ho : Nat) (hr : Nat) (hs : Nat) (h : Nat) (hg : Nat) (ha : Nat) (vm : Int32) (sn : Nat) (ss : Nat) (su : Nat) (K : Nat) (i : Nat) (x : Int32) (z : Int32) (hK : K ≤ 48) (hx : badI K x) (hi : i < K) : CtX l y_RO_relate (Cond.code y_RO_relate c_RO_relate 5 (some .int) :: TB) ({ frames := 7, cells := 1, slots := 6, locals := 103 } : Room) D (tysv cI cJ cZ cQ) [.ref ho, .int (nI i), .int x, .int z] [(ho, .inr (7, [.ref hr, .ref hs, .ref h, .ref hg, .ref ha, .int vm])), (hs, .inr (4, [.ref sn, .ref ss, .ref su, .int (nI K)]))] 1 6 xIO := by
  refine CtX.of c_RO_relate 5 (some .int) (by decide) rfl (Nat.le_of_ble_eq_true rfl) ?_
  intro p e s m args below meth c A Q hA9 hQ9 X hx9
  refine g_aload_n X 0 d_RO_relate_0 rfl rfl ?_
  refine g_iload_n X 1 d_RO_relate_1 rfl rfl ?_
  refine g_callvV (n := 1) X [.int (nI i)] (k_RO_checkContext ho hr hs h hg ha vm sn ss su K i (by omega) (by omega)) t2_47 t2_49 ts_3 t1_1 t2_50 rfl rfl (by decide +kernel) ⟨by decide, by decide⟩ [0, 1] [] [] rfl rfl rfl rfl (by decide) 0 rfl rfl rfl rfl (Nat.le_of_ble_eq_true rfl) d_RO_relate_2 ⟨by decide, by decide⟩ (fun w9u1 hw1 => ?_)
  refine g_aload_n X 0 d_RO_relate_5 rfl rfl ?_
  refine g_iload_n X 2 d_RO_relate_6 rfl rfl ?_
  refine g_callXV (n := 1) X hx9 [.int x] (kx_RO_checkContext ho hr hs h hg ha vm sn ss su K x (by omega) (hx)) t2_47 t2_49 ts_3 t1_1 t2_50 rfl rfl (by decide +kernel) ⟨by decide, by decide⟩ [0, 1] [] [] rfl rfl rfl rfl (by decide) 0 rfl rfl rfl rfl (Nat.le_of_ble_eq_true rfl) d_RO_relate_7 ⟨by decide, by decide⟩ ?_
  exact gx_out X hx9 hA9 hQ9 [0, 1] rfl rfl (by decide) (by decide)

set_option maxHeartbeats 4000000 in
set_option maxRecDepth 100000 in
theorem kx_RO_relate3 (ho : Nat) (hr : Nat) (hs : Nat) (h : Nat) (hg : Nat) (ha : Nat) (vm : Int32) (sn : Nat) (ss : Nat) (su : Nat) (K : Nat) (i : Nat) (j : Nat) (x : Int32) (hK : K ≤ 48) (hx : badI 5 x) (hi : i < K) (hj : j < K) : CtX l y_RO_relate (Cond.code y_RO_relate c_RO_relate 5 (some .int) :: TB) ({ frames := 6, cells := 1, slots := 6, locals := 82 } : Room) D (tysv cI cJ cZ cQ) [.ref ho, .int (nI i), .int (nI j), .int x] [(ho, .inr (7, [.ref hr, .ref hs, .ref h, .ref hg, .ref ha, .int vm])), (hs, .inr (4, [.ref sn, .ref ss, .ref su, .int (nI K)]))] 1 6 xIO := by
  refine CtX.of c_RO_relate 5 (some .int) (by decide) rfl (Nat.le_of_ble_eq_true rfl) ?_
  intro p e s m args below meth c A Q hA9 hQ9 X hx9
  refine g_aload_n X 0 d_RO_relate_0 rfl rfl ?_
  refine g_iload_n X 1 d_RO_relate_1 rfl rfl ?_
  refine g_callvV (n := 1) X [.int (nI i)] (k_RO_checkContext ho hr hs h hg ha vm sn ss su K i (by omega) (by omega)) t2_47 t2_49 ts_3 t1_1 t2_50 rfl rfl (by decide +kernel) ⟨by decide, by decide⟩ [0, 1] [] [] rfl rfl rfl rfl (by decide) 0 rfl rfl rfl rfl (Nat.le_of_ble_eq_true rfl) d_RO_relate_2 ⟨by decide, by decide⟩ (fun w9u1 hw1 => ?_)
  refine g_aload_n X 0 d_RO_relate_5 rfl rfl ?_
  refine g_iload_n X 2 d_RO_relate_6 rfl rfl ?_
  refine g_callvV (n := 1) X [.int (nI j)] (k_RO_checkContext ho hr hs h hg ha vm sn ss su K j (by omega) (by omega)) t2_47 t2_49 ts_3 t1_1 t2_50 rfl rfl (by decide +kernel) ⟨by decide, by decide⟩ [0, 1] [] [] rfl rfl rfl rfl (by decide) 0 rfl rfl rfl rfl (Nat.le_of_ble_eq_true rfl) d_RO_relate_7 ⟨by decide, by decide⟩ (fun w9u2 hw2 => ?_)
  refine g_iload_n X 3 d_RO_relate_10 rfl rfl ?_
  refine g_if_lt X 19 d_RO_relate_11 (by decide) (fun h11 => ?_) (fun h11 => ?_)
  · exact g_throwIO X hx9 hA9 hQ9 [0, 1] rfl rfl (show (67, "no such kind") ∈ strs by decide) t2_51 t1_14 d_RO_relate_19 d_RO_relate_22 d_RO_relate_23 d_RO_relate_25 d_RO_relate_28 (by decide) (Nat.le_of_ble_eq_true rfl) (by decide) (by decide) (by decide) (by decide)
  · refine g_iload_n X 3 d_RO_relate_14 rfl rfl ?_
    refine g_iconst (v := nI 4) X d_RO_relate_15 rfl ?_
    refine g_icmp_le X 29 d_RO_relate_16 (by decide) (fun h16 => absurd h16 (Int32.not_le.mpr (gt4 h11 (hx.resolve_left h11)))) (fun h16 => ?_)
    exact g_throwIO X hx9 hA9 hQ9 [0, 1] rfl rfl (show (67, "no such kind") ∈ strs by decide) t2_51 t1_14 d_RO_relate_19 d_RO_relate_22 d_RO_relate_23 d_RO_relate_25 d_RO_relate_28 (by decide) (Nat.le_of_ble_eq_true rfl) (by decide) (by decide) (by decide) (by decide)

set_option maxHeartbeats 4000000 in
set_option maxRecDepth 100000 in
theorem kx_RO_relate4 (ho : Nat) (hr : Nat) (hs : Nat) (h : Nat) (hg : Nat) (ha : Nat) (vm : Int32) (sn : Nat) (ss : Nat) (su : Nat) (K : Nat) (ru : Nat) (rw : Nat) (rk : Nat) (R : Nat) (sd : Nat) (i : Nat) (j : Nat) (kd : Nat) (hK : K ≤ 48) (hR : R = 200) (hi : i < K) (hj : j < K) (hk : kd ≤ 4) : CtX l y_RO_relate (Cond.code y_RO_relate c_RO_relate 5 (some .int) :: TB) ({ frames := 6, cells := 1, slots := 6, locals := 82 } : Room) D (tysv cI cJ cZ cQ) [.ref ho, .int (nI i), .int (nI j), .int (nI kd)] [(ho, .inr (7, [.ref hr, .ref hs, .ref h, .ref hg, .ref ha, .int vm])), (hs, .inr (4, [.ref sn, .ref ss, .ref su, .int (nI K)])), (hr, .inr (2, [.ref ru, .ref rw, .ref rk, .int (nI R), .int (nI sd)]))] 1 6 xIS := by
  refine CtX.of c_RO_relate 5 (some .int) (by decide) rfl (Nat.le_of_ble_eq_true rfl) ?_
  intro p e s m args below meth c A Q hA9 hQ9 X hx9
  refine g_aload_n X 0 d_RO_relate_0 rfl rfl ?_
  refine g_iload_n X 1 d_RO_relate_1 rfl rfl ?_
  refine g_callvV (n := 1) X [.int (nI i)] (k_RO_checkContext ho hr hs h hg ha vm sn ss su K i (by omega) (by omega)) t2_47 t2_49 ts_3 t1_1 t2_50 rfl rfl (by decide +kernel) ⟨by decide, by decide⟩ [0, 1] [2] [(hr, .inr (2, [.ref ru, .ref rw, .ref rk, .int (nI R), .int (nI sd)]))] rfl rfl rfl rfl (by decide) 0 rfl rfl rfl rfl (Nat.le_of_ble_eq_true rfl) d_RO_relate_2 ⟨by decide, by decide⟩ (fun w9u1 hw1 => ?_)
  refine g_aload_n X 0 d_RO_relate_5 rfl rfl ?_
  refine g_iload_n X 2 d_RO_relate_6 rfl rfl ?_
  refine g_callvV (n := 1) X [.int (nI j)] (k_RO_checkContext ho hr hs h hg ha vm sn ss su K j (by omega) (by omega)) t2_47 t2_49 ts_3 t1_1 t2_50 rfl rfl (by decide +kernel) ⟨by decide, by decide⟩ [1, 2] [0] [(hr, .inr (2, [.ref ru, .ref rw, .ref rk, .int (nI R), .int (nI sd)]))] rfl rfl rfl rfl (by decide) 0 rfl rfl rfl rfl (Nat.le_of_ble_eq_true rfl) d_RO_relate_7 ⟨by decide, by decide⟩ (fun w9u2 hw2 => ?_)
  refine g_iload_n X 3 d_RO_relate_10 rfl rfl ?_
  refine n_if_lt X 19 d_RO_relate_11 (by decide) (by omega) (fun h11 => absurd h11 (by omega)) (fun h11 => ?_)
  refine g_iload_n X 3 d_RO_relate_14 rfl rfl ?_
  refine g_iconst (v := nI 4) X d_RO_relate_15 rfl ?_
  refine n_icmp_le X 29 d_RO_relate_16 (by decide) (by omega) (by omega) (fun h16 => ?_) (fun h16 => absurd h16 (by omega))
  refine g_aload_n X 0 d_RO_relate_29 rfl rfl ?_
  refine g_get (C := R_RO) (T := T_RO) (N := 6) X 1 0 in_RO rfl rfl (by decide) t1_142 rfl rfl d_RO_relate_30 ?_
  refine g_calliV (n := 0) X [] (k_Relations_made hr ru rw rk R sd ) t2_68 t2_69 t2_70 t1_2 t2_71 rfl rfl (by decide +kernel) ⟨by decide, by decide⟩ [0] [1, 2] [(ho, .inr (7, [.ref hr, .ref hs, .ref h, .ref hg, .ref ha, .int vm])), (hs, .inr (4, [.ref sn, .ref ss, .ref su, .int (nI K)]))] rfl rfl rfl rfl (by decide) 0 rfl rfl rfl rfl (Nat.le_of_ble_eq_true rfl) d_RO_relate_33 ⟨by decide, by decide⟩ (fun r3 w9u3 hw3 => ?_)
  subst hw3
  refine g_sipush (v := nI 200) X d_RO_relate_36 rfl ?_
  refine n_icmp_lt X 52 d_RO_relate_39 (by decide) (by omega) (by omega) (fun h39 => absurd h39 (by omega)) (fun h39 => ?_)
  exact g_throwIS X hx9 hA9 hQ9 [0, 1, 2] rfl rfl (show (73, "there were 200 relations") ∈ strs by decide) t1_204 t1_13 d_RO_relate_42 d_RO_relate_45 d_RO_relate_46 d_RO_relate_48 d_RO_relate_51 (by decide) (Nat.le_of_ble_eq_true rfl) (by decide) (by decide) (by decide) (by decide)

set_option maxHeartbeats 4000000 in
set_option maxRecDepth 100000 in
theorem kx_RO_ring (ho : Nat) (hr : Nat) (hs : Nat) (h : Nat) (hg : Nat) (ha : Nat) (vm : Int32) (x : Int32) (hx : x < 0) : CtX l y_RO_ring (Cond.code y_RO_ring c_RO_ring 2 (some .int) :: TB) ({ frames := 7, cells := 1, slots := 6, locals := 102 } : Room) D (tysv cI cJ cZ cQ) [.ref ho, .int x] [(ho, .inr (7, [.ref hr, .ref hs, .ref h, .ref hg, .ref ha, .int vm]))] 1 6 xIO := by
  refine CtX.of c_RO_ring 2 (some .int) (by decide) rfl (Nat.le_of_ble_eq_true rfl) ?_
  intro p e s m args below meth c A Q hA9 hQ9 X hx9
  refine g_iload_n X 1 d_RO_ring_0 rfl rfl ?_
  refine g_callXS (n := 1) X hx9 [.int x] (kx_RO_checkPlace x (hx)) t2_168 t2_169 t1_1 t2_170 rfl rfl (by decide +kernel) ⟨by decide, by decide⟩ [] [0] [(ho, .inr (7, [.ref hr, .ref hs, .ref h, .ref hg, .ref ha, .int vm]))] rfl rfl rfl rfl (by decide) rfl rfl (Nat.le_of_ble_eq_true rfl) d_RO_ring_1 ⟨by decide, by decide⟩ ?_
  exact gx_out X hx9 hA9 hQ9 [0] rfl rfl (by decide) (by decide)

set_option maxHeartbeats 4000000 in
set_option maxRecDepth 100000 in
theorem kx_RO_groupRing (ho : Nat) (hr : Nat) (hs : Nat) (h : Nat) (hg : Nat) (ha : Nat) (vm : Int32) (x : Int32) (hx : x < 0) : CtX l y_RO_groupRing (Cond.code y_RO_groupRing c_RO_groupRing 2 (some .int) :: TB) ({ frames := 7, cells := 1, slots := 6, locals := 102 } : Room) D (tysv cI cJ cZ cQ) [.ref ho, .int x] [(ho, .inr (7, [.ref hr, .ref hs, .ref h, .ref hg, .ref ha, .int vm]))] 1 6 xIO := by
  refine CtX.of c_RO_groupRing 2 (some .int) (by decide) rfl (Nat.le_of_ble_eq_true rfl) ?_
  intro p e s m args below meth c A Q hA9 hQ9 X hx9
  refine g_iload_n X 1 d_RO_groupRing_0 rfl rfl ?_
  refine g_callXS (n := 1) X hx9 [.int x] (kx_RO_checkPlace x (hx)) t2_168 t2_169 t1_1 t2_170 rfl rfl (by decide +kernel) ⟨by decide, by decide⟩ [] [0] [(ho, .inr (7, [.ref hr, .ref hs, .ref h, .ref hg, .ref ha, .int vm]))] rfl rfl rfl rfl (by decide) rfl rfl (Nat.le_of_ble_eq_true rfl) d_RO_groupRing_1 ⟨by decide, by decide⟩ ?_
  exact gx_out X hx9 hA9 hQ9 [0] rfl rfl (by decide) (by decide)

set_option maxHeartbeats 4000000 in
set_option maxRecDepth 100000 in
theorem kx_RO_undo (ho : Nat) (hr : Nat) (hs : Nat) (h : Nat) (hg : Nat) (ha : Nat) (vm : Int32) (ru : Nat) (rw : Nat) (rk : Nat) (R : Nat) (sd : Nat) (x : Int32) (hR : R ≤ 200) (hx : badI R x) : CtX l y_RO_undo (Cond.code y_RO_undo c_RO_undo 2 (some .boolean) :: TB) ({ frames := 6, cells := 1, slots := 6, locals := 82 } : Room) D (tysv cI cJ cZ cQ) [.ref ho, .int x] [(ho, .inr (7, [.ref hr, .ref hs, .ref h, .ref hg, .ref ha, .int vm])), (hr, .inr (2, [.ref ru, .ref rw, .ref rk, .int (nI R), .int (nI sd)]))] 1 6 xIO := by
  refine CtX.of c_RO_undo 2 (some .boolean) (by decide) rfl (Nat.le_of_ble_eq_true rfl) ?_
  intro p e s m args below meth c A Q hA9 hQ9 X hx9
  refine g_iload_n X 1 d_RO_undo_0 rfl rfl ?_
  refine g_if_lt X 15 d_RO_undo_1 (by decide) (fun h1 => ?_) (fun h1 => ?_)
  · exact g_throwIO X hx9 hA9 hQ9 [0, 1] rfl rfl (show (97, "no such relation") ∈ strs by decide) t2_51 t1_14 d_RO_undo_15 d_RO_undo_18 d_RO_undo_19 d_RO_undo_21 d_RO_undo_24 (by decide) (Nat.le_of_ble_eq_true rfl) (by decide) (by decide) (by decide) (by decide)
  · refine g_iload_n X 1 d_RO_undo_4 rfl rfl ?_
    refine g_aload_n X 0 d_RO_undo_5 rfl rfl ?_
    refine g_get (C := R_RO) (T := T_RO) (N := 6) X 0 0 in_RO rfl rfl (by decide) t1_142 rfl rfl d_RO_undo_6 ?_
    refine g_calliV (n := 0) X [] (k_Relations_made hr ru rw rk R sd ) t2_68 t2_69 t2_70 t1_2 t2_71 rfl rfl (by decide +kernel) ⟨by decide, by decide⟩ [1] [0] [(ho, .inr (7, [.ref hr, .ref hs, .ref h, .ref hg, .ref ha, .int vm]))] rfl rfl rfl rfl (by decide) 0 rfl rfl rfl rfl (Nat.le_of_ble_eq_true rfl) d_RO_undo_9 ⟨by decide, by decide⟩ (fun r1 w9u1 hw1 => ?_)
    subst hw1
    refine g_icmp_lt X 25 d_RO_undo_12 (by decide) (fun h12 => absurd h12 (bad_nlt hx h1)) (fun h12 => ?_)
    exact g_throwIO X hx9 hA9 hQ9 [0, 1] rfl rfl (show (97, "no such relation") ∈ strs by decide) t2_51 t1_14 d_RO_undo_15 d_RO_undo_18 d_RO_undo_19 d_RO_undo_21 d_RO_undo_24 (by decide) (Nat.le_of_ble_eq_true rfl) (by decide) (by decide) (by decide) (by decide)

set_option maxHeartbeats 4000000 in
set_option maxRecDepth 100000 in
theorem kx_RO_order1 (ho : Nat) (hr : Nat) (hs : Nat) (h : Nat) (hg : Nat) (ha : Nat) (vm : Int32) (sn : Nat) (ss : Nat) (su : Nat) (K : Nat) (x : Int32) (y : Int32) (hK : K ≤ 48) (hx : badI K x) : CtX l y_RO_order (Cond.code y_RO_order c_RO_order 3 (some .int) :: TB) ({ frames := 7, cells := 1, slots := 6, locals := 103 } : Room) D (tysv cI cJ cZ cQ) [.ref ho, .int x, .int y] [(ho, .inr (7, [.ref hr, .ref hs, .ref h, .ref hg, .ref ha, .int vm])), (hs, .inr (4, [.ref sn, .ref ss, .ref su, .int (nI K)]))] 1 6 xIO := by
  refine CtX.of c_RO_order 3 (some .int) (by decide) rfl (Nat.le_of_ble_eq_true rfl) ?_
  intro p e s m args below meth c A Q hA9 hQ9 X hx9
  refine g_aload_n X 0 d_RO_order_0 rfl rfl ?_
  refine g_iload_n X 1 d_RO_order_1 rfl rfl ?_
  refine g_callXV (n := 1) X hx9 [.int x] (kx_RO_checkContext ho hr hs h hg ha vm sn ss su K x (by omega) (hx)) t2_47 t2_49 ts_3 t1_1 t2_50 rfl rfl (by decide +kernel) ⟨by decide, by decide⟩ [0, 1] [] [] rfl rfl rfl rfl (by decide) 0 rfl rfl rfl rfl (Nat.le_of_ble_eq_true rfl) d_RO_order_2 ⟨by decide, by decide⟩ ?_
  exact gx_out X hx9 hA9 hQ9 [0, 1] rfl rfl (by decide) (by decide)

set_option maxHeartbeats 4000000 in
set_option maxRecDepth 100000 in
theorem kx_RO_order2 (ho : Nat) (hr : Nat) (hs : Nat) (h : Nat) (hg : Nat) (ha : Nat) (vm : Int32) (sn : Nat) (ss : Nat) (su : Nat) (K : Nat) (i : Nat) (x : Int32) (hK : K ≤ 48) (hx : badI K x) (hi : i < K) : CtX l y_RO_order (Cond.code y_RO_order c_RO_order 3 (some .int) :: TB) ({ frames := 7, cells := 1, slots := 6, locals := 103 } : Room) D (tysv cI cJ cZ cQ) [.ref ho, .int (nI i), .int x] [(ho, .inr (7, [.ref hr, .ref hs, .ref h, .ref hg, .ref ha, .int vm])), (hs, .inr (4, [.ref sn, .ref ss, .ref su, .int (nI K)]))] 1 6 xIO := by
  refine CtX.of c_RO_order 3 (some .int) (by decide) rfl (Nat.le_of_ble_eq_true rfl) ?_
  intro p e s m args below meth c A Q hA9 hQ9 X hx9
  refine g_aload_n X 0 d_RO_order_0 rfl rfl ?_
  refine g_iload_n X 1 d_RO_order_1 rfl rfl ?_
  refine g_callvV (n := 1) X [.int (nI i)] (k_RO_checkContext ho hr hs h hg ha vm sn ss su K i (by omega) (by omega)) t2_47 t2_49 ts_3 t1_1 t2_50 rfl rfl (by decide +kernel) ⟨by decide, by decide⟩ [0, 1] [] [] rfl rfl rfl rfl (by decide) 0 rfl rfl rfl rfl (Nat.le_of_ble_eq_true rfl) d_RO_order_2 ⟨by decide, by decide⟩ (fun w9u1 hw1 => ?_)
  refine g_aload_n X 0 d_RO_order_5 rfl rfl ?_
  refine g_iload_n X 2 d_RO_order_6 rfl rfl ?_
  refine g_callXV (n := 1) X hx9 [.int x] (kx_RO_checkContext ho hr hs h hg ha vm sn ss su K x (by omega) (hx)) t2_47 t2_49 ts_3 t1_1 t2_50 rfl rfl (by decide +kernel) ⟨by decide, by decide⟩ [0, 1] [] [] rfl rfl rfl rfl (by decide) 0 rfl rfl rfl rfl (Nat.le_of_ble_eq_true rfl) d_RO_order_7 ⟨by decide, by decide⟩ ?_
  exact gx_out X hx9 hA9 hQ9 [0, 1] rfl rfl (by decide) (by decide)

set_option maxHeartbeats 4000000 in
set_option maxRecDepth 100000 in
theorem kx_RO_contemporary1 (ho : Nat) (hr : Nat) (hs : Nat) (h : Nat) (hg : Nat) (ha : Nat) (vm : Int32) (sn : Nat) (ss : Nat) (su : Nat) (K : Nat) (x : Int32) (y : Int32) (hK : K ≤ 48) (hx : badI K x) : CtX l y_RO_contemporary (Cond.code y_RO_contemporary c_RO_contemporary 3 (some .boolean) :: TB) ({ frames := 7, cells := 1, slots := 6, locals := 103 } : Room) D (tysv cI cJ cZ cQ) [.ref ho, .int x, .int y] [(ho, .inr (7, [.ref hr, .ref hs, .ref h, .ref hg, .ref ha, .int vm])), (hs, .inr (4, [.ref sn, .ref ss, .ref su, .int (nI K)]))] 1 6 xIO := by
  refine CtX.of c_RO_contemporary 3 (some .boolean) (by decide) rfl (Nat.le_of_ble_eq_true rfl) ?_
  intro p e s m args below meth c A Q hA9 hQ9 X hx9
  refine g_aload_n X 0 d_RO_contemporary_0 rfl rfl ?_
  refine g_iload_n X 1 d_RO_contemporary_1 rfl rfl ?_
  refine g_callXV (n := 1) X hx9 [.int x] (kx_RO_checkContext ho hr hs h hg ha vm sn ss su K x (by omega) (hx)) t2_47 t2_49 ts_3 t1_1 t2_50 rfl rfl (by decide +kernel) ⟨by decide, by decide⟩ [0, 1] [] [] rfl rfl rfl rfl (by decide) 0 rfl rfl rfl rfl (Nat.le_of_ble_eq_true rfl) d_RO_contemporary_2 ⟨by decide, by decide⟩ ?_
  exact gx_out X hx9 hA9 hQ9 [0, 1] rfl rfl (by decide) (by decide)

set_option maxHeartbeats 4000000 in
set_option maxRecDepth 100000 in
theorem kx_RO_contemporary2 (ho : Nat) (hr : Nat) (hs : Nat) (h : Nat) (hg : Nat) (ha : Nat) (vm : Int32) (sn : Nat) (ss : Nat) (su : Nat) (K : Nat) (i : Nat) (x : Int32) (hK : K ≤ 48) (hx : badI K x) (hi : i < K) : CtX l y_RO_contemporary (Cond.code y_RO_contemporary c_RO_contemporary 3 (some .boolean) :: TB) ({ frames := 7, cells := 1, slots := 6, locals := 103 } : Room) D (tysv cI cJ cZ cQ) [.ref ho, .int (nI i), .int x] [(ho, .inr (7, [.ref hr, .ref hs, .ref h, .ref hg, .ref ha, .int vm])), (hs, .inr (4, [.ref sn, .ref ss, .ref su, .int (nI K)]))] 1 6 xIO := by
  refine CtX.of c_RO_contemporary 3 (some .boolean) (by decide) rfl (Nat.le_of_ble_eq_true rfl) ?_
  intro p e s m args below meth c A Q hA9 hQ9 X hx9
  refine g_aload_n X 0 d_RO_contemporary_0 rfl rfl ?_
  refine g_iload_n X 1 d_RO_contemporary_1 rfl rfl ?_
  refine g_callvV (n := 1) X [.int (nI i)] (k_RO_checkContext ho hr hs h hg ha vm sn ss su K i (by omega) (by omega)) t2_47 t2_49 ts_3 t1_1 t2_50 rfl rfl (by decide +kernel) ⟨by decide, by decide⟩ [0, 1] [] [] rfl rfl rfl rfl (by decide) 0 rfl rfl rfl rfl (Nat.le_of_ble_eq_true rfl) d_RO_contemporary_2 ⟨by decide, by decide⟩ (fun w9u1 hw1 => ?_)
  refine g_aload_n X 0 d_RO_contemporary_5 rfl rfl ?_
  refine g_iload_n X 2 d_RO_contemporary_6 rfl rfl ?_
  refine g_callXV (n := 1) X hx9 [.int x] (kx_RO_checkContext ho hr hs h hg ha vm sn ss su K x (by omega) (hx)) t2_47 t2_49 ts_3 t1_1 t2_50 rfl rfl (by decide +kernel) ⟨by decide, by decide⟩ [0, 1] [] [] rfl rfl rfl rfl (by decide) 0 rfl rfl rfl rfl (Nat.le_of_ble_eq_true rfl) d_RO_contemporary_7 ⟨by decide, by decide⟩ ?_
  exact gx_out X hx9 hA9 hQ9 [0, 1] rfl rfl (by decide) (by decide)

set_option maxHeartbeats 4000000 in
set_option maxRecDepth 100000 in
theorem kx_RO_equal (ho : Nat) (hr : Nat) (hs : Nat) (h : Nat) (hg : Nat) (ha : Nat) (vm : Int32) (sn : Nat) (ss : Nat) (su : Nat) (K : Nat) (x : Int32) (hK : K ≤ 48) (hx : badI K x) : CtX l y_RO_equal (Cond.code y_RO_equal c_RO_equal 2 (some .int) :: TB) ({ frames := 7, cells := 1, slots := 6, locals := 103 } : Room) D (tysv cI cJ cZ cQ) [.ref ho, .int x] [(ho, .inr (7, [.ref hr, .ref hs, .ref h, .ref hg, .ref ha, .int vm])), (hs, .inr (4, [.ref sn, .ref ss, .ref su, .int (nI K)]))] 1 6 xIO := by
  refine CtX.of c_RO_equal 2 (some .int) (by decide) rfl (Nat.le_of_ble_eq_true rfl) ?_
  intro p e s m args below meth c A Q hA9 hQ9 X hx9
  refine g_aload_n X 0 d_RO_equal_0 rfl rfl ?_
  refine g_iload_n X 1 d_RO_equal_1 rfl rfl ?_
  refine g_callXV (n := 1) X hx9 [.int x] (kx_RO_checkContext ho hr hs h hg ha vm sn ss su K x (by omega) (hx)) t2_47 t2_49 ts_3 t1_1 t2_50 rfl rfl (by decide +kernel) ⟨by decide, by decide⟩ [0, 1] [] [] rfl rfl rfl rfl (by decide) 0 rfl rfl rfl rfl (Nat.le_of_ble_eq_true rfl) d_RO_equal_2 ⟨by decide, by decide⟩ ?_
  exact gx_out X hx9 hA9 hQ9 [0, 1] rfl rfl (by decide) (by decide)

set_option maxHeartbeats 4000000 in
set_option maxRecDepth 100000 in
theorem kx_RO_longest (ho : Nat) (hr : Nat) (hs : Nat) (h : Nat) (hg : Nat) (ha : Nat) (vm : Int32) (sn : Nat) (ss : Nat) (su : Nat) (K : Nat) (x : Int32) (hK : K ≤ 48) (hx : badI K x) : CtX l y_RO_longest (Cond.code y_RO_longest c_RO_longest 2 (some .int) :: TB) ({ frames := 7, cells := 1, slots := 6, locals := 103 } : Room) D (tysv cI cJ cZ cQ) [.ref ho, .int x] [(ho, .inr (7, [.ref hr, .ref hs, .ref h, .ref hg, .ref ha, .int vm])), (hs, .inr (4, [.ref sn, .ref ss, .ref su, .int (nI K)]))] 1 6 xIO := by
  refine CtX.of c_RO_longest 2 (some .int) (by decide) rfl (Nat.le_of_ble_eq_true rfl) ?_
  intro p e s m args below meth c A Q hA9 hQ9 X hx9
  refine g_aload_n X 0 d_RO_longest_0 rfl rfl ?_
  refine g_iload_n X 1 d_RO_longest_1 rfl rfl ?_
  refine g_callXV (n := 1) X hx9 [.int x] (kx_RO_checkContext ho hr hs h hg ha vm sn ss su K x (by omega) (hx)) t2_47 t2_49 ts_3 t1_1 t2_50 rfl rfl (by decide +kernel) ⟨by decide, by decide⟩ [0, 1] [] [] rfl rfl rfl rfl (by decide) 0 rfl rfl rfl rfl (Nat.le_of_ble_eq_true rfl) d_RO_longest_2 ⟨by decide, by decide⟩ ?_
  exact gx_out X hx9 hA9 hQ9 [0, 1] rfl rfl (by decide) (by decide)

set_option maxHeartbeats 4000000 in
set_option maxRecDepth 100000 in
theorem kx_RO_groupOf (ho : Nat) (hr : Nat) (hs : Nat) (h : Nat) (hg : Nat) (ha : Nat) (vm : Int32) (sn : Nat) (ss : Nat) (su : Nat) (K : Nat) (x : Int32) (hK : K ≤ 48) (hx : badI K x) : CtX l y_RO_groupOf (Cond.code y_RO_groupOf c_RO_groupOf 2 (some .int) :: TB) ({ frames := 7, cells := 1, slots := 6, locals := 103 } : Room) D (tysv cI cJ cZ cQ) [.ref ho, .int x] [(ho, .inr (7, [.ref hr, .ref hs, .ref h, .ref hg, .ref ha, .int vm])), (hs, .inr (4, [.ref sn, .ref ss, .ref su, .int (nI K)]))] 1 6 xIO := by
  refine CtX.of c_RO_groupOf 2 (some .int) (by decide) rfl (Nat.le_of_ble_eq_true rfl) ?_
  intro p e s m args below meth c A Q hA9 hQ9 X hx9
  refine g_aload_n X 0 d_RO_groupOf_0 rfl rfl ?_
  refine g_iload_n X 1 d_RO_groupOf_1 rfl rfl ?_
  refine g_callXV (n := 1) X hx9 [.int x] (kx_RO_checkContext ho hr hs h hg ha vm sn ss su K x (by omega) (hx)) t2_47 t2_49 ts_3 t1_1 t2_50 rfl rfl (by decide +kernel) ⟨by decide, by decide⟩ [0, 1] [] [] rfl rfl rfl rfl (by decide) 0 rfl rfl rfl rfl (Nat.le_of_ble_eq_true rfl) d_RO_groupOf_2 ⟨by decide, by decide⟩ ?_
  exact gx_out X hx9 hA9 hQ9 [0, 1] rfl rfl (by decide) (by decide)

set_option maxHeartbeats 4000000 in
set_option maxRecDepth 100000 in
theorem kx_RO_linkW (ho : Nat) (hr : Nat) (hs : Nat) (h : Nat) (hg : Nat) (ha : Nat) (vm : Int32) (x : Int32) (y : Int32) (hy : badI 2 y) : CtX l y_RO_link (Cond.code y_RO_link c_RO_link 3 (some .int) :: TB) ({ frames := 6, cells := 1, slots := 6, locals := 82 } : Room) D (tysv cI cJ cZ cQ) [.ref ho, .int x, .int y] [(ho, .inr (7, [.ref hr, .ref hs, .ref h, .ref hg, .ref ha, .int vm]))] 1 6 xIO := by
  refine CtX.of c_RO_link 3 (some .int) (by decide) rfl (Nat.le_of_ble_eq_true rfl) ?_
  intro p e s m args below meth c A Q hA9 hQ9 X hx9
  refine g_iload_n X 2 d_RO_link_0 rfl rfl ?_
  refine g_if_lt X 9 d_RO_link_1 (by decide) (fun h1 => ?_) (fun h1 => ?_)
  · exact g_throwIO X hx9 hA9 hQ9 [0] rfl rfl (show (110, "a link has an upper one, 0, and a lower one, 1") ∈ strs by decide) t2_51 t1_14 d_RO_link_9 d_RO_link_12 d_RO_link_13 d_RO_link_15 d_RO_link_18 (by decide) (Nat.le_of_ble_eq_true rfl) (by decide) (by decide) (by decide) (by decide)
  · refine g_iload_n X 2 d_RO_link_4 rfl rfl ?_
    refine g_iconst (v := nI 1) X d_RO_link_5 rfl ?_
    refine g_icmp_le X 19 d_RO_link_6 (by decide) (fun h6 => absurd h6 (gt1 h1 (hy.resolve_left h1))) (fun h6 => ?_)
    exact g_throwIO X hx9 hA9 hQ9 [0] rfl rfl (show (110, "a link has an upper one, 0, and a lower one, 1") ∈ strs by decide) t2_51 t1_14 d_RO_link_9 d_RO_link_12 d_RO_link_13 d_RO_link_15 d_RO_link_18 (by decide) (Nat.le_of_ble_eq_true rfl) (by decide) (by decide) (by decide) (by decide)

set_option maxHeartbeats 4000000 in
set_option maxRecDepth 100000 in
theorem kx_RO_linkK0 (ho : Nat) (hr : Nat) (hs : Nat) (h : Nat) (hg : Nat) (ha : Nat) (vm : Int32) (x : Int32) (hx : x < 0) : CtX l y_RO_link (Cond.code y_RO_link c_RO_link 3 (some .int) :: TB) ({ frames := 6, cells := 1, slots := 6, locals := 82 } : Room) D (tysv cI cJ cZ cQ) [.ref ho, .int x, .int (nI 0)] [(ho, .inr (7, [.ref hr, .ref hs, .ref h, .ref hg, .ref ha, .int vm]))] 1 6 xIO := by
  refine CtX.of c_RO_link 3 (some .int) (by decide) rfl (Nat.le_of_ble_eq_true rfl) ?_
  intro p e s m args below meth c A Q hA9 hQ9 X hx9
  refine g_iload_n X 2 d_RO_link_0 rfl rfl ?_
  refine n_if_lt X 9 d_RO_link_1 (by decide) (by omega) (fun h1 => absurd h1 (by omega)) (fun h1 => ?_)
  refine g_iload_n X 2 d_RO_link_4 rfl rfl ?_
  refine g_iconst (v := nI 1) X d_RO_link_5 rfl ?_
  refine n_icmp_le X 19 d_RO_link_6 (by decide) (by omega) (by omega) (fun h6 => ?_) (fun h6 => absurd h6 (by omega))
  refine g_iload_n X 1 d_RO_link_19 rfl rfl ?_
  refine g_if_lt X 34 d_RO_link_20 (by decide) (fun h20 => ?_) (fun h20 => absurd h20 (not_not_intro hx))
  exact g_throwIO X hx9 hA9 hQ9 [0] rfl rfl (show (112, "no such link") ∈ strs by decide) t2_51 t1_14 d_RO_link_34 d_RO_link_37 d_RO_link_38 d_RO_link_40 d_RO_link_43 (by decide) (Nat.le_of_ble_eq_true rfl) (by decide) (by decide) (by decide) (by decide)

set_option maxHeartbeats 4000000 in
set_option maxRecDepth 100000 in
theorem kx_RO_linkN0 (ho : Nat) (hr : Nat) (hs : Nat) (h : Nat) (hg : Nat) (ha : Nat) (vm : Int32) (sn : Nat) (ss : Nat) (su : Nat) (K : Nat) (xu : Nat) (fU : Nat → Int64) (k : Nat) (hK : K ≤ 48) (hk2 : k < 2 ^ 31) (hk : lsum (fun z9 => cnt (lkB fU K z9) 64) K ≤ k) : CtX l y_RO_link (Cond.code y_RO_link c_RO_link 3 (some .int) :: TB) ({ frames := 6, cells := 1, slots := 6, locals := 91 } : Room) D (tysv cI cJ cZ cQ) [.ref ho, .int (nI k), .int (nI 0)] [(ho, .inr (7, [.ref hr, .ref hs, .ref h, .ref hg, .ref ha, .int vm])), (hs, .inr (4, [.ref sn, .ref ss, .ref su, .int (nI K)])), (su, .inr (1, [.ref xu])), (xu, .inl (cJ, 48, .inr (.inl fU)))] 1 6 xIO := by
  refine CtX.of c_RO_link 3 (some .int) (by decide) rfl (Nat.le_of_ble_eq_true rfl) ?_
  intro p e s m args below meth c A Q hA9 hQ9 X hx9
  have hls : lsum (fun z9 => cnt (lkB fU K z9) 64) K ≤ K * 64 := lsum_le (fun i => lk_le fU K i) K
  refine g_iload_n X 2 d_RO_link_0 rfl rfl ?_
  refine n_if_lt X 9 d_RO_link_1 (by decide) (by omega) (fun h1 => absurd h1 (by omega)) (fun h1 => ?_)
  refine g_iload_n X 2 d_RO_link_4 rfl rfl ?_
  refine g_iconst (v := nI 1) X d_RO_link_5 rfl ?_
  refine n_icmp_le X 19 d_RO_link_6 (by decide) (by omega) (by omega) (fun h6 => ?_) (fun h6 => absurd h6 (by omega))
  refine g_iload_n X 1 d_RO_link_19 rfl rfl ?_
  refine n_if_lt X 34 d_RO_link_20 (by decide) (by omega) (fun h20 => absurd h20 (by omega)) (fun h20 => ?_)
  refine g_iload_n X 1 d_RO_link_23 rfl rfl ?_
  refine g_aload_n X 0 d_RO_link_24 rfl rfl ?_
  refine g_get (C := R_RO) (T := T_RO) (N := 6) X 0 1 in_RO rfl rfl (by decide) t1_143 rfl rfl d_RO_link_25 ?_
  refine g_calliV (n := 0) X [] (k_Strata_linkCount hs sn ss su K xu fU (by omega)) t1_165 t1_166 t1_167 t1_5 t1_168 rfl rfl (by decide +kernel) ⟨by decide, by decide⟩ [1, 2, 3] [0] [(ho, .inr (7, [.ref hr, .ref hs, .ref h, .ref hg, .ref ha, .int vm]))] rfl rfl rfl rfl (by decide) 0 rfl rfl rfl rfl (Nat.le_of_ble_eq_true rfl) d_RO_link_28 ⟨by decide, by decide⟩ (fun r1 w9u1 hw1 => ?_)
  subst hw1
  refine n_icmp_lt X 44 d_RO_link_31 (by decide) (by omega) (by omega) (fun h31 => absurd h31 (by omega)) (fun h31 => ?_)
  exact g_throwIO X hx9 hA9 hQ9 [0, 1, 2, 3] rfl rfl (show (112, "no such link") ∈ strs by decide) t2_51 t1_14 d_RO_link_34 d_RO_link_37 d_RO_link_38 d_RO_link_40 d_RO_link_43 (by decide) (Nat.le_of_ble_eq_true rfl) (by decide) (by decide) (by decide) (by decide)

set_option maxHeartbeats 4000000 in
set_option maxRecDepth 100000 in
theorem kx_RO_linkK1 (ho : Nat) (hr : Nat) (hs : Nat) (h : Nat) (hg : Nat) (ha : Nat) (vm : Int32) (x : Int32) (hx : x < 0) : CtX l y_RO_link (Cond.code y_RO_link c_RO_link 3 (some .int) :: TB) ({ frames := 6, cells := 1, slots := 6, locals := 82 } : Room) D (tysv cI cJ cZ cQ) [.ref ho, .int x, .int (nI 1)] [(ho, .inr (7, [.ref hr, .ref hs, .ref h, .ref hg, .ref ha, .int vm]))] 1 6 xIO := by
  refine CtX.of c_RO_link 3 (some .int) (by decide) rfl (Nat.le_of_ble_eq_true rfl) ?_
  intro p e s m args below meth c A Q hA9 hQ9 X hx9
  refine g_iload_n X 2 d_RO_link_0 rfl rfl ?_
  refine n_if_lt X 9 d_RO_link_1 (by decide) (by omega) (fun h1 => absurd h1 (by omega)) (fun h1 => ?_)
  refine g_iload_n X 2 d_RO_link_4 rfl rfl ?_
  refine g_iconst (v := nI 1) X d_RO_link_5 rfl ?_
  refine n_icmp_le X 19 d_RO_link_6 (by decide) (by omega) (by omega) (fun h6 => ?_) (fun h6 => absurd h6 (by omega))
  refine g_iload_n X 1 d_RO_link_19 rfl rfl ?_
  refine g_if_lt X 34 d_RO_link_20 (by decide) (fun h20 => ?_) (fun h20 => absurd h20 (not_not_intro hx))
  exact g_throwIO X hx9 hA9 hQ9 [0] rfl rfl (show (112, "no such link") ∈ strs by decide) t2_51 t1_14 d_RO_link_34 d_RO_link_37 d_RO_link_38 d_RO_link_40 d_RO_link_43 (by decide) (Nat.le_of_ble_eq_true rfl) (by decide) (by decide) (by decide) (by decide)

set_option maxHeartbeats 4000000 in
set_option maxRecDepth 100000 in
theorem kx_RO_linkN1 (ho : Nat) (hr : Nat) (hs : Nat) (h : Nat) (hg : Nat) (ha : Nat) (vm : Int32) (sn : Nat) (ss : Nat) (su : Nat) (K : Nat) (xu : Nat) (fU : Nat → Int64) (k : Nat) (hK : K ≤ 48) (hk2 : k < 2 ^ 31) (hk : lsum (fun z9 => cnt (lkB fU K z9) 64) K ≤ k) : CtX l y_RO_link (Cond.code y_RO_link c_RO_link 3 (some .int) :: TB) ({ frames := 6, cells := 1, slots := 6, locals := 91 } : Room) D (tysv cI cJ cZ cQ) [.ref ho, .int (nI k), .int (nI 1)] [(ho, .inr (7, [.ref hr, .ref hs, .ref h, .ref hg, .ref ha, .int vm])), (hs, .inr (4, [.ref sn, .ref ss, .ref su, .int (nI K)])), (su, .inr (1, [.ref xu])), (xu, .inl (cJ, 48, .inr (.inl fU)))] 1 6 xIO := by
  refine CtX.of c_RO_link 3 (some .int) (by decide) rfl (Nat.le_of_ble_eq_true rfl) ?_
  intro p e s m args below meth c A Q hA9 hQ9 X hx9
  have hls : lsum (fun z9 => cnt (lkB fU K z9) 64) K ≤ K * 64 := lsum_le (fun i => lk_le fU K i) K
  refine g_iload_n X 2 d_RO_link_0 rfl rfl ?_
  refine n_if_lt X 9 d_RO_link_1 (by decide) (by omega) (fun h1 => absurd h1 (by omega)) (fun h1 => ?_)
  refine g_iload_n X 2 d_RO_link_4 rfl rfl ?_
  refine g_iconst (v := nI 1) X d_RO_link_5 rfl ?_
  refine n_icmp_le X 19 d_RO_link_6 (by decide) (by omega) (by omega) (fun h6 => ?_) (fun h6 => absurd h6 (by omega))
  refine g_iload_n X 1 d_RO_link_19 rfl rfl ?_
  refine n_if_lt X 34 d_RO_link_20 (by decide) (by omega) (fun h20 => absurd h20 (by omega)) (fun h20 => ?_)
  refine g_iload_n X 1 d_RO_link_23 rfl rfl ?_
  refine g_aload_n X 0 d_RO_link_24 rfl rfl ?_
  refine g_get (C := R_RO) (T := T_RO) (N := 6) X 0 1 in_RO rfl rfl (by decide) t1_143 rfl rfl d_RO_link_25 ?_
  refine g_calliV (n := 0) X [] (k_Strata_linkCount hs sn ss su K xu fU (by omega)) t1_165 t1_166 t1_167 t1_5 t1_168 rfl rfl (by decide +kernel) ⟨by decide, by decide⟩ [1, 2, 3] [0] [(ho, .inr (7, [.ref hr, .ref hs, .ref h, .ref hg, .ref ha, .int vm]))] rfl rfl rfl rfl (by decide) 0 rfl rfl rfl rfl (Nat.le_of_ble_eq_true rfl) d_RO_link_28 ⟨by decide, by decide⟩ (fun r1 w9u1 hw1 => ?_)
  subst hw1
  refine n_icmp_lt X 44 d_RO_link_31 (by decide) (by omega) (by omega) (fun h31 => absurd h31 (by omega)) (fun h31 => ?_)
  exact g_throwIO X hx9 hA9 hQ9 [0, 1, 2, 3] rfl rfl (show (112, "no such link") ∈ strs by decide) t2_51 t1_14 d_RO_link_34 d_RO_link_37 d_RO_link_38 d_RO_link_40 d_RO_link_43 (by decide) (Nat.le_of_ble_eq_true rfl) (by decide) (by decide) (by decide) (by decide)

set_option maxHeartbeats 4000000 in
set_option maxRecDepth 100000 in
theorem kx_RO_group (ho : Nat) (hr : Nat) (hs : Nat) (h : Nat) (hg : Nat) (ha : Nat) (vm : Int32) (gh : Nat) (gl : Nat) (gr : Nat) (gm : Nat) (hm9 : gm = 12) : CtX l y_RO_group (Cond.code y_RO_group c_RO_group 1 (some .int) :: TB) ({ frames := 6, cells := 1, slots := 6, locals := 82 } : Room) D (tysv cI cJ cZ cQ) [.ref ho] [(ho, .inr (7, [.ref hr, .ref hs, .ref h, .ref hg, .ref ha, .int vm])), (hg, .inr (5, [.ref gh, .ref gl, .ref gr, .int (nI gm)]))] 1 6 xIS := by
  refine CtX.of c_RO_group 1 (some .int) (by decide) rfl (Nat.le_of_ble_eq_true rfl) ?_
  intro p e s m args below meth c A Q hA9 hQ9 X hx9
  refine g_aload_n X 0 d_RO_group_0 rfl rfl ?_
  refine g_get (C := R_RO) (T := T_RO) (N := 6) X 0 3 in_RO rfl rfl (by decide) t1_145 rfl rfl d_RO_group_1 ?_
  refine g_calliV (n := 0) X [] (k_Groups_made hg gh gl gr gm ) t3_15 t3_16 t3_17 t1_8 t3_18 rfl rfl (by decide +kernel) ⟨by decide, by decide⟩ [1] [0] [(ho, .inr (7, [.ref hr, .ref hs, .ref h, .ref hg, .ref ha, .int vm]))] rfl rfl rfl rfl (by decide) 0 rfl rfl rfl rfl (Nat.le_of_ble_eq_true rfl) d_RO_group_4 ⟨by decide, by decide⟩ (fun r1 w9u1 hw1 => ?_)
  subst hw1
  refine g_bipush (v := nI 12) X d_RO_group_7 rfl ?_
  refine n_icmp_lt X 22 d_RO_group_9 (by decide) (by omega) (by omega) (fun h9 => absurd h9 (by omega)) (fun h9 => ?_)
  exact g_throwIS X hx9 hA9 hQ9 [0, 1] rfl rfl (show (126, "there are twelve groups") ∈ strs by decide) t1_204 t1_13 d_RO_group_12 d_RO_group_15 d_RO_group_16 d_RO_group_18 d_RO_group_21 (by decide) (Nat.le_of_ble_eq_true rfl) (by decide) (by decide) (by decide) (by decide)

set_option maxHeartbeats 4000000 in
set_option maxRecDepth 100000 in
theorem kx_RO_into1 (ho : Nat) (hr : Nat) (hs : Nat) (h : Nat) (hg : Nat) (ha : Nat) (vm : Int32) (gh : Nat) (gl : Nat) (gr : Nat) (gm : Nat) (x : Int32) (y : Int32) (hgm : gm ≤ 12) (hx : badI gm x) : CtX l y_RO_into (Cond.code y_RO_into c_RO_into 3 (some .boolean) :: TB) ({ frames := 6, cells := 1, slots := 6, locals := 82 } : Room) D (tysv cI cJ cZ cQ) [.ref ho, .int x, .int y] [(ho, .inr (7, [.ref hr, .ref hs, .ref h, .ref hg, .ref ha, .int vm])), (hg, .inr (5, [.ref gh, .ref gl, .ref gr, .int (nI gm)]))] 1 6 xIO := by
  refine CtX.of c_RO_into 3 (some .boolean) (by decide) rfl (Nat.le_of_ble_eq_true rfl) ?_
  intro p e s m args below meth c A Q hA9 hQ9 X hx9
  refine g_iload_n X 1 d_RO_into_0 rfl rfl ?_
  refine g_if_lt X 15 d_RO_into_1 (by decide) (fun h1 => ?_) (fun h1 => ?_)
  · exact g_throwIO X hx9 hA9 hQ9 [0, 1] rfl rfl (show (130, "no such group") ∈ strs by decide) t2_51 t1_14 d_RO_into_15 d_RO_into_18 d_RO_into_19 d_RO_into_21 d_RO_into_24 (by decide) (Nat.le_of_ble_eq_true rfl) (by decide) (by decide) (by decide) (by decide)
  · refine g_iload_n X 1 d_RO_into_4 rfl rfl ?_
    refine g_aload_n X 0 d_RO_into_5 rfl rfl ?_
    refine g_get (C := R_RO) (T := T_RO) (N := 6) X 0 3 in_RO rfl rfl (by decide) t1_145 rfl rfl d_RO_into_6 ?_
    refine g_calliV (n := 0) X [] (k_Groups_made hg gh gl gr gm ) t3_15 t3_16 t3_17 t1_8 t3_18 rfl rfl (by decide +kernel) ⟨by decide, by decide⟩ [1] [0] [(ho, .inr (7, [.ref hr, .ref hs, .ref h, .ref hg, .ref ha, .int vm]))] rfl rfl rfl rfl (by decide) 0 rfl rfl rfl rfl (Nat.le_of_ble_eq_true rfl) d_RO_into_9 ⟨by decide, by decide⟩ (fun r1 w9u1 hw1 => ?_)
    subst hw1
    refine g_icmp_lt X 25 d_RO_into_12 (by decide) (fun h12 => absurd h12 (bad_nlt hx h1)) (fun h12 => ?_)
    exact g_throwIO X hx9 hA9 hQ9 [0, 1] rfl rfl (show (130, "no such group") ∈ strs by decide) t2_51 t1_14 d_RO_into_15 d_RO_into_18 d_RO_into_19 d_RO_into_21 d_RO_into_24 (by decide) (Nat.le_of_ble_eq_true rfl) (by decide) (by decide) (by decide) (by decide)

set_option maxHeartbeats 4000000 in
set_option maxRecDepth 100000 in
theorem kx_RO_into2 (ho : Nat) (hr : Nat) (hs : Nat) (h : Nat) (hg : Nat) (ha : Nat) (vm : Int32) (sn : Nat) (ss : Nat) (su : Nat) (K : Nat) (gh : Nat) (gl : Nat) (gr : Nat) (gm : Nat) (i : Nat) (x : Int32) (hK : K ≤ 48) (hx : badI K x) (hgm : gm ≤ 12) (hi : i < gm) : CtX l y_RO_into (Cond.code y_RO_into c_RO_into 3 (some .boolean) :: TB) ({ frames := 7, cells := 1, slots := 6, locals := 103 } : Room) D (tysv cI cJ cZ cQ) [.ref ho, .int (nI i), .int x] [(ho, .inr (7, [.ref hr, .ref hs, .ref h, .ref hg, .ref ha, .int vm])), (hg, .inr (5, [.ref gh, .ref gl, .ref gr, .int (nI gm)])), (hs, .inr (4, [.ref sn, .ref ss, .ref su, .int (nI K)]))] 1 6 xIO := by
  refine CtX.of c_RO_into 3 (some .boolean) (by decide) rfl (Nat.le_of_ble_eq_true rfl) ?_
  intro p e s m args below meth c A Q hA9 hQ9 X hx9
  refine g_iload_n X 1 d_RO_into_0 rfl rfl ?_
  refine n_if_lt X 15 d_RO_into_1 (by decide) (by omega) (fun h1 => absurd h1 (by omega)) (fun h1 => ?_)
  refine g_iload_n X 1 d_RO_into_4 rfl rfl ?_
  refine g_aload_n X 0 d_RO_into_5 rfl rfl ?_
  refine g_get (C := R_RO) (T := T_RO) (N := 6) X 0 3 in_RO rfl rfl (by decide) t1_145 rfl rfl d_RO_into_6 ?_
  refine g_calliV (n := 0) X [] (k_Groups_made hg gh gl gr gm ) t3_15 t3_16 t3_17 t1_8 t3_18 rfl rfl (by decide +kernel) ⟨by decide, by decide⟩ [1] [0, 2] [(ho, .inr (7, [.ref hr, .ref hs, .ref h, .ref hg, .ref ha, .int vm])), (hs, .inr (4, [.ref sn, .ref ss, .ref su, .int (nI K)]))] rfl rfl rfl rfl (by decide) 0 rfl rfl rfl rfl (Nat.le_of_ble_eq_true rfl) d_RO_into_9 ⟨by decide, by decide⟩ (fun r1 w9u1 hw1 => ?_)
  subst hw1
  refine n_icmp_lt X 25 d_RO_into_12 (by decide) (by omega) (by omega) (fun h12 => ?_) (fun h12 => absurd h12 (by omega))
  refine g_aload_n X 0 d_RO_into_25 rfl rfl ?_
  refine g_iload_n X 2 d_RO_into_26 rfl rfl ?_
  refine g_callXV (n := 1) X hx9 [.int x] (kx_RO_checkContext ho hr hs h hg ha vm sn ss su K x (by omega) (hx)) t2_47 t2_49 ts_3 t1_1 t2_50 rfl rfl (by decide +kernel) ⟨by decide, by decide⟩ [0, 1] [2] [(hg, .inr (5, [.ref gh, .ref gl, .ref gr, .int (nI gm)]))] rfl rfl rfl rfl (by decide) 0 rfl rfl rfl rfl (Nat.le_of_ble_eq_true rfl) d_RO_into_27 ⟨by decide, by decide⟩ ?_
  exact gx_out X hx9 hA9 hQ9 [1, 0, 2] rfl rfl (by decide) (by decide)

set_option maxHeartbeats 4000000 in
set_option maxRecDepth 100000 in
theorem kx_RO_version (ho : Nat) (hr : Nat) (hs : Nat) (h : Nat) (hg : Nat) (ha : Nat) (vv : Nat) (fV : Nat → Option Nat) (hv : vv = 8) : CtX l y_RO_version (Cond.code y_RO_version c_RO_version 1 (some .int) :: TB) ({ frames := 6, cells := 1, slots := 6, locals := 82 } : Room) D (tysv cI cJ cZ cQ) [.ref ho] [(ho, .inr (7, [.ref hr, .ref hs, .ref h, .ref hg, .ref ha, .int (nI vv)])), (ha, .inl (cQ, 8, .inr (.inr (.inr (.inr fV)))))] 1 6 xIS := by
  refine CtX.of c_RO_version 1 (some .int) (by decide) rfl (Nat.le_of_ble_eq_true rfl) ?_
  intro p e s m args below meth c A Q hA9 hQ9 X hx9
  refine g_aload_n X 0 d_RO_version_0 rfl rfl ?_
  refine g_get (C := R_RO) (T := T_RO) (N := 6) X 0 5 in_RO rfl rfl (by decide) t1_147 rfl rfl d_RO_version_1 ?_
  refine n_if_lt X 19 d_RO_version_4 (by decide) (by omega) (fun h4 => absurd h4 (by omega)) (fun h4 => ?_)
  refine g_aload_n X 0 d_RO_version_7 rfl rfl ?_
  refine g_get (C := R_RO) (T := T_RO) (N := 6) X 0 5 in_RO rfl rfl (by decide) t1_147 rfl rfl d_RO_version_8 ?_
  refine g_aload_n X 0 d_RO_version_11 rfl rfl ?_
  refine g_get (C := R_RO) (T := T_RO) (N := 6) X 0 4 in_RO rfl rfl (by decide) t1_146 rfl rfl d_RO_version_12 ?_
  refine g_alen X 1 3 rfl rfl d_RO_version_15 ?_
  refine n_icmp_lt X 29 d_RO_version_16 (by decide) (by omega) (by omega) (fun h16 => absurd h16 (by omega)) (fun h16 => ?_)
  exact g_throwIS X hx9 hA9 hQ9 [0, 1] rfl rfl (show (142, "there are eight versions") ∈ strs by decide) t1_204 t1_13 d_RO_version_19 d_RO_version_22 d_RO_version_23 d_RO_version_25 d_RO_version_28 (by decide) (Nat.le_of_ble_eq_true rfl) (by decide) (by decide) (by decide) (by decide)

set_option maxHeartbeats 4000000 in
set_option maxRecDepth 100000 in
theorem kx_RO_differs1 (ho : Nat) (hr : Nat) (hs : Nat) (h : Nat) (hg : Nat) (ha : Nat) (vm : Int32) (fV : Nat → Option Nat) (x : Int32) (y : Int32) (z : Int32) (h1 : badI 8 x ∨ (∃ i, i < 8 ∧ x = nI i ∧ fV i = none)) (h2 : badI 8 y ∨ (∃ j, j < 8 ∧ y = nI j ∧ fV j = none) ∨ (∃ j ad, j < 8 ∧ y = nI j ∧ fV j = some ad)) : CtX l y_RO_differs (Cond.code y_RO_differs c_RO_differs 6 (some .int) :: TB) ({ frames := 6, cells := 1, slots := 6, locals := 82 } : Room) D (tysv cI cJ cZ cQ) [.ref ho, .int x, .int y, .int z] [(ho, .inr (7, [.ref hr, .ref hs, .ref h, .ref hg, .ref ha, .int vm])), (ha, .inl (cQ, 8, .inr (.inr (.inr (.inr fV)))))] 1 6 xIO := by
  refine CtX.of c_RO_differs 6 (some .int) (by decide) rfl (Nat.le_of_ble_eq_true rfl) ?_
  intro p e s m args below meth c A Q hA9 hQ9 X hx9
  rcases h1 with b1 | ⟨i, hi, rfl, b1⟩ <;> rcases h2 with b2 | ⟨j, hj, rfl, b2⟩ | ⟨j, ad2, hj, rfl, b2⟩
  · have b3 := b1
    refine g_aload_n X 0 d_RO_differs_0 rfl rfl ?_
    refine g_iload_n X 1 d_RO_differs_1 rfl rfl ?_
    refine g_callqV (n := 1) X [.int x] (k_RO_versionAtB ho hr hs h hg ha vm fV x (b1)) t3_109 t3_111 ts_10 t1_1 t3_112 rfl rfl (by decide +kernel) ⟨by decide, by decide⟩ [0, 1] [] [] rfl rfl rfl rfl (by decide) 0 rfl rfl rfl rfl (Nat.le_of_ble_eq_true rfl) d_RO_differs_2 ⟨by decide, by decide⟩ (fun r1 w9u1 hw1 => ?_)
    subst hw1
    refine g_astoreN X [(4, .null), (0, .ref ho), (1, .int x), (2, .int y), (3, .int z)] d_RO_differs_5 (by decide) rfl ?_
    refine g_aload_n X 0 d_RO_differs_7 rfl rfl ?_
    refine g_iload_n X 2 d_RO_differs_8 rfl rfl ?_
    refine g_callqV (n := 1) X [.int y] (k_RO_versionAtB ho hr hs h hg ha vm fV y (b2)) t3_109 t3_111 ts_10 t1_1 t3_112 rfl rfl (by decide +kernel) ⟨by decide, by decide⟩ [0, 1] [] [] rfl rfl rfl rfl (by decide) 0 rfl rfl rfl rfl (Nat.le_of_ble_eq_true rfl) d_RO_differs_9 ⟨by decide, by decide⟩ (fun r2 w9u2 hw2 => ?_)
    subst hw2
    refine g_astoreN X [(5, .null), (4, .null), (0, .ref ho), (1, .int x), (2, .int y), (3, .int z)] d_RO_differs_12 (by decide) rfl ?_
    refine g_aloadN X 4 d_RO_differs_14 rfl ?_
    refine g_ifnullN X 24 d_RO_differs_16 (by decide) ?_
    exact g_throwIO X hx9 hA9 hQ9 [0, 1] rfl rfl (show (151, "no such version") ∈ strs by decide) t2_51 t1_14 d_RO_differs_24 d_RO_differs_27 d_RO_differs_28 d_RO_differs_30 d_RO_differs_33 (by decide) (Nat.le_of_ble_eq_true rfl) (by decide) (by decide) (by decide) (by decide)
  · have b3 := b1
    refine g_aload_n X 0 d_RO_differs_0 rfl rfl ?_
    refine g_iload_n X 1 d_RO_differs_1 rfl rfl ?_
    refine g_callqV (n := 1) X [.int x] (k_RO_versionAtB ho hr hs h hg ha vm fV x (b1)) t3_109 t3_111 ts_10 t1_1 t3_112 rfl rfl (by decide +kernel) ⟨by decide, by decide⟩ [0, 1] [] [] rfl rfl rfl rfl (by decide) 0 rfl rfl rfl rfl (Nat.le_of_ble_eq_true rfl) d_RO_differs_2 ⟨by decide, by decide⟩ (fun r3 w9u3 hw3 => ?_)
    subst hw3
    refine g_astoreN X [(4, .null), (0, .ref ho), (1, .int x), (2, .int (nI j)), (3, .int z)] d_RO_differs_5 (by decide) rfl ?_
    refine g_aload_n X 0 d_RO_differs_7 rfl rfl ?_
    refine g_iload_n X 2 d_RO_differs_8 rfl rfl ?_
    refine g_callqV (n := 1) X [.int (nI j)] (k_RO_versionAtN ho hr hs h hg ha vm fV j (by omega) (b2)) t3_109 t3_111 ts_10 t1_1 t3_112 rfl rfl (by decide +kernel) ⟨by decide, by decide⟩ [0, 1] [] [] rfl rfl rfl rfl (by decide) 0 rfl rfl rfl rfl (Nat.le_of_ble_eq_true rfl) d_RO_differs_9 ⟨by decide, by decide⟩ (fun r4 w9u4 hw4 => ?_)
    subst hw4
    refine g_astoreN X [(5, .null), (4, .null), (0, .ref ho), (1, .int x), (2, .int (nI j)), (3, .int z)] d_RO_differs_12 (by decide) rfl ?_
    refine g_aloadN X 4 d_RO_differs_14 rfl ?_
    refine g_ifnullN X 24 d_RO_differs_16 (by decide) ?_
    exact g_throwIO X hx9 hA9 hQ9 [0, 1] rfl rfl (show (151, "no such version") ∈ strs by decide) t2_51 t1_14 d_RO_differs_24 d_RO_differs_27 d_RO_differs_28 d_RO_differs_30 d_RO_differs_33 (by decide) (Nat.le_of_ble_eq_true rfl) (by decide) (by decide) (by decide) (by decide)
  · have b3 := b1
    refine g_aload_n X 0 d_RO_differs_0 rfl rfl ?_
    refine g_iload_n X 1 d_RO_differs_1 rfl rfl ?_
    refine g_callqV (n := 1) X [.int x] (k_RO_versionAtB ho hr hs h hg ha vm fV x (b1)) t3_109 t3_111 ts_10 t1_1 t3_112 rfl rfl (by decide +kernel) ⟨by decide, by decide⟩ [0, 1] [] [] rfl rfl rfl rfl (by decide) 0 rfl rfl rfl rfl (Nat.le_of_ble_eq_true rfl) d_RO_differs_2 ⟨by decide, by decide⟩ (fun r5 w9u5 hw5 => ?_)
    subst hw5
    refine g_astoreN X [(4, .null), (0, .ref ho), (1, .int x), (2, .int (nI j)), (3, .int z)] d_RO_differs_5 (by decide) rfl ?_
    refine g_aload_n X 0 d_RO_differs_7 rfl rfl ?_
    refine g_iload_n X 2 d_RO_differs_8 rfl rfl ?_
    refine g_callqV (n := 1) X [.int (nI j)] (k_RO_versionAt ho hr hs h hg ha vm fV j ad2 (by omega) (b2)) t3_109 t3_111 ts_10 t1_1 t3_112 rfl rfl (by decide +kernel) ⟨by decide, by decide⟩ [0, 1] [] [] rfl rfl rfl rfl (by decide) 0 rfl rfl rfl rfl (Nat.le_of_ble_eq_true rfl) d_RO_differs_9 ⟨by decide, by decide⟩ (fun r6 w9u6 hw6 => ?_)
    subst hw6
    refine g_astore X [(5, .ref ad2), (4, .null), (0, .ref ho), (1, .int x), (2, .int (nI j)), (3, .int z)] d_RO_differs_12 (by decide) rfl ?_
    refine g_aloadN X 4 d_RO_differs_14 rfl ?_
    refine g_ifnullN X 24 d_RO_differs_16 (by decide) ?_
    exact g_throwIO X hx9 hA9 hQ9 [0, 1] rfl rfl (show (151, "no such version") ∈ strs by decide) t2_51 t1_14 d_RO_differs_24 d_RO_differs_27 d_RO_differs_28 d_RO_differs_30 d_RO_differs_33 (by decide) (Nat.le_of_ble_eq_true rfl) (by decide) (by decide) (by decide) (by decide)
  · have b3 := b1
    refine g_aload_n X 0 d_RO_differs_0 rfl rfl ?_
    refine g_iload_n X 1 d_RO_differs_1 rfl rfl ?_
    refine g_callqV (n := 1) X [.int (nI i)] (k_RO_versionAtN ho hr hs h hg ha vm fV i (by omega) (b1)) t3_109 t3_111 ts_10 t1_1 t3_112 rfl rfl (by decide +kernel) ⟨by decide, by decide⟩ [0, 1] [] [] rfl rfl rfl rfl (by decide) 0 rfl rfl rfl rfl (Nat.le_of_ble_eq_true rfl) d_RO_differs_2 ⟨by decide, by decide⟩ (fun r7 w9u7 hw7 => ?_)
    subst hw7
    refine g_astoreN X [(4, .null), (0, .ref ho), (1, .int (nI i)), (2, .int y), (3, .int z)] d_RO_differs_5 (by decide) rfl ?_
    refine g_aload_n X 0 d_RO_differs_7 rfl rfl ?_
    refine g_iload_n X 2 d_RO_differs_8 rfl rfl ?_
    refine g_callqV (n := 1) X [.int y] (k_RO_versionAtB ho hr hs h hg ha vm fV y (b2)) t3_109 t3_111 ts_10 t1_1 t3_112 rfl rfl (by decide +kernel) ⟨by decide, by decide⟩ [0, 1] [] [] rfl rfl rfl rfl (by decide) 0 rfl rfl rfl rfl (Nat.le_of_ble_eq_true rfl) d_RO_differs_9 ⟨by decide, by decide⟩ (fun r8 w9u8 hw8 => ?_)
    subst hw8
    refine g_astoreN X [(5, .null), (4, .null), (0, .ref ho), (1, .int (nI i)), (2, .int y), (3, .int z)] d_RO_differs_12 (by decide) rfl ?_
    refine g_aloadN X 4 d_RO_differs_14 rfl ?_
    refine g_ifnullN X 24 d_RO_differs_16 (by decide) ?_
    exact g_throwIO X hx9 hA9 hQ9 [0, 1] rfl rfl (show (151, "no such version") ∈ strs by decide) t2_51 t1_14 d_RO_differs_24 d_RO_differs_27 d_RO_differs_28 d_RO_differs_30 d_RO_differs_33 (by decide) (Nat.le_of_ble_eq_true rfl) (by decide) (by decide) (by decide) (by decide)
  · have b3 := b1
    refine g_aload_n X 0 d_RO_differs_0 rfl rfl ?_
    refine g_iload_n X 1 d_RO_differs_1 rfl rfl ?_
    refine g_callqV (n := 1) X [.int (nI i)] (k_RO_versionAtN ho hr hs h hg ha vm fV i (by omega) (b1)) t3_109 t3_111 ts_10 t1_1 t3_112 rfl rfl (by decide +kernel) ⟨by decide, by decide⟩ [0, 1] [] [] rfl rfl rfl rfl (by decide) 0 rfl rfl rfl rfl (Nat.le_of_ble_eq_true rfl) d_RO_differs_2 ⟨by decide, by decide⟩ (fun r9 w9u9 hw9 => ?_)
    subst hw9
    refine g_astoreN X [(4, .null), (0, .ref ho), (1, .int (nI i)), (2, .int (nI j)), (3, .int z)] d_RO_differs_5 (by decide) rfl ?_
    refine g_aload_n X 0 d_RO_differs_7 rfl rfl ?_
    refine g_iload_n X 2 d_RO_differs_8 rfl rfl ?_
    refine g_callqV (n := 1) X [.int (nI j)] (k_RO_versionAtN ho hr hs h hg ha vm fV j (by omega) (b2)) t3_109 t3_111 ts_10 t1_1 t3_112 rfl rfl (by decide +kernel) ⟨by decide, by decide⟩ [0, 1] [] [] rfl rfl rfl rfl (by decide) 0 rfl rfl rfl rfl (Nat.le_of_ble_eq_true rfl) d_RO_differs_9 ⟨by decide, by decide⟩ (fun r10 w9u10 hw10 => ?_)
    subst hw10
    refine g_astoreN X [(5, .null), (4, .null), (0, .ref ho), (1, .int (nI i)), (2, .int (nI j)), (3, .int z)] d_RO_differs_12 (by decide) rfl ?_
    refine g_aloadN X 4 d_RO_differs_14 rfl ?_
    refine g_ifnullN X 24 d_RO_differs_16 (by decide) ?_
    exact g_throwIO X hx9 hA9 hQ9 [0, 1] rfl rfl (show (151, "no such version") ∈ strs by decide) t2_51 t1_14 d_RO_differs_24 d_RO_differs_27 d_RO_differs_28 d_RO_differs_30 d_RO_differs_33 (by decide) (Nat.le_of_ble_eq_true rfl) (by decide) (by decide) (by decide) (by decide)
  · have b3 := b1
    refine g_aload_n X 0 d_RO_differs_0 rfl rfl ?_
    refine g_iload_n X 1 d_RO_differs_1 rfl rfl ?_
    refine g_callqV (n := 1) X [.int (nI i)] (k_RO_versionAtN ho hr hs h hg ha vm fV i (by omega) (b1)) t3_109 t3_111 ts_10 t1_1 t3_112 rfl rfl (by decide +kernel) ⟨by decide, by decide⟩ [0, 1] [] [] rfl rfl rfl rfl (by decide) 0 rfl rfl rfl rfl (Nat.le_of_ble_eq_true rfl) d_RO_differs_2 ⟨by decide, by decide⟩ (fun r11 w9u11 hw11 => ?_)
    subst hw11
    refine g_astoreN X [(4, .null), (0, .ref ho), (1, .int (nI i)), (2, .int (nI j)), (3, .int z)] d_RO_differs_5 (by decide) rfl ?_
    refine g_aload_n X 0 d_RO_differs_7 rfl rfl ?_
    refine g_iload_n X 2 d_RO_differs_8 rfl rfl ?_
    refine g_callqV (n := 1) X [.int (nI j)] (k_RO_versionAt ho hr hs h hg ha vm fV j ad2 (by omega) (b2)) t3_109 t3_111 ts_10 t1_1 t3_112 rfl rfl (by decide +kernel) ⟨by decide, by decide⟩ [0, 1] [] [] rfl rfl rfl rfl (by decide) 0 rfl rfl rfl rfl (Nat.le_of_ble_eq_true rfl) d_RO_differs_9 ⟨by decide, by decide⟩ (fun r12 w9u12 hw12 => ?_)
    subst hw12
    refine g_astore X [(5, .ref ad2), (4, .null), (0, .ref ho), (1, .int (nI i)), (2, .int (nI j)), (3, .int z)] d_RO_differs_12 (by decide) rfl ?_
    refine g_aloadN X 4 d_RO_differs_14 rfl ?_
    refine g_ifnullN X 24 d_RO_differs_16 (by decide) ?_
    exact g_throwIO X hx9 hA9 hQ9 [0, 1] rfl rfl (show (151, "no such version") ∈ strs by decide) t2_51 t1_14 d_RO_differs_24 d_RO_differs_27 d_RO_differs_28 d_RO_differs_30 d_RO_differs_33 (by decide) (Nat.le_of_ble_eq_true rfl) (by decide) (by decide) (by decide) (by decide)

set_option maxHeartbeats 4000000 in
set_option maxRecDepth 100000 in
theorem kx_RO_differs2 (ho : Nat) (hr : Nat) (hs : Nat) (h : Nat) (hg : Nat) (ha : Nat) (vm : Int32) (fV : Nat → Option Nat) (x : Int32) (y : Int32) (z : Int32) (h1 : (∃ i ad, i < 8 ∧ x = nI i ∧ fV i = some ad)) (h2 : badI 8 y ∨ (∃ j, j < 8 ∧ y = nI j ∧ fV j = none)) : CtX l y_RO_differs (Cond.code y_RO_differs c_RO_differs 6 (some .int) :: TB) ({ frames := 6, cells := 1, slots := 6, locals := 82 } : Room) D (tysv cI cJ cZ cQ) [.ref ho, .int x, .int y, .int z] [(ho, .inr (7, [.ref hr, .ref hs, .ref h, .ref hg, .ref ha, .int vm])), (ha, .inl (cQ, 8, .inr (.inr (.inr (.inr fV)))))] 1 6 xIO := by
  refine CtX.of c_RO_differs 6 (some .int) (by decide) rfl (Nat.le_of_ble_eq_true rfl) ?_
  intro p e s m args below meth c A Q hA9 hQ9 X hx9
  rcases h1 with ⟨i, ad, hi, rfl, b1⟩ <;> rcases h2 with b2 | ⟨j, hj, rfl, b2⟩
  · have b3 := b1
    refine g_aload_n X 0 d_RO_differs_0 rfl rfl ?_
    refine g_iload_n X 1 d_RO_differs_1 rfl rfl ?_
    refine g_callqV (n := 1) X [.int (nI i)] (k_RO_versionAt ho hr hs h hg ha vm fV i ad (by omega) (b1)) t3_109 t3_111 ts_10 t1_1 t3_112 rfl rfl (by decide +kernel) ⟨by decide, by decide⟩ [0, 1] [] [] rfl rfl rfl rfl (by decide) 0 rfl rfl rfl rfl (Nat.le_of_ble_eq_true rfl) d_RO_differs_2 ⟨by decide, by decide⟩ (fun r1 w9u1 hw1 => ?_)
    subst hw1
    refine g_astore X [(4, .ref ad), (0, .ref ho), (1, .int (nI i)), (2, .int y), (3, .int z)] d_RO_differs_5 (by decide) rfl ?_
    refine g_aload_n X 0 d_RO_differs_7 rfl rfl ?_
    refine g_iload_n X 2 d_RO_differs_8 rfl rfl ?_
    refine g_callqV (n := 1) X [.int y] (k_RO_versionAtB ho hr hs h hg ha vm fV y (b2)) t3_109 t3_111 ts_10 t1_1 t3_112 rfl rfl (by decide +kernel) ⟨by decide, by decide⟩ [0, 1] [] [] rfl rfl rfl rfl (by decide) 0 rfl rfl rfl rfl (Nat.le_of_ble_eq_true rfl) d_RO_differs_9 ⟨by decide, by decide⟩ (fun r2 w9u2 hw2 => ?_)
    subst hw2
    refine g_astoreN X [(5, .null), (4, .ref ad), (0, .ref ho), (1, .int (nI i)), (2, .int y), (3, .int z)] d_RO_differs_12 (by decide) rfl ?_
    refine g_aload X 4 d_RO_differs_14 rfl ?_
    refine g_ifnull X d_RO_differs_16 ?_
    refine g_aloadN X 5 d_RO_differs_19 rfl ?_
    refine g_ifnonnullN X d_RO_differs_21 ?_
    exact g_throwIO X hx9 hA9 hQ9 [0, 1] rfl rfl (show (151, "no such version") ∈ strs by decide) t2_51 t1_14 d_RO_differs_24 d_RO_differs_27 d_RO_differs_28 d_RO_differs_30 d_RO_differs_33 (by decide) (Nat.le_of_ble_eq_true rfl) (by decide) (by decide) (by decide) (by decide)
  · have b3 := b1
    refine g_aload_n X 0 d_RO_differs_0 rfl rfl ?_
    refine g_iload_n X 1 d_RO_differs_1 rfl rfl ?_
    refine g_callqV (n := 1) X [.int (nI i)] (k_RO_versionAt ho hr hs h hg ha vm fV i ad (by omega) (b1)) t3_109 t3_111 ts_10 t1_1 t3_112 rfl rfl (by decide +kernel) ⟨by decide, by decide⟩ [0, 1] [] [] rfl rfl rfl rfl (by decide) 0 rfl rfl rfl rfl (Nat.le_of_ble_eq_true rfl) d_RO_differs_2 ⟨by decide, by decide⟩ (fun r3 w9u3 hw3 => ?_)
    subst hw3
    refine g_astore X [(4, .ref ad), (0, .ref ho), (1, .int (nI i)), (2, .int (nI j)), (3, .int z)] d_RO_differs_5 (by decide) rfl ?_
    refine g_aload_n X 0 d_RO_differs_7 rfl rfl ?_
    refine g_iload_n X 2 d_RO_differs_8 rfl rfl ?_
    refine g_callqV (n := 1) X [.int (nI j)] (k_RO_versionAtN ho hr hs h hg ha vm fV j (by omega) (b2)) t3_109 t3_111 ts_10 t1_1 t3_112 rfl rfl (by decide +kernel) ⟨by decide, by decide⟩ [0, 1] [] [] rfl rfl rfl rfl (by decide) 0 rfl rfl rfl rfl (Nat.le_of_ble_eq_true rfl) d_RO_differs_9 ⟨by decide, by decide⟩ (fun r4 w9u4 hw4 => ?_)
    subst hw4
    refine g_astoreN X [(5, .null), (4, .ref ad), (0, .ref ho), (1, .int (nI i)), (2, .int (nI j)), (3, .int z)] d_RO_differs_12 (by decide) rfl ?_
    refine g_aload X 4 d_RO_differs_14 rfl ?_
    refine g_ifnull X d_RO_differs_16 ?_
    refine g_aloadN X 5 d_RO_differs_19 rfl ?_
    refine g_ifnonnullN X d_RO_differs_21 ?_
    exact g_throwIO X hx9 hA9 hQ9 [0, 1] rfl rfl (show (151, "no such version") ∈ strs by decide) t2_51 t1_14 d_RO_differs_24 d_RO_differs_27 d_RO_differs_28 d_RO_differs_30 d_RO_differs_33 (by decide) (Nat.le_of_ble_eq_true rfl) (by decide) (by decide) (by decide) (by decide)

set_option maxHeartbeats 4000000 in
set_option maxRecDepth 100000 in
theorem kx_RO_differs3 (ho : Nat) (hr : Nat) (hs : Nat) (h : Nat) (hg : Nat) (ha : Nat) (vm : Int32) (fV : Nat → Option Nat) (x : Int32) (y : Int32) (z : Int32) (h1 : (∃ i ad, i < 8 ∧ x = nI i ∧ fV i = some ad)) (h2 : (∃ j ad, j < 8 ∧ y = nI j ∧ fV j = some ad)) (hz : z < 0) : CtX l y_RO_differs (Cond.code y_RO_differs c_RO_differs 6 (some .int) :: TB) ({ frames := 7, cells := 1, slots := 6, locals := 102 } : Room) D (tysv cI cJ cZ cQ) [.ref ho, .int x, .int y, .int z] [(ho, .inr (7, [.ref hr, .ref hs, .ref h, .ref hg, .ref ha, .int vm])), (ha, .inl (cQ, 8, .inr (.inr (.inr (.inr fV)))))] 1 6 xIO := by
  refine CtX.of c_RO_differs 6 (some .int) (by decide) rfl (Nat.le_of_ble_eq_true rfl) ?_
  intro p e s m args below meth c A Q hA9 hQ9 X hx9
  rcases h1 with ⟨i, ad, hi, rfl, b1⟩ <;> rcases h2 with ⟨j, ad2, hj, rfl, b2⟩
  · have b3 := b1
    refine g_aload_n X 0 d_RO_differs_0 rfl rfl ?_
    refine g_iload_n X 1 d_RO_differs_1 rfl rfl ?_
    refine g_callqV (n := 1) X [.int (nI i)] (k_RO_versionAt ho hr hs h hg ha vm fV i ad (by omega) (b1)) t3_109 t3_111 ts_10 t1_1 t3_112 rfl rfl (by decide +kernel) ⟨by decide, by decide⟩ [0, 1] [] [] rfl rfl rfl rfl (by decide) 0 rfl rfl rfl rfl (Nat.le_of_ble_eq_true rfl) d_RO_differs_2 ⟨by decide, by decide⟩ (fun r1 w9u1 hw1 => ?_)
    subst hw1
    refine g_astore X [(4, .ref ad), (0, .ref ho), (1, .int (nI i)), (2, .int (nI j)), (3, .int z)] d_RO_differs_5 (by decide) rfl ?_
    refine g_aload_n X 0 d_RO_differs_7 rfl rfl ?_
    refine g_iload_n X 2 d_RO_differs_8 rfl rfl ?_
    refine g_callqV (n := 1) X [.int (nI j)] (k_RO_versionAt ho hr hs h hg ha vm fV j ad2 (by omega) (b2)) t3_109 t3_111 ts_10 t1_1 t3_112 rfl rfl (by decide +kernel) ⟨by decide, by decide⟩ [0, 1] [] [] rfl rfl rfl rfl (by decide) 0 rfl rfl rfl rfl (Nat.le_of_ble_eq_true rfl) d_RO_differs_9 ⟨by decide, by decide⟩ (fun r2 w9u2 hw2 => ?_)
    subst hw2
    refine g_astore X [(5, .ref ad2), (4, .ref ad), (0, .ref ho), (1, .int (nI i)), (2, .int (nI j)), (3, .int z)] d_RO_differs_12 (by decide) rfl ?_
    refine g_aload X 4 d_RO_differs_14 rfl ?_
    refine g_ifnull X d_RO_differs_16 ?_
    refine g_aload X 5 d_RO_differs_19 rfl ?_
    refine g_ifnonnull X 34 d_RO_differs_21 (by decide) ?_
    refine g_iload_n X 3 d_RO_differs_34 rfl rfl ?_
    refine g_callXS (n := 1) X hx9 [.int z] (kx_RO_checkPlace z (hz)) t2_168 t2_169 t1_1 t2_170 rfl rfl (by decide +kernel) ⟨by decide, by decide⟩ [] [0, 1] [(ho, .inr (7, [.ref hr, .ref hs, .ref h, .ref hg, .ref ha, .int vm])), (ha, .inl (cQ, 8, .inr (.inr (.inr (.inr fV)))))] rfl rfl rfl rfl (by decide) rfl rfl (Nat.le_of_ble_eq_true rfl) d_RO_differs_35 ⟨by decide, by decide⟩ ?_
    exact gx_out X hx9 hA9 hQ9 [0, 1] rfl rfl (by decide) (by decide)

set_option maxHeartbeats 4000000 in
set_option maxRecDepth 100000 in
theorem kx_RO_count (ho : Nat) (hr : Nat) (hs : Nat) (h : Nat) (hg : Nat) (ha : Nat) (vm : Int32) (x : Int32) (hx : badI 5 x) : CtX l y_RO_count (Cond.code y_RO_count c_RO_count 2 (some .int) :: TB) ({ frames := 6, cells := 1, slots := 6, locals := 82 } : Room) D (tysv cI cJ cZ cQ) [.ref ho, .int x] [(ho, .inr (7, [.ref hr, .ref hs, .ref h, .ref hg, .ref ha, .int vm]))] 1 6 xIO := by
  refine CtX.of c_RO_count 2 (some .int) (by decide) rfl (Nat.le_of_ble_eq_true rfl) ?_
  intro p e s m args below meth c A Q hA9 hQ9 X hx9
  refine g_iload_n X 1 d_RO_count_0 rfl rfl ?_
  refine g_tswOut X 76 d_RO_count_1 (bad5_out hx) (by decide) ?_
  exact g_throwIO X hx9 hA9 hQ9 [0] rfl rfl (show (170, "nothing to count") ∈ strs by decide) t2_51 t1_14 d_RO_count_76 d_RO_count_79 d_RO_count_80 d_RO_count_82 d_RO_count_85 (by decide) (Nat.le_of_ble_eq_true rfl) (by decide) (by decide) (by decide) (by decide)
