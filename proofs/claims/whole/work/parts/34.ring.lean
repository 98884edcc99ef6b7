variable {l : Launch} {D : va_G} {cI cJ cZ cQ : ClassId}
theorem gring_lt {E : Nat → Nat → Bool} {n t d : Nat} {pp : Nat → Nat} (hE : gin E n) (ht : t < n) (h : gring E t d pp) {k : Nat} (hk : k < d) : pp k < n := by
  cases k with
  | zero => rw [h.2.1]; exact ht
  | succ k => exact gD_lt hE (h.2.2 k hk).2.1
theorem ring_nth {n t d k v : Nat} {f Y : Nat → Int64} {pp : Nat → Nat} (hn : n ≤ 48) (hf : ∀ x, x < n → ∀ j, lb (f x) j = true → j < n) (h : gring (rowE n f) t d pp) (hY : layY (rowE n f) t d Y) (hk : k + 1 < d) (ea : v = pp k) (hat : v < n) : ∃ x, x < 48 ∧ lb (f v &&& Y (d - 2 - k)) x = true ∧ cnt (lb (f v &&& Y (d - 2 - k))) x = 0 := by
  obtain ⟨h1, h2, -⟩ := h.2.2 k hk
  rw [← ea, rowE_in hat] at h1
  refine cnt_least ⟨pp (k + 1), ?_, ?_⟩
  · have := hf v hat _ h1
    omega
  · rw [lb_and, h1, Bool.true_and]
    refine (hY (d - 2 - k) (by omega) _).mpr ?_
    rw [show d - 2 - k + 1 = d - 1 - k by omega]
    exact h2
theorem ring_nth_eq {n t d k v x : Nat} {f Y : Nat → Int64} {pp : Nat → Nat} (hn : n ≤ 48) (hf : ∀ x, x < n → ∀ j, lb (f x) j = true → j < n) (h : gring (rowE n f) t d pp) (hY : layY (rowE n f) t d Y) (hk : k + 1 < d) (ea : v = pp k) (hat : v < n) (hb : lb (f v &&& Y (d - 2 - k)) x = true) (hc : cnt (lb (f v &&& Y (d - 2 - k))) x = 0) : x = pp (k + 1) := by
  obtain ⟨h1, h2, h3⟩ := h.2.2 k hk
  have hl := hY (d - 2 - k) (by omega)
  rw [show d - 2 - k + 1 = d - 1 - k by omega] at hl
  rw [← ea] at h1 h3
  have g1 := h1
  rw [rowE_in hat] at h1
  rw [lb_and, Bool.and_eq_true] at hb
  rcases Nat.lt_trichotomy x (pp (k + 1)) with q | q | q
  · exact absurd ((hl x).mp hb.2) (h3 x q (by rw [rowE_in hat]; exact hb.1))
  · exact q
  · have := cnt_none hc _ q
    rw [lb_and, h1, Bool.true_and] at this
    rw [(hl _).mpr h2] at this
    cases this
theorem places_step {P : Nat → Int32} {pp : Nat → Nat} {k v : Nat} (h : ∀ j, j < k → P j = nI (pp j)) (e : v = pp k) : ∀ j, j < k + 1 → upd P k (nI v) j = nI (pp j) := by
  intro j hj
  rcases Nat.lt_or_ge j k with q | q
  · rw [pk_un (by omega)]
    exact h j q
  · have e2 : j = k := by omega
    subst e2
    rw [pk_us, e]

set_option maxHeartbeats 4000000 in
set_option maxRecDepth 100000 in
theorem k_Relations_made (hr : Nat) (ru : Nat) (rw : Nat) (rk : Nat) (R : Nat) (sd : Nat)  : CtI l y_Relations_made (Cond.code y_Relations_made c_Relations_made 1 (some .int) :: TB) ({ frames := 0, cells := 0, slots := 0, locals := 0 } : Room) D (tysv cI cJ cZ cQ) [.ref hr] [(hr, .inr (2, [.ref ru, .ref rw, .ref rk, .int (nI R), .int (nI sd)]))] 0 0 (fun (r : Int32) (_ : Unit) => r = nI R) (fun (_ : Unit) => [(hr, .inr (2, [.ref ru, .ref rw, .ref rk, .int (nI R), .int (nI sd)]))]) := by
  refine CtI.of c_Relations_made 1 (some .int) (by decide) rfl (Nat.le_of_ble_eq_true rfl) ?_
  intro p e s m args below meth c A Q hA9 hQ9 X hr9 hlk9 hin9
  refine g_aload_n X 0 d_Relations_made_0 rfl rfl ?_
  refine g_get (C := R_Relations) (T := T_Relations) (N := 5) X 0 3 in_Relations rfl rfl (by decide) t1_48 rfl rfl d_Relations_made_1 ?_
  exact g_iret X hA9 hQ9 hr9 hlk9 () [0] rfl rfl d_Relations_made_4 (rfl)

set_option maxHeartbeats 4000000 in
set_option maxRecDepth 100000 in
theorem k_Relations_standing (hr : Nat) (ru : Nat) (rw : Nat) (rk : Nat) (R : Nat) (sd : Nat)  : CtI l y_Relations_standing (Cond.code y_Relations_standing c_Relations_standing 1 (some .int) :: TB) ({ frames := 0, cells := 0, slots := 0, locals := 0 } : Room) D (tysv cI cJ cZ cQ) [.ref hr] [(hr, .inr (2, [.ref ru, .ref rw, .ref rk, .int (nI R), .int (nI sd)]))] 0 0 (fun (r : Int32) (_ : Unit) => r = nI sd) (fun (_ : Unit) => [(hr, .inr (2, [.ref ru, .ref rw, .ref rk, .int (nI R), .int (nI sd)]))]) := by
  refine CtI.of c_Relations_standing 1 (some .int) (by decide) rfl (Nat.le_of_ble_eq_true rfl) ?_
  intro p e s m args below meth c A Q hA9 hQ9 X hr9 hlk9 hin9
  refine g_aload_n X 0 d_Relations_standing_0 rfl rfl ?_
  refine g_get (C := R_Relations) (T := T_Relations) (N := 5) X 0 4 in_Relations rfl rfl (by decide) t1_49 rfl rfl d_Relations_standing_1 ?_
  exact g_iret X hA9 hQ9 hr9 hlk9 () [0] rfl rfl d_Relations_standing_4 (rfl)

set_option maxHeartbeats 4000000 in
set_option maxRecDepth 100000 in
theorem k_Relations_upperOf (hr : Nat) (ru : Nat) (rw : Nat) (rk : Nat) (R : Nat) (sd : Nat) (au : Nat) (fA : Nat → Int32) (j : Nat) (hj : j < 200) : CtI l y_Relations_upperOf (Cond.code y_Relations_upperOf c_Relations_upperOf 2 (some .int) :: TB) ({ frames := 1, cells := 0, slots := 0, locals := 21 } : Room) D (tysv cI cJ cZ cQ) [.ref hr, .int (nI j)] [(hr, .inr (2, [.ref ru, .ref rw, .ref rk, .int (nI R), .int (nI sd)])), (ru, .inr (0, [.ref au])), (au, .inl (cI, 200, .inl fA))] 0 0 (fun (r : Int32) (_ : Unit) => r = fA j) (fun (_ : Unit) => [(hr, .inr (2, [.ref ru, .ref rw, .ref rk, .int (nI R), .int (nI sd)])), (ru, .inr (0, [.ref au])), (au, .inl (cI, 200, .inl fA))]) := by
  refine CtI.of c_Relations_upperOf 2 (some .int) (by decide) rfl (Nat.le_of_ble_eq_true rfl) ?_
  intro p e s m args below meth c A Q hA9 hQ9 X hr9 hlk9 hin9
  refine g_aload_n X 0 d_Relations_upperOf_0 rfl rfl ?_
  refine g_get (C := R_Relations) (T := T_Relations) (N := 5) X 0 0 in_Relations rfl rfl (by decide) t1_45 rfl rfl d_Relations_upperOf_1 ?_
  refine g_iload_n X 1 d_Relations_upperOf_4 rfl rfl ?_
  refine g_calliV (n := 1) X [.int (nI j)] (k_Cells_at ru au 200 fA j (by omega) (by omega)) t2_137 t2_78 t2_79 t1_3 t2_80 rfl rfl (by decide +kernel) ⟨by decide, by decide⟩ [1, 2] [0] [(hr, .inr (2, [.ref ru, .ref rw, .ref rk, .int (nI R), .int (nI sd)]))] rfl rfl rfl rfl (by decide) 0 rfl rfl rfl rfl (Nat.le_of_ble_eq_true rfl) d_Relations_upperOf_5 ⟨by decide, by decide⟩ (fun r1 w9u1 hw1 => ?_)
  subst hw1
  exact g_iret X hA9 hQ9 hr9 hlk9 () [0, 1, 2] rfl rfl d_Relations_upperOf_8 (rfl)

set_option maxHeartbeats 4000000 in
set_option maxRecDepth 100000 in
theorem k_Relations_lowerOf (hr : Nat) (ru : Nat) (rw : Nat) (rk : Nat) (R : Nat) (sd : Nat) (aw : Nat) (fB : Nat → Int32) (j : Nat) (hj : j < 200) : CtI l y_Relations_lowerOf (Cond.code y_Relations_lowerOf c_Relations_lowerOf 2 (some .int) :: TB) ({ frames := 1, cells := 0, slots := 0, locals := 21 } : Room) D (tysv cI cJ cZ cQ) [.ref hr, .int (nI j)] [(hr, .inr (2, [.ref ru, .ref rw, .ref rk, .int (nI R), .int (nI sd)])), (rw, .inr (0, [.ref aw])), (aw, .inl (cI, 200, .inl fB))] 0 0 (fun (r : Int32) (_ : Unit) => r = fB j) (fun (_ : Unit) => [(hr, .inr (2, [.ref ru, .ref rw, .ref rk, .int (nI R), .int (nI sd)])), (rw, .inr (0, [.ref aw])), (aw, .inl (cI, 200, .inl fB))]) := by
  refine CtI.of c_Relations_lowerOf 2 (some .int) (by decide) rfl (Nat.le_of_ble_eq_true rfl) ?_
  intro p e s m args below meth c A Q hA9 hQ9 X hr9 hlk9 hin9
  refine g_aload_n X 0 d_Relations_lowerOf_0 rfl rfl ?_
  refine g_get (C := R_Relations) (T := T_Relations) (N := 5) X 0 1 in_Relations rfl rfl (by decide) t1_46 rfl rfl d_Relations_lowerOf_1 ?_
  refine g_iload_n X 1 d_Relations_lowerOf_4 rfl rfl ?_
  refine g_calliV (n := 1) X [.int (nI j)] (k_Cells_at rw aw 200 fB j (by omega) (by omega)) t2_137 t2_78 t2_79 t1_3 t2_80 rfl rfl (by decide +kernel) ⟨by decide, by decide⟩ [1, 2] [0] [(hr, .inr (2, [.ref ru, .ref rw, .ref rk, .int (nI R), .int (nI sd)]))] rfl rfl rfl rfl (by decide) 0 rfl rfl rfl rfl (Nat.le_of_ble_eq_true rfl) d_Relations_lowerOf_5 ⟨by decide, by decide⟩ (fun r1 w9u1 hw1 => ?_)
  subst hw1
  exact g_iret X hA9 hQ9 hr9 hlk9 () [0, 1, 2] rfl rfl d_Relations_lowerOf_8 (rfl)

set_option maxHeartbeats 4000000 in
set_option maxRecDepth 100000 in
theorem k_Relations_kindOf (hr : Nat) (ru : Nat) (rw : Nat) (rk : Nat) (R : Nat) (sd : Nat) (ak : Nat) (fK : Nat → Int32) (j : Nat) (hj : j < 200) : CtI l y_Relations_kindOf (Cond.code y_Relations_kindOf c_Relations_kindOf 2 (some .int) :: TB) ({ frames := 1, cells := 0, slots := 0, locals := 21 } : Room) D (tysv cI cJ cZ cQ) [.ref hr, .int (nI j)] [(hr, .inr (2, [.ref ru, .ref rw, .ref rk, .int (nI R), .int (nI sd)])), (rk, .inr (0, [.ref ak])), (ak, .inl (cI, 200, .inl fK))] 0 0 (fun (r : Int32) (_ : Unit) => r = fK j) (fun (_ : Unit) => [(hr, .inr (2, [.ref ru, .ref rw, .ref rk, .int (nI R), .int (nI sd)])), (rk, .inr (0, [.ref ak])), (ak, .inl (cI, 200, .inl fK))]) := by
  refine CtI.of c_Relations_kindOf 2 (some .int) (by decide) rfl (Nat.le_of_ble_eq_true rfl) ?_
  intro p e s m args below meth c A Q hA9 hQ9 X hr9 hlk9 hin9
  refine g_aload_n X 0 d_Relations_kindOf_0 rfl rfl ?_
  refine g_get (C := R_Relations) (T := T_Relations) (N := 5) X 0 2 in_Relations rfl rfl (by decide) t1_47 rfl rfl d_Relations_kindOf_1 ?_
  refine g_iload_n X 1 d_Relations_kindOf_4 rfl rfl ?_
  refine g_calliV (n := 1) X [.int (nI j)] (k_Cells_at rk ak 200 fK j (by omega) (by omega)) t2_137 t2_78 t2_79 t1_3 t2_80 rfl rfl (by decide +kernel) ⟨by decide, by decide⟩ [1, 2] [0] [(hr, .inr (2, [.ref ru, .ref rw, .ref rk, .int (nI R), .int (nI sd)]))] rfl rfl rfl rfl (by decide) 0 rfl rfl rfl rfl (Nat.le_of_ble_eq_true rfl) d_Relations_kindOf_5 ⟨by decide, by decide⟩ (fun r1 w9u1 hw1 => ?_)
  subst hw1
  exact g_iret X hA9 hQ9 hr9 hlk9 () [0, 1, 2] rfl rfl d_Relations_kindOf_8 (rfl)

set_option maxHeartbeats 4000000 in
set_option maxRecDepth 100000 in
theorem k_Relations_add (hr : Nat) (ru : Nat) (rw : Nat) (rk : Nat) (R : Nat) (sd : Nat) (au : Nat) (aw : Nat) (ak : Nat) (fA : Nat → Int32) (fB : Nat → Int32) (fK : Nat → Int32) (x : Int32) (y : Int32) (z : Int32) (hR : R < 200) (hs : sd ≤ 200) : CtI l y_Relations_add (Cond.code y_Relations_add c_Relations_add 4 (some .int) :: TB) ({ frames := 1, cells := 0, slots := 0, locals := 22 } : Room) D (tysv cI cJ cZ cQ) [.ref hr, .int x, .int y, .int z] [(hr, .inr (2, [.ref ru, .ref rw, .ref rk, .int (nI R), .int (nI sd)])), (ru, .inr (0, [.ref au])), (au, .inl (cI, 200, .inl fA)), (rw, .inr (0, [.ref aw])), (aw, .inl (cI, 200, .inl fB)), (rk, .inr (0, [.ref ak])), (ak, .inl (cI, 200, .inl fK))] 0 0 (fun (r : Int32) (_ : Unit) => r = nI R) (fun (_ : Unit) => [(hr, .inr (2, [.ref ru, .ref rw, .ref rk, .int (nI (R + 1)), .int (nI (sd + 1))])), (ru, .inr (0, [.ref au])), (au, .inl (cI, 200, .inl (upd fA R x))), (rw, .inr (0, [.ref aw])), (aw, .inl (cI, 200, .inl (upd fB R y))), (rk, .inr (0, [.ref ak])), (ak, .inl (cI, 200, .inl (upd fK R z)))]) := by
  refine CtI.of c_Relations_add 4 (some .int) (by decide) rfl (Nat.le_of_ble_eq_true rfl) ?_
  intro p e s m args below meth c A Q hA9 hQ9 X hr9 hlk9 hin9
  refine g_aload_n X 0 d_Relations_add_0 rfl rfl ?_
  refine g_get (C := R_Relations) (T := T_Relations) (N := 5) X 0 0 in_Relations rfl rfl (by decide) t1_45 rfl rfl d_Relations_add_1 ?_
  refine g_aload_n X 0 d_Relations_add_4 rfl rfl ?_
  refine g_get (C := R_Relations) (T := T_Relations) (N := 5) X 0 3 in_Relations rfl rfl (by decide) t1_48 rfl rfl d_Relations_add_5 ?_
  refine g_iload_n X 1 d_Relations_add_8 rfl rfl ?_
  refine g_callvV (n := 2) X [.int (nI R), .int x] (k_Cells_put ru au 200 fA R x (by omega) (by omega)) t2_123 t2_36 t2_37 t1_3 t2_38 rfl rfl (by decide +kernel) ⟨by decide, by decide⟩ [1, 2] [0, 3, 4, 5, 6] [(hr, .inr (2, [.ref ru, .ref rw, .ref rk, .int (nI R), .int (nI sd)])), (rw, .inr (0, [.ref aw])), (aw, .inl (cI, 200, .inl fB)), (rk, .inr (0, [.ref ak])), (ak, .inl (cI, 200, .inl fK))] rfl rfl rfl rfl (by decide) 0 rfl rfl rfl rfl (Nat.le_of_ble_eq_true rfl) d_Relations_add_9 ⟨by decide, by decide⟩ (fun w9u1 hw1 => ?_)
  refine g_aload_n X 0 d_Relations_add_12 rfl rfl ?_
  refine g_get (C := R_Relations) (T := T_Relations) (N := 5) X 0 1 in_Relations rfl rfl (by decide) t1_46 rfl rfl d_Relations_add_13 ?_
  refine g_aload_n X 0 d_Relations_add_16 rfl rfl ?_
  refine g_get (C := R_Relations) (T := T_Relations) (N := 5) X 0 3 in_Relations rfl rfl (by decide) t1_48 rfl rfl d_Relations_add_17 ?_
  refine g_iload_n X 2 d_Relations_add_20 rfl rfl ?_
  refine g_callvV (n := 2) X [.int (nI R), .int y] (k_Cells_put rw aw 200 fB R y (by omega) (by omega)) t2_123 t2_36 t2_37 t1_3 t2_38 rfl rfl (by decide +kernel) ⟨by decide, by decide⟩ [1, 2] [0, 3, 4, 5, 6] [(hr, .inr (2, [.ref ru, .ref rw, .ref rk, .int (nI R), .int (nI sd)])), (rk, .inr (0, [.ref ak])), (ak, .inl (cI, 200, .inl fK)), (ru, .inr (0, [.ref au])), (au, .inl (cI, 200, .inl (upd fA R x)))] rfl rfl rfl rfl (by decide) 0 rfl rfl rfl rfl (Nat.le_of_ble_eq_true rfl) d_Relations_add_21 ⟨by decide, by decide⟩ (fun w9u2 hw2 => ?_)
  refine g_aload_n X 0 d_Relations_add_24 rfl rfl ?_
  refine g_get (C := R_Relations) (T := T_Relations) (N := 5) X 0 2 in_Relations rfl rfl (by decide) t1_47 rfl rfl d_Relations_add_25 ?_
  refine g_aload_n X 0 d_Relations_add_28 rfl rfl ?_
  refine g_get (C := R_Relations) (T := T_Relations) (N := 5) X 0 3 in_Relations rfl rfl (by decide) t1_48 rfl rfl d_Relations_add_29 ?_
  refine g_iload_n X 3 d_Relations_add_32 rfl rfl ?_
  refine g_callvV (n := 2) X [.int (nI R), .int z] (k_Cells_put rk ak 200 fK R z (by omega) (by omega)) t2_123 t2_36 t2_37 t1_3 t2_38 rfl rfl (by decide +kernel) ⟨by decide, by decide⟩ [1, 2] [0, 3, 4, 5, 6] [(hr, .inr (2, [.ref ru, .ref rw, .ref rk, .int (nI R), .int (nI sd)])), (ru, .inr (0, [.ref au])), (au, .inl (cI, 200, .inl (upd fA R x))), (rw, .inr (0, [.ref aw])), (aw, .inl (cI, 200, .inl (upd fB R y)))] rfl rfl rfl rfl (by decide) 0 rfl rfl rfl rfl (Nat.le_of_ble_eq_true rfl) d_Relations_add_33 ⟨by decide, by decide⟩ (fun w9u3 hw3 => ?_)
  refine g_aload_n X 0 d_Relations_add_36 rfl rfl ?_
  refine g_dup X d_Relations_add_37 rfl ?_
  refine g_get (C := R_Relations) (T := T_Relations) (N := 5) X 0 3 in_Relations rfl rfl (by decide) t1_48 rfl rfl d_Relations_add_38 ?_
  refine g_iconst (v := nI 1) X d_Relations_add_41 rfl ?_
  refine g_iadd X (nI (R + 1)) d_Relations_add_42 (nI_add R 1) ?_
  refine g_put (C := R_Relations) (T := T_Relations) (N := 5) (ty := .int) X 0 3 [(hr, .inr (2, [.ref ru, .ref rw, .ref rk, .int (nI (R + 1)), .int (nI sd)])), (ru, .inr (0, [.ref au])), (au, .inl (cI, 200, .inl (upd fA R x))), (rw, .inr (0, [.ref aw])), (aw, .inl (cI, 200, .inl (upd fB R y))), (rk, .inr (0, [.ref ak])), (ak, .inl (cI, 200, .inl (upd fK R z)))] t_Relations ty_Relations nm_Relations in_Relations rfl rfl (by decide) t1_48 rfl rfl (by decide +kernel) rfl rfl (Nat.le_of_ble_eq_true rfl) rfl d_Relations_add_43 ?_
  refine g_aload_n X 0 d_Relations_add_46 rfl rfl ?_
  refine g_dup X d_Relations_add_47 rfl ?_
  refine g_get (C := R_Relations) (T := T_Relations) (N := 5) X 0 4 in_Relations rfl rfl (by decide) t1_49 rfl rfl d_Relations_add_48 ?_
  refine g_iconst (v := nI 1) X d_Relations_add_51 rfl ?_
  refine g_iadd X (nI (sd + 1)) d_Relations_add_52 (nI_add sd 1) ?_
  refine g_put (C := R_Relations) (T := T_Relations) (N := 5) (ty := .int) X 0 4 [(hr, .inr (2, [.ref ru, .ref rw, .ref rk, .int (nI (R + 1)), .int (nI (sd + 1))])), (ru, .inr (0, [.ref au])), (au, .inl (cI, 200, .inl (upd fA R x))), (rw, .inr (0, [.ref aw])), (aw, .inl (cI, 200, .inl (upd fB R y))), (rk, .inr (0, [.ref ak])), (ak, .inl (cI, 200, .inl (upd fK R z)))] t_Relations ty_Relations nm_Relations in_Relations rfl rfl (by decide) t1_49 rfl rfl (by decide +kernel) rfl rfl (Nat.le_of_ble_eq_true rfl) rfl d_Relations_add_53 ?_
  refine g_aload_n X 0 d_Relations_add_56 rfl rfl ?_
  refine g_get (C := R_Relations) (T := T_Relations) (N := 5) X 0 3 in_Relations rfl rfl (by decide) t1_48 rfl rfl d_Relations_add_57 ?_
  refine g_iconst (v := nI 1) X d_Relations_add_60 rfl ?_
  refine g_isub X (nI ((R + 1) - 1)) d_Relations_add_61 (pk_sub (by omega)) ?_
  exact g_iret X hA9 hQ9 hr9 hlk9 () [0, 1, 2, 3, 4, 5, 6] rfl rfl d_Relations_add_62 (by rw [Nat.add_sub_cancel])

set_option maxHeartbeats 4000000 in
set_option maxRecDepth 100000 in
theorem k_Relations_dropN (hr : Nat) (ru : Nat) (rw : Nat) (rk : Nat) (R : Nat) (sd : Nat) (ak : Nat) (fK : Nat → Int32) (j : Nat) (hj : j < 200) (hk : fK j = -1) : CtI l y_Relations_drop (Cond.code y_Relations_drop c_Relations_drop 2 (some .boolean) :: TB) ({ frames := 1, cells := 0, slots := 0, locals := 21 } : Room) D (tysv cI cJ cZ cQ) [.ref hr, .int (nI j)] [(hr, .inr (2, [.ref ru, .ref rw, .ref rk, .int (nI R), .int (nI sd)])), (rk, .inr (0, [.ref ak])), (ak, .inl (cI, 200, .inl fK))] 0 0 (fun (r : Int32) (_ : Unit) => r = bI false) (fun (_ : Unit) => [(hr, .inr (2, [.ref ru, .ref rw, .ref rk, .int (nI R), .int (nI sd)])), (rk, .inr (0, [.ref ak])), (ak, .inl (cI, 200, .inl fK))]) := by
  refine CtI.of c_Relations_drop 2 (some .boolean) (by decide) rfl (Nat.le_of_ble_eq_true rfl) ?_
  intro p e s m args below meth c A Q hA9 hQ9 X hr9 hlk9 hin9
  refine g_aload_n X 0 d_Relations_drop_0 rfl rfl ?_
  refine g_get (C := R_Relations) (T := T_Relations) (N := 5) X 0 2 in_Relations rfl rfl (by decide) t1_47 rfl rfl d_Relations_drop_1 ?_
  refine g_iload_n X 1 d_Relations_drop_4 rfl rfl ?_
  refine g_calliV (n := 1) X [.int (nI j)] (k_Cells_at rk ak 200 fK j (by omega) (by omega)) t2_137 t2_78 t2_79 t1_3 t2_80 rfl rfl (by decide +kernel) ⟨by decide, by decide⟩ [1, 2] [0] [(hr, .inr (2, [.ref ru, .ref rw, .ref rk, .int (nI R), .int (nI sd)]))] rfl rfl rfl rfl (by decide) 0 rfl rfl rfl rfl (Nat.le_of_ble_eq_true rfl) d_Relations_drop_5 ⟨by decide, by decide⟩ (fun r1 w9u1 hw1 => ?_)
  subst hw1
  refine g_iconst (v := -1) X d_Relations_drop_8 rfl ?_
  refine g_icmp_ne X 14 d_Relations_drop_9 (by decide) (fun h9 => absurd h9 (fun q => q hk)) (fun h9 => ?_)
  refine g_iconst (v := nI 0) X d_Relations_drop_12 rfl ?_
  exact g_zret X hA9 hQ9 hr9 (by first | exact Or.inl rfl | exact Or.inr rfl) hlk9 () [0, 1, 2] rfl rfl d_Relations_drop_13 (rfl)

set_option maxHeartbeats 4000000 in
set_option maxRecDepth 100000 in
theorem k_Relations_drop (hr : Nat) (ru : Nat) (rw : Nat) (rk : Nat) (R : Nat) (sd : Nat) (ak : Nat) (fK : Nat → Int32) (j : Nat) (hj : j < 200) (hk : ¬ fK j = -1) (hs : 0 < sd) : CtI l y_Relations_drop (Cond.code y_Relations_drop c_Relations_drop 2 (some .boolean) :: TB) ({ frames := 1, cells := 0, slots := 0, locals := 22 } : Room) D (tysv cI cJ cZ cQ) [.ref hr, .int (nI j)] [(hr, .inr (2, [.ref ru, .ref rw, .ref rk, .int (nI R), .int (nI sd)])), (rk, .inr (0, [.ref ak])), (ak, .inl (cI, 200, .inl fK))] 0 0 (fun (r : Int32) (_ : Unit) => r = bI true) (fun (_ : Unit) => [(hr, .inr (2, [.ref ru, .ref rw, .ref rk, .int (nI R), .int (nI (sd - 1))])), (rk, .inr (0, [.ref ak])), (ak, .inl (cI, 200, .inl (upd fK j (-1))))]) := by
  refine CtI.of c_Relations_drop 2 (some .boolean) (by decide) rfl (Nat.le_of_ble_eq_true rfl) ?_
  intro p e s m args below meth c A Q hA9 hQ9 X hr9 hlk9 hin9
  refine g_aload_n X 0 d_Relations_drop_0 rfl rfl ?_
  refine g_get (C := R_Relations) (T := T_Relations) (N := 5) X 0 2 in_Relations rfl rfl (by decide) t1_47 rfl rfl d_Relations_drop_1 ?_
  refine g_iload_n X 1 d_Relations_drop_4 rfl rfl ?_
  refine g_calliV (n := 1) X [.int (nI j)] (k_Cells_at rk ak 200 fK j (by omega) (by omega)) t2_137 t2_78 t2_79 t1_3 t2_80 rfl rfl (by decide +kernel) ⟨by decide, by decide⟩ [1, 2] [0] [(hr, .inr (2, [.ref ru, .ref rw, .ref rk, .int (nI R), .int (nI sd)]))] rfl rfl rfl rfl (by decide) 0 rfl rfl rfl rfl (Nat.le_of_ble_eq_true rfl) d_Relations_drop_5 ⟨by decide, by decide⟩ (fun r1 w9u1 hw1 => ?_)
  subst hw1
  refine g_iconst (v := -1) X d_Relations_drop_8 rfl ?_
  refine g_icmp_ne X 14 d_Relations_drop_9 (by decide) (fun h9 => ?_) (fun h9 => absurd h9 (hk))
  refine g_aload_n X 0 d_Relations_drop_14 rfl rfl ?_
  refine g_get (C := R_Relations) (T := T_Relations) (N := 5) X 0 2 in_Relations rfl rfl (by decide) t1_47 rfl rfl d_Relations_drop_15 ?_
  refine g_iload_n X 1 d_Relations_drop_18 rfl rfl ?_
  refine g_iconst (v := -1) X d_Relations_drop_19 rfl ?_
  refine g_callvV (n := 2) X [.int (nI j), .int (-1)] (k_Cells_put rk ak 200 fK j (-1) (by omega) (by omega)) t2_123 t2_36 t2_37 t1_3 t2_38 rfl rfl (by decide +kernel) ⟨by decide, by decide⟩ [1, 2] [0] [(hr, .inr (2, [.ref ru, .ref rw, .ref rk, .int (nI R), .int (nI sd)]))] rfl rfl rfl rfl (by decide) 0 rfl rfl rfl rfl (Nat.le_of_ble_eq_true rfl) d_Relations_drop_20 ⟨by decide, by decide⟩ (fun w9u2 hw2 => ?_)
  refine g_aload_n X 0 d_Relations_drop_23 rfl rfl ?_
  refine g_dup X d_Relations_drop_24 rfl ?_
  refine g_get (C := R_Relations) (T := T_Relations) (N := 5) X 0 4 in_Relations rfl rfl (by decide) t1_49 rfl rfl d_Relations_drop_25 ?_
  refine g_iconst (v := nI 1) X d_Relations_drop_28 rfl ?_
  refine g_isub X (nI (sd - 1)) d_Relations_drop_29 (pk_sub (by omega)) ?_
  refine g_put (C := R_Relations) (T := T_Relations) (N := 5) (ty := .int) X 0 4 [(hr, .inr (2, [.ref ru, .ref rw, .ref rk, .int (nI R), .int (nI (sd - 1))])), (rk, .inr (0, [.ref ak])), (ak, .inl (cI, 200, .inl (upd fK j (-1))))] t_Relations ty_Relations nm_Relations in_Relations rfl rfl (by decide) t1_49 rfl rfl (by decide +kernel) rfl rfl (Nat.le_of_ble_eq_true rfl) rfl d_Relations_drop_30 ?_
  refine g_iconst (v := nI 1) X d_Relations_drop_33 rfl ?_
  exact g_zret X hA9 hQ9 hr9 (by first | exact Or.inl rfl | exact Or.inr rfl) hlk9 () [0, 1, 2] rfl rfl d_Relations_drop_34 (rfl)

set_option maxHeartbeats 4000000 in
set_option maxRecDepth 100000 in
theorem k_Relations_init (hr : Nat)  : CtV l y_Relations_init (Cond.code y_Relations_init c_Relations_init 1 none :: TB) ({ frames := 2, cells := 6, slots := 603, locals := 36 } : Room) D (tysv cI cJ cZ cQ) [.ref hr] [(hr, .inr (2, [.null, .null, .null, .int (nI 0), .int (nI 0)]))] 6 603 (fun (u : Nat × Nat × Nat × Nat × Nat × Nat × (Nat → Int32) × (Nat → Int32) × (Nat → Int32)) => (∀ k, k < 200 → u.2.2.2.2.2.2.1 k = -1) ∧ (∀ k, k < 200 → u.2.2.2.2.2.2.2.1 k = -1) ∧ (∀ k, k < 200 → u.2.2.2.2.2.2.2.2 k = -1)) (fun (u : Nat × Nat × Nat × Nat × Nat × Nat × (Nat → Int32) × (Nat → Int32) × (Nat → Int32)) => [(hr, .inr (2, [.ref u.1, .ref u.2.2.1, .ref u.2.2.2.2.1, .int (nI 0), .int (nI 0)])), (u.1, .inr (0, [.ref u.2.1])), (u.2.1, .inl (cI, 200, .inl u.2.2.2.2.2.2.1)), (u.2.2.1, .inr (0, [.ref u.2.2.2.1])), (u.2.2.2.1, .inl (cI, 200, .inl u.2.2.2.2.2.2.2.1)), (u.2.2.2.2.1, .inr (0, [.ref u.2.2.2.2.2.1])), (u.2.2.2.2.2.1, .inl (cI, 200, .inl u.2.2.2.2.2.2.2.2))]) := by
  refine CtV.of c_Relations_init 1 none (by decide) rfl (Nat.le_of_ble_eq_true rfl) ?_
  intro p e s m args below meth c A Q hA9 hQ9 X hr9 hlk9 hin9
  refine g_aload_n X 0 d_Relations_init_0 rfl rfl ?_
  refine g_objInit X t1_30 t1_23 t1_24 d_Relations_init_1 (by decide) (Nat.le_of_ble_eq_true rfl) ?_
  refine g_aload_n X 0 d_Relations_init_4 rfl rfl ?_
  refine g_new (ci := 0) (fs := [.null]) (C := R_Cells) (T := T_Cells) (N := 1) X t_Cells ty_Cells in_Cells t1_31 t1_32 t1_3 rfl (fun j hj => by rcases (show j = 0 by omega) with rfl <;> rfl) (by decide) (by decide) d_Relations_init_5 (fun q1 => ?_)
  refine g_dup X d_Relations_init_8 rfl ?_
  refine g_sipush (v := nI 200) X d_Relations_init_9 rfl ?_
  refine g_callvI (n := 1) X [.int (nI 200)] (k_Cells_init200 q1 ) t1_33 t1_34 rfl t1_3 t1_35 rfl rfl (by decide +kernel) ⟨by decide, by decide⟩ [1] [0] [(hr, .inr (2, [.null, .null, .null, .int (nI 0), .int (nI 0)]))] rfl rfl rfl rfl (by decide) rfl rfl (Nat.le_of_ble_eq_true rfl) d_Relations_init_12 ⟨by decide, by decide⟩ (fun ⟨q_2, g_2⟩ w1 => ?_)
  refine g_putF (C := R_Relations) (T := T_Relations) (N := 5) (ty := .object "RelationOrder$Cells") X 0 0 [(hr, .inr (2, [.ref q1, .null, .null, .int (nI 0), .int (nI 0)])), (q1, .inr (0, [.ref q_2])), (q_2, .inl (cI, 200, .inl g_2))] t_Relations ty_Relations nm_Relations in_Relations rfl rfl (by decide) t1_45 rfl rfl hin9 rfl (by decide +kernel) rfl rfl (Nat.le_of_ble_eq_true rfl) rfl d_Relations_init_15 ?_
  refine g_aload_n X 0 d_Relations_init_18 rfl rfl ?_
  refine g_new (ci := 0) (fs := [.null]) (C := R_Cells) (T := T_Cells) (N := 1) X t_Cells ty_Cells in_Cells t1_31 t1_32 t1_3 rfl (fun j hj => by rcases (show j = 0 by omega) with rfl <;> rfl) (by decide) (by decide) d_Relations_init_19 (fun q3 => ?_)
  refine g_dup X d_Relations_init_22 rfl ?_
  refine g_sipush (v := nI 200) X d_Relations_init_23 rfl ?_
  refine g_callvI (n := 1) X [.int (nI 200)] (k_Cells_init200 q3 ) t1_33 t1_34 rfl t1_3 t1_35 rfl rfl (by decide +kernel) ⟨by decide, by decide⟩ [3] [0, 1, 2] [(hr, .inr (2, [.ref q1, .null, .null, .int (nI 0), .int (nI 0)])), (q1, .inr (0, [.ref q_2])), (q_2, .inl (cI, 200, .inl g_2))] rfl rfl rfl rfl (by decide) rfl rfl (Nat.le_of_ble_eq_true rfl) d_Relations_init_26 ⟨by decide, by decide⟩ (fun ⟨q_4, g_4⟩ w2 => ?_)
  refine g_putF (C := R_Relations) (T := T_Relations) (N := 5) (ty := .object "RelationOrder$Cells") X 0 1 [(hr, .inr (2, [.ref q1, .ref q3, .null, .int (nI 0), .int (nI 0)])), (q1, .inr (0, [.ref q_2])), (q_2, .inl (cI, 200, .inl g_2)), (q3, .inr (0, [.ref q_4])), (q_4, .inl (cI, 200, .inl g_4))] t_Relations ty_Relations nm_Relations in_Relations rfl rfl (by decide) t1_46 rfl rfl hin9 rfl (by decide +kernel) rfl rfl (Nat.le_of_ble_eq_true rfl) rfl d_Relations_init_29 ?_
  refine g_aload_n X 0 d_Relations_init_32 rfl rfl ?_
  refine g_new (ci := 0) (fs := [.null]) (C := R_Cells) (T := T_Cells) (N := 1) X t_Cells ty_Cells in_Cells t1_31 t1_32 t1_3 rfl (fun j hj => by rcases (show j = 0 by omega) with rfl <;> rfl) (by decide) (by decide) d_Relations_init_33 (fun q5 => ?_)
  refine g_dup X d_Relations_init_36 rfl ?_
  refine g_sipush (v := nI 200) X d_Relations_init_37 rfl ?_
  refine g_callvI (n := 1) X [.int (nI 200)] (k_Cells_init200 q5 ) t1_33 t1_34 rfl t1_3 t1_35 rfl rfl (by decide +kernel) ⟨by decide, by decide⟩ [5] [0, 1, 2, 3, 4] [(hr, .inr (2, [.ref q1, .ref q3, .null, .int (nI 0), .int (nI 0)])), (q1, .inr (0, [.ref q_2])), (q_2, .inl (cI, 200, .inl g_2)), (q3, .inr (0, [.ref q_4])), (q_4, .inl (cI, 200, .inl g_4))] rfl rfl rfl rfl (by decide) rfl rfl (Nat.le_of_ble_eq_true rfl) d_Relations_init_40 ⟨by decide, by decide⟩ (fun ⟨q_6, g_6⟩ w3 => ?_)
  refine g_putF (C := R_Relations) (T := T_Relations) (N := 5) (ty := .object "RelationOrder$Cells") X 0 2 [(hr, .inr (2, [.ref q1, .ref q3, .ref q5, .int (nI 0), .int (nI 0)])), (q1, .inr (0, [.ref q_2])), (q_2, .inl (cI, 200, .inl g_2)), (q3, .inr (0, [.ref q_4])), (q_4, .inl (cI, 200, .inl g_4)), (q5, .inr (0, [.ref q_6])), (q_6, .inl (cI, 200, .inl g_6))] t_Relations ty_Relations nm_Relations in_Relations rfl rfl (by decide) t1_47 rfl rfl hin9 rfl (by decide +kernel) rfl rfl (Nat.le_of_ble_eq_true rfl) rfl d_Relations_init_43 ?_
  refine g_aload_n X 0 d_Relations_init_46 rfl rfl ?_
  refine g_iconst (v := nI 0) X d_Relations_init_47 rfl ?_
  refine g_put (C := R_Relations) (T := T_Relations) (N := 5) (ty := .int) X 0 3 [(hr, .inr (2, [.ref q1, .ref q3, .ref q5, .int (nI 0), .int (nI 0)])), (q1, .inr (0, [.ref q_2])), (q_2, .inl (cI, 200, .inl g_2)), (q3, .inr (0, [.ref q_4])), (q_4, .inl (cI, 200, .inl g_4)), (q5, .inr (0, [.ref q_6])), (q_6, .inl (cI, 200, .inl g_6))] t_Relations ty_Relations nm_Relations in_Relations rfl rfl (by decide) t1_48 rfl rfl (by decide +kernel) rfl rfl (Nat.le_of_ble_eq_true rfl) rfl d_Relations_init_48 ?_
  refine g_aload_n X 0 d_Relations_init_51 rfl rfl ?_
  refine g_iconst (v := nI 0) X d_Relations_init_52 rfl ?_
  refine g_put (C := R_Relations) (T := T_Relations) (N := 5) (ty := .int) X 0 4 [(hr, .inr (2, [.ref q1, .ref q3, .ref q5, .int (nI 0), .int (nI 0)])), (q1, .inr (0, [.ref q_2])), (q_2, .inl (cI, 200, .inl g_2)), (q3, .inr (0, [.ref q_4])), (q_4, .inl (cI, 200, .inl g_4)), (q5, .inr (0, [.ref q_6])), (q_6, .inl (cI, 200, .inl g_6))] t_Relations ty_Relations nm_Relations in_Relations rfl rfl (by decide) t1_49 rfl rfl (by decide +kernel) rfl rfl (Nat.le_of_ble_eq_true rfl) rfl d_Relations_init_53 ?_
  exact g_vret X hA9 hQ9 hr9 hlk9 ⟨q1, q_2, q3, q_4, q5, q_6, g_2, g_4, g_6⟩ [0, 1, 2, 3, 4, 5, 6] rfl rfl d_Relations_init_56 (by (try dsimp only); exact (⟨w1, w2, w3⟩))

set_option maxHeartbeats 4000000 in
set_option maxRecDepth 100000 in
theorem k_Ring_init (h : Nat)  : CtV l y_Ring_init (Cond.code y_Ring_init c_Ring_init 1 none :: TB) ({ frames := 2, cells := 3, slots := 97, locals := 36 } : Room) D (tysv cI cJ cZ cQ) [.ref h] [(h, .inr (3, [.null, .null, .int (nI 0)]))] 3 97 (fun (u : Nat × Nat × Nat × (Nat → Int32)) => True) (fun (u : Nat × Nat × Nat × (Nat → Int32)) => [(h, .inr (3, [.ref u.1, .ref u.2.2.1, .int (nI 0)])), (u.1, .inr (0, [.ref u.2.1])), (u.2.1, .inl (cI, 48, .inl u.2.2.2)), (u.2.2.1, .inl (cJ, 48, .inr (.inl (fun _ => 0))))]) := by
  refine CtV.of c_Ring_init 1 none (by decide) rfl (Nat.le_of_ble_eq_true rfl) ?_
  intro p e s m args below meth c A Q hA9 hQ9 X hr9 hlk9 hin9
  refine g_aload_n X 0 d_Ring_init_0 rfl rfl ?_
  refine g_objInit X t1_102 t1_23 t1_24 d_Ring_init_1 (by decide) (Nat.le_of_ble_eq_true rfl) ?_
  refine g_aload_n X 0 d_Ring_init_4 rfl rfl ?_
  refine g_new (ci := 0) (fs := [.null]) (C := R_Cells) (T := T_Cells) (N := 1) X t_Cells ty_Cells in_Cells t1_103 t1_32 t1_3 rfl (fun j hj => by rcases (show j = 0 by omega) with rfl <;> rfl) (by decide) (by decide) d_Ring_init_5 (fun q1 => ?_)
  refine g_dup X d_Ring_init_8 rfl ?_
  refine g_bipush (v := nI 48) X d_Ring_init_9 rfl ?_
  refine g_callvI (n := 1) X [.int (nI 48)] (k_Cells_init48 q1 ) t1_104 t1_34 rfl t1_3 t1_35 rfl rfl (by decide +kernel) ⟨by decide, by decide⟩ [1] [0] [(h, .inr (3, [.null, .null, .int (nI 0)]))] rfl rfl rfl rfl (by decide) rfl rfl (Nat.le_of_ble_eq_true rfl) d_Ring_init_11 ⟨by decide, by decide⟩ (fun ⟨q_2, g_2⟩ hw2 => ?_)
  refine g_putF (C := R_Ring) (T := T_Ring) (N := 3) (ty := .object "RelationOrder$Cells") X 0 0 [(h, .inr (3, [.ref q1, .null, .int (nI 0)])), (q1, .inr (0, [.ref q_2])), (q_2, .inl (cI, 48, .inl g_2))] t_Ring ty_Ring nm_Ring in_Ring rfl rfl (by decide) t1_105 rfl rfl hin9 rfl (by decide +kernel) rfl rfl (Nat.le_of_ble_eq_true rfl) rfl d_Ring_init_14 ?_
  refine g_aload_n X 0 d_Ring_init_17 rfl rfl ?_
  refine g_bipush (v := nI 48) X d_Ring_init_18 rfl ?_
  refine g_newaJ X 1 rfl t1_83 (by omega) (by decide) (by decide) d_Ring_init_20 (fun q3 => ?_)
  refine g_putF (C := R_Ring) (T := T_Ring) (N := 3) (ty := .array .long) X 0 1 [(h, .inr (3, [.ref q1, .ref q3, .int (nI 0)])), (q1, .inr (0, [.ref q_2])), (q_2, .inl (cI, 48, .inl g_2)), (q3, .inl (cJ, 48, .inr (.inl (fun _ => 0))))] t_Ring ty_Ring nm_Ring in_Ring rfl rfl (by decide) t1_106 rfl rfl hin9 rfl (by decide +kernel) rfl rfl (Nat.le_of_ble_eq_true rfl) rfl d_Ring_init_22 ?_
  refine g_aload_n X 0 d_Ring_init_25 rfl rfl ?_
  refine g_iconst (v := nI 0) X d_Ring_init_26 rfl ?_
  refine g_put (C := R_Ring) (T := T_Ring) (N := 3) (ty := .int) X 0 2 [(h, .inr (3, [.ref q1, .ref q3, .int (nI 0)])), (q1, .inr (0, [.ref q_2])), (q_2, .inl (cI, 48, .inl g_2)), (q3, .inl (cJ, 48, .inr (.inl (fun _ => 0))))] t_Ring ty_Ring nm_Ring in_Ring rfl rfl (by decide) t1_107 rfl rfl (by decide +kernel) rfl rfl (Nat.le_of_ble_eq_true rfl) rfl d_Ring_init_27 ?_
  exact g_vret X hA9 hQ9 hr9 hlk9 ⟨q1, q_2, q3, g_2⟩ [0, 1, 2, 3] rfl rfl d_Ring_init_30 (trivial)

set_option maxHeartbeats 4000000 in
set_option maxRecDepth 100000 in
theorem k_Ring_place (h : Nat) (rp : Nat) (ly : Nat) (d : Nat) (ap : Nat) (P : Nat → Int32) (k : Nat) (hk : k < d) (hd : d ≤ 48) : CtI l y_Ring_place (Cond.code y_Ring_place c_Ring_place 2 (some .int) :: TB) ({ frames := 1, cells := 0, slots := 0, locals := 21 } : Room) D (tysv cI cJ cZ cQ) [.ref h, .int (nI k)] [(h, .inr (3, [.ref rp, .ref ly, .int (nI d)])), (rp, .inr (0, [.ref ap])), (ap, .inl (cI, 48, .inl P))] 0 0 (fun (r : Int32) (_ : Unit) => r = P k) (fun (_ : Unit) => [(h, .inr (3, [.ref rp, .ref ly, .int (nI d)])), (rp, .inr (0, [.ref ap])), (ap, .inl (cI, 48, .inl P))]) := by
  refine CtI.of c_Ring_place 2 (some .int) (by decide) rfl (Nat.le_of_ble_eq_true rfl) ?_
  intro p e s m args below meth c A Q hA9 hQ9 X hr9 hlk9 hin9
  refine g_iload_n X 1 d_Ring_place_0 rfl rfl ?_
  refine g_aload_n X 0 d_Ring_place_1 rfl rfl ?_
  refine g_get (C := R_Ring) (T := T_Ring) (N := 3) X 0 2 in_Ring rfl rfl (by decide) t1_107 rfl rfl d_Ring_place_2 ?_
  refine n_icmp_ge X 19 d_Ring_place_5 (by decide) (by omega) (by omega) (fun h5 => absurd h5 (by omega)) (fun h5 => ?_)
  refine g_aload_n X 0 d_Ring_place_8 rfl rfl ?_
  refine g_get (C := R_Ring) (T := T_Ring) (N := 3) X 0 0 in_Ring rfl rfl (by decide) t1_105 rfl rfl d_Ring_place_9 ?_
  refine g_iload_n X 1 d_Ring_place_12 rfl rfl ?_
  refine g_calliV (n := 1) X [.int (nI k)] (k_Cells_at rp ap 48 P k (by omega) (by omega)) t2_176 t2_78 t2_79 t1_3 t2_80 rfl rfl (by decide +kernel) ⟨by decide, by decide⟩ [1, 2] [0] [(h, .inr (3, [.ref rp, .ref ly, .int (nI d)]))] rfl rfl rfl rfl (by decide) 0 rfl rfl rfl rfl (Nat.le_of_ble_eq_true rfl) d_Ring_place_13 ⟨by decide, by decide⟩ (fun r1 w9u1 hw1 => ?_)
  subst hw1
  refine g_goto X 20 d_Ring_place_16 (by decide) ?_
  exact g_iret X hA9 hQ9 hr9 hlk9 () [0, 1, 2] rfl rfl d_Ring_place_20 (rfl)

set_option maxHeartbeats 4000000 in
set_option maxRecDepth 100000 in
theorem k_Ring_placeN (h : Nat) (rp : Nat) (ly : Nat) (d : Nat) (k : Nat) (hk : d ≤ k) (hk2 : k < 2 ^ 31) : CtI l y_Ring_place (Cond.code y_Ring_place c_Ring_place 2 (some .int) :: TB) ({ frames := 0, cells := 0, slots := 0, locals := 0 } : Room) D (tysv cI cJ cZ cQ) [.ref h, .int (nI k)] [(h, .inr (3, [.ref rp, .ref ly, .int (nI d)]))] 0 0 (fun (r : Int32) (_ : Unit) => r = -1) (fun (_ : Unit) => [(h, .inr (3, [.ref rp, .ref ly, .int (nI d)]))]) := by
  refine CtI.of c_Ring_place 2 (some .int) (by decide) rfl (Nat.le_of_ble_eq_true rfl) ?_
  intro p e s m args below meth c A Q hA9 hQ9 X hr9 hlk9 hin9
  refine g_iload_n X 1 d_Ring_place_0 rfl rfl ?_
  refine g_aload_n X 0 d_Ring_place_1 rfl rfl ?_
  refine g_get (C := R_Ring) (T := T_Ring) (N := 3) X 0 2 in_Ring rfl rfl (by decide) t1_107 rfl rfl d_Ring_place_2 ?_
  refine n_icmp_ge X 19 d_Ring_place_5 (by decide) (by omega) (by omega) (fun h5 => ?_) (fun h5 => absurd h5 (by omega))
  refine g_iconst (v := -1) X d_Ring_place_19 rfl ?_
  exact g_iret X hA9 hQ9 hr9 hlk9 () [0] rfl rfl d_Ring_place_20 (rfl)

set_option maxHeartbeats 4000000 in
set_option maxRecDepth 100000 in
theorem k_Ring_measure (h : Nat) (rp : Nat) (ly : Nat) (ln : Int32) (Y : Nat → Int64) (h2 : Nat) (a2 : Nat) (n : Nat) (f : Nat → Int64) (t : Nat) (d : Nat) (hn : n ≤ 48) (ht : t < n) (hf : ∀ x, x < n → ∀ j, lb (f x) j = true → j < n) (hd : gD (rowE n f) t d t) : CtI l y_Ring_measure (Cond.code y_Ring_measure c_Ring_measure 8 (some .int) :: TB) ({ frames := 1, cells := 0, slots := 0, locals := 25 } : Room) D (tysv cI cJ cZ cQ) [.ref h, .ref h2, .int (nI t)] [(h, .inr (3, [.ref rp, .ref ly, .int ln])), (ly, .inl (cJ, 48, .inr (.inl Y))), (h2, .inr (1, [.ref a2])), (a2, .inl (cJ, n, .inr (.inl f)))] 0 0 (fun (r : Int32) (Z : Nat → Int64) => r = nI d ∧ layY (rowE n f) t d Z) (fun (Z : Nat → Int64) => [(h, .inr (3, [.ref rp, .ref ly, .int ln])), (ly, .inl (cJ, 48, .inr (.inl Z))), (h2, .inr (1, [.ref a2])), (a2, .inl (cJ, n, .inr (.inl f)))]) := by
  refine CtI.of c_Ring_measure 8 (some .int) (by decide) rfl (Nat.le_of_ble_eq_true rfl) ?_
  intro p e s m args below meth c A Q hA9 hQ9 X hr9 hlk9 hin9
  have L10 : ∀ (N10 : Nat) (i : Nat) (Z : Nat → Int64) (w : Int64) (sn : Int64), (48 - i) < N10 → (i ≤ 48) → (lay (rowE n f) t i w) → (seenL (rowE n f) t i sn) → (layY (rowE n f) t i Z) → (∀ j, j < i → ¬ gD (rowE n f) t (j + 1) t) → G p l e ({ frames := 1, cells := 0, slots := 0, locals := 25 } : Room) s m args below meth c 8 D A s.heap Q 0 0 [(h, .inr (3, [.ref rp, .ref ly, .int ln])), (ly, .inl (cJ, 48, .inr (.inl Z))), (h2, .inr (1, [.ref a2])), (a2, .inl (cJ, n, .inr (.inl f)))] [(0, .ref h), (1, .ref h2), (2, .int (nI t)), (3, .long w), (5, .long sn), (7, .int (nI i))] 10 [] := by
    intro N10
    induction N10 with
    | zero =>
      intro i Z w sn hN
      exact absurd hN (Nat.not_lt_zero _)
    | succ N10 ih10 =>
      intro i Z w sn hN10 hi hw hs hY hno
      refine g_iload X 7 d_Ring_measure_10 rfl ?_
      refine g_aload_n X 0 d_Ring_measure_12 rfl rfl ?_
      refine g_get (C := R_Ring) (T := T_Ring) (N := 3) X 0 1 in_Ring rfl rfl (by decide) t1_106 rfl rfl d_Ring_measure_13 ?_
      refine g_alen X 1 1 rfl rfl d_Ring_measure_16 ?_
      refine n_icmp_ge X 74 d_Ring_measure_17 (by decide) (by omega) (by omega) (fun h17 => absurd h17 (by have := lay_lt (rowE_gin hf) hd hno; omega)) (fun h17 => ?_)
      refine g_lload_n X 3 d_Ring_measure_20 rfl rfl ?_
      refine g_lconst (v := 0) X d_Ring_measure_21 rfl ?_
      refine g_lcmp X d_Ring_measure_22 ?_
      refine lc_if_eq X 74 d_Ring_measure_23 (by decide) (fun h23 => absurd h23 (lay_ne hw hd hno)) (fun h23 => ?_)
      refine g_aload_n X 1 d_Ring_measure_26 rfl rfl ?_
      refine g_lload_n X 3 d_Ring_measure_27 rfl rfl ?_
      refine g_calllV (n := 1) X [.long w] (k_Rows_above h2 a2 n f w (by omega)) t2_101 t2_102 t2_103 t1_6 t2_104 rfl rfl (by decide +kernel) ⟨by decide, by decide⟩ [2, 3] [0, 1] [(h, .inr (3, [.ref rp, .ref ly, .int ln])), (ly, .inl (cJ, 48, .inr (.inl Z)))] rfl rfl rfl rfl (by decide) 0 rfl rfl rfl rfl (Nat.le_of_ble_eq_true rfl) d_Ring_measure_28 ⟨by decide, by decide⟩ (fun r1 w9u1 hab => ?_)
      refine g_lload X 5 d_Ring_measure_31 rfl ?_
      refine g_ldc2 (v := -1) X t2_105 d_Ring_measure_33 ?_
      refine g_lxor X (sn ^^^ (-1)) d_Ring_measure_36 rfl ?_
      refine g_land X (r1 &&& (sn ^^^ (-1))) d_Ring_measure_37 rfl ?_
      refine g_topl (fun w2 ew2 => ?_)
      have hl : ∀ x, lb w2 x = true ↔ gD (rowE n f) t (i + 1) x := by rw [ew2]; exact lay_step hw hs (by omega) hab hf hn
      refine g_lstore_n X [(3, .long w2), (0, .ref h), (1, .ref h2), (2, .int (nI t)), (5, .long sn), (7, .int (nI i))] d_Ring_measure_38 rfl (by decide) rfl ?_
      refine g_aload_n X 0 d_Ring_measure_39 rfl rfl ?_
      refine g_get (C := R_Ring) (T := T_Ring) (N := 3) X 0 1 in_Ring rfl rfl (by decide) t1_106 rfl rfl d_Ring_measure_40 ?_
      refine g_iload X 7 d_Ring_measure_43 rfl ?_
      refine g_lload_n X 3 d_Ring_measure_45 rfl rfl ?_
      refine g_last X 1 1 [(h, .inr (3, [.ref rp, .ref ly, .int ln])), (ly, .inl (cJ, 48, .inr (.inl (vp_updL Z i w2)))), (h2, .inr (1, [.ref a2])), (a2, .inl (cJ, n, .inr (.inl f)))] rfl rfl (by omega) (by omega) rfl d_Ring_measure_46 ?_
      refine g_lload X 5 d_Ring_measure_47 rfl ?_
      refine g_lload_n X 3 d_Ring_measure_49 rfl rfl ?_
      refine g_lor X (sn ||| w2) d_Ring_measure_50 rfl ?_
      refine g_lstore X [(5, .long (sn ||| w2)), (3, .long w2), (0, .ref h), (1, .ref h2), (2, .int (nI t)), (7, .int (nI i))] d_Ring_measure_51 (by decide) rfl ?_
      refine g_lload_n X 3 d_Ring_measure_53 rfl rfl ?_
      refine g_iload_n X 2 d_Ring_measure_54 rfl rfl ?_
      refine g_lushr X (((w2).toUInt64 >>> ((nI t).toInt64.toUInt64 &&& Int64.toUInt64 63)).toInt64) d_Ring_measure_55 rfl ?_
      refine g_lconst (v := 1) X d_Ring_measure_56 rfl ?_
      refine g_land X ((((w2).toUInt64 >>> ((nI t).toInt64.toUInt64 &&& Int64.toUInt64 63)).toInt64) &&& 1) d_Ring_measure_57 rfl ?_
      refine g_lconst (v := 0) X d_Ring_measure_58 rfl ?_
      refine g_lcmp X d_Ring_measure_59 ?_
      refine bit_if_eq X 68 d_Ring_measure_60 (by decide) (by omega) (fun h60 => ?_) (fun h60 => ?_)
      · refine g_iinc X (nI (i + 1)) [(7, .int (nI (i + 1))), (5, .long (sn ||| w2)), (3, .long w2), (0, .ref h), (1, .ref h2), (2, .int (nI t))] d_Ring_measure_68 (k := 5) rfl (nI_1 i) (by decide) rfl ?_
        refine g_goto X 10 d_Ring_measure_71 (by decide) ?_
        refine g_lv [3, 4, 5, 2, 1, 0] rfl ?_
        exact ih10 (i + 1) (vp_updL Z i w2) w2 (sn ||| w2) (by omega) (by omega) (lay_next hl) (seen_next hs hl) (layY_next hY hl) (no_next hno hl h60)
      · refine g_iload X 7 d_Ring_measure_63 rfl ?_
        refine g_iconst (v := nI 1) X d_Ring_measure_65 rfl ?_
        refine g_iadd X (nI (i + 1)) d_Ring_measure_66 (nI_add i 1) ?_
        have e9 := lay_hit hd hl h60
        subst e9
        exact g_iret X hA9 hQ9 hr9 hlk9 (vp_updL Z i w2) [0, 1, 2, 3] rfl rfl d_Ring_measure_67 (⟨rfl, layY_next hY hl⟩)
  refine g_lconst (v := 1) X d_Ring_measure_0 rfl ?_
  refine g_iload_n X 2 d_Ring_measure_1 rfl rfl ?_
  refine g_lshl X (1 <<< ((nI t).toInt64 &&& 63)) d_Ring_measure_2 rfl ?_
  refine g_lstore_n X [(3, .long (1 <<< ((nI t).toInt64 &&& 63))), (0, .ref h), (1, .ref h2), (2, .int (nI t))] d_Ring_measure_3 rfl (by decide) rfl ?_
  refine g_lconst (v := 0) X d_Ring_measure_4 rfl ?_
  refine g_lstore X [(5, .long 0), (3, .long (1 <<< ((nI t).toInt64 &&& 63))), (0, .ref h), (1, .ref h2), (2, .int (nI t))] d_Ring_measure_5 (by decide) rfl ?_
  refine g_iconst (v := nI 0) X d_Ring_measure_7 rfl ?_
  refine g_istore X [(7, .int (nI 0)), (5, .long 0), (3, .long (1 <<< ((nI t).toInt64 &&& 63))), (0, .ref h), (1, .ref h2), (2, .int (nI t))] d_Ring_measure_8 (by decide) rfl ?_
  refine g_lv [3, 4, 5, 2, 1, 0] rfl ?_
  exact L10 ((48 - 0) + 1) 0 Y (1 <<< ((nI t).toInt64 &&& 63)) 0 (Nat.lt_succ_self _) (by omega) (lay_0 (by omega)) (seen_0) (fun j hj => absurd hj (Nat.not_lt_zero j)) (fun j hj => absurd hj (Nat.not_lt_zero j))

set_option maxHeartbeats 4000000 in
set_option maxRecDepth 100000 in
theorem k_Ring_measureN (h : Nat) (rp : Nat) (ly : Nat) (ln : Int32) (Y : Nat → Int64) (h2 : Nat) (a2 : Nat) (n : Nat) (f : Nat → Int64) (t : Nat) (hn : n ≤ 48) (ht : t < n) (hf : ∀ x, x < n → ∀ j, lb (f x) j = true → j < n) (hd : ∀ k, ¬ gw (rowE n f) (k + 1) t t) : CtI l y_Ring_measure (Cond.code y_Ring_measure c_Ring_measure 8 (some .int) :: TB) ({ frames := 1, cells := 0, slots := 0, locals := 25 } : Room) D (tysv cI cJ cZ cQ) [.ref h, .ref h2, .int (nI t)] [(h, .inr (3, [.ref rp, .ref ly, .int ln])), (ly, .inl (cJ, 48, .inr (.inl Y))), (h2, .inr (1, [.ref a2])), (a2, .inl (cJ, n, .inr (.inl f)))] 0 0 (fun (r : Int32) (Z : Nat → Int64) => r = nI 0) (fun (Z : Nat → Int64) => [(h, .inr (3, [.ref rp, .ref ly, .int ln])), (ly, .inl (cJ, 48, .inr (.inl Z))), (h2, .inr (1, [.ref a2])), (a2, .inl (cJ, n, .inr (.inl f)))]) := by
  refine CtI.of c_Ring_measure 8 (some .int) (by decide) rfl (Nat.le_of_ble_eq_true rfl) ?_
  intro p e s m args below meth c A Q hA9 hQ9 X hr9 hlk9 hin9
  have L10 : ∀ (N10 : Nat) (i : Nat) (Z : Nat → Int64) (w : Int64) (sn : Int64), (48 - i) < N10 → (i ≤ 48) → (lay (rowE n f) t i w) → (seenL (rowE n f) t i sn) → G p l e ({ frames := 1, cells := 0, slots := 0, locals := 25 } : Room) s m args below meth c 8 D A s.heap Q 0 0 [(h, .inr (3, [.ref rp, .ref ly, .int ln])), (ly, .inl (cJ, 48, .inr (.inl Z))), (h2, .inr (1, [.ref a2])), (a2, .inl (cJ, n, .inr (.inl f)))] [(0, .ref h), (1, .ref h2), (2, .int (nI t)), (3, .long w), (5, .long sn), (7, .int (nI i))] 10 [] := by
    intro N10
    induction N10 with
    | zero =>
      intro i Z w sn hN
      exact absurd hN (Nat.not_lt_zero _)
    | succ N10 ih10 =>
      intro i Z w sn hN10 hi hw hs
      refine g_iload X 7 d_Ring_measure_10 rfl ?_
      refine g_aload_n X 0 d_Ring_measure_12 rfl rfl ?_
      refine g_get (C := R_Ring) (T := T_Ring) (N := 3) X 0 1 in_Ring rfl rfl (by decide) t1_106 rfl rfl d_Ring_measure_13 ?_
      refine g_alen X 1 1 rfl rfl d_Ring_measure_16 ?_
      refine n_icmp_ge X 74 d_Ring_measure_17 (by decide) (by omega) (by omega) (fun h17 => ?_) (fun h17 => ?_)
      · refine g_iconst (v := nI 0) X d_Ring_measure_74 rfl ?_
        exact g_iret X hA9 hQ9 hr9 hlk9 Z [0, 1, 2, 3] rfl rfl d_Ring_measure_75 (rfl)
      · refine g_lload_n X 3 d_Ring_measure_20 rfl rfl ?_
        refine g_lconst (v := 0) X d_Ring_measure_21 rfl ?_
        refine g_lcmp X d_Ring_measure_22 ?_
        refine lc_if_eq X 74 d_Ring_measure_23 (by decide) (fun h23 => ?_) (fun h23 => ?_)
        · refine g_iconst (v := nI 0) X d_Ring_measure_74 rfl ?_
          exact g_iret X hA9 hQ9 hr9 hlk9 Z [0, 1, 2, 3] rfl rfl d_Ring_measure_75 (rfl)
        · refine g_aload_n X 1 d_Ring_measure_26 rfl rfl ?_
          refine g_lload_n X 3 d_Ring_measure_27 rfl rfl ?_
          refine g_calllV (n := 1) X [.long w] (k_Rows_above h2 a2 n f w (by omega)) t2_101 t2_102 t2_103 t1_6 t2_104 rfl rfl (by decide +kernel) ⟨by decide, by decide⟩ [2, 3] [0, 1] [(h, .inr (3, [.ref rp, .ref ly, .int ln])), (ly, .inl (cJ, 48, .inr (.inl Z)))] rfl rfl rfl rfl (by decide) 0 rfl rfl rfl rfl (Nat.le_of_ble_eq_true rfl) d_Ring_measure_28 ⟨by decide, by decide⟩ (fun r1 w9u1 hab => ?_)
          refine g_lload X 5 d_Ring_measure_31 rfl ?_
          refine g_ldc2 (v := -1) X t2_105 d_Ring_measure_33 ?_
          refine g_lxor X (sn ^^^ (-1)) d_Ring_measure_36 rfl ?_
          refine g_land X (r1 &&& (sn ^^^ (-1))) d_Ring_measure_37 rfl ?_
          refine g_topl (fun w2 ew2 => ?_)
          have hl : ∀ x, lb w2 x = true ↔ gD (rowE n f) t (i + 1) x := by rw [ew2]; exact lay_step hw hs (by omega) hab hf hn
          refine g_lstore_n X [(3, .long w2), (0, .ref h), (1, .ref h2), (2, .int (nI t)), (5, .long sn), (7, .int (nI i))] d_Ring_measure_38 rfl (by decide) rfl ?_
          refine g_aload_n X 0 d_Ring_measure_39 rfl rfl ?_
          refine g_get (C := R_Ring) (T := T_Ring) (N := 3) X 0 1 in_Ring rfl rfl (by decide) t1_106 rfl rfl d_Ring_measure_40 ?_
          refine g_iload X 7 d_Ring_measure_43 rfl ?_
          refine g_lload_n X 3 d_Ring_measure_45 rfl rfl ?_
          refine g_last X 1 1 [(h, .inr (3, [.ref rp, .ref ly, .int ln])), (ly, .inl (cJ, 48, .inr (.inl (vp_updL Z i w2)))), (h2, .inr (1, [.ref a2])), (a2, .inl (cJ, n, .inr (.inl f)))] rfl rfl (by omega) (by omega) rfl d_Ring_measure_46 ?_
          refine g_lload X 5 d_Ring_measure_47 rfl ?_
          refine g_lload_n X 3 d_Ring_measure_49 rfl rfl ?_
          refine g_lor X (sn ||| w2) d_Ring_measure_50 rfl ?_
          refine g_lstore X [(5, .long (sn ||| w2)), (3, .long w2), (0, .ref h), (1, .ref h2), (2, .int (nI t)), (7, .int (nI i))] d_Ring_measure_51 (by decide) rfl ?_
          refine g_lload_n X 3 d_Ring_measure_53 rfl rfl ?_
          refine g_iload_n X 2 d_Ring_measure_54 rfl rfl ?_
          refine g_lushr X (((w2).toUInt64 >>> ((nI t).toInt64.toUInt64 &&& Int64.toUInt64 63)).toInt64) d_Ring_measure_55 rfl ?_
          refine g_lconst (v := 1) X d_Ring_measure_56 rfl ?_
          refine g_land X ((((w2).toUInt64 >>> ((nI t).toInt64.toUInt64 &&& Int64.toUInt64 63)).toInt64) &&& 1) d_Ring_measure_57 rfl ?_
          refine g_lconst (v := 0) X d_Ring_measure_58 rfl ?_
          refine g_lcmp X d_Ring_measure_59 ?_
          refine bit_if_eq X 68 d_Ring_measure_60 (by decide) (by omega) (fun h60 => ?_) (fun h60 => absurd h60 (fun q => hd i ((hl t).mp q).2.1))
          refine g_iinc X (nI (i + 1)) [(7, .int (nI (i + 1))), (5, .long (sn ||| w2)), (3, .long w2), (0, .ref h), (1, .ref h2), (2, .int (nI t))] d_Ring_measure_68 (k := 5) rfl (nI_1 i) (by decide) rfl ?_
          refine g_goto X 10 d_Ring_measure_71 (by decide) ?_
          refine g_lv [3, 4, 5, 2, 1, 0] rfl ?_
          exact ih10 (i + 1) (vp_updL Z i w2) w2 (sn ||| w2) (by omega) (by omega) (lay_next hl) (seen_next hs hl)
  refine g_lconst (v := 1) X d_Ring_measure_0 rfl ?_
  refine g_iload_n X 2 d_Ring_measure_1 rfl rfl ?_
  refine g_lshl X (1 <<< ((nI t).toInt64 &&& 63)) d_Ring_measure_2 rfl ?_
  refine g_lstore_n X [(3, .long (1 <<< ((nI t).toInt64 &&& 63))), (0, .ref h), (1, .ref h2), (2, .int (nI t))] d_Ring_measure_3 rfl (by decide) rfl ?_
  refine g_lconst (v := 0) X d_Ring_measure_4 rfl ?_
  refine g_lstore X [(5, .long 0), (3, .long (1 <<< ((nI t).toInt64 &&& 63))), (0, .ref h), (1, .ref h2), (2, .int (nI t))] d_Ring_measure_5 (by decide) rfl ?_
  refine g_iconst (v := nI 0) X d_Ring_measure_7 rfl ?_
  refine g_istore X [(7, .int (nI 0)), (5, .long 0), (3, .long (1 <<< ((nI t).toInt64 &&& 63))), (0, .ref h), (1, .ref h2), (2, .int (nI t))] d_Ring_measure_8 (by decide) rfl ?_
  refine g_lv [3, 4, 5, 2, 1, 0] rfl ?_
  exact L10 ((48 - 0) + 1) 0 Y (1 <<< ((nI t).toInt64 &&& 63)) 0 (Nat.lt_succ_self _) (by omega) (lay_0 (by omega)) (seen_0)

set_option maxHeartbeats 4000000 in
set_option maxRecDepth 100000 in
theorem k_Ring_write (h : Nat) (rp : Nat) (ly : Nat) (ln : Int32) (ap : Nat) (P : Nat → Int32) (Y : Nat → Int64) (h2 : Nat) (a2 : Nat) (n : Nat) (f : Nat → Int64) (t : Nat) (d : Nat) (pp : Nat → Nat) (hn : n ≤ 48) (ht : t < n) (hf : ∀ x, x < n → ∀ j, lb (f x) j = true → j < n) (hg : gring (rowE n f) t d pp) (hY : layY (rowE n f) t d Y) : CtV l y_Ring_write (Cond.code y_Ring_write c_Ring_write 7 none :: TB) ({ frames := 2, cells := 0, slots := 0, locals := 42 } : Room) D (tysv cI cJ cZ cQ) [.ref h, .ref h2, .int (nI t), .int (nI d)] [(h, .inr (3, [.ref rp, .ref ly, .int ln])), (rp, .inr (0, [.ref ap])), (ap, .inl (cI, 48, .inl P)), (ly, .inl (cJ, 48, .inr (.inl Y))), (h2, .inr (1, [.ref a2])), (a2, .inl (cJ, n, .inr (.inl f)))] 0 0 (fun (P2 : Nat → Int32) => ∀ j, j < d → P2 j = nI (pp j)) (fun (P2 : Nat → Int32) => [(h, .inr (3, [.ref rp, .ref ly, .int (nI d)])), (rp, .inr (0, [.ref ap])), (ap, .inl (cI, 48, .inl P2)), (ly, .inl (cJ, 48, .inr (.inl Y))), (h2, .inr (1, [.ref a2])), (a2, .inl (cJ, n, .inr (.inl f)))]) := by
  refine CtV.of c_Ring_write 7 none (by decide) rfl (Nat.le_of_ble_eq_true rfl) ?_
  intro p e s m args below meth c A Q hA9 hQ9 X hr9 hlk9 hin9
  have hd48 := gD_le (rowE_gin hf) hg.1
  have hd0 := hg.1.1
  have L6 : ∀ (N6 : Nat) (k : Nat) (v : Nat) (P2 : Nat → Int32), (d - k) < N6 → (k ≤ d) → (k < d → v = pp k) → (∀ j, j < k → P2 j = nI (pp j)) → G p l e ({ frames := 2, cells := 0, slots := 0, locals := 42 } : Room) s m args below meth c 7 D A s.heap Q 0 0 [(h, .inr (3, [.ref rp, .ref ly, .int ln])), (rp, .inr (0, [.ref ap])), (ap, .inl (cI, 48, .inl P2)), (ly, .inl (cJ, 48, .inr (.inl Y))), (h2, .inr (1, [.ref a2])), (a2, .inl (cJ, n, .inr (.inl f)))] [(0, .ref h), (1, .ref h2), (2, .int (nI t)), (3, .int (nI d)), (4, .int (nI v)), (5, .int (nI k))] 6 [] := by
    intro N6
    induction N6 with
    | zero =>
      intro k v P2 hN
      exact absurd hN (Nat.not_lt_zero _)
    | succ N6 ih6 =>
      intro k v P2 hN6 hk ha hP
      refine g_iload X 5 d_Ring_write_6 rfl ?_
      refine g_iload_n X 3 d_Ring_write_8 rfl rfl ?_
      refine n_icmp_ge X 72 d_Ring_write_9 (by decide) (by omega) (by omega) (fun h9 => ?_) (fun h9 => ?_)
      · refine g_aload_n X 0 d_Ring_write_72 rfl rfl ?_
        refine g_iload_n X 3 d_Ring_write_73 rfl rfl ?_
        refine g_put (C := R_Ring) (T := T_Ring) (N := 3) (ty := .int) X 0 2 [(h, .inr (3, [.ref rp, .ref ly, .int (nI d)])), (rp, .inr (0, [.ref ap])), (ap, .inl (cI, 48, .inl P2)), (ly, .inl (cJ, 48, .inr (.inl Y))), (h2, .inr (1, [.ref a2])), (a2, .inl (cJ, n, .inr (.inl f)))] t_Ring ty_Ring nm_Ring in_Ring rfl rfl (by decide) t1_107 rfl rfl (by decide +kernel) rfl rfl (Nat.le_of_ble_eq_true rfl) rfl d_Ring_write_74 ?_
        exact g_vret X hA9 hQ9 hr9 hlk9 P2 [0, 1, 2, 3, 4, 5] rfl rfl d_Ring_write_77 (fun j hj => hP j (by omega))
      · refine g_aload_n X 0 d_Ring_write_12 rfl rfl ?_
        refine g_get (C := R_Ring) (T := T_Ring) (N := 3) X 0 0 in_Ring rfl rfl (by decide) t1_105 rfl rfl d_Ring_write_13 ?_
        refine g_iload X 5 d_Ring_write_16 rfl ?_
        refine g_iload X 4 d_Ring_write_18 rfl ?_
        refine g_callvV (n := 2) X [.int (nI k), .int (nI v)] (k_Cells_put rp ap 48 P2 k (nI v) (by omega) (by omega)) t2_110 t2_36 t2_37 t1_3 t2_38 rfl rfl (by decide +kernel) ⟨by decide, by decide⟩ [1, 2] [0, 3, 4, 5] [(h, .inr (3, [.ref rp, .ref ly, .int ln])), (ly, .inl (cJ, 48, .inr (.inl Y))), (h2, .inr (1, [.ref a2])), (a2, .inl (cJ, n, .inr (.inl f)))] rfl rfl rfl rfl (by decide) 0 rfl rfl rfl rfl (Nat.le_of_ble_eq_true rfl) d_Ring_write_20 ⟨by decide, by decide⟩ (fun w9u1 hw1 => ?_)
        refine g_iload_n X 3 d_Ring_write_23 rfl rfl ?_
        refine g_iconst (v := nI 2) X d_Ring_write_24 rfl ?_
        refine g_isub X ((nI d) - (nI 2)) d_Ring_write_25 rfl ?_
        refine g_iload X 5 d_Ring_write_26 rfl ?_
        refine g_isub X (((nI d) - (nI 2)) - (nI k)) d_Ring_write_28 rfl ?_
        rcases Nat.lt_or_ge (k + 1) d with q | q
        · have ea : v = pp k := ha (by omega)
          have hat : v < n := by rw [ea]; exact gring_lt (rowE_gin hf) ht hg (by omega)
          rw [sub2_in (by omega) q]
          refine g_istore X [(6, .int (nI (d - 2 - k))), (0, .ref h), (1, .ref h2), (2, .int (nI t)), (3, .int (nI d)), (4, .int (nI v)), (5, .int (nI k))] d_Ring_write_29 (by decide) rfl ?_
          refine g_iload X 6 d_Ring_write_31 rfl ?_
          refine n_if_lt X 66 d_Ring_write_33 (by decide) (by omega) (fun h33 => absurd h33 (by omega)) (fun h33 => ?_)
          refine g_iload X 6 d_Ring_write_36 rfl ?_
          refine g_aload_n X 0 d_Ring_write_38 rfl rfl ?_
          refine g_get (C := R_Ring) (T := T_Ring) (N := 3) X 0 1 in_Ring rfl rfl (by decide) t1_106 rfl rfl d_Ring_write_39 ?_
          refine g_alen X 1 1 rfl rfl d_Ring_write_42 ?_
          refine n_icmp_ge X 66 d_Ring_write_43 (by decide) (by omega) (by omega) (fun h43 => absurd h43 (by omega)) (fun h43 => ?_)
          refine g_aload_n X 1 d_Ring_write_46 rfl rfl ?_
          refine g_iload X 4 d_Ring_write_47 rfl ?_
          refine g_calllV (n := 1) X [.int (nI v)] (k_Rows_row h2 a2 n f v (hat) (by omega)) t2_111 t1_174 t1_175 t1_6 t1_176 rfl rfl (by decide +kernel) ⟨by decide, by decide⟩ [2, 3] [0, 1, 4, 5] [(h, .inr (3, [.ref rp, .ref ly, .int ln])), (ly, .inl (cJ, 48, .inr (.inl Y))), (rp, .inr (0, [.ref ap])), (ap, .inl (cI, 48, .inl (upd P2 k (nI v))))] rfl rfl rfl rfl (by decide) 0 rfl rfl rfl rfl (Nat.le_of_ble_eq_true rfl) d_Ring_write_49 ⟨by decide, by decide⟩ (fun r2 w9u2 hw2 => ?_)
          subst hw2
          refine g_aload_n X 0 d_Ring_write_52 rfl rfl ?_
          refine g_get (C := R_Ring) (T := T_Ring) (N := 3) X 0 1 in_Ring rfl rfl (by decide) t1_106 rfl rfl d_Ring_write_53 ?_
          refine g_iload X 6 d_Ring_write_56 rfl ?_
          refine g_lald X 1 1 rfl rfl (by omega) (by omega) d_Ring_write_58 ?_
          refine g_land X ((f v) &&& (Y (d - 2 - k))) d_Ring_write_59 rfl ?_
          refine g_iconst (v := nI 0) X d_Ring_write_60 rfl ?_
          refine g_calliN (n := 2) X [.long ((f v) &&& (Y (d - 2 - k))), .int (nI 0)] (k_RO_nthOf ((f v) &&& (Y (d - 2 - k))) 0 (by omega) (ring_nth hn hf hg hY q ea hat)) X.2.2.2.2.2.1.2.1 t2_113 t1_1 t2_114 rfl rfl (by decide +kernel) ⟨by decide, by decide⟩ [] [0, 1, 2, 3, 4, 5] [(h, .inr (3, [.ref rp, .ref ly, .int ln])), (ly, .inl (cJ, 48, .inr (.inl Y))), (rp, .inr (0, [.ref ap])), (ap, .inl (cI, 48, .inl (upd P2 k (nI v)))), (h2, .inr (1, [.ref a2])), (a2, .inl (cJ, n, .inr (.inl f)))] rfl rfl rfl rfl (by decide) rfl rfl (Nat.le_of_ble_eq_true rfl) d_Ring_write_61 ⟨by decide, by decide⟩ (fun r3 x_3 hx9 => ?_)
          obtain ⟨rfl, hx9⟩ := hx9
          refine g_istore X [(4, .int (nI x_3)), (6, .int (nI (d - 2 - k))), (0, .ref h), (1, .ref h2), (2, .int (nI t)), (3, .int (nI d)), (5, .int (nI k))] d_Ring_write_64 (by decide) rfl ?_
          refine g_iinc X (nI (k + 1)) [(5, .int (nI (k + 1))), (4, .int (nI x_3)), (6, .int (nI (d - 2 - k))), (0, .ref h), (1, .ref h2), (2, .int (nI t)), (3, .int (nI d))] d_Ring_write_66 (k := 6) rfl (nI_1 k) (by decide) rfl ?_
          refine g_goto X 6 d_Ring_write_69 (by decide) ?_
          refine g_ws [(h, .inr (3, [.ref rp, .ref ly, .int ln])), (rp, .inr (0, [.ref ap])), (ap, .inl (cI, 48, .inl (upd P2 k (nI v)))), (ly, .inl (cJ, 48, .inr (.inl Y))), (h2, .inr (1, [.ref a2])), (a2, .inl (cJ, n, .inr (.inl f)))] [0, 2, 3, 1, 4, 5] rfl rfl ?_
          refine g_lv [3, 4, 5, 6, 1, 0] rfl ?_
          exact ih6 (k + 1) x_3 (upd P2 k (nI v)) (by omega) (by omega) (by first | exact fun _ => ring_nth_eq hn hf hg hY q ea hat hx9.2.1 hx9.2.2 | exact fun h => absurd h (by omega)) (places_step hP (ha (by omega)))
        · have eq9 : k + 1 = d := by omega
          rw [sub2_out (by omega) eq9]
          refine g_istore X [(6, .int (-1)), (0, .ref h), (1, .ref h2), (2, .int (nI t)), (3, .int (nI d)), (4, .int (nI v)), (5, .int (nI k))] d_Ring_write_29 (by decide) rfl ?_
          refine g_iload X 6 d_Ring_write_31 rfl ?_
          refine g_if_lt X 66 d_Ring_write_33 (by decide) (fun h33 => ?_) (fun h33 => absurd h33 (by decide))
          refine g_iinc X (nI (k + 1)) [(5, .int (nI (k + 1))), (6, .int (-1)), (0, .ref h), (1, .ref h2), (2, .int (nI t)), (3, .int (nI d)), (4, .int (nI v))] d_Ring_write_66 (k := 6) rfl (nI_1 k) (by decide) rfl ?_
          refine g_goto X 6 d_Ring_write_69 (by decide) ?_
          refine g_ws [(h, .inr (3, [.ref rp, .ref ly, .int ln])), (rp, .inr (0, [.ref ap])), (ap, .inl (cI, 48, .inl (upd P2 k (nI v)))), (ly, .inl (cJ, 48, .inr (.inl Y))), (h2, .inr (1, [.ref a2])), (a2, .inl (cJ, n, .inr (.inl f)))] [0, 4, 5, 1, 2, 3] rfl rfl ?_
          refine g_lv [2, 3, 4, 5, 6, 0] rfl ?_
          exact ih6 (k + 1) v (upd P2 k (nI v)) (by omega) (by omega) (by first | exact fun _ => ring_nth_eq hn hf hg hY q ea hat hx9.2.1 hx9.2.2 | exact fun h => absurd h (by omega)) (places_step hP (ha (by omega)))
  refine g_iload_n X 2 d_Ring_write_0 rfl rfl ?_
  refine g_istore X [(4, .int (nI t)), (0, .ref h), (1, .ref h2), (2, .int (nI t)), (3, .int (nI d))] d_Ring_write_1 (by decide) rfl ?_
  refine g_iconst (v := nI 0) X d_Ring_write_3 rfl ?_
  refine g_istore X [(5, .int (nI 0)), (4, .int (nI t)), (0, .ref h), (1, .ref h2), (2, .int (nI t)), (3, .int (nI d))] d_Ring_write_4 (by decide) rfl ?_
  refine g_lv [2, 3, 4, 5, 1, 0] rfl ?_
  exact L6 ((d - 0) + 1) 0 t P (Nat.lt_succ_self _) (by omega) (fun _ => hg.2.1.symm) (fun j hj => absurd hj (Nat.not_lt_zero j))

set_option maxHeartbeats 4000000 in
set_option maxRecDepth 100000 in
theorem k_Ring_tell (h : Nat) (rp : Nat) (ly : Nat) (ln : Int32) (ap : Nat) (P : Nat → Int32) (Y : Nat → Int64) (h2 : Nat) (a2 : Nat) (n : Nat) (f : Nat → Int64) (t : Nat) (d : Nat) (pp : Nat → Nat) (hn : n ≤ 48) (ht : t < n) (hf : ∀ x, x < n → ∀ j, lb (f x) j = true → j < n) (hg : gring (rowE n f) t d pp) : CtI l y_Ring_tell (Cond.code y_Ring_tell c_Ring_tell 4 (some .boolean) :: TB) ({ frames := 3, cells := 0, slots := 0, locals := 68 } : Room) D (tysv cI cJ cZ cQ) [.ref h, .ref h2, .int (nI t)] [(h, .inr (3, [.ref rp, .ref ly, .int ln])), (rp, .inr (0, [.ref ap])), (ap, .inl (cI, 48, .inl P)), (ly, .inl (cJ, 48, .inr (.inl Y))), (h2, .inr (1, [.ref a2])), (a2, .inl (cJ, n, .inr (.inl f)))] 0 0 (fun (r : Int32) (u : (Nat → Int32) × (Nat → Int64)) => r = bI true ∧ ∀ j, j < d → u.1 j = nI (pp j)) (fun (u : (Nat → Int32) × (Nat → Int64)) => [(h, .inr (3, [.ref rp, .ref ly, .int (nI d)])), (rp, .inr (0, [.ref ap])), (ap, .inl (cI, 48, .inl u.1)), (ly, .inl (cJ, 48, .inr (.inl u.2))), (h2, .inr (1, [.ref a2])), (a2, .inl (cJ, n, .inr (.inl f)))]) := by
  refine CtI.of c_Ring_tell 4 (some .boolean) (by decide) rfl (Nat.le_of_ble_eq_true rfl) ?_
  intro p e s m args below meth c A Q hA9 hQ9 X hr9 hlk9 hin9
  have hd48 := gD_le (rowE_gin hf) hg.1
  have hd0 := hg.1.1
  refine g_aload_n X 0 d_Ring_tell_0 rfl rfl ?_
  refine g_aload_n X 1 d_Ring_tell_1 rfl rfl ?_
  refine g_iload_n X 2 d_Ring_tell_2 rfl rfl ?_
  refine g_calliV (n := 2) X [.ref h2, .int (nI t)] (k_Ring_measure h rp ly ln Y h2 a2 n f t d (by omega) (by omega) (hf) (hg.1)) t2_97 t2_99 ts_5 t1_7 t2_100 rfl rfl (by decide +kernel) ⟨by decide, by decide⟩ [0, 3, 4, 5] [1, 2] [(rp, .inr (0, [.ref ap])), (ap, .inl (cI, 48, .inl P))] rfl rfl rfl rfl (by decide) 0 rfl rfl rfl rfl (Nat.le_of_ble_eq_true rfl) d_Ring_tell_3 ⟨by decide, by decide⟩ (fun r1 Z_1 hYY => ?_)
  obtain ⟨rfl, hYY⟩ := hYY
  refine g_istore_n X [(3, .int (nI d)), (0, .ref h), (1, .ref h2), (2, .int (nI t))] d_Ring_tell_6 rfl (by decide) rfl ?_
  refine g_iload_n X 3 d_Ring_tell_7 rfl rfl ?_
  refine n_if_ne X 13 d_Ring_tell_8 (by decide) (by omega) (fun h8 => ?_) (fun h8 => absurd h8 (by omega))
  refine g_aload_n X 0 d_Ring_tell_13 rfl rfl ?_
  refine g_aload_n X 1 d_Ring_tell_14 rfl rfl ?_
  refine g_iload_n X 2 d_Ring_tell_15 rfl rfl ?_
  refine g_iload_n X 3 d_Ring_tell_16 rfl rfl ?_
  refine g_callvV (n := 3) X [.ref h2, .int (nI t), .int (nI d)] (k_Ring_write h rp ly ln ap P Z_1 h2 a2 n f t d pp (by omega) (by omega) (hf) (hg) (hYY)) t2_106 t2_108 ts_6 t1_7 t2_109 rfl rfl (by decide +kernel) ⟨by decide, by decide⟩ [2, 0, 1, 3, 4, 5] [] [] rfl rfl rfl rfl (by decide) 0 rfl rfl rfl rfl (Nat.le_of_ble_eq_true rfl) d_Ring_tell_17 ⟨by decide, by decide⟩ (fun P2_2 hPP => ?_)
  refine g_iconst (v := nI 1) X d_Ring_tell_20 rfl ?_
  exact g_zret X hA9 hQ9 hr9 (by first | exact Or.inl rfl | exact Or.inr rfl) hlk9 ⟨P2_2, Z_1⟩ [0, 1, 2, 3, 4, 5] rfl rfl d_Ring_tell_21 (by (try dsimp only); exact (⟨rfl, hPP⟩))

set_option maxHeartbeats 4000000 in
set_option maxRecDepth 100000 in
theorem k_Ring_tellN (h : Nat) (rp : Nat) (ly : Nat) (ln : Int32) (Y : Nat → Int64) (h2 : Nat) (a2 : Nat) (n : Nat) (f : Nat → Int64) (t : Nat) (hn : n ≤ 48) (ht : t < n) (hf : ∀ x, x < n → ∀ j, lb (f x) j = true → j < n) (hd : ∀ k, ¬ gw (rowE n f) (k + 1) t t) : CtI l y_Ring_tell (Cond.code y_Ring_tell c_Ring_tell 4 (some .boolean) :: TB) ({ frames := 2, cells := 0, slots := 0, locals := 52 } : Room) D (tysv cI cJ cZ cQ) [.ref h, .ref h2, .int (nI t)] [(h, .inr (3, [.ref rp, .ref ly, .int ln])), (ly, .inl (cJ, 48, .inr (.inl Y))), (h2, .inr (1, [.ref a2])), (a2, .inl (cJ, n, .inr (.inl f)))] 0 0 (fun (r : Int32) (Z : Nat → Int64) => r = bI false) (fun (Z : Nat → Int64) => [(h, .inr (3, [.ref rp, .ref ly, .int ln])), (ly, .inl (cJ, 48, .inr (.inl Z))), (h2, .inr (1, [.ref a2])), (a2, .inl (cJ, n, .inr (.inl f)))]) := by
  refine CtI.of c_Ring_tell 4 (some .boolean) (by decide) rfl (Nat.le_of_ble_eq_true rfl) ?_
  intro p e s m args below meth c A Q hA9 hQ9 X hr9 hlk9 hin9
  refine g_aload_n X 0 d_Ring_tell_0 rfl rfl ?_
  refine g_aload_n X 1 d_Ring_tell_1 rfl rfl ?_
  refine g_iload_n X 2 d_Ring_tell_2 rfl rfl ?_
  refine g_calliV (n := 2) X [.ref h2, .int (nI t)] (k_Ring_measureN h rp ly ln Y h2 a2 n f t (by omega) (by omega) (hf) (hd)) t2_97 t2_99 ts_5 t1_7 t2_100 rfl rfl (by decide +kernel) ⟨by decide, by decide⟩ [0, 1, 2, 3] [] [] rfl rfl rfl rfl (by decide) 0 rfl rfl rfl rfl (Nat.le_of_ble_eq_true rfl) d_Ring_tell_3 ⟨by decide, by decide⟩ (fun r1 Z_1 hw1 => ?_)
  subst hw1
  refine g_istore_n X [(3, .int (nI 0)), (0, .ref h), (1, .ref h2), (2, .int (nI t))] d_Ring_tell_6 rfl (by decide) rfl ?_
  refine g_iload_n X 3 d_Ring_tell_7 rfl rfl ?_
  refine n_if_ne X 13 d_Ring_tell_8 (by decide) (by omega) (fun h8 => absurd h8 (by decide)) (fun h8 => ?_)
  refine g_iconst (v := nI 0) X d_Ring_tell_11 rfl ?_
  exact g_zret X hA9 hQ9 hr9 (by first | exact Or.inl rfl | exact Or.inr rfl) hlk9 Z_1 [0, 1, 2, 3] rfl rfl d_Ring_tell_12 (rfl)
