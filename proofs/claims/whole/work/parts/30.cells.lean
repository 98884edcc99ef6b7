variable {l : Launch} {D : va_G} {cI cJ cZ cQ : ClassId}
theorem repl_keep {f g : Nat → Int32} {x y : Int32} {i : Nat} (h1 : ∀ k, k < i → g k = if f k = x then y else f k) (h2 : ∀ k, i ≤ k → g k = f k) (hne : ¬ g i = x) : ∀ k, k < i + 1 → g k = if f k = x then y else f k := by
  intro k hk
  rcases Nat.lt_or_ge k i with q | q
  · exact h1 k q
  · have e : k = i := by omega
    subst e
    have e2 := h2 k (Nat.le_refl k)
    rw [e2] at hne ⊢
    rw [if_neg hne]
theorem repl_put {f g : Nat → Int32} {x y : Int32} {i : Nat} (h1 : ∀ k, k < i → g k = if f k = x then y else f k) (h2 : ∀ k, i ≤ k → g k = f k) (he : g i = x) : ∀ k, k < i + 1 → upd g i y k = if f k = x then y else f k := by
  intro k hk
  rcases Nat.lt_or_ge k i with q | q
  · rw [pk_un (by omega)]
    exact h1 k q
  · have e : k = i := by omega
    subst e
    have e2 := h2 k (Nat.le_refl k)
    rw [pk_us, if_pos (e2.symm.trans he)]
theorem fill_step {g : Nat → Int32} {i : Nat} {x : Int32} (h1 : ∀ k, k < i → g k = x) : ∀ k, k < i + 1 → upd g i x k = x := by
  intro k hk
  rcases Nat.lt_or_ge k i with q | q
  · rw [pk_un (by omega)]
    exact h1 k q
  · have e : k = i := by omega
    subst e
    exact pk_us
theorem fillL_step {g : Nat → Int64} {i : Nat} {x : Int64} (h1 : ∀ k, k < i → g k = x) : ∀ k, k < i + 1 → vp_updL g i x k = x := by
  intro k hk
  rcases Nat.lt_or_ge k i with q | q
  · rw [pk_uLn (by omega)]
    exact h1 k q
  · have e : k = i := by omega
    subst e
    exact pk_uLs
theorem copyL_step {g f : Nat → Int64} {i : Nat} (h1 : ∀ k, k < i → g k = f k) : ∀ k, k < i + 1 → vp_updL g i (f i) k = f k := by
  intro k hk
  rcases Nat.lt_or_ge k i with q | q
  · rw [pk_uLn (by omega)]
    exact h1 k q
  · have e : k = i := by omega
    subst e
    exact pk_uLs
theorem mmax0 {n : Nat} (h : n < 2 ^ 31) : (if nI 0 < nI n then nI n else nI 0) = nI n := by
  by_cases q : nI 0 < nI n
  · rw [if_pos q]
  · rw [if_neg q]
    have h9 := (not_congr (nI_ltI (show 0 < 2 ^ 31 by decide) h)).mp q
    have e : n = 0 := by omega
    rw [e]
theorem mmin48 {n : Nat} (h : n ≤ 48) : (if nI 48 < nI n then nI 48 else nI n) = nI n := by
  rw [if_neg (nI_nlt h (by decide))]

set_option maxHeartbeats 4000000 in
set_option maxRecDepth 100000 in
theorem k_Cells_at (h : Nat) (a : Nat) (n : Nat) (f : Nat → Int32) (j : Nat) (hj : j < n) (hn : n < 2 ^ 31) : CtI l y_Cells_at (Cond.code y_Cells_at c_Cells_at 2 (some .int) :: TB) ({ frames := 0, cells := 0, slots := 0, locals := 0 } : Room) D (tysv cI cJ cZ cQ) [.ref h, .int (nI j)] [(h, .inr (0, [.ref a])), (a, .inl (cI, n, .inl f))] 0 0 (fun (r : Int32) (_ : Unit) => r = f j) (fun (_ : Unit) => [(h, .inr (0, [.ref a])), (a, .inl (cI, n, .inl f))]) := by
  refine CtI.of c_Cells_at 2 (some .int) (by decide) rfl (Nat.le_of_ble_eq_true rfl) ?_
  intro p e s m args below meth c A Q hA9 hQ9 X hr9 hlk9 hin9
  refine g_iload_n X 1 d_Cells_at_0 rfl rfl ?_
  refine n_if_lt X 22 d_Cells_at_1 (by decide) (by omega) (fun h1 => absurd h1 (by omega)) (fun h1 => ?_)
  refine g_iload_n X 1 d_Cells_at_4 rfl rfl ?_
  refine g_aload_n X 0 d_Cells_at_5 rfl rfl ?_
  refine g_get (C := R_Cells) (T := T_Cells) (N := 1) X 0 0 in_Cells rfl rfl (by decide) t1_40 rfl rfl d_Cells_at_6 ?_
  refine g_alen X 1 0 rfl rfl d_Cells_at_9 ?_
  refine n_icmp_ge X 22 d_Cells_at_10 (by decide) (by omega) (by omega) (fun h10 => absurd h10 (by omega)) (fun h10 => ?_)
  refine g_aload_n X 0 d_Cells_at_13 rfl rfl ?_
  refine g_get (C := R_Cells) (T := T_Cells) (N := 1) X 0 0 in_Cells rfl rfl (by decide) t1_40 rfl rfl d_Cells_at_14 ?_
  refine g_iload_n X 1 d_Cells_at_17 rfl rfl ?_
  refine g_iald X 1 0 rfl rfl (by omega) (by omega) d_Cells_at_18 ?_
  refine g_goto X 23 d_Cells_at_19 (by decide) ?_
  exact g_iret X hA9 hQ9 hr9 hlk9 () [0, 1] rfl rfl d_Cells_at_23 (rfl)

set_option maxHeartbeats 4000000 in
set_option maxRecDepth 100000 in
theorem k_Cells_put (h : Nat) (a : Nat) (n : Nat) (f : Nat → Int32) (j : Nat) (x : Int32) (hj : j < n) (hn : n < 2 ^ 31) : CtV l y_Cells_put (Cond.code y_Cells_put c_Cells_put 3 none :: TB) ({ frames := 0, cells := 0, slots := 0, locals := 0 } : Room) D (tysv cI cJ cZ cQ) [.ref h, .int (nI j), .int x] [(h, .inr (0, [.ref a])), (a, .inl (cI, n, .inl f))] 0 0 (fun (_ : Unit) => True) (fun (_ : Unit) => [(h, .inr (0, [.ref a])), (a, .inl (cI, n, .inl (upd f j x)))]) := by
  refine CtV.of c_Cells_put 3 none (by decide) rfl (Nat.le_of_ble_eq_true rfl) ?_
  intro p e s m args below meth c A Q hA9 hQ9 X hr9 hlk9 hin9
  refine g_iload_n X 1 d_Cells_put_0 rfl rfl ?_
  refine n_if_lt X 20 d_Cells_put_1 (by decide) (by omega) (fun h1 => absurd h1 (by omega)) (fun h1 => ?_)
  refine g_iload_n X 1 d_Cells_put_4 rfl rfl ?_
  refine g_aload_n X 0 d_Cells_put_5 rfl rfl ?_
  refine g_get (C := R_Cells) (T := T_Cells) (N := 1) X 0 0 in_Cells rfl rfl (by decide) t1_40 rfl rfl d_Cells_put_6 ?_
  refine g_alen X 1 0 rfl rfl d_Cells_put_9 ?_
  refine n_icmp_ge X 20 d_Cells_put_10 (by decide) (by omega) (by omega) (fun h10 => absurd h10 (by omega)) (fun h10 => ?_)
  refine g_aload_n X 0 d_Cells_put_13 rfl rfl ?_
  refine g_get (C := R_Cells) (T := T_Cells) (N := 1) X 0 0 in_Cells rfl rfl (by decide) t1_40 rfl rfl d_Cells_put_14 ?_
  refine g_iload_n X 1 d_Cells_put_17 rfl rfl ?_
  refine g_iload_n X 2 d_Cells_put_18 rfl rfl ?_
  refine g_iast X 1 0 [(h, .inr (0, [.ref a])), (a, .inl (cI, n, .inl (upd f j x)))] rfl rfl (by omega) (by omega) rfl d_Cells_put_19 ?_
  exact g_vret X hA9 hQ9 hr9 hlk9 () [0, 1] rfl rfl d_Cells_put_20 (trivial)

set_option maxHeartbeats 4000000 in
set_option maxRecDepth 100000 in
theorem k_Cells_replace (h : Nat) (a : Nat) (n : Nat) (f : Nat → Int32) (x : Int32) (y : Int32) (hn : n < 2 ^ 31) : CtV l y_Cells_replace (Cond.code y_Cells_replace c_Cells_replace 4 none :: TB) ({ frames := 0, cells := 0, slots := 0, locals := 0 } : Room) D (tysv cI cJ cZ cQ) [.ref h, .int x, .int y] [(h, .inr (0, [.ref a])), (a, .inl (cI, n, .inl f))] 0 0 (fun (g : Nat → Int32) => ∀ i, i < n → g i = if f i = x then y else f i) (fun (g : Nat → Int32) => [(h, .inr (0, [.ref a])), (a, .inl (cI, n, .inl g))]) := by
  refine CtV.of c_Cells_replace 4 none (by decide) rfl (Nat.le_of_ble_eq_true rfl) ?_
  intro p e s m args below meth c A Q hA9 hQ9 X hr9 hlk9 hin9
  have L2 : ∀ (N2 : Nat) (i : Nat) (g : Nat → Int32), (n - i) < N2 → (i ≤ n) → (∀ k, k < i → g k = if f k = x then y else f k) → (∀ k, i ≤ k → g k = f k) → G p l e ({ frames := 0, cells := 0, slots := 0, locals := 0 } : Room) s m args below meth c 4 D A s.heap Q 0 0 [(h, .inr (0, [.ref a])), (a, .inl (cI, n, .inl g))] [(0, .ref h), (1, .int x), (2, .int y), (3, .int (nI i))] 2 [] := by
    intro N2
    induction N2 with
    | zero =>
      intro i g hN
      exact absurd hN (Nat.not_lt_zero _)
    | succ N2 ih2 =>
      intro i g hN2 hi h1 h2
      refine g_iload_n X 3 d_Cells_replace_2 rfl rfl ?_
      refine g_aload_n X 0 d_Cells_replace_3 rfl rfl ?_
      refine g_get (C := R_Cells) (T := T_Cells) (N := 1) X 0 0 in_Cells rfl rfl (by decide) t1_40 rfl rfl d_Cells_replace_4 ?_
      refine g_alen X 1 0 rfl rfl d_Cells_replace_7 ?_
      refine n_icmp_ge X 34 d_Cells_replace_8 (by decide) (by omega) (by omega) (fun h8 => ?_) (fun h8 => ?_)
      · exact g_vret X hA9 hQ9 hr9 hlk9 g [0, 1] rfl rfl d_Cells_replace_34 (fun k hk => h1 k (by omega))
      · refine g_aload_n X 0 d_Cells_replace_11 rfl rfl ?_
        refine g_get (C := R_Cells) (T := T_Cells) (N := 1) X 0 0 in_Cells rfl rfl (by decide) t1_40 rfl rfl d_Cells_replace_12 ?_
        refine g_iload_n X 3 d_Cells_replace_15 rfl rfl ?_
        refine g_iald X 1 0 rfl rfl (by omega) (by omega) d_Cells_replace_16 ?_
        refine g_iload_n X 1 d_Cells_replace_17 rfl rfl ?_
        refine g_icmp_ne X 28 d_Cells_replace_18 (by decide) (fun h18 => ?_) (fun h18 => ?_)
        · refine g_iinc X (nI (i + 1)) [(3, .int (nI (i + 1))), (0, .ref h), (1, .int x), (2, .int y)] d_Cells_replace_28 (k := 3) rfl (nI_1 i) (by decide) rfl ?_
          refine g_goto X 2 d_Cells_replace_31 (by decide) ?_
          refine g_lv [1, 2, 3, 0] rfl ?_
          exact ih2 (i + 1) g (by omega) (by omega) (by first | exact repl_keep h1 h2 h18 | exact repl_put h1 h2 h18) (by first | exact fun k hk => h2 k (by omega) | exact fun k hk => (pk_un (by omega)).trans (h2 k (by omega)))
        · refine g_aload_n X 0 d_Cells_replace_21 rfl rfl ?_
          refine g_get (C := R_Cells) (T := T_Cells) (N := 1) X 0 0 in_Cells rfl rfl (by decide) t1_40 rfl rfl d_Cells_replace_22 ?_
          refine g_iload_n X 3 d_Cells_replace_25 rfl rfl ?_
          refine g_iload_n X 2 d_Cells_replace_26 rfl rfl ?_
          refine g_iast X 1 0 [(h, .inr (0, [.ref a])), (a, .inl (cI, n, .inl (upd g i y)))] rfl rfl (by omega) (by omega) rfl d_Cells_replace_27 ?_
          refine g_iinc X (nI (i + 1)) [(3, .int (nI (i + 1))), (0, .ref h), (1, .int x), (2, .int y)] d_Cells_replace_28 (k := 3) rfl (nI_1 i) (by decide) rfl ?_
          refine g_goto X 2 d_Cells_replace_31 (by decide) ?_
          refine g_lv [1, 2, 3, 0] rfl ?_
          exact ih2 (i + 1) (upd g i y) (by omega) (by omega) (by first | exact repl_keep h1 h2 h18 | exact repl_put h1 h2 h18) (by first | exact fun k hk => h2 k (by omega) | exact fun k hk => (pk_un (by omega)).trans (h2 k (by omega)))
  refine g_iconst (v := nI 0) X d_Cells_replace_0 rfl ?_
  refine g_istore_n X [(3, .int (nI 0)), (0, .ref h), (1, .int x), (2, .int y)] d_Cells_replace_1 rfl (by decide) rfl ?_
  refine g_lv [1, 2, 3, 0] rfl ?_
  exact L2 ((n - 0) + 1) 0 f (Nat.lt_succ_self _) (by omega) (fun k hk => absurd hk (Nat.not_lt_zero k)) (fun k _ => rfl)

set_option maxHeartbeats 4000000 in
set_option maxRecDepth 100000 in
theorem k_Cells_init48 (h : Nat)  : CtV l y_Cells_init (Cond.code y_Cells_init c_Cells_init 3 none :: TB) ({ frames := 1, cells := 1, slots := 48, locals := 14 } : Room) D (tysv cI cJ cZ cQ) [.ref h, .int (nI 48)] [(h, .inr (0, [.null]))] 1 48 (fun (u : Nat × (Nat → Int32)) => ∀ k, k < 48 → u.2 k = -1) (fun (u : Nat × (Nat → Int32)) => [(h, .inr (0, [.ref u.1])), (u.1, .inl (cI, 48, .inl u.2))]) := by
  refine CtV.of c_Cells_init 3 none (by decide) rfl (Nat.le_of_ble_eq_true rfl) ?_
  intro p e s m args below meth c A Q hA9 hQ9 X hr9 hlk9 hin9
  refine g_aload_n X 0 d_Cells_init_0 rfl rfl ?_
  refine g_objInit X t1_36 t1_23 t1_24 d_Cells_init_1 (by decide) (Nat.le_of_ble_eq_true rfl) ?_
  refine g_aload_n X 0 d_Cells_init_4 rfl rfl ?_
  refine g_iconst (v := nI 0) X d_Cells_init_5 rfl ?_
  refine g_iload_n X 1 d_Cells_init_6 rfl rfl ?_
  refine g_mmax X (nI 48) (mmax0 (by decide)) t1_37 t1_38 t1_4 t1_39 (by decide) (Nat.le_of_ble_eq_true rfl) (by decide) (by decide) d_Cells_init_7 ?_
  refine g_newaI X 0 rfl t1_44 (by omega) (by decide) (by decide) d_Cells_init_10 (fun q1 => ?_)
  refine g_putF (C := R_Cells) (T := T_Cells) (N := 1) (ty := .array .int) X 0 0 [(h, .inr (0, [.ref q1])), (q1, .inl (cI, 48, .inl (fun _ => 0)))] t_Cells ty_Cells nm_Cells in_Cells rfl rfl (by decide) t1_40 rfl rfl hin9 rfl (by decide +kernel) rfl rfl (Nat.le_of_ble_eq_true rfl) rfl d_Cells_init_12 ?_
  have L17 : ∀ (N17 : Nat) (i : Nat) (g : Nat → Int32), (48 - i) < N17 → (i ≤ 48) → (∀ k, k < i → g k = -1) → G p l e ({ frames := 1, cells := 1, slots := 48, locals := 14 } : Room) s m args below meth c 3 D A s.heap Q 1 48 [(h, .inr (0, [.ref q1])), (q1, .inl (cI, 48, .inl g))] [(0, .ref h), (1, .int (nI 48)), (2, .int (nI i))] 17 [] := by
    intro N17
    induction N17 with
    | zero =>
      intro i g hN
      exact absurd hN (Nat.not_lt_zero _)
    | succ N17 ih17 =>
      intro i g hN17 hi h1
      refine g_iload_n X 2 d_Cells_init_17 rfl rfl ?_
      refine g_aload_n X 0 d_Cells_init_18 rfl rfl ?_
      refine g_get (C := R_Cells) (T := T_Cells) (N := 1) X 0 0 in_Cells rfl rfl (by decide) t1_40 rfl rfl d_Cells_init_19 ?_
      refine g_alen X 1 0 rfl rfl d_Cells_init_22 ?_
      refine n_icmp_ge X 39 d_Cells_init_23 (by decide) (by omega) (by omega) (fun h23 => ?_) (fun h23 => ?_)
      · exact g_vret X hA9 hQ9 hr9 hlk9 ⟨q1, g⟩ [0, 1] rfl rfl d_Cells_init_39 (by (try dsimp only); exact (fun k hk => h1 k (by omega)))
      · refine g_aload_n X 0 d_Cells_init_26 rfl rfl ?_
        refine g_get (C := R_Cells) (T := T_Cells) (N := 1) X 0 0 in_Cells rfl rfl (by decide) t1_40 rfl rfl d_Cells_init_27 ?_
        refine g_iload_n X 2 d_Cells_init_30 rfl rfl ?_
        refine g_iconst (v := -1) X d_Cells_init_31 rfl ?_
        refine g_iast X 1 0 [(h, .inr (0, [.ref q1])), (q1, .inl (cI, 48, .inl (upd g i (-1))))] rfl rfl (by omega) (by omega) rfl d_Cells_init_32 ?_
        refine g_iinc X (nI (i + 1)) [(2, .int (nI (i + 1))), (0, .ref h), (1, .int (nI 48))] d_Cells_init_33 (k := 2) rfl (nI_1 i) (by decide) rfl ?_
        refine g_goto X 17 d_Cells_init_36 (by decide) ?_
        refine g_lv [1, 2, 0] rfl ?_
        exact ih17 (i + 1) (upd g i (-1)) (by omega) (by omega) (fill_step h1)
  refine g_iconst (v := nI 0) X d_Cells_init_15 rfl ?_
  refine g_istore_n X [(2, .int (nI 0)), (0, .ref h), (1, .int (nI 48))] d_Cells_init_16 rfl (by decide) rfl ?_
  refine g_lv [1, 2, 0] rfl ?_
  exact L17 ((48 - 0) + 1) 0 (fun _ => 0) (Nat.lt_succ_self _) (by omega) (fun k hk => absurd hk (Nat.not_lt_zero k))

set_option maxHeartbeats 4000000 in
set_option maxRecDepth 100000 in
theorem k_Cells_init200 (h : Nat)  : CtV l y_Cells_init (Cond.code y_Cells_init c_Cells_init 3 none :: TB) ({ frames := 1, cells := 1, slots := 200, locals := 14 } : Room) D (tysv cI cJ cZ cQ) [.ref h, .int (nI 200)] [(h, .inr (0, [.null]))] 1 200 (fun (u : Nat × (Nat → Int32)) => ∀ k, k < 200 → u.2 k = -1) (fun (u : Nat × (Nat → Int32)) => [(h, .inr (0, [.ref u.1])), (u.1, .inl (cI, 200, .inl u.2))]) := by
  refine CtV.of c_Cells_init 3 none (by decide) rfl (Nat.le_of_ble_eq_true rfl) ?_
  intro p e s m args below meth c A Q hA9 hQ9 X hr9 hlk9 hin9
  refine g_aload_n X 0 d_Cells_init_0 rfl rfl ?_
  refine g_objInit X t1_36 t1_23 t1_24 d_Cells_init_1 (by decide) (Nat.le_of_ble_eq_true rfl) ?_
  refine g_aload_n X 0 d_Cells_init_4 rfl rfl ?_
  refine g_iconst (v := nI 0) X d_Cells_init_5 rfl ?_
  refine g_iload_n X 1 d_Cells_init_6 rfl rfl ?_
  refine g_mmax X (nI 200) (mmax0 (by decide)) t1_37 t1_38 t1_4 t1_39 (by decide) (Nat.le_of_ble_eq_true rfl) (by decide) (by decide) d_Cells_init_7 ?_
  refine g_newaI X 0 rfl t1_44 (by omega) (by decide) (by decide) d_Cells_init_10 (fun q1 => ?_)
  refine g_putF (C := R_Cells) (T := T_Cells) (N := 1) (ty := .array .int) X 0 0 [(h, .inr (0, [.ref q1])), (q1, .inl (cI, 200, .inl (fun _ => 0)))] t_Cells ty_Cells nm_Cells in_Cells rfl rfl (by decide) t1_40 rfl rfl hin9 rfl (by decide +kernel) rfl rfl (Nat.le_of_ble_eq_true rfl) rfl d_Cells_init_12 ?_
  have L17 : ∀ (N17 : Nat) (i : Nat) (g : Nat → Int32), (200 - i) < N17 → (i ≤ 200) → (∀ k, k < i → g k = -1) → G p l e ({ frames := 1, cells := 1, slots := 200, locals := 14 } : Room) s m args below meth c 3 D A s.heap Q 1 200 [(h, .inr (0, [.ref q1])), (q1, .inl (cI, 200, .inl g))] [(0, .ref h), (1, .int (nI 200)), (2, .int (nI i))] 17 [] := by
    intro N17
    induction N17 with
    | zero =>
      intro i g hN
      exact absurd hN (Nat.not_lt_zero _)
    | succ N17 ih17 =>
      intro i g hN17 hi h1
      refine g_iload_n X 2 d_Cells_init_17 rfl rfl ?_
      refine g_aload_n X 0 d_Cells_init_18 rfl rfl ?_
      refine g_get (C := R_Cells) (T := T_Cells) (N := 1) X 0 0 in_Cells rfl rfl (by decide) t1_40 rfl rfl d_Cells_init_19 ?_
      refine g_alen X 1 0 rfl rfl d_Cells_init_22 ?_
      refine n_icmp_ge X 39 d_Cells_init_23 (by decide) (by omega) (by omega) (fun h23 => ?_) (fun h23 => ?_)
      · exact g_vret X hA9 hQ9 hr9 hlk9 ⟨q1, g⟩ [0, 1] rfl rfl d_Cells_init_39 (by (try dsimp only); exact (fun k hk => h1 k (by omega)))
      · refine g_aload_n X 0 d_Cells_init_26 rfl rfl ?_
        refine g_get (C := R_Cells) (T := T_Cells) (N := 1) X 0 0 in_Cells rfl rfl (by decide) t1_40 rfl rfl d_Cells_init_27 ?_
        refine g_iload_n X 2 d_Cells_init_30 rfl rfl ?_
        refine g_iconst (v := -1) X d_Cells_init_31 rfl ?_
        refine g_iast X 1 0 [(h, .inr (0, [.ref q1])), (q1, .inl (cI, 200, .inl (upd g i (-1))))] rfl rfl (by omega) (by omega) rfl d_Cells_init_32 ?_
        refine g_iinc X (nI (i + 1)) [(2, .int (nI (i + 1))), (0, .ref h), (1, .int (nI 200))] d_Cells_init_33 (k := 2) rfl (nI_1 i) (by decide) rfl ?_
        refine g_goto X 17 d_Cells_init_36 (by decide) ?_
        refine g_lv [1, 2, 0] rfl ?_
        exact ih17 (i + 1) (upd g i (-1)) (by omega) (by omega) (fill_step h1)
  refine g_iconst (v := nI 0) X d_Cells_init_15 rfl ?_
  refine g_istore_n X [(2, .int (nI 0)), (0, .ref h), (1, .int (nI 200))] d_Cells_init_16 rfl (by decide) rfl ?_
  refine g_lv [1, 2, 0] rfl ?_
  exact L17 ((200 - 0) + 1) 0 (fun _ => 0) (Nat.lt_succ_self _) (by omega) (fun k hk => absurd hk (Nat.not_lt_zero k))
