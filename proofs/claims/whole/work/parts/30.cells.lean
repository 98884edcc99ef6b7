variable {l : Launch} {D : va_G} {cI cJ cZ cQ : ClassId}
theorem repl_keep {f g : Nat → Int32} {x y : Int32} {i : Nat} (h1 : ∀ k, k < i → g k = if f k = x then y else f k) (h2 : ∀ k, i ≤ k → g k = f k) (hne : ¬ g i = x) : ∀ k, k < i + 1 → g k = if f k = x then y else f k := by
  intro k hk
  rcases Nat.lt_or_ge k i with q | q
  · exact h1 k q
  · have e : k = i := by omega
    subst e
    have e2 := h2 k (Nat.le_refl k)
    rw [e2] at hne ⊢
    rw [if_neg hne]
theorem repl_put {f g : Nat → Int32} {x y : Int32} {i : Nat} (h1 : ∀ k, k < i → g k = if f k = x then y else f k) (h2 : ∀ k, i ≤ k → g k = f k) (he : g i = x) : ∀ k, k < i + 1 → upd g i y k = if f k = x then y else f k := by
  intro k hk
  rcases Nat.lt_or_ge k i with q | q
  · rw [pk_un (by omega)]
    exact h1 k q
  · have e : k = i := by omega
    subst e
    have e2 := h2 k (Nat.le_refl k)
    rw [pk_us, if_pos (e2.symm.trans he)]

set_option maxHeartbeats 4000000 in
set_option maxRecDepth 100000 in
theorem k_Cells_at (h : Nat) (a : Nat) (n : Nat) (f : Nat → Int32) (j : Nat) (hj : j < n) (hn : n < 2 ^ 31) : CtI l y_Cells_at (Cond.code y_Cells_at c_Cells_at 2 (some .int) :: TB) ({ frames := 0, cells := 0, slots := 0, locals := 0 } : Room) D (tysv cI cJ cZ cQ) [.ref h, .int (nI j)] [(h, .inr (0, [.ref a])), (a, .inl (cI, n, .inl f))] 0 0 (fun (r : Int32) (_ : Unit) => r = f j) (fun (_ : Unit) => [(h, .inr (0, [.ref a])), (a, .inl (cI, n, .inl f))]) := by
  refine CtI.of c_Cells_at 2 (some .int) (by decide) rfl (Nat.le_of_ble_eq_true rfl) ?_
  intro p e s m args below meth c A Q hA hQ X hr hlocks hin
  refine g_iload_n X 1 d_Cells_at_0 rfl rfl ?_
  refine n_if_lt X 22 d_Cells_at_1 (by decide) (by omega) (fun h1 => absurd h1 (by omega)) (fun h1 => ?_)
  refine g_iload_n X 1 d_Cells_at_4 rfl rfl ?_
  refine g_aload_n X 0 d_Cells_at_5 rfl rfl ?_
  refine g_get (C := R_Cells) (T := T_Cells) (N := 1) X 0 0 in_Cells rfl rfl (by decide) t1_40 rfl rfl d_Cells_at_6 ?_
  refine g_alen X 1 0 rfl rfl d_Cells_at_9 ?_
  refine n_icmp_ge X 22 d_Cells_at_10 (by decide) (by omega) (by omega) (fun h10 => absurd h10 (by omega)) (fun h10 => ?_)
  refine g_aload_n X 0 d_Cells_at_13 rfl rfl ?_
  refine g_get (C := R_Cells) (T := T_Cells) (N := 1) X 0 0 in_Cells rfl rfl (by decide) t1_40 rfl rfl d_Cells_at_14 ?_
  refine g_iload_n X 1 d_Cells_at_17 rfl rfl ?_
  refine g_iald X 1 0 rfl rfl (by omega) (by omega) d_Cells_at_18 ?_
  refine g_goto X 23 d_Cells_at_19 (by decide) ?_
  exact g_iret X hA hQ hr hlocks () [0, 1] rfl rfl d_Cells_at_23 (rfl)

set_option maxHeartbeats 4000000 in
set_option maxRecDepth 100000 in
theorem k_Cells_put (h : Nat) (a : Nat) (n : Nat) (f : Nat → Int32) (j : Nat) (x : Int32) (hj : j < n) (hn : n < 2 ^ 31) : CtV l y_Cells_put (Cond.code y_Cells_put c_Cells_put 3 none :: TB) ({ frames := 0, cells := 0, slots := 0, locals := 0 } : Room) D (tysv cI cJ cZ cQ) [.ref h, .int (nI j), .int x] [(h, .inr (0, [.ref a])), (a, .inl (cI, n, .inl f))] 0 0 (fun (_ : Unit) => True) (fun (_ : Unit) => [(h, .inr (0, [.ref a])), (a, .inl (cI, n, .inl (upd f j x)))]) := by
  refine CtV.of c_Cells_put 3 none (by decide) rfl (Nat.le_of_ble_eq_true rfl) ?_
  intro p e s m args below meth c A Q hA hQ X hr hlocks hin
  refine g_iload_n X 1 d_Cells_put_0 rfl rfl ?_
  refine n_if_lt X 20 d_Cells_put_1 (by decide) (by omega) (fun h1 => absurd h1 (by omega)) (fun h1 => ?_)
  refine g_iload_n X 1 d_Cells_put_4 rfl rfl ?_
  refine g_aload_n X 0 d_Cells_put_5 rfl rfl ?_
  refine g_get (C := R_Cells) (T := T_Cells) (N := 1) X 0 0 in_Cells rfl rfl (by decide) t1_40 rfl rfl d_Cells_put_6 ?_
  refine g_alen X 1 0 rfl rfl d_Cells_put_9 ?_
  refine n_icmp_ge X 20 d_Cells_put_10 (by decide) (by omega) (by omega) (fun h10 => absurd h10 (by omega)) (fun h10 => ?_)
  refine g_aload_n X 0 d_Cells_put_13 rfl rfl ?_
  refine g_get (C := R_Cells) (T := T_Cells) (N := 1) X 0 0 in_Cells rfl rfl (by decide) t1_40 rfl rfl d_Cells_put_14 ?_
  refine g_iload_n X 1 d_Cells_put_17 rfl rfl ?_
  refine g_iload_n X 2 d_Cells_put_18 rfl rfl ?_
  refine g_iast X 1 0 [(h, .inr (0, [.ref a])), (a, .inl (cI, n, .inl (upd f j x)))] rfl rfl (by omega) (by omega) rfl d_Cells_put_19 ?_
  exact g_vret X hA hQ hr hlocks () [0, 1] rfl rfl d_Cells_put_20 (trivial)

set_option maxHeartbeats 4000000 in
set_option maxRecDepth 100000 in
theorem k_Cells_replace (h : Nat) (a : Nat) (n : Nat) (f : Nat → Int32) (x : Int32) (y : Int32) (hn : n < 2 ^ 31) : CtV l y_Cells_replace (Cond.code y_Cells_replace c_Cells_replace 4 none :: TB) ({ frames := 0, cells := 0, slots := 0, locals := 0 } : Room) D (tysv cI cJ cZ cQ) [.ref h, .int x, .int y] [(h, .inr (0, [.ref a])), (a, .inl (cI, n, .inl f))] 0 0 (fun (g : Nat → Int32) => ∀ i, i < n → g i = if f i = x then y else f i) (fun (g : Nat → Int32) => [(h, .inr (0, [.ref a])), (a, .inl (cI, n, .inl g))]) := by
  refine CtV.of c_Cells_replace 4 none (by decide) rfl (Nat.le_of_ble_eq_true rfl) ?_
  intro p e s m args below meth c A Q hA hQ X hr hlocks hin
  have L2 : ∀ (N2 : Nat) (i : Nat) (g : Nat → Int32), (n - i) < N2 → (i ≤ n) → (∀ k, k < i → g k = if f k = x then y else f k) → (∀ k, i ≤ k → g k = f k) → G p l e ({ frames := 0, cells := 0, slots := 0, locals := 0 } : Room) s m args below meth c 4 D A s.heap Q 0 0 [(h, .inr (0, [.ref a])), (a, .inl (cI, n, .inl g))] [(0, .ref h), (1, .int x), (2, .int y), (3, .int (nI i))] 2 [] := by
    intro N2
    induction N2 with
    | zero =>
      intro i g hN
      exact absurd hN (Nat.not_lt_zero _)
    | succ N2 ih2 =>
      intro i g hN2 hi h1 h2
      refine g_iload_n X 3 d_Cells_replace_2 rfl rfl ?_
      refine g_aload_n X 0 d_Cells_replace_3 rfl rfl ?_
      refine g_get (C := R_Cells) (T := T_Cells) (N := 1) X 0 0 in_Cells rfl rfl (by decide) t1_40 rfl rfl d_Cells_replace_4 ?_
      refine g_alen X 1 0 rfl rfl d_Cells_replace_7 ?_
      refine n_icmp_ge X 34 d_Cells_replace_8 (by decide) (by omega) (by omega) (fun h8 => ?_) (fun h8 => ?_)
      · exact g_vret X hA hQ hr hlocks g [0, 1] rfl rfl d_Cells_replace_34 (fun k hk => h1 k (by omega))
      · refine g_aload_n X 0 d_Cells_replace_11 rfl rfl ?_
        refine g_get (C := R_Cells) (T := T_Cells) (N := 1) X 0 0 in_Cells rfl rfl (by decide) t1_40 rfl rfl d_Cells_replace_12 ?_
        refine g_iload_n X 3 d_Cells_replace_15 rfl rfl ?_
        refine g_iald X 1 0 rfl rfl (by omega) (by omega) d_Cells_replace_16 ?_
        refine g_iload_n X 1 d_Cells_replace_17 rfl rfl ?_
        refine g_icmp_ne X 28 d_Cells_replace_18 (by decide) (fun h18 => ?_) (fun h18 => ?_)
        · refine g_iinc X (nI (i + 1)) [(3, .int (nI (i + 1))), (0, .ref h), (1, .int x), (2, .int y)] d_Cells_replace_28 (k := 3) rfl (nI_1 i) (by decide) rfl ?_
          refine g_goto X 2 d_Cells_replace_31 (by decide) ?_
          refine g_lv [1, 2, 3, 0] rfl ?_
          exact ih2 (i + 1) g (by omega) (by omega) (by first | exact repl_keep h1 h2 h18 | exact repl_put h1 h2 h18) (by first | exact fun k hk => h2 k (by omega) | exact fun k hk => (pk_un (by omega)).trans (h2 k (by omega)))
        · refine g_aload_n X 0 d_Cells_replace_21 rfl rfl ?_
          refine g_get (C := R_Cells) (T := T_Cells) (N := 1) X 0 0 in_Cells rfl rfl (by decide) t1_40 rfl rfl d_Cells_replace_22 ?_
          refine g_iload_n X 3 d_Cells_replace_25 rfl rfl ?_
          refine g_iload_n X 2 d_Cells_replace_26 rfl rfl ?_
          refine g_iast X 1 0 [(h, .inr (0, [.ref a])), (a, .inl (cI, n, .inl (upd g i y)))] rfl rfl (by omega) (by omega) rfl d_Cells_replace_27 ?_
          refine g_iinc X (nI (i + 1)) [(3, .int (nI (i + 1))), (0, .ref h), (1, .int x), (2, .int y)] d_Cells_replace_28 (k := 3) rfl (nI_1 i) (by decide) rfl ?_
          refine g_goto X 2 d_Cells_replace_31 (by decide) ?_
          refine g_lv [1, 2, 3, 0] rfl ?_
          exact ih2 (i + 1) (upd g i y) (by omega) (by omega) (by first | exact repl_keep h1 h2 h18 | exact repl_put h1 h2 h18) (by first | exact fun k hk => h2 k (by omega) | exact fun k hk => (pk_un (by omega)).trans (h2 k (by omega)))
  refine g_iconst (v := nI 0) X d_Cells_replace_0 rfl ?_
  refine g_istore_n X [(3, .int (nI 0)), (0, .ref h), (1, .int x), (2, .int y)] d_Cells_replace_1 rfl (by decide) rfl ?_
  refine g_lv [1, 2, 3, 0] rfl ?_
  exact L2 ((n - 0) + 1) 0 f (Nat.lt_succ_self _) (by omega) (fun k hk => absurd hk (Nat.not_lt_zero k)) (fun k _ => rfl)
