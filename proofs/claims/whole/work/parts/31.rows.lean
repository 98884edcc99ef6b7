variable {l : Launch} {D : va_G} {cI cJ cZ cQ : ClassId}
/-- the graph that rows of longs tell -/
def rowE (n : Nat) (f : Nat → Int64) (x j : Nat) : Bool := decide (x < n) && lb (f x) j
theorem rowE_in {n : Nat} {f : Nat → Int64} {x : Nat} (h : x < n) (j : Nat) : rowE n f x j = lb (f x) j := by simp [rowE, h]
theorem above_0 {f : Nat → Int64} {set : Int64} : ∀ x, lb (0 : Int64) x = true ↔ x < 0 ∧ ¬ (f x &&& set) = 0 := by
  intro x
  rw [lb_0]
  constructor
  · intro h; cases h
  · rintro ⟨h, -⟩; exact absurd h (Nat.not_lt_zero _)
theorem above_keep {f : Nat → Int64} {set g : Int64} {i : Nat} (h : ∀ x, lb g x = true ↔ x < i ∧ ¬ (f x &&& set) = 0) (hz : f i &&& set = 0) : ∀ x, lb g x = true ↔ x < i + 1 ∧ ¬ (f x &&& set) = 0 := by
  intro x
  rw [h x]
  constructor
  · rintro ⟨h1, h2⟩; exact ⟨by omega, h2⟩
  · rintro ⟨h1, h2⟩
    rcases Nat.lt_or_ge x i with q | q
    · exact ⟨q, h2⟩
    · have e : x = i := by omega
      subst e
      exact absurd hz h2
theorem above_put {f : Nat → Int64} {set g : Int64} {i : Nat} (hi : i < 64) (h : ∀ x, lb g x = true ↔ x < i ∧ ¬ (f x &&& set) = 0) (hz : ¬ (f i &&& set) = 0) : ∀ x, lb (g ||| ((1 : Int64) <<< ((nI i).toInt64 &&& 63))) x = true ↔ x < i + 1 ∧ ¬ (f x &&& set) = 0 := by
  intro x
  rw [lb_or, lb_one hi, Bool.or_eq_true, h x, decide_eq_true_eq]
  constructor
  · rintro (⟨h1, h2⟩ | h1)
    · exact ⟨by omega, h2⟩
    · subst h1; exact ⟨by omega, hz⟩
  · rintro ⟨h1, h2⟩
    rcases Nat.lt_or_ge x i with q | q
    · exact Or.inl ⟨q, h2⟩
    · exact Or.inr (by omega)
theorem and_ne0 {x y : Int64} : ¬ (x &&& y) = 0 ↔ ∃ j, j < 64 ∧ lb x j = true ∧ lb y j = true := by
  constructor
  · intro h
    obtain ⟨j, hj, hb⟩ := lb_ne0 h
    rw [lb_and, Bool.and_eq_true] at hb
    exact ⟨j, hj, hb⟩
  · rintro ⟨j, hj, h1, h2⟩ h
    have := lb_eq0 h j
    rw [lb_and, h1, h2] at this
    cases this
theorem cl_start {n : Nat} {f g : Nat → Int64} (h : ∀ k, k < n → g k = f k) : ∀ x, x < n → ∀ j, lb (g x) j = gwar (rowE n f) 0 x j := by
  intro x hx j
  rw [h x hx]
  exact (rowE_in hx j).symm
theorem cl_keep {n z i : Nat} {E : Nat → Nat → Bool} {g0 g : Nat → Int64} (hz : ∀ x, x < n → ∀ j, lb (g0 x) j = gwar E z x j) (h1 : ∀ x, x < i → ∀ j, lb (g x) j = gwar E (z + 1) x j) (h2 : ∀ x, i ≤ x → g x = g0 x) (hi : i < n) (hb : lb (g i) z = false) : ∀ x, x < i + 1 → ∀ j, lb (g x) j = gwar E (z + 1) x j := by
  intro x hx j
  rcases Nat.lt_or_ge x i with q | q
  · exact h1 x q j
  · have e : x = i := by omega
    subst e
    have e2 := h2 x (Nat.le_refl x)
    rw [e2] at hb ⊢
    rw [hz x hi] at hb ⊢
    simp [gwar, hb]
theorem cl_put {n z i : Nat} {E : Nat → Nat → Bool} {g0 g : Nat → Int64} (hz : ∀ x, x < n → ∀ j, lb (g0 x) j = gwar E z x j) (h1 : ∀ x, x < i → ∀ j, lb (g x) j = gwar E (z + 1) x j) (h2 : ∀ x, i ≤ x → g x = g0 x) (hi : i < n) (hzn : z < n) (hb : lb (g i) z = true) : ∀ x, x < i + 1 → ∀ j, lb (vp_updL g i (g i ||| g0 z) x) j = gwar E (z + 1) x j := by
  intro x hx j
  rcases Nat.lt_or_ge x i with q | q
  · rw [pk_uLn (by omega)]
    exact h1 x q j
  · have e : x = i := by omega
    subst e
    have e2 := h2 x (Nat.le_refl x)
    rw [pk_uLs, lb_or]
    rw [e2] at hb ⊢
    rw [hz x hi] at hb
    rw [hz x hi, hz z hzn]
    simp [gwar, hb]
theorem cl_zero {n z i : Nat} {E : Nat → Nat → Bool} {g0 g : Nat → Int64} (hz : ∀ x, x < n → ∀ j, lb (g0 x) j = gwar E z x j) (h1 : ∀ x, x < i → ∀ j, lb (g x) j = gwar E (z + 1) x j) (h2 : ∀ x, i ≤ x → g x = g0 x) (hzn : z < n) (hb : g0 z = 0) : ∀ x, x < n → ∀ j, lb (g x) j = gwar E (z + 1) x j := by
  intro x hx j
  rcases Nat.lt_or_ge x i with q | q
  · exact h1 x q j
  · rw [h2 x q, hz x hx]
    have e := hz z hzn j
    rw [hb, lb_0] at e
    simp [gwar, ← e]
theorem updL_keep {g g0 : Nat → Int64} {i : Nat} {w : Int64} (h2 : ∀ x, i ≤ x → g x = g0 x) : ∀ x, i + 1 ≤ x → vp_updL g i w x = g0 x := fun x hx => (pk_uLn (by omega)).trans (h2 x (by omega))

set_option maxHeartbeats 4000000 in
set_option maxRecDepth 100000 in
theorem k_Rows_init48 (h : Nat)  : CtV l y_Rows_init (Cond.code y_Rows_init c_Rows_init 2 none :: TB) ({ frames := 1, cells := 1, slots := 48, locals := 14 } : Room) D (tysv cI cJ cZ cQ) [.ref h, .int (nI 48)] [(h, .inr (1, [.null]))] 1 48 (fun (q : Nat) => True) (fun (q : Nat) => [(h, .inr (1, [.ref q])), (q, .inl (cJ, 48, .inr (.inl (fun _ => 0))))]) := by
  refine CtV.of c_Rows_init 2 none (by decide) rfl (Nat.le_of_ble_eq_true rfl) ?_
  intro p e s m args below meth c A Q hA9 hQ9 X hr9 hlk9 hin9
  refine g_aload_n X 0 d_Rows_init_0 rfl rfl ?_
  refine g_objInit X t1_74 t1_23 t1_24 d_Rows_init_1 (by decide) (Nat.le_of_ble_eq_true rfl) ?_
  refine g_aload_n X 0 d_Rows_init_4 rfl rfl ?_
  refine g_iconst (v := nI 0) X d_Rows_init_5 rfl ?_
  refine g_iload_n X 1 d_Rows_init_6 rfl rfl ?_
  refine g_mmax X (nI 48) (mmax0 (by decide)) t1_75 t1_38 t1_4 t1_39 (by decide) (Nat.le_of_ble_eq_true rfl) (by decide) (by decide) d_Rows_init_7 ?_
  refine g_bipush (v := nI 48) X d_Rows_init_10 rfl ?_
  refine g_mmin X (nI 48) (mmin48 (by decide)) t1_76 t1_77 t1_4 t1_78 (by decide) (Nat.le_of_ble_eq_true rfl) (by decide) (by decide) d_Rows_init_12 ?_
  refine g_newaJ X 1 rfl t1_83 (by omega) (by decide) (by decide) d_Rows_init_15 (fun q1 => ?_)
  refine g_putF (C := R_Rows) (T := T_Rows) (N := 1) (ty := .array .long) X 0 0 [(h, .inr (1, [.ref q1])), (q1, .inl (cJ, 48, .inr (.inl (fun _ => 0))))] t_Rows ty_Rows nm_Rows in_Rows rfl rfl (by decide) t1_79 rfl rfl hin9 rfl (by decide +kernel) rfl rfl (Nat.le_of_ble_eq_true rfl) rfl d_Rows_init_17 ?_
  exact g_vret X hA9 hQ9 hr9 hlk9 q1 [0, 1] rfl rfl d_Rows_init_20 (trivial)

set_option maxHeartbeats 4000000 in
set_option maxRecDepth 100000 in
theorem k_Rows_init12 (h : Nat)  : CtV l y_Rows_init (Cond.code y_Rows_init c_Rows_init 2 none :: TB) ({ frames := 1, cells := 1, slots := 12, locals := 14 } : Room) D (tysv cI cJ cZ cQ) [.ref h, .int (nI 12)] [(h, .inr (1, [.null]))] 1 12 (fun (q : Nat) => True) (fun (q : Nat) => [(h, .inr (1, [.ref q])), (q, .inl (cJ, 12, .inr (.inl (fun _ => 0))))]) := by
  refine CtV.of c_Rows_init 2 none (by decide) rfl (Nat.le_of_ble_eq_true rfl) ?_
  intro p e s m args below meth c A Q hA9 hQ9 X hr9 hlk9 hin9
  refine g_aload_n X 0 d_Rows_init_0 rfl rfl ?_
  refine g_objInit X t1_74 t1_23 t1_24 d_Rows_init_1 (by decide) (Nat.le_of_ble_eq_true rfl) ?_
  refine g_aload_n X 0 d_Rows_init_4 rfl rfl ?_
  refine g_iconst (v := nI 0) X d_Rows_init_5 rfl ?_
  refine g_iload_n X 1 d_Rows_init_6 rfl rfl ?_
  refine g_mmax X (nI 12) (mmax0 (by decide)) t1_75 t1_38 t1_4 t1_39 (by decide) (Nat.le_of_ble_eq_true rfl) (by decide) (by decide) d_Rows_init_7 ?_
  refine g_bipush (v := nI 48) X d_Rows_init_10 rfl ?_
  refine g_mmin X (nI 12) (mmin48 (by decide)) t1_76 t1_77 t1_4 t1_78 (by decide) (Nat.le_of_ble_eq_true rfl) (by decide) (by decide) d_Rows_init_12 ?_
  refine g_newaJ X 1 rfl t1_83 (by omega) (by decide) (by decide) d_Rows_init_15 (fun q1 => ?_)
  refine g_putF (C := R_Rows) (T := T_Rows) (N := 1) (ty := .array .long) X 0 0 [(h, .inr (1, [.ref q1])), (q1, .inl (cJ, 12, .inr (.inl (fun _ => 0))))] t_Rows ty_Rows nm_Rows in_Rows rfl rfl (by decide) t1_79 rfl rfl hin9 rfl (by decide +kernel) rfl rfl (Nat.le_of_ble_eq_true rfl) rfl d_Rows_init_17 ?_
  exact g_vret X hA9 hQ9 hr9 hlk9 q1 [0, 1] rfl rfl d_Rows_init_20 (trivial)

set_option maxHeartbeats 4000000 in
set_option maxRecDepth 100000 in
theorem k_Rows_isPlace (h : Nat) (a : Nat) (n : Nat) (f : Nat → Int64) (j : Nat) (hj : j < n) (hn : n ≤ 48) : CtI l y_Rows_isPlace (Cond.code y_Rows_isPlace c_Rows_isPlace 2 (some .boolean) :: TB) ({ frames := 0, cells := 0, slots := 0, locals := 0 } : Room) D (tysv cI cJ cZ cQ) [.ref h, .int (nI j)] [(h, .inr (1, [.ref a])), (a, .inl (cJ, n, .inr (.inl f)))] 0 0 (fun (r : Int32) (_ : Unit) => r = bI true) (fun (_ : Unit) => [(h, .inr (1, [.ref a])), (a, .inl (cJ, n, .inr (.inl f)))]) := by
  refine CtI.of c_Rows_isPlace 2 (some .boolean) (by decide) rfl (Nat.le_of_ble_eq_true rfl) ?_
  intro p e s m args below meth c A Q hA9 hQ9 X hr9 hlk9 hin9
  refine g_iload_n X 1 d_Rows_isPlace_0 rfl rfl ?_
  refine n_if_lt X 17 d_Rows_isPlace_1 (by decide) (by omega) (fun h1 => absurd h1 (by omega)) (fun h1 => ?_)
  refine g_iload_n X 1 d_Rows_isPlace_4 rfl rfl ?_
  refine g_aload_n X 0 d_Rows_isPlace_5 rfl rfl ?_
  refine g_get (C := R_Rows) (T := T_Rows) (N := 1) X 0 0 in_Rows rfl rfl (by decide) t1_79 rfl rfl d_Rows_isPlace_6 ?_
  refine g_alen X 1 1 rfl rfl d_Rows_isPlace_9 ?_
  refine n_icmp_ge X 17 d_Rows_isPlace_10 (by decide) (by omega) (by omega) (fun h10 => absurd h10 (by omega)) (fun h10 => ?_)
  refine g_iconst (v := nI 1) X d_Rows_isPlace_13 rfl ?_
  refine g_goto X 18 d_Rows_isPlace_14 (by decide) ?_
  exact g_zret X hA9 hQ9 hr9 (by first | exact Or.inl rfl | exact Or.inr rfl) hlk9 () [0, 1] rfl rfl d_Rows_isPlace_18 (rfl)

set_option maxHeartbeats 4000000 in
set_option maxRecDepth 100000 in
theorem k_Rows_isPlaceM (h : Nat) (a : Nat) (n : Nat) (f : Nat → Int64) (hn : n ≤ 48) : CtI l y_Rows_isPlace (Cond.code y_Rows_isPlace c_Rows_isPlace 2 (some .boolean) :: TB) ({ frames := 0, cells := 0, slots := 0, locals := 0 } : Room) D (tysv cI cJ cZ cQ) [.ref h, .int (-1)] [(h, .inr (1, [.ref a])), (a, .inl (cJ, n, .inr (.inl f)))] 0 0 (fun (r : Int32) (_ : Unit) => r = bI false) (fun (_ : Unit) => [(h, .inr (1, [.ref a])), (a, .inl (cJ, n, .inr (.inl f)))]) := by
  refine CtI.of c_Rows_isPlace 2 (some .boolean) (by decide) rfl (Nat.le_of_ble_eq_true rfl) ?_
  intro p e s m args below meth c A Q hA9 hQ9 X hr9 hlk9 hin9
  refine g_iload_n X 1 d_Rows_isPlace_0 rfl rfl ?_
  refine g_if_lt X 17 d_Rows_isPlace_1 (by decide) (fun h1 => ?_) (fun h1 => absurd h1 (by decide))
  refine g_iconst (v := nI 0) X d_Rows_isPlace_17 rfl ?_
  exact g_zret X hA9 hQ9 hr9 (by first | exact Or.inl rfl | exact Or.inr rfl) hlk9 () [0, 1] rfl rfl d_Rows_isPlace_18 (rfl)

set_option maxHeartbeats 4000000 in
set_option maxRecDepth 100000 in
theorem k_Rows_row (h : Nat) (a : Nat) (n : Nat) (f : Nat → Int64) (j : Nat) (hj : j < n) (hn : n ≤ 48) : CtL l y_Rows_row (Cond.code y_Rows_row c_Rows_row 2 (some .long) :: TB) ({ frames := 1, cells := 0, slots := 0, locals := 21 } : Room) D (tysv cI cJ cZ cQ) [.ref h, .int (nI j)] [(h, .inr (1, [.ref a])), (a, .inl (cJ, n, .inr (.inl f)))] 0 0 (fun (r : Int64) (_ : Unit) => r = f j) (fun (_ : Unit) => [(h, .inr (1, [.ref a])), (a, .inl (cJ, n, .inr (.inl f)))]) := by
  refine CtL.of c_Rows_row 2 (some .long) (by decide) rfl (Nat.le_of_ble_eq_true rfl) ?_
  intro p e s m args below meth c A Q hA9 hQ9 X hr9 hlk9 hin9
  refine g_aload_n X 0 d_Rows_row_0 rfl rfl ?_
  refine g_iload_n X 1 d_Rows_row_1 rfl rfl ?_
  refine g_calliV (n := 1) X [.int (nI j)] (k_Rows_isPlace h a n f j (by omega) (by omega)) t1_177 t1_179 ts_1 t1_6 t1_180 rfl rfl (by decide +kernel) ⟨by decide, by decide⟩ [0, 1] [] [] rfl rfl rfl rfl (by decide) 0 rfl rfl rfl rfl (Nat.le_of_ble_eq_true rfl) d_Rows_row_2 ⟨by decide, by decide⟩ (fun r1 w9u1 hw1 => ?_)
  subst hw1
  refine b_if_eq X 17 d_Rows_row_5 (by decide) (fun h5 => absurd h5 (by decide)) (fun h5 => ?_)
  refine g_aload_n X 0 d_Rows_row_8 rfl rfl ?_
  refine g_get (C := R_Rows) (T := T_Rows) (N := 1) X 0 0 in_Rows rfl rfl (by decide) t1_79 rfl rfl d_Rows_row_9 ?_
  refine g_iload_n X 1 d_Rows_row_12 rfl rfl ?_
  refine g_lald X 1 1 rfl rfl (by omega) (by omega) d_Rows_row_13 ?_
  refine g_goto X 18 d_Rows_row_14 (by decide) ?_
  exact g_lret X hA9 hQ9 hr9 hlk9 () [0, 1] rfl rfl d_Rows_row_18 (rfl)

set_option maxHeartbeats 4000000 in
set_option maxRecDepth 100000 in
theorem k_Rows_put (h : Nat) (a : Nat) (n : Nat) (f : Nat → Int64) (j : Nat) (x : Int64) (hj : j < n) (hn : n ≤ 48) : CtV l y_Rows_put (Cond.code y_Rows_put c_Rows_put 4 none :: TB) ({ frames := 1, cells := 0, slots := 0, locals := 21 } : Room) D (tysv cI cJ cZ cQ) [.ref h, .int (nI j), .long x] [(h, .inr (1, [.ref a])), (a, .inl (cJ, n, .inr (.inl f)))] 0 0 (fun (_ : Unit) => True) (fun (_ : Unit) => [(h, .inr (1, [.ref a])), (a, .inl (cJ, n, .inr (.inl (vp_updL f j x))))]) := by
  refine CtV.of c_Rows_put 4 none (by decide) rfl (Nat.le_of_ble_eq_true rfl) ?_
  intro p e s m args below meth c A Q hA9 hQ9 X hr9 hlk9 hin9
  refine g_aload_n X 0 d_Rows_put_0 rfl rfl ?_
  refine g_iload_n X 1 d_Rows_put_1 rfl rfl ?_
  refine g_calliV (n := 1) X [.int (nI j)] (k_Rows_isPlace h a n f j (by omega) (by omega)) t1_177 t1_179 ts_1 t1_6 t1_180 rfl rfl (by decide +kernel) ⟨by decide, by decide⟩ [0, 1] [] [] rfl rfl rfl rfl (by decide) 0 rfl rfl rfl rfl (Nat.le_of_ble_eq_true rfl) d_Rows_put_2 ⟨by decide, by decide⟩ (fun r1 w9u1 hw1 => ?_)
  subst hw1
  refine b_if_eq X 15 d_Rows_put_5 (by decide) (fun h5 => absurd h5 (by decide)) (fun h5 => ?_)
  refine g_aload_n X 0 d_Rows_put_8 rfl rfl ?_
  refine g_get (C := R_Rows) (T := T_Rows) (N := 1) X 0 0 in_Rows rfl rfl (by decide) t1_79 rfl rfl d_Rows_put_9 ?_
  refine g_iload_n X 1 d_Rows_put_12 rfl rfl ?_
  refine g_lload_n X 2 d_Rows_put_13 rfl rfl ?_
  refine g_last X 1 1 [(h, .inr (1, [.ref a])), (a, .inl (cJ, n, .inr (.inl (vp_updL f j x))))] rfl rfl (by omega) (by omega) rfl d_Rows_put_14 ?_
  exact g_vret X hA9 hQ9 hr9 hlk9 () [0, 1] rfl rfl d_Rows_put_15 (trivial)

set_option maxHeartbeats 4000000 in
set_option maxRecDepth 100000 in
theorem k_Rows_has (h : Nat) (a : Nat) (n : Nat) (f : Nat → Int64) (j : Nat) (k : Nat) (hj : j < n) (hk : k < n) (hn : n ≤ 48) : CtI l y_Rows_has (Cond.code y_Rows_has c_Rows_has 3 (some .boolean) :: TB) ({ frames := 1, cells := 0, slots := 0, locals := 21 } : Room) D (tysv cI cJ cZ cQ) [.ref h, .int (nI j), .int (nI k)] [(h, .inr (1, [.ref a])), (a, .inl (cJ, n, .inr (.inl f)))] 0 0 (fun (r : Int32) (_ : Unit) => r = bI (lb (f j) k)) (fun (_ : Unit) => [(h, .inr (1, [.ref a])), (a, .inl (cJ, n, .inr (.inl f)))]) := by
  refine CtI.of c_Rows_has 3 (some .boolean) (by decide) rfl (Nat.le_of_ble_eq_true rfl) ?_
  intro p e s m args below meth c A Q hA9 hQ9 X hr9 hlk9 hin9
  refine g_aload_n X 0 d_Rows_has_0 rfl rfl ?_
  refine g_iload_n X 1 d_Rows_has_1 rfl rfl ?_
  refine g_calliV (n := 1) X [.int (nI j)] (k_Rows_isPlace h a n f j (by omega) (by omega)) t1_177 t1_179 ts_1 t1_6 t1_180 rfl rfl (by decide +kernel) ⟨by decide, by decide⟩ [0, 1] [] [] rfl rfl rfl rfl (by decide) 0 rfl rfl rfl rfl (Nat.le_of_ble_eq_true rfl) d_Rows_has_2 ⟨by decide, by decide⟩ (fun r1 w9u1 hw1 => ?_)
  subst hw1
  refine b_if_eq X 35 d_Rows_has_5 (by decide) (fun h5 => absurd h5 (by decide)) (fun h5 => ?_)
  refine g_aload_n X 0 d_Rows_has_8 rfl rfl ?_
  refine g_iload_n X 2 d_Rows_has_9 rfl rfl ?_
  refine g_calliV (n := 1) X [.int (nI k)] (k_Rows_isPlace h a n f k (by omega) (by omega)) t1_177 t1_179 ts_1 t1_6 t1_180 rfl rfl (by decide +kernel) ⟨by decide, by decide⟩ [0, 1] [] [] rfl rfl rfl rfl (by decide) 0 rfl rfl rfl rfl (Nat.le_of_ble_eq_true rfl) d_Rows_has_10 ⟨by decide, by decide⟩ (fun r2 w9u2 hw2 => ?_)
  subst hw2
  refine b_if_eq X 35 d_Rows_has_13 (by decide) (fun h13 => absurd h13 (by decide)) (fun h13 => ?_)
  refine g_aload_n X 0 d_Rows_has_16 rfl rfl ?_
  refine g_get (C := R_Rows) (T := T_Rows) (N := 1) X 0 0 in_Rows rfl rfl (by decide) t1_79 rfl rfl d_Rows_has_17 ?_
  refine g_iload_n X 1 d_Rows_has_20 rfl rfl ?_
  refine g_lald X 1 1 rfl rfl (by omega) (by omega) d_Rows_has_21 ?_
  refine g_iload_n X 2 d_Rows_has_22 rfl rfl ?_
  refine g_lushr X (((f j).toUInt64 >>> ((nI k).toInt64.toUInt64 &&& Int64.toUInt64 63)).toInt64) d_Rows_has_23 rfl ?_
  refine g_lconst (v := 1) X d_Rows_has_24 rfl ?_
  refine g_land X ((((f j).toUInt64 >>> ((nI k).toInt64.toUInt64 &&& Int64.toUInt64 63)).toInt64) &&& 1) d_Rows_has_25 rfl ?_
  refine g_lconst (v := 0) X d_Rows_has_26 rfl ?_
  refine g_lcmp X d_Rows_has_27 ?_
  refine bit_if_eq X 35 d_Rows_has_28 (by decide) (by omega) (fun h28 => ?_) (fun h28 => ?_)
  · refine g_iconst (v := nI 0) X d_Rows_has_35 rfl ?_
    exact g_zret X hA9 hQ9 hr9 (by first | exact Or.inl rfl | exact Or.inr rfl) hlk9 () [0, 1] rfl rfl d_Rows_has_36 (by rw [h28]; rfl)
  · refine g_iconst (v := nI 1) X d_Rows_has_31 rfl ?_
    refine g_goto X 36 d_Rows_has_32 (by decide) ?_
    exact g_zret X hA9 hQ9 hr9 (by first | exact Or.inl rfl | exact Or.inr rfl) hlk9 () [0, 1] rfl rfl d_Rows_has_36 (by rw [h28]; rfl)

set_option maxHeartbeats 4000000 in
set_option maxRecDepth 100000 in
theorem k_Rows_mark (h : Nat) (a : Nat) (n : Nat) (f : Nat → Int64) (j : Nat) (k : Nat) (hj : j < n) (hk : k < n) (hn : n ≤ 48) : CtV l y_Rows_mark (Cond.code y_Rows_mark c_Rows_mark 3 none :: TB) ({ frames := 1, cells := 0, slots := 0, locals := 21 } : Room) D (tysv cI cJ cZ cQ) [.ref h, .int (nI j), .int (nI k)] [(h, .inr (1, [.ref a])), (a, .inl (cJ, n, .inr (.inl f)))] 0 0 (fun (_ : Unit) => True) (fun (_ : Unit) => [(h, .inr (1, [.ref a])), (a, .inl (cJ, n, .inr (.inl (vp_updL f j (f j ||| ((1 : Int64) <<< ((nI k).toInt64 &&& 63)))))))]) := by
  refine CtV.of c_Rows_mark 3 none (by decide) rfl (Nat.le_of_ble_eq_true rfl) ?_
  intro p e s m args below meth c A Q hA9 hQ9 X hr9 hlk9 hin9
  refine g_aload_n X 0 d_Rows_mark_0 rfl rfl ?_
  refine g_iload_n X 1 d_Rows_mark_1 rfl rfl ?_
  refine g_calliV (n := 1) X [.int (nI j)] (k_Rows_isPlace h a n f j (by omega) (by omega)) t1_177 t1_179 ts_1 t1_6 t1_180 rfl rfl (by decide +kernel) ⟨by decide, by decide⟩ [0, 1] [] [] rfl rfl rfl rfl (by decide) 0 rfl rfl rfl rfl (Nat.le_of_ble_eq_true rfl) d_Rows_mark_2 ⟨by decide, by decide⟩ (fun r1 w9u1 hw1 => ?_)
  subst hw1
  refine b_if_eq X 28 d_Rows_mark_5 (by decide) (fun h5 => absurd h5 (by decide)) (fun h5 => ?_)
  refine g_aload_n X 0 d_Rows_mark_8 rfl rfl ?_
  refine g_iload_n X 2 d_Rows_mark_9 rfl rfl ?_
  refine g_calliV (n := 1) X [.int (nI k)] (k_Rows_isPlace h a n f k (by omega) (by omega)) t1_177 t1_179 ts_1 t1_6 t1_180 rfl rfl (by decide +kernel) ⟨by decide, by decide⟩ [0, 1] [] [] rfl rfl rfl rfl (by decide) 0 rfl rfl rfl rfl (Nat.le_of_ble_eq_true rfl) d_Rows_mark_10 ⟨by decide, by decide⟩ (fun r2 w9u2 hw2 => ?_)
  subst hw2
  refine b_if_eq X 28 d_Rows_mark_13 (by decide) (fun h13 => absurd h13 (by decide)) (fun h13 => ?_)
  refine g_aload_n X 0 d_Rows_mark_16 rfl rfl ?_
  refine g_get (C := R_Rows) (T := T_Rows) (N := 1) X 0 0 in_Rows rfl rfl (by decide) t1_79 rfl rfl d_Rows_mark_17 ?_
  refine g_iload_n X 1 d_Rows_mark_20 rfl rfl ?_
  refine g_dup2 X d_Rows_mark_21 rfl rfl ?_
  refine g_lald X 1 1 rfl rfl (by omega) (by omega) d_Rows_mark_22 ?_
  refine g_lconst (v := 1) X d_Rows_mark_23 rfl ?_
  refine g_iload_n X 2 d_Rows_mark_24 rfl rfl ?_
  refine g_lshl X (1 <<< ((nI k).toInt64 &&& 63)) d_Rows_mark_25 rfl ?_
  refine g_lor X ((f j) ||| (1 <<< ((nI k).toInt64 &&& 63))) d_Rows_mark_26 rfl ?_
  refine g_last X 1 1 [(h, .inr (1, [.ref a])), (a, .inl (cJ, n, .inr (.inl (vp_updL f j ((f j) ||| (1 <<< ((nI k).toInt64 &&& 63)))))))] rfl rfl (by omega) (by omega) rfl d_Rows_mark_27 ?_
  exact g_vret X hA9 hQ9 hr9 hlk9 () [0, 1] rfl rfl d_Rows_mark_28 (trivial)

set_option maxHeartbeats 4000000 in
set_option maxRecDepth 100000 in
theorem k_Rows_markM (h : Nat) (a : Nat) (n : Nat) (f : Nat → Int64) (j : Nat) (hj : j < n) (hn : n ≤ 48) : CtV l y_Rows_mark (Cond.code y_Rows_mark c_Rows_mark 3 none :: TB) ({ frames := 1, cells := 0, slots := 0, locals := 21 } : Room) D (tysv cI cJ cZ cQ) [.ref h, .int (nI j), .int (-1)] [(h, .inr (1, [.ref a])), (a, .inl (cJ, n, .inr (.inl f)))] 0 0 (fun (_ : Unit) => True) (fun (_ : Unit) => [(h, .inr (1, [.ref a])), (a, .inl (cJ, n, .inr (.inl f)))]) := by
  refine CtV.of c_Rows_mark 3 none (by decide) rfl (Nat.le_of_ble_eq_true rfl) ?_
  intro p e s m args below meth c A Q hA9 hQ9 X hr9 hlk9 hin9
  refine g_aload_n X 0 d_Rows_mark_0 rfl rfl ?_
  refine g_iload_n X 1 d_Rows_mark_1 rfl rfl ?_
  refine g_calliV (n := 1) X [.int (nI j)] (k_Rows_isPlace h a n f j (by omega) (by omega)) t1_177 t1_179 ts_1 t1_6 t1_180 rfl rfl (by decide +kernel) ⟨by decide, by decide⟩ [0, 1] [] [] rfl rfl rfl rfl (by decide) 0 rfl rfl rfl rfl (Nat.le_of_ble_eq_true rfl) d_Rows_mark_2 ⟨by decide, by decide⟩ (fun r1 w9u1 hw1 => ?_)
  subst hw1
  refine b_if_eq X 28 d_Rows_mark_5 (by decide) (fun h5 => absurd h5 (by decide)) (fun h5 => ?_)
  refine g_aload_n X 0 d_Rows_mark_8 rfl rfl ?_
  refine g_iload_n X 2 d_Rows_mark_9 rfl rfl ?_
  refine g_calliV (n := 1) X [.int (-1)] (k_Rows_isPlaceM h a n f (by omega)) t1_177 t1_179 ts_1 t1_6 t1_180 rfl rfl (by decide +kernel) ⟨by decide, by decide⟩ [0, 1] [] [] rfl rfl rfl rfl (by decide) 0 rfl rfl rfl rfl (Nat.le_of_ble_eq_true rfl) d_Rows_mark_10 ⟨by decide, by decide⟩ (fun r2 w9u2 hw2 => ?_)
  subst hw2
  refine b_if_eq X 28 d_Rows_mark_13 (by decide) (fun h13 => ?_) (fun h13 => absurd h13 (by decide))
  exact g_vret X hA9 hQ9 hr9 hlk9 () [0, 1] rfl rfl d_Rows_mark_28 (trivial)

set_option maxHeartbeats 4000000 in
set_option maxRecDepth 100000 in
theorem k_Rows_clear (h : Nat) (a : Nat) (n : Nat) (f : Nat → Int64) (hn : n ≤ 48) : CtV l y_Rows_clear (Cond.code y_Rows_clear c_Rows_clear 2 none :: TB) ({ frames := 0, cells := 0, slots := 0, locals := 0 } : Room) D (tysv cI cJ cZ cQ) [.ref h] [(h, .inr (1, [.ref a])), (a, .inl (cJ, n, .inr (.inl f)))] 0 0 (fun (g : Nat → Int64) => ∀ k, k < n → g k = 0) (fun (g : Nat → Int64) => [(h, .inr (1, [.ref a])), (a, .inl (cJ, n, .inr (.inl g)))]) := by
  refine CtV.of c_Rows_clear 2 none (by decide) rfl (Nat.le_of_ble_eq_true rfl) ?_
  intro p e s m args below meth c A Q hA9 hQ9 X hr9 hlk9 hin9
  have L2 : ∀ (N2 : Nat) (i : Nat) (g : Nat → Int64), (n - i) < N2 → (i ≤ n) → (∀ k, k < i → g k = 0) → G p l e ({ frames := 0, cells := 0, slots := 0, locals := 0 } : Room) s m args below meth c 2 D A s.heap Q 0 0 [(h, .inr (1, [.ref a])), (a, .inl (cJ, n, .inr (.inl g)))] [(0, .ref h), (1, .int (nI i))] 2 [] := by
    intro N2
    induction N2 with
    | zero =>
      intro i g hN
      exact absurd hN (Nat.not_lt_zero _)
    | succ N2 ih2 =>
      intro i g hN2 hi h1
      refine g_iload_n X 1 d_Rows_clear_2 rfl rfl ?_
      refine g_aload_n X 0 d_Rows_clear_3 rfl rfl ?_
      refine g_get (C := R_Rows) (T := T_Rows) (N := 1) X 0 0 in_Rows rfl rfl (by decide) t1_79 rfl rfl d_Rows_clear_4 ?_
      refine g_alen X 1 1 rfl rfl d_Rows_clear_7 ?_
      refine n_icmp_ge X 24 d_Rows_clear_8 (by decide) (by omega) (by omega) (fun h8 => ?_) (fun h8 => ?_)
      · exact g_vret X hA9 hQ9 hr9 hlk9 g [0, 1] rfl rfl d_Rows_clear_24 (fun k hk => h1 k (by omega))
      · refine g_aload_n X 0 d_Rows_clear_11 rfl rfl ?_
        refine g_get (C := R_Rows) (T := T_Rows) (N := 1) X 0 0 in_Rows rfl rfl (by decide) t1_79 rfl rfl d_Rows_clear_12 ?_
        refine g_iload_n X 1 d_Rows_clear_15 rfl rfl ?_
        refine g_lconst (v := 0) X d_Rows_clear_16 rfl ?_
        refine g_last X 1 1 [(h, .inr (1, [.ref a])), (a, .inl (cJ, n, .inr (.inl (vp_updL g i 0))))] rfl rfl (by omega) (by omega) rfl d_Rows_clear_17 ?_
        refine g_iinc X (nI (i + 1)) [(1, .int (nI (i + 1))), (0, .ref h)] d_Rows_clear_18 (k := 1) rfl (nI_1 i) (by decide) rfl ?_
        refine g_goto X 2 d_Rows_clear_21 (by decide) ?_
        refine g_lv [1, 0] rfl ?_
        exact ih2 (i + 1) (vp_updL g i 0) (by omega) (by omega) (fillL_step h1)
  refine g_iconst (v := nI 0) X d_Rows_clear_0 rfl ?_
  refine g_istore_n X [(1, .int (nI 0)), (0, .ref h)] d_Rows_clear_1 rfl (by decide) rfl ?_
  refine g_lv [1, 0] rfl ?_
  exact L2 ((n - 0) + 1) 0 f (Nat.lt_succ_self _) (by omega) (fun k hk => absurd hk (Nat.not_lt_zero k))

set_option maxHeartbeats 4000000 in
set_option maxRecDepth 100000 in
theorem k_Rows_above (h : Nat) (a : Nat) (n : Nat) (f : Nat → Int64) (set : Int64) (hn : n ≤ 48) : CtL l y_Rows_above (Cond.code y_Rows_above c_Rows_above 6 (some .long) :: TB) ({ frames := 0, cells := 0, slots := 0, locals := 0 } : Room) D (tysv cI cJ cZ cQ) [.ref h, .long set] [(h, .inr (1, [.ref a])), (a, .inl (cJ, n, .inr (.inl f)))] 0 0 (fun (r : Int64) (_ : Unit) => ∀ x, lb r x = true ↔ x < n ∧ ¬ (f x &&& set) = 0) (fun (_ : Unit) => [(h, .inr (1, [.ref a])), (a, .inl (cJ, n, .inr (.inl f)))]) := by
  refine CtL.of c_Rows_above 6 (some .long) (by decide) rfl (Nat.le_of_ble_eq_true rfl) ?_
  intro p e s m args below meth c A Q hA9 hQ9 X hr9 hlk9 hin9
  have L5 : ∀ (N5 : Nat) (i : Nat) (g : Int64), (n - i) < N5 → (i ≤ n) → (∀ x, lb g x = true ↔ x < i ∧ ¬ (f x &&& set) = 0) → G p l e ({ frames := 0, cells := 0, slots := 0, locals := 0 } : Room) s m args below meth c 6 D A s.heap Q 0 0 [(h, .inr (1, [.ref a])), (a, .inl (cJ, n, .inr (.inl f)))] [(0, .ref h), (1, .long set), (3, .long g), (5, .int (nI i))] 5 [] := by
    intro N5
    induction N5 with
    | zero =>
      intro i g hN
      exact absurd hN (Nat.not_lt_zero _)
    | succ N5 ih5 =>
      intro i g hN5 hi h1
      refine g_iload X 5 d_Rows_above_5 rfl ?_
      refine g_aload_n X 0 d_Rows_above_7 rfl rfl ?_
      refine g_get (C := R_Rows) (T := T_Rows) (N := 1) X 0 0 in_Rows rfl rfl (by decide) t1_79 rfl rfl d_Rows_above_8 ?_
      refine g_alen X 1 1 rfl rfl d_Rows_above_11 ?_
      refine n_icmp_ge X 42 d_Rows_above_12 (by decide) (by omega) (by omega) (fun h12 => ?_) (fun h12 => ?_)
      · refine g_lload_n X 3 d_Rows_above_42 rfl rfl ?_
        exact g_lret X hA9 hQ9 hr9 hlk9 () [0, 1] rfl rfl d_Rows_above_43 (by have e : i = n := (by omega); subst e; exact h1)
      · refine g_aload_n X 0 d_Rows_above_15 rfl rfl ?_
        refine g_get (C := R_Rows) (T := T_Rows) (N := 1) X 0 0 in_Rows rfl rfl (by decide) t1_79 rfl rfl d_Rows_above_16 ?_
        refine g_iload X 5 d_Rows_above_19 rfl ?_
        refine g_lald X 1 1 rfl rfl (by omega) (by omega) d_Rows_above_21 ?_
        refine g_lload_n X 1 d_Rows_above_22 rfl rfl ?_
        refine g_land X ((f i) &&& set) d_Rows_above_23 rfl ?_
        refine g_lconst (v := 0) X d_Rows_above_24 rfl ?_
        refine g_lcmp X d_Rows_above_25 ?_
        refine lc_if_eq X 36 d_Rows_above_26 (by decide) (fun h26 => ?_) (fun h26 => ?_)
        · refine g_iinc X (nI (i + 1)) [(5, .int (nI (i + 1))), (0, .ref h), (1, .long set), (3, .long g)] d_Rows_above_36 (k := 3) rfl (nI_1 i) (by decide) rfl ?_
          refine g_goto X 5 d_Rows_above_39 (by decide) ?_
          refine g_lv [1, 2, 3, 0] rfl ?_
          exact ih5 (i + 1) g (by omega) (by omega) (by first | exact above_keep h1 h26 | exact above_put (by omega) h1 h26)
        · refine g_lload_n X 3 d_Rows_above_29 rfl rfl ?_
          refine g_lconst (v := 1) X d_Rows_above_30 rfl ?_
          refine g_iload X 5 d_Rows_above_31 rfl ?_
          refine g_lshl X (1 <<< ((nI i).toInt64 &&& 63)) d_Rows_above_33 rfl ?_
          refine g_lor X (g ||| (1 <<< ((nI i).toInt64 &&& 63))) d_Rows_above_34 rfl ?_
          refine g_lstore_n X [(3, .long (g ||| (1 <<< ((nI i).toInt64 &&& 63)))), (0, .ref h), (1, .long set), (5, .int (nI i))] d_Rows_above_35 rfl (by decide) rfl ?_
          refine g_iinc X (nI (i + 1)) [(5, .int (nI (i + 1))), (3, .long (g ||| (1 <<< ((nI i).toInt64 &&& 63)))), (0, .ref h), (1, .long set)] d_Rows_above_36 (k := 3) rfl (nI_1 i) (by decide) rfl ?_
          refine g_goto X 5 d_Rows_above_39 (by decide) ?_
          refine g_lv [2, 3, 1, 0] rfl ?_
          exact ih5 (i + 1) (g ||| (1 <<< ((nI i).toInt64 &&& 63))) (by omega) (by omega) (by first | exact above_keep h1 h26 | exact above_put (by omega) h1 h26)
  refine g_lconst (v := 0) X d_Rows_above_0 rfl ?_
  refine g_lstore_n X [(3, .long 0), (0, .ref h), (1, .long set)] d_Rows_above_1 rfl (by decide) rfl ?_
  refine g_iconst (v := nI 0) X d_Rows_above_2 rfl ?_
  refine g_istore X [(5, .int (nI 0)), (3, .long 0), (0, .ref h), (1, .long set)] d_Rows_above_3 (by decide) rfl ?_
  refine g_lv [2, 3, 1, 0] rfl ?_
  exact L5 ((n - 0) + 1) 0 0 (Nat.lt_succ_self _) (by omega) (above_0)

set_option maxHeartbeats 4000000 in
set_option maxRecDepth 100000 in
theorem k_Rows_close (h : Nat) (a : Nat) (n : Nat) (f : Nat → Int64) (h2 : Nat) (a2 : Nat) (f2 : Nat → Int64) (hn : n ≤ 48) : CtV l y_Rows_close (Cond.code y_Rows_close c_Rows_close 6 none :: TB) ({ frames := 2, cells := 0, slots := 0, locals := 42 } : Room) D (tysv cI cJ cZ cQ) [.ref h, .ref h2] [(h, .inr (1, [.ref a])), (a, .inl (cJ, n, .inr (.inl f))), (h2, .inr (1, [.ref a2])), (a2, .inl (cJ, n, .inr (.inl f2)))] 0 0 (fun (g : Nat → Int64) => ∀ x, x < n → ∀ j, lb (g x) j = gwar (rowE n f2) n x j) (fun (g : Nat → Int64) => [(h, .inr (1, [.ref a])), (a, .inl (cJ, n, .inr (.inl g))), (h2, .inr (1, [.ref a2])), (a2, .inl (cJ, n, .inr (.inl f2)))]) := by
  refine CtV.of c_Rows_close 6 none (by decide) rfl (Nat.le_of_ble_eq_true rfl) ?_
  intro p e s m args below meth c A Q hA9 hQ9 X hr9 hlk9 hin9
  have L30 : ∀ (N30 : Nat) (z : Nat) (g0 : Nat → Int64), (n - z) < N30 → (z ≤ n) → (∀ x, x < n → ∀ j, lb (g0 x) j = gwar (rowE n f2) z x j) → G p l e ({ frames := 2, cells := 0, slots := 0, locals := 42 } : Room) s m args below meth c 6 D A s.heap Q 0 0 [(h, .inr (1, [.ref a])), (a, .inl (cJ, n, .inr (.inl g0))), (h2, .inr (1, [.ref a2])), (a2, .inl (cJ, n, .inr (.inl f2)))] [(0, .ref h), (1, .ref h2), (2, .int (nI z))] 30 [] := by
    intro N30
    induction N30 with
    | zero =>
      intro z g0 hN
      exact absurd hN (Nat.not_lt_zero _)
    | succ N30 ih30 =>
      intro z g0 hN30 hz hg
      refine g_iload_n X 2 d_Rows_close_30 rfl rfl ?_
      refine g_aload_n X 0 d_Rows_close_31 rfl rfl ?_
      refine g_get (C := R_Rows) (T := T_Rows) (N := 1) X 0 0 in_Rows rfl rfl (by decide) t1_79 rfl rfl d_Rows_close_32 ?_
      refine g_alen X 1 1 rfl rfl d_Rows_close_35 ?_
      refine n_icmp_ge X 104 d_Rows_close_36 (by decide) (by omega) (by omega) (fun h36 => ?_) (fun h36 => ?_)
      · exact g_vret X hA9 hQ9 hr9 hlk9 g0 [0, 1, 2, 3] rfl rfl d_Rows_close_104 (by have e : z = n := (by omega); subst e; exact hg)
      · refine g_aload_n X 0 d_Rows_close_39 rfl rfl ?_
        refine g_get (C := R_Rows) (T := T_Rows) (N := 1) X 0 0 in_Rows rfl rfl (by decide) t1_79 rfl rfl d_Rows_close_40 ?_
        refine g_iload_n X 2 d_Rows_close_43 rfl rfl ?_
        refine g_lald X 1 1 rfl rfl (by omega) (by omega) d_Rows_close_44 ?_
        refine g_lstore_n X [(3, .long (g0 z)), (0, .ref h), (1, .ref h2), (2, .int (nI z))] d_Rows_close_45 rfl (by decide) rfl ?_
        have L49 : ∀ (N49 : Nat) (i : Nat) (g : Nat → Int64), (n - i) < N49 → (i ≤ n) → (∀ x, x < i → ∀ j, lb (g x) j = gwar (rowE n f2) (z + 1) x j) → (∀ x, i ≤ x → g x = g0 x) → G p l e ({ frames := 2, cells := 0, slots := 0, locals := 42 } : Room) s m args below meth c 6 D A s.heap Q 0 0 [(h, .inr (1, [.ref a])), (a, .inl (cJ, n, .inr (.inl g))), (h2, .inr (1, [.ref a2])), (a2, .inl (cJ, n, .inr (.inl f2)))] [(0, .ref h), (1, .ref h2), (2, .int (nI z)), (3, .long (g0 z)), (5, .int (nI i))] 49 [] := by
          intro N49
          induction N49 with
          | zero =>
            intro i g hN
            exact absurd hN (Nat.not_lt_zero _)
          | succ N49 ih49 =>
            intro i g hN49 hi e1 e2
            refine g_iload X 5 d_Rows_close_49 rfl ?_
            refine g_aload_n X 0 d_Rows_close_51 rfl rfl ?_
            refine g_get (C := R_Rows) (T := T_Rows) (N := 1) X 0 0 in_Rows rfl rfl (by decide) t1_79 rfl rfl d_Rows_close_52 ?_
            refine g_alen X 1 1 rfl rfl d_Rows_close_55 ?_
            refine n_icmp_ge X 98 d_Rows_close_56 (by decide) (by omega) (by omega) (fun h56 => ?_) (fun h56 => ?_)
            · refine g_iinc X (nI (z + 1)) [(2, .int (nI (z + 1))), (0, .ref h), (1, .ref h2), (3, .long (g0 z)), (5, .int (nI i))] d_Rows_close_98 (k := 2) rfl (nI_1 z) (by decide) rfl ?_
              refine g_goto X 30 d_Rows_close_101 (by decide) ?_
              refine g_lv [1, 2, 0] rfl ?_
              exact ih30 (z + 1) g (by omega) (by omega) (by first | exact fun x hx j => e1 x (by omega) j | exact cl_zero hg e1 e2 (by omega) h62)
            · refine g_lload_n X 3 d_Rows_close_59 rfl rfl ?_
              refine g_lconst (v := 0) X d_Rows_close_60 rfl ?_
              refine g_lcmp X d_Rows_close_61 ?_
              refine lc_if_eq X 98 d_Rows_close_62 (by decide) (fun h62 => ?_) (fun h62 => ?_)
              · refine g_iinc X (nI (z + 1)) [(2, .int (nI (z + 1))), (0, .ref h), (1, .ref h2), (3, .long (g0 z)), (5, .int (nI i))] d_Rows_close_98 (k := 2) rfl (nI_1 z) (by decide) rfl ?_
                refine g_goto X 30 d_Rows_close_101 (by decide) ?_
                refine g_lv [1, 2, 0] rfl ?_
                exact ih30 (z + 1) g (by omega) (by omega) (by first | exact fun x hx j => e1 x (by omega) j | exact cl_zero hg e1 e2 (by omega) h62)
              · refine g_aload_n X 0 d_Rows_close_65 rfl rfl ?_
                refine g_get (C := R_Rows) (T := T_Rows) (N := 1) X 0 0 in_Rows rfl rfl (by decide) t1_79 rfl rfl d_Rows_close_66 ?_
                refine g_iload X 5 d_Rows_close_69 rfl ?_
                refine g_lald X 1 1 rfl rfl (by omega) (by omega) d_Rows_close_71 ?_
                refine g_iload_n X 2 d_Rows_close_72 rfl rfl ?_
                refine g_lushr X (((g i).toUInt64 >>> ((nI z).toInt64.toUInt64 &&& Int64.toUInt64 63)).toInt64) d_Rows_close_73 rfl ?_
                refine g_lconst (v := 1) X d_Rows_close_74 rfl ?_
                refine g_land X ((((g i).toUInt64 >>> ((nI z).toInt64.toUInt64 &&& Int64.toUInt64 63)).toInt64) &&& 1) d_Rows_close_75 rfl ?_
                refine g_lconst (v := 0) X d_Rows_close_76 rfl ?_
                refine g_lcmp X d_Rows_close_77 ?_
                refine bit_if_eq X 92 d_Rows_close_78 (by decide) (by omega) (fun h78 => ?_) (fun h78 => ?_)
                · refine g_iinc X (nI (i + 1)) [(5, .int (nI (i + 1))), (0, .ref h), (1, .ref h2), (2, .int (nI z)), (3, .long (g0 z))] d_Rows_close_92 (k := 4) rfl (nI_1 i) (by decide) rfl ?_
                  refine g_goto X 49 d_Rows_close_95 (by decide) ?_
                  refine g_lv [1, 2, 3, 4, 0] rfl ?_
                  exact ih49 (i + 1) g (by omega) (by omega) (by first | exact cl_keep hg e1 e2 (by omega) h78 | exact cl_put hg e1 e2 (by omega) (by omega) h78) (by first | exact fun x hx => e2 x (by omega) | exact updL_keep e2)
                · refine g_aload_n X 0 d_Rows_close_81 rfl rfl ?_
                  refine g_get (C := R_Rows) (T := T_Rows) (N := 1) X 0 0 in_Rows rfl rfl (by decide) t1_79 rfl rfl d_Rows_close_82 ?_
                  refine g_iload X 5 d_Rows_close_85 rfl ?_
                  refine g_dup2 X d_Rows_close_87 rfl rfl ?_
                  refine g_lald X 1 1 rfl rfl (by omega) (by omega) d_Rows_close_88 ?_
                  refine g_lload_n X 3 d_Rows_close_89 rfl rfl ?_
                  refine g_lor X ((g i) ||| (g0 z)) d_Rows_close_90 rfl ?_
                  refine g_last X 1 1 [(h, .inr (1, [.ref a])), (a, .inl (cJ, n, .inr (.inl (vp_updL g i ((g i) ||| (g0 z)))))), (h2, .inr (1, [.ref a2])), (a2, .inl (cJ, n, .inr (.inl f2)))] rfl rfl (by omega) (by omega) rfl d_Rows_close_91 ?_
                  refine g_iinc X (nI (i + 1)) [(5, .int (nI (i + 1))), (0, .ref h), (1, .ref h2), (2, .int (nI z)), (3, .long (g0 z))] d_Rows_close_92 (k := 4) rfl (nI_1 i) (by decide) rfl ?_
                  refine g_goto X 49 d_Rows_close_95 (by decide) ?_
                  refine g_lv [1, 2, 3, 4, 0] rfl ?_
                  exact ih49 (i + 1) (vp_updL g i ((g i) ||| (g0 z))) (by omega) (by omega) (by first | exact cl_keep hg e1 e2 (by omega) h78 | exact cl_put hg e1 e2 (by omega) (by omega) h78) (by first | exact fun x hx => e2 x (by omega) | exact updL_keep e2)
        refine g_iconst (v := nI 0) X d_Rows_close_46 rfl ?_
        refine g_istore X [(5, .int (nI 0)), (3, .long (g0 z)), (0, .ref h), (1, .ref h2), (2, .int (nI z))] d_Rows_close_47 (by decide) rfl ?_
        refine g_lv [2, 3, 4, 1, 0] rfl ?_
        exact L49 ((n - 0) + 1) 0 g0 (Nat.lt_succ_self _) (by omega) (fun k hk => absurd hk (Nat.not_lt_zero k)) (fun x _ => rfl)
  have L2 : ∀ (N2 : Nat) (i : Nat) (g : Nat → Int64), (n - i) < N2 → (i ≤ n) → (∀ k, k < i → g k = f2 k) → G p l e ({ frames := 2, cells := 0, slots := 0, locals := 42 } : Room) s m args below meth c 6 D A s.heap Q 0 0 [(h, .inr (1, [.ref a])), (a, .inl (cJ, n, .inr (.inl g))), (h2, .inr (1, [.ref a2])), (a2, .inl (cJ, n, .inr (.inl f2)))] [(0, .ref h), (1, .ref h2), (2, .int (nI i))] 2 [] := by
    intro N2
    induction N2 with
    | zero =>
      intro i g hN
      exact absurd hN (Nat.not_lt_zero _)
    | succ N2 ih2 =>
      intro i g hN2 hi g1
      refine g_iload_n X 2 d_Rows_close_2 rfl rfl ?_
      refine g_aload_n X 0 d_Rows_close_3 rfl rfl ?_
      refine g_get (C := R_Rows) (T := T_Rows) (N := 1) X 0 0 in_Rows rfl rfl (by decide) t1_79 rfl rfl d_Rows_close_4 ?_
      refine g_alen X 1 1 rfl rfl d_Rows_close_7 ?_
      refine n_icmp_ge X 28 d_Rows_close_8 (by decide) (by omega) (by omega) (fun h8 => ?_) (fun h8 => ?_)
      · refine g_iconst (v := nI 0) X d_Rows_close_28 rfl ?_
        refine g_istore_n X [(2, .int (nI 0)), (0, .ref h), (1, .ref h2)] d_Rows_close_29 rfl (by decide) rfl ?_
        refine g_lv [1, 2, 0] rfl ?_
        exact L30 ((n - 0) + 1) 0 g (Nat.lt_succ_self _) (by omega) (cl_start (fun k hk => g1 k (by omega)))
      · refine g_aload_n X 0 d_Rows_close_11 rfl rfl ?_
        refine g_get (C := R_Rows) (T := T_Rows) (N := 1) X 0 0 in_Rows rfl rfl (by decide) t1_79 rfl rfl d_Rows_close_12 ?_
        refine g_iload_n X 2 d_Rows_close_15 rfl rfl ?_
        refine g_aload_n X 1 d_Rows_close_16 rfl rfl ?_
        refine g_iload_n X 2 d_Rows_close_17 rfl rfl ?_
        refine g_calllV (n := 1) X [.int (nI i)] (k_Rows_row h2 a2 n f2 i (by omega) (by omega)) t2_160 t1_174 t1_175 t1_6 t1_176 rfl rfl (by decide +kernel) ⟨by decide, by decide⟩ [2, 3] [0, 1] [(h, .inr (1, [.ref a])), (a, .inl (cJ, n, .inr (.inl g)))] rfl rfl rfl rfl (by decide) 0 rfl rfl rfl rfl (Nat.le_of_ble_eq_true rfl) d_Rows_close_18 ⟨by decide, by decide⟩ (fun r1 w9u1 hw1 => ?_)
        subst hw1
        refine g_last X 1 1 [(h, .inr (1, [.ref a])), (a, .inl (cJ, n, .inr (.inl (vp_updL g i (f2 i))))), (h2, .inr (1, [.ref a2])), (a2, .inl (cJ, n, .inr (.inl f2)))] rfl rfl (by omega) (by omega) rfl d_Rows_close_21 ?_
        refine g_iinc X (nI (i + 1)) [(2, .int (nI (i + 1))), (0, .ref h), (1, .ref h2)] d_Rows_close_22 (k := 2) rfl (nI_1 i) (by decide) rfl ?_
        refine g_goto X 2 d_Rows_close_25 (by decide) ?_
        refine g_lv [1, 2, 0] rfl ?_
        exact ih2 (i + 1) (vp_updL g i (f2 i)) (by omega) (by omega) (copyL_step g1)
  refine g_iconst (v := nI 0) X d_Rows_close_0 rfl ?_
  refine g_istore_n X [(2, .int (nI 0)), (0, .ref h), (1, .ref h2)] d_Rows_close_1 rfl (by decide) rfl ?_
  refine g_lv [1, 2, 0] rfl ?_
  exact L2 ((n - 0) + 1) 0 f (Nat.lt_succ_self _) (by omega) (fun k hk => absurd hk (Nat.not_lt_zero k))
