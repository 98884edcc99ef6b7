variable {l : Launch} {D : va_G} {cI cJ cZ cQ : ClassId}
def isEq (k : Int32) : Bool := decide (k = nI 3)
def isAb (k : Int32) : Bool := !decide (k < 0) && !decide (nI 3 ≤ k)
def isCt (k : Int32) : Bool := decide (k = nI 4)
theorem iota_step {g : Nat → Int32} {i : Nat} (h1 : ∀ k, k < i → g k = nI k) : ∀ k, k < i + 1 → upd g i (nI i) k = nI k := by
  intro k hk
  rcases Nat.lt_or_ge k i with q | q
  · rw [pk_un (by omega)]
    exact h1 k q
  · have e : k = i := by omega
    subst e
    exact pk_us
theorem upd_far {g : Nat → Int32} {i K : Nat} {x y : Int32} (hi : i < K) (h : ∀ k, K ≤ k → k < 48 → g k = y) : ∀ k, K ≤ k → k < 48 → upd g i x k = y := fun k h1 h2 => (pk_un (by omega)).trans (h k h1 h2)
theorem mmaxN {a b : Nat} (ha : a < 2 ^ 31) (hb : b < 2 ^ 31) : (if nI a < nI b then nI b else nI a) = nI (max a b) := by
  by_cases q : a < b
  · rw [if_pos ((nI_ltI ha hb).mpr q), Nat.max_eq_right (by omega)]
  · rw [if_neg (fun h => q ((nI_ltI ha hb).mp h)), Nat.max_eq_left (by omega)]
theorem mminN {a b : Nat} (ha : a < 2 ^ 31) (hb : b < 2 ^ 31) : (if nI b < nI a then nI b else nI a) = nI (min a b) := by
  by_cases q : b < a
  · rw [if_pos ((nI_ltI hb ha).mpr q), Nat.min_eq_right (by omega)]
  · rw [if_neg (fun h => q ((nI_ltI hb ha).mp h)), Nat.min_eq_left (by omega)]
theorem jnum_lt {a b : Nat → Nat} {eq : Nat → Bool} {R x K : Nat} (h : x < K) : jnum a b eq R x < K := Nat.lt_of_le_of_lt (jnum_le R x) h
theorem join_keep {a b : Nat → Nat} {fK g : Nat → Int32} {q K : Nat} (g1 : ∀ x, x < K → g x = nI (jnum a b (fun r => isEq (fK r)) q x)) (h : ¬ fK q = nI 3) : ∀ x, x < K → g x = nI (jnum a b (fun r => isEq (fK r)) (q + 1) x) := by
  intro x hx
  rw [jnum_same (by simp [isEq, h])]
  exact g1 x hx
theorem join_put {a b : Nat → Nat} {fK g g' : Nat → Int32} {q K : Nat} (hK : K ≤ 48) (ha : a q < K) (hb : b q < K) (g1 : ∀ x, x < K → g x = nI (jnum a b (fun r => isEq (fK r)) q x)) (h : fK q = nI 3)
    (hw : ∀ i, i < 48 → g' i = if g i = nI (max (jnum a b (fun r => isEq (fK r)) q (a q)) (jnum a b (fun r => isEq (fK r)) q (b q))) then nI (min (jnum a b (fun r => isEq (fK r)) q (a q)) (jnum a b (fun r => isEq (fK r)) q (b q))) else g i) : ∀ x, x < K → g' x = nI (jnum a b (fun r => isEq (fK r)) (q + 1) x) := by
  intro x hx
  have hq : isEq (fK q) = true := by simp [isEq, h]
  have l1 : jnum a b (fun r => isEq (fK r)) q (a q) < K := jnum_lt ha
  have l2 : jnum a b (fun r => isEq (fK r)) q (b q) < K := jnum_lt hb
  have l3 : jnum a b (fun r => isEq (fK r)) q x < K := jnum_lt hx
  rw [hw x (by omega), g1 x hx]
  simp only [jnum, hq, true_and]
  generalize jnum a b (fun r => isEq (fK r)) q (a q) = M1 at l1 ⊢
  generalize jnum a b (fun r => isEq (fK r)) q (b q) = M2 at l2 ⊢
  generalize jnum a b (fun r => isEq (fK r)) q x = M3 at l3 ⊢
  by_cases e : M3 = max M1 M2
  · rw [if_pos (by rw [e]), if_pos e]
  · rw [if_neg (fun z => e ((nI_eq (by omega) (by omega)).mp z)), if_neg e]
theorem join_far {g g' : Nat → Int32} {K M : Nat} {y : Int32} (hM : M < 48) (g2 : ∀ k, K ≤ k → k < 48 → g k = -1) (hw : ∀ i, i < 48 → g' i = if g i = nI M then y else g i) : ∀ k, K ≤ k → k < 48 → g' k = -1 := by
  intro k h1 h2
  rw [hw k h2, g2 k h1 h2, if_neg]
  intro h
  have := nI_pos (n := M) (by omega)
  rw [← h] at this
  exact this (by decide)
/-! steps -/
theorem steps_0 {a b num : Nat → Nat} {ab : Nat → Bool} {fs : Nat → Int64} (h : ∀ k, k < 48 → fs k = 0) : ∀ x, x < 48 → ∀ j, lb (fs x) j = jst a b num ab 0 x j := by
  intro x hx j
  rw [h x hx, lb_0]
  rfl
theorem steps_keep {a b num : Nat → Nat} {fK : Nat → Int32} {fs : Nat → Int64} {q : Nat} (h : ∀ x, x < 48 → ∀ j, lb (fs x) j = jst a b num (fun r => isAb (fK r)) q x j) (hk : isAb (fK q) = false) : ∀ x, x < 48 → ∀ j, lb (fs x) j = jst a b num (fun r => isAb (fK r)) (q + 1) x j := by
  intro x hx j
  rw [h x hx]
  simp [jst, hk]
theorem lb_mark {f : Nat → Int64} {u w : Nat} (hw : w < 64) (x j : Nat) : lb (vp_updL f u (f u ||| ((1 : Int64) <<< ((nI w).toInt64 &&& 63))) x) j = (lb (f x) j || (decide (x = u) && decide (j = w))) := by
  by_cases e : x = u
  · subst e
    rw [pk_uLs, lb_or, lb_one hw]
    simp
  · rw [pk_uLn e]
    simp [e]
theorem steps_put {a b num : Nat → Nat} {fK : Nat → Int32} {fs : Nat → Int64} {q : Nat} (hb : num (b q) < 48) (h : ∀ x, x < 48 → ∀ j, lb (fs x) j = jst a b num (fun r => isAb (fK r)) q x j) (hk : isAb (fK q) = true) : ∀ x, x < 48 → ∀ j, lb (vp_updL fs (num (a q)) (fs (num (a q)) ||| ((1 : Int64) <<< ((nI (num (b q))).toInt64 &&& 63))) x) j = jst a b num (fun r => isAb (fK r)) (q + 1) x j := by
  intro x hx j
  rw [lb_mark (by omega), h x hx]
  simp only [jst, hk, Bool.true_and]
  rw [show decide (x = num (a q)) = decide (num (a q) = x) by rw [decide_eq_decide]; exact eq_comm, show decide (j = num (b q)) = decide (num (b q) = j) by rw [decide_eq_decide]; exact eq_comm]
theorem isAb_f1 {k : Int32} (h : k < 0) : isAb k = false := by simp [isAb, h]
theorem isAb_f2 {k : Int32} (h : nI 3 ≤ k) : isAb k = false := by simp [isAb, h]
theorem isAb_t {k : Int32} (h1 : ¬ k < 0) (h2 : ¬ nI 3 ≤ k) : isAb k = true := by
  simp only [isAb, Bool.and_eq_true, Bool.not_eq_true', decide_eq_false_iff_not]
  exact ⟨h1, h2⟩
theorem rowE_jst {a b num : Nat → Nat} {ab : Nat → Bool} {fs : Nat → Int64} {R : Nat} (hE : gin (jst a b num ab R) 48) (h : ∀ x, x < 48 → ∀ j, lb (fs x) j = jst a b num ab R x j) : rowE 48 fs = jst a b num ab R := by
  funext x j
  rcases Nat.lt_or_ge x 48 with q | q
  · rw [rowE_in q, h x q]
  · have e1 : rowE 48 fs x j = false := by simp [rowE, Nat.not_lt.mpr q]
    rw [e1]
    cases hb : jst a b num ab R x j with
    | false => rfl
    | true => exact absurd (hE x j hb).1 (by omega)
theorem rowE_mark {f : Nat → Int64} {n u w : Nat} (hu : u < n) (hw : w < 64) : rowE n (vp_updL f u (f u ||| ((1 : Int64) <<< ((nI w).toInt64 &&& 63)))) = gadd (rowE n f) u w := by
  funext x j
  unfold rowE gadd
  rw [lb_mark hw]
  by_cases hx : x < n
  · simp [hx]
  · have : x ≠ u := by omega
    simp [hx, this]
theorem updL_back (f : Nat → Int64) (u : Nat) (w : Int64) : vp_updL (vp_updL f u w) u (f u) = f := by
  funext x
  by_cases e : x = u
  · subst e; exact pk_uLs
  · rw [pk_uLn e, pk_uLn e]
theorem mark_in {f : Nat → Int64} {n u w : Nat} (hw : w < n) (hn : n ≤ 48) (hf : ∀ x, x < n → ∀ j, lb (f x) j = true → j < n) : ∀ x, x < n → ∀ j, lb (vp_updL f u (f u ||| ((1 : Int64) <<< ((nI w).toInt64 &&& 63))) x) j = true → j < n := by
  intro x hx j h
  rw [lb_mark (by omega), Bool.or_eq_true] at h
  rcases h with h | h
  · exact hf x hx j h
  · simp only [Bool.and_eq_true, decide_eq_true_eq] at h
    omega
/-! links -/
def anyB (P : Nat → Bool) : Nat → Bool
  | 0 => false
  | n + 1 => anyB P n || P n
theorem anyB_iff {P : Nat → Bool} : ∀ n, anyB P n = true ↔ ∃ k, k < n ∧ P k = true
  | 0 => by
    constructor
    · intro h; cases h
    · rintro ⟨k, h, -⟩; exact absurd h (Nat.not_lt_zero _)
  | n + 1 => by
    simp only [anyB, Bool.or_eq_true, anyB_iff n]
    constructor
    · rintro (⟨k, h1, h2⟩ | h)
      · exact ⟨k, by omega, h2⟩
      · exact ⟨n, by omega, h⟩
    · rintro ⟨k, h1, h2⟩
      rcases Nat.lt_or_ge k n with q | q
      · exact Or.inl ⟨k, q, h2⟩
      · have e : k = n := by omega
        subst e
        exact Or.inr h2
def lkB (fU : Nat → Int64) (K u x : Nat) : Bool := lb (fU u) x && !anyB (fun k => lb (fU u) k && lb (fU k) x) K
def lsum (F : Nat → Nat) : Nat → Nat
  | 0 => 0
  | n + 1 => lsum F n + F n
theorem lsum_mono (F : Nat → Nat) {a b : Nat} (h : a ≤ b) : lsum F a ≤ lsum F b := by
  induction b with
  | zero =>
    have e : a = 0 := by omega
    subst e
    exact Nat.le_refl _
  | succ b ih =>
    rcases Nat.lt_or_ge b a with q | q
    · have e : a = b + 1 := by omega
      subst e
      exact Nat.le_refl _
    · have := ih q
      simp only [lsum]
      omega
theorem lsum_le {F : Nat → Nat} {B : Nat} (h : ∀ i, F i ≤ B) : ∀ n, lsum F n ≤ n * B
  | 0 => by simp [lsum]
  | n + 1 => by
    have := lsum_le h n
    have := h n
    rw [Nat.succ_mul]
    simp only [lsum]
    omega
theorem any_0 {fU : Nat → Int64} {u : Nat} : ∀ x, lb (0 : Int64) x = anyB (fun k => lb (fU u) k && lb (fU k) x) 0 := fun x => lb_0 x
theorem any_keep {fU : Nat → Int64} {u i : Nat} {w : Int64} (h : ∀ x, lb w x = anyB (fun k => lb (fU u) k && lb (fU k) x) i) (hb : lb (fU u) i = false) : ∀ x, lb w x = anyB (fun k => lb (fU u) k && lb (fU k) x) (i + 1) := by
  intro x
  rw [h x]
  simp [anyB, hb]
theorem any_put {fU : Nat → Int64} {u i : Nat} {w : Int64} (h : ∀ x, lb w x = anyB (fun k => lb (fU u) k && lb (fU k) x) i) (hb : lb (fU u) i = true) : ∀ x, lb (w ||| fU i) x = anyB (fun k => lb (fU u) k && lb (fU k) x) (i + 1) := by
  intro x
  rw [lb_or, h x]
  simp [anyB, hb]
theorem lk_end {fU : Nat → Int64} {K u : Nat} {w : Int64} (h : ∀ x, lb w x = anyB (fun k => lb (fU u) k && lb (fU k) x) K) : lb (fU u &&& (w ^^^ (-1))) = lkB fU K u := by
  funext x
  rw [lb_and]
  unfold lkB
  rcases Nat.lt_or_ge x 64 with q | q
  · rw [lb_not _ q, h x]
  · rw [lb_big q]
    simp
theorem lk_le (fU : Nat → Int64) (K u : Nat) : cnt (lkB fU K u) 64 ≤ 64 := cnt_le _ 64
/-! the longest way -/
theorem ch_0 {E : Nat → Nat → Bool} {fU : Nat → Int64} {x : Nat} {w : Int64} (hx : x < 48) (hE : gin E 48) (hU : ∀ y, y < 48 → ∀ j, lb (fU y) j = true ↔ gov E y j) (hr : ∀ z, lb w z = true ↔ z < 48 ∧ ¬ (fU z &&& ((1 : Int64) <<< ((nI x).toInt64 &&& 63))) = 0) : ∀ z, lb w z = true ↔ ∃ k, 0 < k ∧ gw E k z x := by
  intro z
  rw [hr z, and_ne0]
  constructor
  · rintro ⟨h1, j, hj, h2, h3⟩
    rw [lb_one (by omega), decide_eq_true_eq] at h3
    subst h3
    obtain ⟨k, hk⟩ := (hU z h1 j).mp h2
    exact ⟨k + 1, by omega, hk⟩
  · rintro ⟨k, hk, hw⟩
    have h1 := (gov_lt hE (gov_of hw hk)).1
    exact ⟨h1, x, by omega, (hU z h1 x).mpr (gov_of hw hk), by rw [lb_one (by omega)]; simp⟩
theorem ch_step {E : Nat → Nat → Bool} {fU : Nat → Int64} {x ch : Nat} {w r : Int64} (hE : gin E 48) (hU : ∀ y, y < 48 → ∀ j, lb (fU y) j = true ↔ gov E y j) (hw : ∀ z, lb w z = true ↔ ∃ k, ch < k ∧ gw E k z x) (hr : ∀ z, lb r z = true ↔ z < 48 ∧ ¬ (fU z &&& w) = 0) : ∀ z, lb (w &&& r) z = true ↔ ∃ k, ch + 1 < k ∧ gw E k z x := by
  intro z
  rw [lb_and, Bool.and_eq_true, hr z, and_ne0]
  constructor
  · rintro ⟨-, h1, j, hj, h2, h3⟩
    obtain ⟨k, hk, g1⟩ := (hw j).mp h3
    obtain ⟨k2, g2⟩ := (hU z h1 j).mp h2
    exact ⟨k2 + 1 + k, by omega, gw_add _ _ _ _ _ g2 g1⟩
  · rintro ⟨k, hk, g⟩
    refine ⟨(hw z).mpr ⟨k, by omega, g⟩, ?_⟩
    obtain ⟨k', rfl⟩ : ∃ k', k = k' + 1 := ⟨k - 1, by omega⟩
    obtain ⟨y, hy, g'⟩ := g
    have h1 := (hE _ _ hy).1
    have h2 := (hE _ _ hy).2
    exact ⟨h1, y, by omega, (hU z h1 y).mpr (gov_one hy), (hw y).mpr ⟨k', by omega, g'⟩⟩
theorem ch_low {E : Nat → Nat → Bool} {x ch : Nat} {w : Int64} (hw : ∀ z, lb w z = true ↔ ∃ k, ch < k ∧ gw E k z x) (hne : ¬ w = 0) : 0 < ch + 1 → ∃ z k, ch + 1 ≤ k ∧ gw E k z x := by
  intro _
  obtain ⟨j, hj, hb⟩ := lb_ne0 hne
  obtain ⟨k, hk, g⟩ := (hw j).mp hb
  exact ⟨j, k, hk, g⟩
theorem ch_end {E : Nat → Nat → Bool} {x ch : Nat} {w : Int64} (hE : gin E 48) (hac : ∀ z, ¬ gov E z z) (hw : ∀ z, lb w z = true ↔ ∃ k, ch < k ∧ gw E k z x) (hl : 0 < ch → ∃ z k, ch ≤ k ∧ gw E k z x) (he : 48 ≤ ch ∨ w = 0) : glong E x ch := by
  refine glong_rounds (fun z k hk g => ?_) hl
  rcases he with he | he
  · have := gw_short hE hac (by omega) g
    omega
  · have := (hw z).mpr ⟨k, hk, g⟩
    rw [lb_eq0 he] at this
    cases this

set_option maxHeartbeats 4000000 in
set_option maxRecDepth 100000 in
theorem k_Strata_init (hs : Nat)  : CtV l y_Strata_init (Cond.code y_Strata_init c_Strata_init 1 none :: TB) ({ frames := 2, cells := 6, slots := 147, locals := 36 } : Room) D (tysv cI cJ cZ cQ) [.ref hs] [(hs, .inr (4, [.null, .null, .null, .int (nI 0)]))] 6 147 (fun (u : Nat × Nat × Nat × Nat × Nat × Nat × (Nat → Int32)) => ∀ k, k < 48 → u.2.2.2.2.2.2 k = -1) (fun (u : Nat × Nat × Nat × Nat × Nat × Nat × (Nat → Int32)) => [(hs, .inr (4, [.ref u.1, .ref u.2.2.1, .ref u.2.2.2.2.1, .int (nI 0)])), (u.1, .inr (0, [.ref u.2.1])), (u.2.1, .inl (cI, 48, .inl u.2.2.2.2.2.2)), (u.2.2.1, .inr (1, [.ref u.2.2.2.1])), (u.2.2.2.1, .inl (cJ, 48, .inr (.inl (fun _ => 0)))), (u.2.2.2.2.1, .inr (1, [.ref u.2.2.2.2.2.1])), (u.2.2.2.2.2.1, .inl (cJ, 48, .inr (.inl (fun _ => 0))))]) := by
  refine CtV.of c_Strata_init 1 none (by decide) rfl (Nat.le_of_ble_eq_true rfl) ?_
  intro p e s m args below meth c A Q hA9 hQ9 X hr9 hlk9 hin9
  refine g_aload_n X 0 d_Strata_init_0 rfl rfl ?_
  refine g_objInit X t1_66 t1_23 t1_24 d_Strata_init_1 (by decide) (Nat.le_of_ble_eq_true rfl) ?_
  refine g_aload_n X 0 d_Strata_init_4 rfl rfl ?_
  refine g_new (ci := 0) (fs := [.null]) (C := R_Cells) (T := T_Cells) (N := 1) X t_Cells ty_Cells in_Cells t1_67 t1_32 t1_3 rfl (fun j hj => by rcases (show j = 0 by omega) with rfl <;> rfl) (by decide) (by decide) d_Strata_init_5 (fun q1 => ?_)
  refine g_dup X d_Strata_init_8 rfl ?_
  refine g_bipush (v := nI 48) X d_Strata_init_9 rfl ?_
  refine g_callvI (n := 1) X [.int (nI 48)] (k_Cells_init48 q1 ) t1_68 t1_34 rfl t1_3 t1_35 rfl rfl (by decide +kernel) ⟨by decide, by decide⟩ [1] [0] [(hs, .inr (4, [.null, .null, .null, .int (nI 0)]))] rfl rfl rfl rfl (by decide) rfl rfl (Nat.le_of_ble_eq_true rfl) d_Strata_init_11 ⟨by decide, by decide⟩ (fun ⟨q_2, g_2⟩ w1 => ?_)
  refine g_putF (C := R_Strata) (T := T_Strata) (N := 4) (ty := .object "RelationOrder$Cells") X 0 0 [(hs, .inr (4, [.ref q1, .null, .null, .int (nI 0)])), (q1, .inr (0, [.ref q_2])), (q_2, .inl (cI, 48, .inl g_2))] t_Strata ty_Strata nm_Strata in_Strata rfl rfl (by decide) t1_84 rfl rfl hin9 rfl (by decide +kernel) rfl rfl (Nat.le_of_ble_eq_true rfl) rfl d_Strata_init_14 ?_
  refine g_aload_n X 0 d_Strata_init_17 rfl rfl ?_
  refine g_new (ci := 1) (fs := [.null]) (C := R_Rows) (T := T_Rows) (N := 1) X t_Rows ty_Rows in_Rows t1_69 t1_70 t1_6 rfl (fun j hj => by rcases (show j = 0 by omega) with rfl <;> rfl) (by decide) (by decide) d_Strata_init_18 (fun q3 => ?_)
  refine g_dup X d_Strata_init_21 rfl ?_
  refine g_bipush (v := nI 48) X d_Strata_init_22 rfl ?_
  refine g_callvI (n := 1) X [.int (nI 48)] (k_Rows_init48 q3 ) t1_71 t1_72 rfl t1_6 t1_73 rfl rfl (by decide +kernel) ⟨by decide, by decide⟩ [3] [0, 1, 2] [(hs, .inr (4, [.ref q1, .null, .null, .int (nI 0)])), (q1, .inr (0, [.ref q_2])), (q_2, .inl (cI, 48, .inl g_2))] rfl rfl rfl rfl (by decide) rfl rfl (Nat.le_of_ble_eq_true rfl) d_Strata_init_24 ⟨by decide, by decide⟩ (fun q_4 hw4 => ?_)
  refine g_putF (C := R_Strata) (T := T_Strata) (N := 4) (ty := .object "RelationOrder$Rows") X 0 1 [(hs, .inr (4, [.ref q1, .ref q3, .null, .int (nI 0)])), (q1, .inr (0, [.ref q_2])), (q_2, .inl (cI, 48, .inl g_2)), (q3, .inr (1, [.ref q_4])), (q_4, .inl (cJ, 48, .inr (.inl (fun _ => 0))))] t_Strata ty_Strata nm_Strata in_Strata rfl rfl (by decide) t1_85 rfl rfl hin9 rfl (by decide +kernel) rfl rfl (Nat.le_of_ble_eq_true rfl) rfl d_Strata_init_27 ?_
  refine g_aload_n X 0 d_Strata_init_30 rfl rfl ?_
  refine g_new (ci := 1) (fs := [.null]) (C := R_Rows) (T := T_Rows) (N := 1) X t_Rows ty_Rows in_Rows t1_69 t1_70 t1_6 rfl (fun j hj => by rcases (show j = 0 by omega) with rfl <;> rfl) (by decide) (by decide) d_Strata_init_31 (fun q5 => ?_)
  refine g_dup X d_Strata_init_34 rfl ?_
  refine g_bipush (v := nI 48) X d_Strata_init_35 rfl ?_
  refine g_callvI (n := 1) X [.int (nI 48)] (k_Rows_init48 q5 ) t1_71 t1_72 rfl t1_6 t1_73 rfl rfl (by decide +kernel) ⟨by decide, by decide⟩ [5] [0, 1, 2, 3, 4] [(hs, .inr (4, [.ref q1, .ref q3, .null, .int (nI 0)])), (q1, .inr (0, [.ref q_2])), (q_2, .inl (cI, 48, .inl g_2)), (q3, .inr (1, [.ref q_4])), (q_4, .inl (cJ, 48, .inr (.inl (fun _ => 0))))] rfl rfl rfl rfl (by decide) rfl rfl (Nat.le_of_ble_eq_true rfl) d_Strata_init_37 ⟨by decide, by decide⟩ (fun q_6 hw6 => ?_)
  refine g_putF (C := R_Strata) (T := T_Strata) (N := 4) (ty := .object "RelationOrder$Rows") X 0 2 [(hs, .inr (4, [.ref q1, .ref q3, .ref q5, .int (nI 0)])), (q1, .inr (0, [.ref q_2])), (q_2, .inl (cI, 48, .inl g_2)), (q3, .inr (1, [.ref q_4])), (q_4, .inl (cJ, 48, .inr (.inl (fun _ => 0)))), (q5, .inr (1, [.ref q_6])), (q_6, .inl (cJ, 48, .inr (.inl (fun _ => 0))))] t_Strata ty_Strata nm_Strata in_Strata rfl rfl (by decide) t1_86 rfl rfl hin9 rfl (by decide +kernel) rfl rfl (Nat.le_of_ble_eq_true rfl) rfl d_Strata_init_40 ?_
  refine g_aload_n X 0 d_Strata_init_43 rfl rfl ?_
  refine g_iconst (v := nI 0) X d_Strata_init_44 rfl ?_
  refine g_put (C := R_Strata) (T := T_Strata) (N := 4) (ty := .int) X 0 3 [(hs, .inr (4, [.ref q1, .ref q3, .ref q5, .int (nI 0)])), (q1, .inr (0, [.ref q_2])), (q_2, .inl (cI, 48, .inl g_2)), (q3, .inr (1, [.ref q_4])), (q_4, .inl (cJ, 48, .inr (.inl (fun _ => 0)))), (q5, .inr (1, [.ref q_6])), (q_6, .inl (cJ, 48, .inr (.inl (fun _ => 0))))] t_Strata ty_Strata nm_Strata in_Strata rfl rfl (by decide) t1_87 rfl rfl (by decide +kernel) rfl rfl (Nat.le_of_ble_eq_true rfl) rfl d_Strata_init_45 ?_
  exact g_vret X hA9 hQ9 hr9 hlk9 ⟨q1, q_2, q3, q_4, q5, q_6, g_2⟩ [0, 1, 2, 3, 4, 5, 6] rfl rfl d_Strata_init_48 (by (try dsimp only); exact (w1))

set_option maxHeartbeats 4000000 in
set_option maxRecDepth 100000 in
theorem k_Strata_contexts (hs : Nat) (sn : Nat) (ss : Nat) (su : Nat) (K : Nat)  : CtI l y_Strata_contexts (Cond.code y_Strata_contexts c_Strata_contexts 1 (some .int) :: TB) ({ frames := 0, cells := 0, slots := 0, locals := 0 } : Room) D (tysv cI cJ cZ cQ) [.ref hs] [(hs, .inr (4, [.ref sn, .ref ss, .ref su, .int (nI K)]))] 0 0 (fun (r : Int32) (_ : Unit) => r = nI K) (fun (_ : Unit) => [(hs, .inr (4, [.ref sn, .ref ss, .ref su, .int (nI K)]))]) := by
  refine CtI.of c_Strata_contexts 1 (some .int) (by decide) rfl (Nat.le_of_ble_eq_true rfl) ?_
  intro p e s m args below meth c A Q hA9 hQ9 X hr9 hlk9 hin9
  refine g_aload_n X 0 d_Strata_contexts_0 rfl rfl ?_
  refine g_get (C := R_Strata) (T := T_Strata) (N := 4) X 0 3 in_Strata rfl rfl (by decide) t1_87 rfl rfl d_Strata_contexts_1 ?_
  exact g_iret X hA9 hQ9 hr9 hlk9 () [0] rfl rfl d_Strata_contexts_4 (rfl)

set_option maxHeartbeats 4000000 in
set_option maxRecDepth 100000 in
theorem k_Strata_addContext (hs : Nat) (sn : Nat) (ss : Nat) (su : Nat) (K : Nat) (xn : Nat) (fN : Nat → Int32) (hK : K < 48) : CtI l y_Strata_addContext (Cond.code y_Strata_addContext c_Strata_addContext 1 (some .int) :: TB) ({ frames := 1, cells := 0, slots := 0, locals := 22 } : Room) D (tysv cI cJ cZ cQ) [.ref hs] [(hs, .inr (4, [.ref sn, .ref ss, .ref su, .int (nI K)])), (sn, .inr (0, [.ref xn])), (xn, .inl (cI, 48, .inl fN))] 0 0 (fun (r : Int32) (_ : Unit) => r = nI K) (fun (_ : Unit) => [(hs, .inr (4, [.ref sn, .ref ss, .ref su, .int (nI (K + 1))])), (sn, .inr (0, [.ref xn])), (xn, .inl (cI, 48, .inl (upd fN K (nI K))))]) := by
  refine CtI.of c_Strata_addContext 1 (some .int) (by decide) rfl (Nat.le_of_ble_eq_true rfl) ?_
  intro p e s m args below meth c A Q hA9 hQ9 X hr9 hlk9 hin9
  refine g_aload_n X 0 d_Strata_addContext_0 rfl rfl ?_
  refine g_get (C := R_Strata) (T := T_Strata) (N := 4) X 0 0 in_Strata rfl rfl (by decide) t1_84 rfl rfl d_Strata_addContext_1 ?_
  refine g_aload_n X 0 d_Strata_addContext_4 rfl rfl ?_
  refine g_get (C := R_Strata) (T := T_Strata) (N := 4) X 0 3 in_Strata rfl rfl (by decide) t1_87 rfl rfl d_Strata_addContext_5 ?_
  refine g_aload_n X 0 d_Strata_addContext_8 rfl rfl ?_
  refine g_get (C := R_Strata) (T := T_Strata) (N := 4) X 0 3 in_Strata rfl rfl (by decide) t1_87 rfl rfl d_Strata_addContext_9 ?_
  refine g_callvV (n := 2) X [.int (nI K), .int (nI K)] (k_Cells_put sn xn 48 fN K (nI K) (by omega) (by omega)) t2_35 t2_36 t2_37 t1_3 t2_38 rfl rfl (by decide +kernel) ⟨by decide, by decide⟩ [1, 2] [0] [(hs, .inr (4, [.ref sn, .ref ss, .ref su, .int (nI K)]))] rfl rfl rfl rfl (by decide) 0 rfl rfl rfl rfl (Nat.le_of_ble_eq_true rfl) d_Strata_addContext_12 ⟨by decide, by decide⟩ (fun w9u1 hw1 => ?_)
  refine g_aload_n X 0 d_Strata_addContext_15 rfl rfl ?_
  refine g_dup X d_Strata_addContext_16 rfl ?_
  refine g_get (C := R_Strata) (T := T_Strata) (N := 4) X 0 3 in_Strata rfl rfl (by decide) t1_87 rfl rfl d_Strata_addContext_17 ?_
  refine g_iconst (v := nI 1) X d_Strata_addContext_20 rfl ?_
  refine g_iadd X (nI (K + 1)) d_Strata_addContext_21 (nI_add K 1) ?_
  refine g_put (C := R_Strata) (T := T_Strata) (N := 4) (ty := .int) X 0 3 [(hs, .inr (4, [.ref sn, .ref ss, .ref su, .int (nI (K + 1))])), (sn, .inr (0, [.ref xn])), (xn, .inl (cI, 48, .inl (upd fN K (nI K))))] t_Strata ty_Strata nm_Strata in_Strata rfl rfl (by decide) t1_87 rfl rfl (by decide +kernel) rfl rfl (Nat.le_of_ble_eq_true rfl) rfl d_Strata_addContext_22 ?_
  refine g_aload_n X 0 d_Strata_addContext_25 rfl rfl ?_
  refine g_get (C := R_Strata) (T := T_Strata) (N := 4) X 0 3 in_Strata rfl rfl (by decide) t1_87 rfl rfl d_Strata_addContext_26 ?_
  refine g_iconst (v := nI 1) X d_Strata_addContext_29 rfl ?_
  refine g_isub X (nI ((K + 1) - 1)) d_Strata_addContext_30 (pk_sub (by omega)) ?_
  exact g_iret X hA9 hQ9 hr9 hlk9 () [0, 1, 2] rfl rfl d_Strata_addContext_31 (by rw [Nat.add_sub_cancel])

set_option maxHeartbeats 4000000 in
set_option maxRecDepth 100000 in
theorem k_Strata_numberOf (hs : Nat) (sn : Nat) (ss : Nat) (su : Nat) (K : Nat) (xn : Nat) (fN : Nat → Int32) (j : Nat) (hj : j < 48) : CtI l y_Strata_numberOf (Cond.code y_Strata_numberOf c_Strata_numberOf 2 (some .int) :: TB) ({ frames := 1, cells := 0, slots := 0, locals := 21 } : Room) D (tysv cI cJ cZ cQ) [.ref hs, .int (nI j)] [(hs, .inr (4, [.ref sn, .ref ss, .ref su, .int (nI K)])), (sn, .inr (0, [.ref xn])), (xn, .inl (cI, 48, .inl fN))] 0 0 (fun (r : Int32) (_ : Unit) => r = fN j) (fun (_ : Unit) => [(hs, .inr (4, [.ref sn, .ref ss, .ref su, .int (nI K)])), (sn, .inr (0, [.ref xn])), (xn, .inl (cI, 48, .inl fN))]) := by
  refine CtI.of c_Strata_numberOf 2 (some .int) (by decide) rfl (Nat.le_of_ble_eq_true rfl) ?_
  intro p e s m args below meth c A Q hA9 hQ9 X hr9 hlk9 hin9
  refine g_aload_n X 0 d_Strata_numberOf_0 rfl rfl ?_
  refine g_get (C := R_Strata) (T := T_Strata) (N := 4) X 0 0 in_Strata rfl rfl (by decide) t1_84 rfl rfl d_Strata_numberOf_1 ?_
  refine g_iload_n X 1 d_Strata_numberOf_4 rfl rfl ?_
  refine g_calliV (n := 1) X [.int (nI j)] (k_Cells_at sn xn 48 fN j (by omega) (by omega)) t2_77 t2_78 t2_79 t1_3 t2_80 rfl rfl (by decide +kernel) ⟨by decide, by decide⟩ [1, 2] [0] [(hs, .inr (4, [.ref sn, .ref ss, .ref su, .int (nI K)]))] rfl rfl rfl rfl (by decide) 0 rfl rfl rfl rfl (Nat.le_of_ble_eq_true rfl) d_Strata_numberOf_5 ⟨by decide, by decide⟩ (fun r1 w9u1 hw1 => ?_)
  subst hw1
  exact g_iret X hA9 hQ9 hr9 hlk9 () [0, 1, 2] rfl rfl d_Strata_numberOf_8 (rfl)

set_option maxHeartbeats 4000000 in
set_option maxRecDepth 100000 in
theorem k_Strata_isOver (hs : Nat) (sn : Nat) (ss : Nat) (su : Nat) (K : Nat) (xn : Nat) (fN : Nat → Int32) (xu : Nat) (fU : Nat → Int64) (i : Nat) (j : Nat) (x : Nat) (y : Nat) (hi : i < 48) (hj : j < 48) (hx : fN i = nI x) (hy : fN j = nI y) (hx2 : x < 48) (hy2 : y < 48) : CtI l y_Strata_isOver (Cond.code y_Strata_isOver c_Strata_isOver 3 (some .boolean) :: TB) ({ frames := 2, cells := 0, slots := 0, locals := 43 } : Room) D (tysv cI cJ cZ cQ) [.ref hs, .int (nI i), .int (nI j)] [(hs, .inr (4, [.ref sn, .ref ss, .ref su, .int (nI K)])), (sn, .inr (0, [.ref xn])), (xn, .inl (cI, 48, .inl fN)), (su, .inr (1, [.ref xu])), (xu, .inl (cJ, 48, .inr (.inl fU)))] 0 0 (fun (r : Int32) (_ : Unit) => r = bI (lb (fU x) y)) (fun (_ : Unit) => [(hs, .inr (4, [.ref sn, .ref ss, .ref su, .int (nI K)])), (sn, .inr (0, [.ref xn])), (xn, .inl (cI, 48, .inl fN)), (su, .inr (1, [.ref xu])), (xu, .inl (cJ, 48, .inr (.inl fU)))]) := by
  refine CtI.of c_Strata_isOver 3 (some .boolean) (by decide) rfl (Nat.le_of_ble_eq_true rfl) ?_
  intro p e s m args below meth c A Q hA9 hQ9 X hr9 hlk9 hin9
  refine g_aload_n X 0 d_Strata_isOver_0 rfl rfl ?_
  refine g_get (C := R_Strata) (T := T_Strata) (N := 4) X 0 2 in_Strata rfl rfl (by decide) t1_86 rfl rfl d_Strata_isOver_1 ?_
  refine g_aload_n X 0 d_Strata_isOver_4 rfl rfl ?_
  refine g_get (C := R_Strata) (T := T_Strata) (N := 4) X 0 0 in_Strata rfl rfl (by decide) t1_84 rfl rfl d_Strata_isOver_5 ?_
  refine g_iload_n X 1 d_Strata_isOver_8 rfl rfl ?_
  refine g_calliV (n := 1) X [.int (nI i)] (k_Cells_at sn xn 48 fN i (by omega) (by omega)) t2_77 t2_78 t2_79 t1_3 t2_80 rfl rfl (by decide +kernel) ⟨by decide, by decide⟩ [1, 2] [0, 3, 4] [(hs, .inr (4, [.ref sn, .ref ss, .ref su, .int (nI K)])), (su, .inr (1, [.ref xu])), (xu, .inl (cJ, 48, .inr (.inl fU)))] rfl rfl rfl rfl (by decide) 0 rfl rfl rfl rfl (Nat.le_of_ble_eq_true rfl) d_Strata_isOver_9 ⟨by decide, by decide⟩ (fun r1 w9u1 hw1 => ?_)
  subst hw1
  rw [hx]
  refine g_aload_n X 0 d_Strata_isOver_12 rfl rfl ?_
  refine g_get (C := R_Strata) (T := T_Strata) (N := 4) X 0 0 in_Strata rfl rfl (by decide) t1_84 rfl rfl d_Strata_isOver_13 ?_
  refine g_iload_n X 2 d_Strata_isOver_16 rfl rfl ?_
  refine g_calliV (n := 1) X [.int (nI j)] (k_Cells_at sn xn 48 fN j (by omega) (by omega)) t2_77 t2_78 t2_79 t1_3 t2_80 rfl rfl (by decide +kernel) ⟨by decide, by decide⟩ [3, 4] [0, 1, 2] [(hs, .inr (4, [.ref sn, .ref ss, .ref su, .int (nI K)])), (su, .inr (1, [.ref xu])), (xu, .inl (cJ, 48, .inr (.inl fU)))] rfl rfl rfl rfl (by decide) 0 rfl rfl rfl rfl (Nat.le_of_ble_eq_true rfl) d_Strata_isOver_17 ⟨by decide, by decide⟩ (fun r2 w9u2 hw2 => ?_)
  subst hw2
  rw [hy]
  refine g_calliV (n := 2) X [.int (nI x), .int (nI y)] (k_Rows_has su xu 48 fU x y (by omega) (by omega) (by omega)) t1_181 t1_182 t1_183 t1_6 t1_184 rfl rfl (by decide +kernel) ⟨by decide, by decide⟩ [1, 2] [0, 3, 4] [(hs, .inr (4, [.ref sn, .ref ss, .ref su, .int (nI K)])), (sn, .inr (0, [.ref xn])), (xn, .inl (cI, 48, .inl fN))] rfl rfl rfl rfl (by decide) 0 rfl rfl rfl rfl (Nat.le_of_ble_eq_true rfl) d_Strata_isOver_20 ⟨by decide, by decide⟩ (fun r3 w9u3 hw3 => ?_)
  subst hw3
  exact g_zret X hA9 hQ9 hr9 (bI_01 _) hlk9 () [0, 1, 2, 3, 4] rfl rfl d_Strata_isOver_23 (rfl)

set_option maxHeartbeats 4000000 in
set_option maxRecDepth 100000 in
theorem k_Strata_areJoined (hs : Nat) (sn : Nat) (ss : Nat) (su : Nat) (K : Nat) (xn : Nat) (fN : Nat → Int32) (i : Nat) (j : Nat) (x : Nat) (y : Nat) (hi : i < 48) (hj : j < 48) (hx : fN i = nI x) (hy : fN j = nI y) (hx2 : x < 48) (hy2 : y < 48) : CtI l y_Strata_areJoined (Cond.code y_Strata_areJoined c_Strata_areJoined 3 (some .boolean) :: TB) ({ frames := 1, cells := 0, slots := 0, locals := 21 } : Room) D (tysv cI cJ cZ cQ) [.ref hs, .int (nI i), .int (nI j)] [(hs, .inr (4, [.ref sn, .ref ss, .ref su, .int (nI K)])), (sn, .inr (0, [.ref xn])), (xn, .inl (cI, 48, .inl fN))] 0 0 (fun (r : Int32) (_ : Unit) => r = bI (decide (x = y))) (fun (_ : Unit) => [(hs, .inr (4, [.ref sn, .ref ss, .ref su, .int (nI K)])), (sn, .inr (0, [.ref xn])), (xn, .inl (cI, 48, .inl fN))]) := by
  refine CtI.of c_Strata_areJoined 3 (some .boolean) (by decide) rfl (Nat.le_of_ble_eq_true rfl) ?_
  intro p e s m args below meth c A Q hA9 hQ9 X hr9 hlk9 hin9
  refine g_aload_n X 0 d_Strata_areJoined_0 rfl rfl ?_
  refine g_get (C := R_Strata) (T := T_Strata) (N := 4) X 0 0 in_Strata rfl rfl (by decide) t1_84 rfl rfl d_Strata_areJoined_1 ?_
  refine g_iload_n X 1 d_Strata_areJoined_4 rfl rfl ?_
  refine g_calliV (n := 1) X [.int (nI i)] (k_Cells_at sn xn 48 fN i (by omega) (by omega)) t2_77 t2_78 t2_79 t1_3 t2_80 rfl rfl (by decide +kernel) ⟨by decide, by decide⟩ [1, 2] [0] [(hs, .inr (4, [.ref sn, .ref ss, .ref su, .int (nI K)]))] rfl rfl rfl rfl (by decide) 0 rfl rfl rfl rfl (Nat.le_of_ble_eq_true rfl) d_Strata_areJoined_5 ⟨by decide, by decide⟩ (fun r1 w9u1 hw1 => ?_)
  subst hw1
  rw [hx]
  refine g_aload_n X 0 d_Strata_areJoined_8 rfl rfl ?_
  refine g_get (C := R_Strata) (T := T_Strata) (N := 4) X 0 0 in_Strata rfl rfl (by decide) t1_84 rfl rfl d_Strata_areJoined_9 ?_
  refine g_iload_n X 2 d_Strata_areJoined_12 rfl rfl ?_
  refine g_calliV (n := 1) X [.int (nI j)] (k_Cells_at sn xn 48 fN j (by omega) (by omega)) t2_77 t2_78 t2_79 t1_3 t2_80 rfl rfl (by decide +kernel) ⟨by decide, by decide⟩ [1, 2] [0] [(hs, .inr (4, [.ref sn, .ref ss, .ref su, .int (nI K)]))] rfl rfl rfl rfl (by decide) 0 rfl rfl rfl rfl (Nat.le_of_ble_eq_true rfl) d_Strata_areJoined_13 ⟨by decide, by decide⟩ (fun r2 w9u2 hw2 => ?_)
  subst hw2
  rw [hy]
  refine n_icmp_ne X 23 d_Strata_areJoined_16 (by decide) (by omega) (by omega) (fun h16 => ?_) (fun h16 => ?_)
  · refine g_iconst (v := nI 0) X d_Strata_areJoined_23 rfl ?_
    exact g_zret X hA9 hQ9 hr9 (by first | exact Or.inl rfl | exact Or.inr rfl) hlk9 () [0, 1, 2] rfl rfl d_Strata_areJoined_24 (by simp [bI, h16] <;> rfl)
  · refine g_iconst (v := nI 1) X d_Strata_areJoined_19 rfl ?_
    refine g_goto X 24 d_Strata_areJoined_20 (by decide) ?_
    exact g_zret X hA9 hQ9 hr9 (by first | exact Or.inl rfl | exact Or.inr rfl) hlk9 () [0, 1, 2] rfl rfl d_Strata_areJoined_24 (by simp [bI, h16] <;> rfl)

set_option maxHeartbeats 4000000 in
set_option maxRecDepth 100000 in
theorem k_Strata_join (hs : Nat) (sn : Nat) (ss : Nat) (su : Nat) (K : Nat) (xn : Nat) (fN : Nat → Int32) (hr : Nat) (ru : Nat) (rw : Nat) (rk : Nat) (R : Nat) (sd : Nat) (au : Nat) (aw : Nat) (ak : Nat) (fA : Nat → Int32) (fB : Nat → Int32) (fK : Nat → Int32) (a : Nat → Nat) (b : Nat → Nat) (hK : K ≤ 48) (hR : R ≤ 200) (hA : ∀ r, r < R → fA r = nI (a r) ∧ a r < K) (hB : ∀ r, r < R → fB r = nI (b r) ∧ b r < K) (hN : ∀ k, K ≤ k → k < 48 → fN k = -1) : CtV l y_Strata_join (Cond.code y_Strata_join c_Strata_join 5 none :: TB) ({ frames := 2, cells := 0, slots := 0, locals := 42 } : Room) D (tysv cI cJ cZ cQ) [.ref hs, .ref hr] [(hs, .inr (4, [.ref sn, .ref ss, .ref su, .int (nI K)])), (sn, .inr (0, [.ref xn])), (xn, .inl (cI, 48, .inl fN)), (hr, .inr (2, [.ref ru, .ref rw, .ref rk, .int (nI R), .int (nI sd)])), (ru, .inr (0, [.ref au])), (au, .inl (cI, 200, .inl fA)), (rw, .inr (0, [.ref aw])), (aw, .inl (cI, 200, .inl fB)), (rk, .inr (0, [.ref ak])), (ak, .inl (cI, 200, .inl fK))] 0 0 (fun (g : Nat → Int32) => (∀ x, x < K → g x = nI (jnum a b (fun r => isEq (fK r)) R x)) ∧ ∀ k, K ≤ k → k < 48 → g k = -1) (fun (g : Nat → Int32) => [(hs, .inr (4, [.ref sn, .ref ss, .ref su, .int (nI K)])), (sn, .inr (0, [.ref xn])), (xn, .inl (cI, 48, .inl g)), (hr, .inr (2, [.ref ru, .ref rw, .ref rk, .int (nI R), .int (nI sd)])), (ru, .inr (0, [.ref au])), (au, .inl (cI, 200, .inl fA)), (rw, .inr (0, [.ref aw])), (aw, .inl (cI, 200, .inl fB)), (rk, .inr (0, [.ref ak])), (ak, .inl (cI, 200, .inl fK))]) := by
  refine CtV.of c_Strata_join 5 none (by decide) rfl (Nat.le_of_ble_eq_true rfl) ?_
  intro p e s m args below meth c A Q hA9 hQ9 X hr9 hlk9 hin9
  have L27 : ∀ (N27 : Nat) (q : Nat) (g : Nat → Int32), (R - q) < N27 → (q ≤ R) → (∀ x, x < K → g x = nI (jnum a b (fun r => isEq (fK r)) q x)) → (∀ k, K ≤ k → k < 48 → g k = -1) → G p l e ({ frames := 2, cells := 0, slots := 0, locals := 42 } : Room) s m args below meth c 5 D A s.heap Q 0 0 [(hs, .inr (4, [.ref sn, .ref ss, .ref su, .int (nI K)])), (sn, .inr (0, [.ref xn])), (xn, .inl (cI, 48, .inl g)), (hr, .inr (2, [.ref ru, .ref rw, .ref rk, .int (nI R), .int (nI sd)])), (ru, .inr (0, [.ref au])), (au, .inl (cI, 200, .inl fA)), (rw, .inr (0, [.ref aw])), (aw, .inl (cI, 200, .inl fB)), (rk, .inr (0, [.ref ak])), (ak, .inl (cI, 200, .inl fK))] [(0, .ref hs), (1, .ref hr), (2, .int (nI q))] 27 [] := by
    intro N27
    induction N27 with
    | zero =>
      intro q g hN
      exact absurd hN (Nat.not_lt_zero _)
    | succ N27 ih27 =>
      intro q g hN27 hq g1 g2
      refine g_iload_n X 2 d_Strata_join_27 rfl rfl ?_
      refine g_aload_n X 1 d_Strata_join_28 rfl rfl ?_
      refine g_calliV (n := 0) X [] (k_Relations_made hr ru rw rk R sd ) t2_132 t2_69 t2_70 t1_2 t2_71 rfl rfl (by decide +kernel) ⟨by decide, by decide⟩ [3] [0, 1, 2, 4, 5, 6, 7, 8, 9] [(hs, .inr (4, [.ref sn, .ref ss, .ref su, .int (nI K)])), (sn, .inr (0, [.ref xn])), (xn, .inl (cI, 48, .inl g)), (ru, .inr (0, [.ref au])), (au, .inl (cI, 200, .inl fA)), (rw, .inr (0, [.ref aw])), (aw, .inl (cI, 200, .inl fB)), (rk, .inr (0, [.ref ak])), (ak, .inl (cI, 200, .inl fK))] rfl rfl rfl rfl (by decide) 0 rfl rfl rfl rfl (Nat.le_of_ble_eq_true rfl) d_Strata_join_29 ⟨by decide, by decide⟩ (fun r1 w9u1 hw1 => ?_)
      subst hw1
      refine n_icmp_ge X 96 d_Strata_join_32 (by decide) (by omega) (by omega) (fun h32 => ?_) (fun h32 => ?_)
      · exact g_vret X hA9 hQ9 hr9 hlk9 g [0, 1, 2, 9, 3, 4, 5, 6, 7, 8] rfl rfl d_Strata_join_96 (by have e9 : q = R := (by omega); subst e9; exact ⟨g1, g2⟩)
      · refine g_aload_n X 1 d_Strata_join_35 rfl rfl ?_
        refine g_iload_n X 2 d_Strata_join_36 rfl rfl ?_
        refine g_calliV (n := 1) X [.int (nI q)] (k_Relations_kindOf hr ru rw rk R sd ak fK q (by omega)) t2_133 t2_134 t2_135 t1_2 t2_136 rfl rfl (by decide +kernel) ⟨by decide, by decide⟩ [9, 7, 8] [0, 1, 2, 3, 4, 5, 6] [(hs, .inr (4, [.ref sn, .ref ss, .ref su, .int (nI K)])), (sn, .inr (0, [.ref xn])), (xn, .inl (cI, 48, .inl g)), (ru, .inr (0, [.ref au])), (au, .inl (cI, 200, .inl fA)), (rw, .inr (0, [.ref aw])), (aw, .inl (cI, 200, .inl fB))] rfl rfl rfl rfl (by decide) 0 rfl rfl rfl rfl (Nat.le_of_ble_eq_true rfl) d_Strata_join_37 ⟨by decide, by decide⟩ (fun r2 w9u2 hw2 => ?_)
        subst hw2
        refine g_iconst (v := nI 3) X d_Strata_join_40 rfl ?_
        refine g_icmp_ne X 90 d_Strata_join_41 (by decide) (fun h41 => ?_) (fun h41 => ?_)
        · refine g_iinc X (nI (q + 1)) [(2, .int (nI (q + 1))), (0, .ref hs), (1, .ref hr)] d_Strata_join_90 (k := 2) rfl (nI_1 q) (by decide) rfl ?_
          refine g_goto X 27 d_Strata_join_93 (by decide) ?_
          refine g_ws [(hs, .inr (4, [.ref sn, .ref ss, .ref su, .int (nI K)])), (sn, .inr (0, [.ref xn])), (xn, .inl (cI, 48, .inl g)), (hr, .inr (2, [.ref ru, .ref rw, .ref rk, .int (nI R), .int (nI sd)])), (ru, .inr (0, [.ref au])), (au, .inl (cI, 200, .inl fA)), (rw, .inr (0, [.ref aw])), (aw, .inl (cI, 200, .inl fB)), (rk, .inr (0, [.ref ak])), (ak, .inl (cI, 200, .inl fK))] [0, 1, 2, 7, 3, 4, 5, 6, 8, 9] rfl rfl ?_
          refine g_lv [1, 2, 0] rfl ?_
          exact ih27 (q + 1) g (by omega) (by omega) (by first | exact join_keep g1 h41 | exact join_put hK la lb9 g1 h41 hrep) (by first | exact g2 | exact join_far (Nat.max_lt.mpr ⟨by omega, by omega⟩) g2 hrep)
        · have la := (hA q (by omega)).2
          have lb9 := (hB q (by omega)).2
          have l1 : jnum a b (fun r => isEq (fK r)) q (a q) < K := jnum_lt la
          have l2 : jnum a b (fun r => isEq (fK r)) q (b q) < K := jnum_lt lb9
          refine g_aload_n X 0 d_Strata_join_44 rfl rfl ?_
          refine g_get (C := R_Strata) (T := T_Strata) (N := 4) X 0 0 in_Strata rfl rfl (by decide) t1_84 rfl rfl d_Strata_join_45 ?_
          refine g_aload_n X 1 d_Strata_join_48 rfl rfl ?_
          refine g_iload_n X 2 d_Strata_join_49 rfl rfl ?_
          refine g_calliV (n := 1) X [.int (nI q)] (k_Relations_upperOf hr ru rw rk R sd au fA q (by omega)) t2_138 t2_139 t2_140 t1_2 t2_141 rfl rfl (by decide +kernel) ⟨by decide, by decide⟩ [7, 3, 4] [0, 1, 2, 5, 6, 8, 9] [(hs, .inr (4, [.ref sn, .ref ss, .ref su, .int (nI K)])), (sn, .inr (0, [.ref xn])), (xn, .inl (cI, 48, .inl g)), (rw, .inr (0, [.ref aw])), (aw, .inl (cI, 200, .inl fB)), (rk, .inr (0, [.ref ak])), (ak, .inl (cI, 200, .inl fK))] rfl rfl rfl rfl (by decide) 0 rfl rfl rfl rfl (Nat.le_of_ble_eq_true rfl) d_Strata_join_50 ⟨by decide, by decide⟩ (fun r3 w9u3 hw3 => ?_)
          subst hw3
          rw [(hA q (by omega)).1]
          refine g_calliV (n := 1) X [.int (nI (a q))] (k_Cells_at sn xn 48 g (a q) (by omega) (by omega)) t2_77 t2_78 t2_79 t1_3 t2_80 rfl rfl (by decide +kernel) ⟨by decide, by decide⟩ [1, 2] [0, 3, 4, 5, 6, 7, 8, 9] [(hs, .inr (4, [.ref sn, .ref ss, .ref su, .int (nI K)])), (rw, .inr (0, [.ref aw])), (aw, .inl (cI, 200, .inl fB)), (rk, .inr (0, [.ref ak])), (ak, .inl (cI, 200, .inl fK)), (hr, .inr (2, [.ref ru, .ref rw, .ref rk, .int (nI R), .int (nI sd)])), (ru, .inr (0, [.ref au])), (au, .inl (cI, 200, .inl fA))] rfl rfl rfl rfl (by decide) 0 rfl rfl rfl rfl (Nat.le_of_ble_eq_true rfl) d_Strata_join_53 ⟨by decide, by decide⟩ (fun r4 w9u4 hw4 => ?_)
          subst hw4
          rw [g1 _ la]
          refine g_istore_n X [(3, .int (nI (jnum a b (fun r => isEq (fK r)) q (a q)))), (0, .ref hs), (1, .ref hr), (2, .int (nI q))] d_Strata_join_56 rfl (by decide) rfl ?_
          refine g_aload_n X 0 d_Strata_join_57 rfl rfl ?_
          refine g_get (C := R_Strata) (T := T_Strata) (N := 4) X 0 0 in_Strata rfl rfl (by decide) t1_84 rfl rfl d_Strata_join_58 ?_
          refine g_aload_n X 1 d_Strata_join_61 rfl rfl ?_
          refine g_iload_n X 2 d_Strata_join_62 rfl rfl ?_
          refine g_calliV (n := 1) X [.int (nI q)] (k_Relations_lowerOf hr ru rw rk R sd aw fB q (by omega)) t2_142 t2_143 t2_144 t1_2 t2_145 rfl rfl (by decide +kernel) ⟨by decide, by decide⟩ [5, 1, 2] [0, 3, 4, 6, 7, 8, 9] [(hs, .inr (4, [.ref sn, .ref ss, .ref su, .int (nI K)])), (rk, .inr (0, [.ref ak])), (ak, .inl (cI, 200, .inl fK)), (ru, .inr (0, [.ref au])), (au, .inl (cI, 200, .inl fA)), (sn, .inr (0, [.ref xn])), (xn, .inl (cI, 48, .inl g))] rfl rfl rfl rfl (by decide) 0 rfl rfl rfl rfl (Nat.le_of_ble_eq_true rfl) d_Strata_join_63 ⟨by decide, by decide⟩ (fun r5 w9u5 hw5 => ?_)
          subst hw5
          rw [(hB q (by omega)).1]
          refine g_calliV (n := 1) X [.int (nI (b q))] (k_Cells_at sn xn 48 g (b q) (by omega) (by omega)) t2_77 t2_78 t2_79 t1_3 t2_80 rfl rfl (by decide +kernel) ⟨by decide, by decide⟩ [5, 6] [0, 1, 2, 3, 4, 7, 8, 9] [(hs, .inr (4, [.ref sn, .ref ss, .ref su, .int (nI K)])), (rk, .inr (0, [.ref ak])), (ak, .inl (cI, 200, .inl fK)), (ru, .inr (0, [.ref au])), (au, .inl (cI, 200, .inl fA)), (hr, .inr (2, [.ref ru, .ref rw, .ref rk, .int (nI R), .int (nI sd)])), (rw, .inr (0, [.ref aw])), (aw, .inl (cI, 200, .inl fB))] rfl rfl rfl rfl (by decide) 0 rfl rfl rfl rfl (Nat.le_of_ble_eq_true rfl) d_Strata_join_66 ⟨by decide, by decide⟩ (fun r6 w9u6 hw6 => ?_)
          subst hw6
          rw [g1 _ lb9]
          refine g_istore X [(4, .int (nI (jnum a b (fun r => isEq (fK r)) q (b q)))), (3, .int (nI (jnum a b (fun r => isEq (fK r)) q (a q)))), (0, .ref hs), (1, .ref hr), (2, .int (nI q))] d_Strata_join_69 (by decide) rfl ?_
          refine g_aload_n X 0 d_Strata_join_71 rfl rfl ?_
          refine g_get (C := R_Strata) (T := T_Strata) (N := 4) X 0 0 in_Strata rfl rfl (by decide) t1_84 rfl rfl d_Strata_join_72 ?_
          refine g_iload_n X 3 d_Strata_join_75 rfl rfl ?_
          refine g_iload X 4 d_Strata_join_76 rfl ?_
          refine g_mmax X (nI (max (jnum a b (fun r => isEq (fK r)) q (a q)) (jnum a b (fun r => isEq (fK r)) q (b q)))) (mmaxN (by omega) (by omega)) t2_146 t1_38 t1_4 t1_39 (by decide) (Nat.le_of_ble_eq_true rfl) (by decide) (by decide) d_Strata_join_78 ?_
          refine g_iload_n X 3 d_Strata_join_81 rfl rfl ?_
          refine g_iload X 4 d_Strata_join_82 rfl ?_
          refine g_mmin X (nI (min (jnum a b (fun r => isEq (fK r)) q (a q)) (jnum a b (fun r => isEq (fK r)) q (b q)))) (mminN (by omega) (by omega)) t2_147 t1_77 t1_4 t1_78 (by decide) (Nat.le_of_ble_eq_true rfl) (by decide) (by decide) d_Strata_join_84 ?_
          refine g_callvV (n := 2) X [.int (nI (max (jnum a b (fun r => isEq (fK r)) q (a q)) (jnum a b (fun r => isEq (fK r)) q (b q)))), .int (nI (min (jnum a b (fun r => isEq (fK r)) q (a q)) (jnum a b (fun r => isEq (fK r)) q (b q))))] (k_Cells_replace sn xn 48 g (nI (max (jnum a b (fun r => isEq (fK r)) q (a q)) (jnum a b (fun r => isEq (fK r)) q (b q)))) (nI (min (jnum a b (fun r => isEq (fK r)) q (a q)) (jnum a b (fun r => isEq (fK r)) q (b q)))) (by omega)) t2_148 t2_149 t2_150 t1_3 t2_151 rfl rfl (by decide +kernel) ⟨by decide, by decide⟩ [8, 9] [0, 1, 2, 3, 4, 5, 6, 7] [(hs, .inr (4, [.ref sn, .ref ss, .ref su, .int (nI K)])), (rk, .inr (0, [.ref ak])), (ak, .inl (cI, 200, .inl fK)), (ru, .inr (0, [.ref au])), (au, .inl (cI, 200, .inl fA)), (hr, .inr (2, [.ref ru, .ref rw, .ref rk, .int (nI R), .int (nI sd)])), (rw, .inr (0, [.ref aw])), (aw, .inl (cI, 200, .inl fB))] rfl rfl rfl rfl (by decide) 0 rfl rfl rfl rfl (Nat.le_of_ble_eq_true rfl) d_Strata_join_87 ⟨by decide, by decide⟩ (fun g_7 hrep => ?_)
          refine g_iinc X (nI (q + 1)) [(2, .int (nI (q + 1))), (4, .int (nI (jnum a b (fun r => isEq (fK r)) q (b q)))), (3, .int (nI (jnum a b (fun r => isEq (fK r)) q (a q)))), (0, .ref hs), (1, .ref hr)] d_Strata_join_90 (k := 4) rfl (nI_1 q) (by decide) rfl ?_
          refine g_goto X 27 d_Strata_join_93 (by decide) ?_
          refine g_ws [(hs, .inr (4, [.ref sn, .ref ss, .ref su, .int (nI K)])), (sn, .inr (0, [.ref xn])), (xn, .inl (cI, 48, .inl g_7)), (hr, .inr (2, [.ref ru, .ref rw, .ref rk, .int (nI R), .int (nI sd)])), (ru, .inr (0, [.ref au])), (au, .inl (cI, 200, .inl fA)), (rw, .inr (0, [.ref aw])), (aw, .inl (cI, 200, .inl fB)), (rk, .inr (0, [.ref ak])), (ak, .inl (cI, 200, .inl fK))] [0, 8, 9, 5, 3, 4, 6, 7, 1, 2] rfl rfl ?_
          refine g_lv [3, 4, 0] rfl ?_
          exact ih27 (q + 1) g_7 (by omega) (by omega) (by first | exact join_keep g1 h41 | exact join_put hK la lb9 g1 h41 hrep) (by first | exact g2 | exact join_far (Nat.max_lt.mpr ⟨by omega, by omega⟩) g2 hrep)
  have L2 : ∀ (N2 : Nat) (i : Nat) (g : Nat → Int32), (K - i) < N2 → (i ≤ K) → (∀ k, k < i → g k = nI k) → (∀ k, K ≤ k → k < 48 → g k = -1) → G p l e ({ frames := 2, cells := 0, slots := 0, locals := 42 } : Room) s m args below meth c 5 D A s.heap Q 0 0 [(hs, .inr (4, [.ref sn, .ref ss, .ref su, .int (nI K)])), (sn, .inr (0, [.ref xn])), (xn, .inl (cI, 48, .inl g)), (hr, .inr (2, [.ref ru, .ref rw, .ref rk, .int (nI R), .int (nI sd)])), (ru, .inr (0, [.ref au])), (au, .inl (cI, 200, .inl fA)), (rw, .inr (0, [.ref aw])), (aw, .inl (cI, 200, .inl fB)), (rk, .inr (0, [.ref ak])), (ak, .inl (cI, 200, .inl fK))] [(0, .ref hs), (1, .ref hr), (2, .int (nI i))] 2 [] := by
    intro N2
    induction N2 with
    | zero =>
      intro i g hN
      exact absurd hN (Nat.not_lt_zero _)
    | succ N2 ih2 =>
      intro i g hN2 hi g1 g2
      refine g_iload_n X 2 d_Strata_join_2 rfl rfl ?_
      refine g_aload_n X 0 d_Strata_join_3 rfl rfl ?_
      refine g_get (C := R_Strata) (T := T_Strata) (N := 4) X 0 3 in_Strata rfl rfl (by decide) t1_87 rfl rfl d_Strata_join_4 ?_
      refine n_icmp_ge X 25 d_Strata_join_7 (by decide) (by omega) (by omega) (fun h7 => ?_) (fun h7 => ?_)
      · refine g_iconst (v := nI 0) X d_Strata_join_25 rfl ?_
        refine g_istore_n X [(2, .int (nI 0)), (0, .ref hs), (1, .ref hr)] d_Strata_join_26 rfl (by decide) rfl ?_
        refine g_lv [1, 2, 0] rfl ?_
        exact L27 ((R - 0) + 1) 0 g (Nat.lt_succ_self _) (by omega) (fun x hx => g1 x (by omega)) (g2)
      · refine g_aload_n X 0 d_Strata_join_10 rfl rfl ?_
        refine g_get (C := R_Strata) (T := T_Strata) (N := 4) X 0 0 in_Strata rfl rfl (by decide) t1_84 rfl rfl d_Strata_join_11 ?_
        refine g_iload_n X 2 d_Strata_join_14 rfl rfl ?_
        refine g_iload_n X 2 d_Strata_join_15 rfl rfl ?_
        refine g_callvV (n := 2) X [.int (nI i), .int (nI i)] (k_Cells_put sn xn 48 g i (nI i) (by omega) (by omega)) t2_35 t2_36 t2_37 t1_3 t2_38 rfl rfl (by decide +kernel) ⟨by decide, by decide⟩ [1, 2] [0, 3, 4, 5, 6, 7, 8, 9] [(hs, .inr (4, [.ref sn, .ref ss, .ref su, .int (nI K)])), (hr, .inr (2, [.ref ru, .ref rw, .ref rk, .int (nI R), .int (nI sd)])), (ru, .inr (0, [.ref au])), (au, .inl (cI, 200, .inl fA)), (rw, .inr (0, [.ref aw])), (aw, .inl (cI, 200, .inl fB)), (rk, .inr (0, [.ref ak])), (ak, .inl (cI, 200, .inl fK))] rfl rfl rfl rfl (by decide) 0 rfl rfl rfl rfl (Nat.le_of_ble_eq_true rfl) d_Strata_join_16 ⟨by decide, by decide⟩ (fun w9u8 hw8 => ?_)
        refine g_iinc X (nI (i + 1)) [(2, .int (nI (i + 1))), (0, .ref hs), (1, .ref hr)] d_Strata_join_19 (k := 2) rfl (nI_1 i) (by decide) rfl ?_
        refine g_goto X 2 d_Strata_join_22 (by decide) ?_
        refine g_ws [(hs, .inr (4, [.ref sn, .ref ss, .ref su, .int (nI K)])), (sn, .inr (0, [.ref xn])), (xn, .inl (cI, 48, .inl (upd g i (nI i)))), (hr, .inr (2, [.ref ru, .ref rw, .ref rk, .int (nI R), .int (nI sd)])), (ru, .inr (0, [.ref au])), (au, .inl (cI, 200, .inl fA)), (rw, .inr (0, [.ref aw])), (aw, .inl (cI, 200, .inl fB)), (rk, .inr (0, [.ref ak])), (ak, .inl (cI, 200, .inl fK))] [0, 8, 9, 1, 2, 3, 4, 5, 6, 7] rfl rfl ?_
        refine g_lv [1, 2, 0] rfl ?_
        exact ih2 (i + 1) (upd g i (nI i)) (by omega) (by omega) (iota_step g1) (upd_far (by omega) g2)
  refine g_iconst (v := nI 0) X d_Strata_join_0 rfl ?_
  refine g_istore_n X [(2, .int (nI 0)), (0, .ref hs), (1, .ref hr)] d_Strata_join_1 rfl (by decide) rfl ?_
  refine g_lv [1, 2, 0] rfl ?_
  exact L2 ((K - 0) + 1) 0 fN (Nat.lt_succ_self _) (by omega) (fun j hj => absurd hj (Nat.not_lt_zero j)) (hN)

set_option maxHeartbeats 4000000 in
set_option maxRecDepth 100000 in
theorem k_Strata_rebuild (hs : Nat) (sn : Nat) (ss : Nat) (su : Nat) (K : Nat) (xn : Nat) (fN : Nat → Int32) (xs : Nat) (fS : Nat → Int64) (xu : Nat) (fU : Nat → Int64) (hr : Nat) (ru : Nat) (rw : Nat) (rk : Nat) (R : Nat) (sd : Nat) (au : Nat) (aw : Nat) (ak : Nat) (fA : Nat → Int32) (fB : Nat → Int32) (fK : Nat → Int32) (a : Nat → Nat) (b : Nat → Nat) (hK : K ≤ 48) (hR : R ≤ 200) (hA : ∀ r, r < R → fA r = nI (a r) ∧ a r < K) (hB : ∀ r, r < R → fB r = nI (b r) ∧ b r < K) (hN : ∀ k, K ≤ k → k < 48 → fN k = -1) : CtV l y_Strata_rebuild (Cond.code y_Strata_rebuild c_Strata_rebuild 4 none :: TB) ({ frames := 3, cells := 0, slots := 0, locals := 67 } : Room) D (tysv cI cJ cZ cQ) [.ref hs, .ref hr] [(hs, .inr (4, [.ref sn, .ref ss, .ref su, .int (nI K)])), (sn, .inr (0, [.ref xn])), (xn, .inl (cI, 48, .inl fN)), (ss, .inr (1, [.ref xs])), (xs, .inl (cJ, 48, .inr (.inl fS))), (su, .inr (1, [.ref xu])), (xu, .inl (cJ, 48, .inr (.inl fU))), (hr, .inr (2, [.ref ru, .ref rw, .ref rk, .int (nI R), .int (nI sd)])), (ru, .inr (0, [.ref au])), (au, .inl (cI, 200, .inl fA)), (rw, .inr (0, [.ref aw])), (aw, .inl (cI, 200, .inl fB)), (rk, .inr (0, [.ref ak])), (ak, .inl (cI, 200, .inl fK))] 0 0 (fun (u : (Nat → Int32) × (Nat → Int64) × (Nat → Int64)) => (∀ x, x < K → u.1 x = nI (jnum a b (fun r => isEq (fK r)) R x)) ∧ (∀ k, K ≤ k → k < 48 → u.1 k = -1) ∧ (∀ x, x < 48 → ∀ j, lb (u.2.1 x) j = (jst a b (jnum a b (fun r => isEq (fK r)) R) (fun r => isAb (fK r)) R) x j) ∧ ∀ x, x < 48 → ∀ j, lb (u.2.2 x) j = gwar (jst a b (jnum a b (fun r => isEq (fK r)) R) (fun r => isAb (fK r)) R) 48 x j) (fun (u : (Nat → Int32) × (Nat → Int64) × (Nat → Int64)) => [(hs, .inr (4, [.ref sn, .ref ss, .ref su, .int (nI K)])), (sn, .inr (0, [.ref xn])), (xn, .inl (cI, 48, .inl u.1)), (ss, .inr (1, [.ref xs])), (xs, .inl (cJ, 48, .inr (.inl u.2.1))), (su, .inr (1, [.ref xu])), (xu, .inl (cJ, 48, .inr (.inl u.2.2))), (hr, .inr (2, [.ref ru, .ref rw, .ref rk, .int (nI R), .int (nI sd)])), (ru, .inr (0, [.ref au])), (au, .inl (cI, 200, .inl fA)), (rw, .inr (0, [.ref aw])), (aw, .inl (cI, 200, .inl fB)), (rk, .inr (0, [.ref ak])), (ak, .inl (cI, 200, .inl fK))]) := by
  refine CtV.of c_Strata_rebuild 4 none (by decide) rfl (Nat.le_of_ble_eq_true rfl) ?_
  intro p e s m args below meth c A Q hA9 hQ9 X hr9 hlk9 hin9
  refine g_aload_n X 0 d_Strata_rebuild_0 rfl rfl ?_
  refine g_aload_n X 1 d_Strata_rebuild_1 rfl rfl ?_
  refine g_callvV (n := 1) X [.ref hr] (k_Strata_join hs sn ss su K xn fN hr ru rw rk R sd au aw ak fA fB fK a b (by omega) (by omega) (hA) (hB) (hN)) t2_128 t2_130 ts_7 t1_5 t2_131 rfl rfl (by decide +kernel) ⟨by decide, by decide⟩ [0, 1, 2, 7, 8, 9, 10, 11, 12, 13] [3, 4, 5, 6] [(ss, .inr (1, [.ref xs])), (xs, .inl (cJ, 48, .inr (.inl fS))), (su, .inr (1, [.ref xu])), (xu, .inl (cJ, 48, .inr (.inl fU)))] rfl rfl rfl rfl (by decide) 0 rfl rfl rfl rfl (Nat.le_of_ble_eq_true rfl) d_Strata_rebuild_2 ⟨by decide, by decide⟩ (fun g_1 hj9 => ?_)
  obtain ⟨g1, g2⟩ := hj9
  refine g_aload_n X 0 d_Strata_rebuild_5 rfl rfl ?_
  refine g_get (C := R_Strata) (T := T_Strata) (N := 4) X 4 1 in_Strata rfl rfl (by decide) t1_85 rfl rfl d_Strata_rebuild_6 ?_
  refine g_callvV (n := 0) X [] (k_Rows_clear ss xs 48 fS (by omega)) t2_152 t2_153 t2_154 t1_6 t2_155 rfl rfl (by decide +kernel) ⟨by decide, by decide⟩ [0, 1] [2, 3, 4, 5, 6, 7, 8, 9, 10, 11, 12, 13] [(su, .inr (1, [.ref xu])), (xu, .inl (cJ, 48, .inr (.inl fU))), (hs, .inr (4, [.ref sn, .ref ss, .ref su, .int (nI K)])), (sn, .inr (0, [.ref xn])), (xn, .inl (cI, 48, .inl g_1)), (hr, .inr (2, [.ref ru, .ref rw, .ref rk, .int (nI R), .int (nI sd)])), (ru, .inr (0, [.ref au])), (au, .inl (cI, 200, .inl fA)), (rw, .inr (0, [.ref aw])), (aw, .inl (cI, 200, .inl fB)), (rk, .inr (0, [.ref ak])), (ak, .inl (cI, 200, .inl fK))] rfl rfl rfl rfl (by decide) 0 rfl rfl rfl rfl (Nat.le_of_ble_eq_true rfl) d_Strata_rebuild_9 ⟨by decide, by decide⟩ (fun g_2 hc9 => ?_)
  have L14 : ∀ (N14 : Nat) (q : Nat) (fs : Nat → Int64), (R - q) < N14 → (q ≤ R) → (∀ x, x < 48 → ∀ j, lb (fs x) j = jst a b (jnum a b (fun r => isEq (fK r)) R) (fun r => isAb (fK r)) q x j) → G p l e ({ frames := 3, cells := 0, slots := 0, locals := 67 } : Room) s m args below meth c 4 D A s.heap Q 0 0 [(hs, .inr (4, [.ref sn, .ref ss, .ref su, .int (nI K)])), (sn, .inr (0, [.ref xn])), (xn, .inl (cI, 48, .inl g_1)), (ss, .inr (1, [.ref xs])), (xs, .inl (cJ, 48, .inr (.inl fs))), (su, .inr (1, [.ref xu])), (xu, .inl (cJ, 48, .inr (.inl fU))), (hr, .inr (2, [.ref ru, .ref rw, .ref rk, .int (nI R), .int (nI sd)])), (ru, .inr (0, [.ref au])), (au, .inl (cI, 200, .inl fA)), (rw, .inr (0, [.ref aw])), (aw, .inl (cI, 200, .inl fB)), (rk, .inr (0, [.ref ak])), (ak, .inl (cI, 200, .inl fK))] [(0, .ref hs), (1, .ref hr), (2, .int (nI q))] 14 [] := by
    intro N14
    induction N14 with
    | zero =>
      intro q fs hN
      exact absurd hN (Nat.not_lt_zero _)
    | succ N14 ih14 =>
      intro q fs hN14 hq s1
      refine g_iload_n X 2 d_Strata_rebuild_14 rfl rfl ?_
      refine g_aload_n X 1 d_Strata_rebuild_15 rfl rfl ?_
      refine g_calliV (n := 0) X [] (k_Relations_made hr ru rw rk R sd ) t2_132 t2_69 t2_70 t1_2 t2_71 rfl rfl (by decide +kernel) ⟨by decide, by decide⟩ [7] [0, 1, 2, 3, 4, 5, 6, 8, 9, 10, 11, 12, 13] [(hs, .inr (4, [.ref sn, .ref ss, .ref su, .int (nI K)])), (sn, .inr (0, [.ref xn])), (xn, .inl (cI, 48, .inl g_1)), (ss, .inr (1, [.ref xs])), (xs, .inl (cJ, 48, .inr (.inl fs))), (su, .inr (1, [.ref xu])), (xu, .inl (cJ, 48, .inr (.inl fU))), (ru, .inr (0, [.ref au])), (au, .inl (cI, 200, .inl fA)), (rw, .inr (0, [.ref aw])), (aw, .inl (cI, 200, .inl fB)), (rk, .inr (0, [.ref ak])), (ak, .inl (cI, 200, .inl fK))] rfl rfl rfl rfl (by decide) 0 rfl rfl rfl rfl (Nat.le_of_ble_eq_true rfl) d_Strata_rebuild_16 ⟨by decide, by decide⟩ (fun r3 w9u3 hw3 => ?_)
      subst hw3
      refine n_icmp_ge X 74 d_Strata_rebuild_19 (by decide) (by omega) (by omega) (fun h19 => ?_) (fun h19 => ?_)
      · refine g_aload_n X 0 d_Strata_rebuild_74 rfl rfl ?_
        refine g_get (C := R_Strata) (T := T_Strata) (N := 4) X 0 2 in_Strata rfl rfl (by decide) t1_86 rfl rfl d_Strata_rebuild_75 ?_
        refine g_aload_n X 0 d_Strata_rebuild_78 rfl rfl ?_
        refine g_get (C := R_Strata) (T := T_Strata) (N := 4) X 0 1 in_Strata rfl rfl (by decide) t1_85 rfl rfl d_Strata_rebuild_79 ?_
        refine g_callvV (n := 1) X [.ref ss] (k_Rows_close su xu 48 fU ss xs fs (by omega)) t2_156 t2_157 t2_158 t1_6 t2_159 rfl rfl (by decide +kernel) ⟨by decide, by decide⟩ [5, 6, 3, 4] [0, 1, 2, 7, 8, 9, 10, 11, 12, 13] [(hs, .inr (4, [.ref sn, .ref ss, .ref su, .int (nI K)])), (sn, .inr (0, [.ref xn])), (xn, .inl (cI, 48, .inl g_1)), (ru, .inr (0, [.ref au])), (au, .inl (cI, 200, .inl fA)), (rw, .inr (0, [.ref aw])), (aw, .inl (cI, 200, .inl fB)), (rk, .inr (0, [.ref ak])), (ak, .inl (cI, 200, .inl fK)), (hr, .inr (2, [.ref ru, .ref rw, .ref rk, .int (nI R), .int (nI sd)]))] rfl rfl rfl rfl (by decide) 0 rfl rfl rfl rfl (Nat.le_of_ble_eq_true rfl) d_Strata_rebuild_82 ⟨by decide, by decide⟩ (fun g_4 hcl => ?_)
        have e9 : q = R := by omega
        subst e9
        have hgin : gin (jst a b (jnum a b (fun r => isEq (fK r)) q) (fun r => isAb (fK r)) q) 48 := jst_in hK (fun c9 => jnum_le q c9) (fun r hr8 => ⟨(hA r hr8).2, (hB r hr8).2⟩)
        exact g_vret X hA9 hQ9 hr9 hlk9 ⟨g_1, fs, g_4⟩ [0, 1, 2, 12, 13, 10, 11, 9, 3, 4, 5, 6, 7, 8] rfl rfl d_Strata_rebuild_85 (by (try dsimp only); exact (⟨g1, g2, s1, fun x hx j => by rw [hcl x hx j, rowE_jst hgin s1]⟩))
      · refine g_aload_n X 1 d_Strata_rebuild_22 rfl rfl ?_
        refine g_iload_n X 2 d_Strata_rebuild_23 rfl rfl ?_
        refine g_calliV (n := 1) X [.int (nI q)] (k_Relations_kindOf hr ru rw rk R sd ak fK q (by omega)) t2_133 t2_134 t2_135 t1_2 t2_136 rfl rfl (by decide +kernel) ⟨by decide, by decide⟩ [13, 11, 12] [0, 1, 2, 3, 4, 5, 6, 7, 8, 9, 10] [(hs, .inr (4, [.ref sn, .ref ss, .ref su, .int (nI K)])), (sn, .inr (0, [.ref xn])), (xn, .inl (cI, 48, .inl g_1)), (ss, .inr (1, [.ref xs])), (xs, .inl (cJ, 48, .inr (.inl fs))), (su, .inr (1, [.ref xu])), (xu, .inl (cJ, 48, .inr (.inl fU))), (ru, .inr (0, [.ref au])), (au, .inl (cI, 200, .inl fA)), (rw, .inr (0, [.ref aw])), (aw, .inl (cI, 200, .inl fB))] rfl rfl rfl rfl (by decide) 0 rfl rfl rfl rfl (Nat.le_of_ble_eq_true rfl) d_Strata_rebuild_24 ⟨by decide, by decide⟩ (fun r5 w9u5 hw5 => ?_)
        subst hw5
        refine g_istore_n X [(3, .int (fK q)), (0, .ref hs), (1, .ref hr), (2, .int (nI q))] d_Strata_rebuild_27 rfl (by decide) rfl ?_
        refine g_iload_n X 3 d_Strata_rebuild_28 rfl rfl ?_
        refine g_if_lt X 68 d_Strata_rebuild_29 (by decide) (fun h29 => ?_) (fun h29 => ?_)
        · refine g_iinc X (nI (q + 1)) [(2, .int (nI (q + 1))), (3, .int (fK q)), (0, .ref hs), (1, .ref hr)] d_Strata_rebuild_68 (k := 3) rfl (nI_1 q) (by decide) rfl ?_
          refine g_goto X 14 d_Strata_rebuild_71 (by decide) ?_
          refine g_ws [(hs, .inr (4, [.ref sn, .ref ss, .ref su, .int (nI K)])), (sn, .inr (0, [.ref xn])), (xn, .inl (cI, 48, .inl g_1)), (ss, .inr (1, [.ref xs])), (xs, .inl (cJ, 48, .inr (.inl fs))), (su, .inr (1, [.ref xu])), (xu, .inl (cJ, 48, .inr (.inl fU))), (hr, .inr (2, [.ref ru, .ref rw, .ref rk, .int (nI R), .int (nI sd)])), (ru, .inr (0, [.ref au])), (au, .inl (cI, 200, .inl fA)), (rw, .inr (0, [.ref aw])), (aw, .inl (cI, 200, .inl fB)), (rk, .inr (0, [.ref ak])), (ak, .inl (cI, 200, .inl fK))] [0, 1, 2, 3, 4, 5, 6, 11, 7, 8, 9, 10, 12, 13] rfl rfl ?_
          refine g_lv [2, 3, 0] rfl ?_
          exact ih14 (q + 1) fs (by omega) (by omega) (by first | exact steps_keep s1 (isAb_f1 h29) | exact steps_keep s1 (isAb_f2 h34) | exact steps_put (by omega) s1 (isAb_t h29 h34))
        · refine g_iload_n X 3 d_Strata_rebuild_32 rfl rfl ?_
          refine g_iconst (v := nI 3) X d_Strata_rebuild_33 rfl ?_
          refine g_icmp_ge X 68 d_Strata_rebuild_34 (by decide) (fun h34 => ?_) (fun h34 => ?_)
          · refine g_iinc X (nI (q + 1)) [(2, .int (nI (q + 1))), (3, .int (fK q)), (0, .ref hs), (1, .ref hr)] d_Strata_rebuild_68 (k := 3) rfl (nI_1 q) (by decide) rfl ?_
            refine g_goto X 14 d_Strata_rebuild_71 (by decide) ?_
            refine g_ws [(hs, .inr (4, [.ref sn, .ref ss, .ref su, .int (nI K)])), (sn, .inr (0, [.ref xn])), (xn, .inl (cI, 48, .inl g_1)), (ss, .inr (1, [.ref xs])), (xs, .inl (cJ, 48, .inr (.inl fs))), (su, .inr (1, [.ref xu])), (xu, .inl (cJ, 48, .inr (.inl fU))), (hr, .inr (2, [.ref ru, .ref rw, .ref rk, .int (nI R), .int (nI sd)])), (ru, .inr (0, [.ref au])), (au, .inl (cI, 200, .inl fA)), (rw, .inr (0, [.ref aw])), (aw, .inl (cI, 200, .inl fB)), (rk, .inr (0, [.ref ak])), (ak, .inl (cI, 200, .inl fK))] [0, 1, 2, 3, 4, 5, 6, 11, 7, 8, 9, 10, 12, 13] rfl rfl ?_
            refine g_lv [2, 3, 0] rfl ?_
            exact ih14 (q + 1) fs (by omega) (by omega) (by first | exact steps_keep s1 (isAb_f1 h29) | exact steps_keep s1 (isAb_f2 h34) | exact steps_put (by omega) s1 (isAb_t h29 h34))
          · have la := (hA q (by omega)).2
            have lb9 := (hB q (by omega)).2
            have l1 : (jnum a b (fun r => isEq (fK r)) R) (a q) < K := jnum_lt la
            have l2 : (jnum a b (fun r => isEq (fK r)) R) (b q) < K := jnum_lt lb9
            refine g_aload_n X 0 d_Strata_rebuild_37 rfl rfl ?_
            refine g_get (C := R_Strata) (T := T_Strata) (N := 4) X 0 1 in_Strata rfl rfl (by decide) t1_85 rfl rfl d_Strata_rebuild_38 ?_
            refine g_aload_n X 0 d_Strata_rebuild_41 rfl rfl ?_
            refine g_get (C := R_Strata) (T := T_Strata) (N := 4) X 0 0 in_Strata rfl rfl (by decide) t1_84 rfl rfl d_Strata_rebuild_42 ?_
            refine g_aload_n X 1 d_Strata_rebuild_45 rfl rfl ?_
            refine g_iload_n X 2 d_Strata_rebuild_46 rfl rfl ?_
            refine g_calliV (n := 1) X [.int (nI q)] (k_Relations_upperOf hr ru rw rk R sd au fA q (by omega)) t2_138 t2_139 t2_140 t1_2 t2_141 rfl rfl (by decide +kernel) ⟨by decide, by decide⟩ [11, 7, 8] [0, 1, 2, 3, 4, 5, 6, 9, 10, 12, 13] [(hs, .inr (4, [.ref sn, .ref ss, .ref su, .int (nI K)])), (sn, .inr (0, [.ref xn])), (xn, .inl (cI, 48, .inl g_1)), (ss, .inr (1, [.ref xs])), (xs, .inl (cJ, 48, .inr (.inl fs))), (su, .inr (1, [.ref xu])), (xu, .inl (cJ, 48, .inr (.inl fU))), (rw, .inr (0, [.ref aw])), (aw, .inl (cI, 200, .inl fB)), (rk, .inr (0, [.ref ak])), (ak, .inl (cI, 200, .inl fK))] rfl rfl rfl rfl (by decide) 0 rfl rfl rfl rfl (Nat.le_of_ble_eq_true rfl) d_Strata_rebuild_47 ⟨by decide, by decide⟩ (fun r6 w9u6 hw6 => ?_)
            subst hw6
            rw [(hA q (by omega)).1]
            refine g_calliV (n := 1) X [.int (nI (a q))] (k_Cells_at sn xn 48 g_1 (a q) (by omega) (by omega)) t2_77 t2_78 t2_79 t1_3 t2_80 rfl rfl (by decide +kernel) ⟨by decide, by decide⟩ [1, 2] [0, 3, 4, 5, 6, 7, 8, 9, 10, 11, 12, 13] [(hs, .inr (4, [.ref sn, .ref ss, .ref su, .int (nI K)])), (ss, .inr (1, [.ref xs])), (xs, .inl (cJ, 48, .inr (.inl fs))), (su, .inr (1, [.ref xu])), (xu, .inl (cJ, 48, .inr (.inl fU))), (rw, .inr (0, [.ref aw])), (aw, .inl (cI, 200, .inl fB)), (rk, .inr (0, [.ref ak])), (ak, .inl (cI, 200, .inl fK)), (hr, .inr (2, [.ref ru, .ref rw, .ref rk, .int (nI R), .int (nI sd)])), (ru, .inr (0, [.ref au])), (au, .inl (cI, 200, .inl fA))] rfl rfl rfl rfl (by decide) 0 rfl rfl rfl rfl (Nat.le_of_ble_eq_true rfl) d_Strata_rebuild_50 ⟨by decide, by decide⟩ (fun r7 w9u7 hw7 => ?_)
            subst hw7
            rw [g1 _ la]
            refine g_aload_n X 0 d_Strata_rebuild_53 rfl rfl ?_
            refine g_get (C := R_Strata) (T := T_Strata) (N := 4) X 0 0 in_Strata rfl rfl (by decide) t1_84 rfl rfl d_Strata_rebuild_54 ?_
            refine g_aload_n X 1 d_Strata_rebuild_57 rfl rfl ?_
            refine g_iload_n X 2 d_Strata_rebuild_58 rfl rfl ?_
            refine g_calliV (n := 1) X [.int (nI q)] (k_Relations_lowerOf hr ru rw rk R sd aw fB q (by omega)) t2_142 t2_143 t2_144 t1_2 t2_145 rfl rfl (by decide +kernel) ⟨by decide, by decide⟩ [9, 5, 6] [0, 1, 2, 3, 4, 7, 8, 10, 11, 12, 13] [(hs, .inr (4, [.ref sn, .ref ss, .ref su, .int (nI K)])), (ss, .inr (1, [.ref xs])), (xs, .inl (cJ, 48, .inr (.inl fs))), (su, .inr (1, [.ref xu])), (xu, .inl (cJ, 48, .inr (.inl fU))), (rk, .inr (0, [.ref ak])), (ak, .inl (cI, 200, .inl fK)), (ru, .inr (0, [.ref au])), (au, .inl (cI, 200, .inl fA)), (sn, .inr (0, [.ref xn])), (xn, .inl (cI, 48, .inl g_1))] rfl rfl rfl rfl (by decide) 0 rfl rfl rfl rfl (Nat.le_of_ble_eq_true rfl) d_Strata_rebuild_59 ⟨by decide, by decide⟩ (fun r8 w9u8 hw8 => ?_)
            subst hw8
            rw [(hB q (by omega)).1]
            refine g_calliV (n := 1) X [.int (nI (b q))] (k_Cells_at sn xn 48 g_1 (b q) (by omega) (by omega)) t2_77 t2_78 t2_79 t1_3 t2_80 rfl rfl (by decide +kernel) ⟨by decide, by decide⟩ [9, 10] [0, 1, 2, 3, 4, 5, 6, 7, 8, 11, 12, 13] [(hs, .inr (4, [.ref sn, .ref ss, .ref su, .int (nI K)])), (ss, .inr (1, [.ref xs])), (xs, .inl (cJ, 48, .inr (.inl fs))), (su, .inr (1, [.ref xu])), (xu, .inl (cJ, 48, .inr (.inl fU))), (rk, .inr (0, [.ref ak])), (ak, .inl (cI, 200, .inl fK)), (ru, .inr (0, [.ref au])), (au, .inl (cI, 200, .inl fA)), (hr, .inr (2, [.ref ru, .ref rw, .ref rk, .int (nI R), .int (nI sd)])), (rw, .inr (0, [.ref aw])), (aw, .inl (cI, 200, .inl fB))] rfl rfl rfl rfl (by decide) 0 rfl rfl rfl rfl (Nat.le_of_ble_eq_true rfl) d_Strata_rebuild_62 ⟨by decide, by decide⟩ (fun r9 w9u9 hw9 => ?_)
            subst hw9
            rw [g1 _ lb9]
            refine g_callvV (n := 2) X [.int (nI ((jnum a b (fun r => isEq (fK r)) R) (a q))), .int (nI ((jnum a b (fun r => isEq (fK r)) R) (b q)))] (k_Rows_mark ss xs 48 fs ((jnum a b (fun r => isEq (fK r)) R) (a q)) ((jnum a b (fun r => isEq (fK r)) R) (b q)) (by omega) (by omega) (by omega)) t2_89 t2_90 t2_91 t1_6 t2_92 rfl rfl (by decide +kernel) ⟨by decide, by decide⟩ [1, 2] [0, 3, 4, 5, 6, 7, 8, 9, 10, 11, 12, 13] [(hs, .inr (4, [.ref sn, .ref ss, .ref su, .int (nI K)])), (su, .inr (1, [.ref xu])), (xu, .inl (cJ, 48, .inr (.inl fU))), (rk, .inr (0, [.ref ak])), (ak, .inl (cI, 200, .inl fK)), (ru, .inr (0, [.ref au])), (au, .inl (cI, 200, .inl fA)), (hr, .inr (2, [.ref ru, .ref rw, .ref rk, .int (nI R), .int (nI sd)])), (rw, .inr (0, [.ref aw])), (aw, .inl (cI, 200, .inl fB)), (sn, .inr (0, [.ref xn])), (xn, .inl (cI, 48, .inl g_1))] rfl rfl rfl rfl (by decide) 0 rfl rfl rfl rfl (Nat.le_of_ble_eq_true rfl) d_Strata_rebuild_65 ⟨by decide, by decide⟩ (fun w9u10 hw10 => ?_)
            refine g_iinc X (nI (q + 1)) [(2, .int (nI (q + 1))), (3, .int (fK q)), (0, .ref hs), (1, .ref hr)] d_Strata_rebuild_68 (k := 3) rfl (nI_1 q) (by decide) rfl ?_
            refine g_goto X 14 d_Strata_rebuild_71 (by decide) ?_
            refine g_ws [(hs, .inr (4, [.ref sn, .ref ss, .ref su, .int (nI K)])), (sn, .inr (0, [.ref xn])), (xn, .inl (cI, 48, .inl g_1)), (ss, .inr (1, [.ref xs])), (xs, .inl (cJ, 48, .inr (.inl (vp_updL fs ((jnum a b (fun r => isEq (fK r)) R) (a q)) (fs ((jnum a b (fun r => isEq (fK r)) R) (a q)) ||| ((1 : Int64) <<< ((nI ((jnum a b (fun r => isEq (fK r)) R) (b q))).toInt64 &&& 63))))))), (su, .inr (1, [.ref xu])), (xu, .inl (cJ, 48, .inr (.inl fU))), (hr, .inr (2, [.ref ru, .ref rw, .ref rk, .int (nI R), .int (nI sd)])), (ru, .inr (0, [.ref au])), (au, .inl (cI, 200, .inl fA)), (rw, .inr (0, [.ref aw])), (aw, .inl (cI, 200, .inl fB)), (rk, .inr (0, [.ref ak])), (ak, .inl (cI, 200, .inl fK))] [0, 10, 11, 12, 13, 1, 2, 7, 5, 6, 8, 9, 3, 4] rfl rfl ?_
            refine g_lv [2, 3, 0] rfl ?_
            exact ih14 (q + 1) (vp_updL fs ((jnum a b (fun r => isEq (fK r)) R) (a q)) (fs ((jnum a b (fun r => isEq (fK r)) R) (a q)) ||| ((1 : Int64) <<< ((nI ((jnum a b (fun r => isEq (fK r)) R) (b q))).toInt64 &&& 63)))) (by omega) (by omega) (by first | exact steps_keep s1 (isAb_f1 h29) | exact steps_keep s1 (isAb_f2 h34) | exact steps_put (by omega) s1 (isAb_t h29 h34))
  refine g_iconst (v := nI 0) X d_Strata_rebuild_12 rfl ?_
  refine g_istore_n X [(2, .int (nI 0)), (0, .ref hs), (1, .ref hr)] d_Strata_rebuild_13 rfl (by decide) rfl ?_
  refine g_ws [(hs, .inr (4, [.ref sn, .ref ss, .ref su, .int (nI K)])), (sn, .inr (0, [.ref xn])), (xn, .inl (cI, 48, .inl g_1)), (ss, .inr (1, [.ref xs])), (xs, .inl (cJ, 48, .inr (.inl g_2))), (su, .inr (1, [.ref xu])), (xu, .inl (cJ, 48, .inr (.inl fU))), (hr, .inr (2, [.ref ru, .ref rw, .ref rk, .int (nI R), .int (nI sd)])), (ru, .inr (0, [.ref au])), (au, .inl (cI, 200, .inl fA)), (rw, .inr (0, [.ref aw])), (aw, .inl (cI, 200, .inl fB)), (rk, .inr (0, [.ref ak])), (ak, .inl (cI, 200, .inl fK))] [2, 3, 4, 12, 13, 0, 1, 5, 6, 7, 8, 9, 10, 11] rfl rfl ?_
  refine g_lv [1, 2, 0] rfl ?_
  exact L14 ((R - 0) + 1) 0 g_2 (Nat.lt_succ_self _) (by omega) (steps_0 hc9)

set_option maxHeartbeats 4000000 in
set_option maxRecDepth 100000 in
theorem k_Strata_tellRingWith (hs : Nat) (sn : Nat) (ss : Nat) (su : Nat) (K : Nat) (xs : Nat) (fS : Nat → Int64) (h : Nat) (rp : Nat) (ly : Nat) (ln : Int32) (ap : Nat) (P : Nat → Int32) (Y : Nat → Int64) (u : Nat) (v : Nat) (t : Nat) (d : Nat) (pp : Nat → Nat) (hu : u < 48) (hv : v < 48) (ht : t < 48) (hf : ∀ x, x < 48 → ∀ j, lb (fS x) j = true → j < 48) (hg : gring (gadd (rowE 48 fS) u v) t d pp) : CtI l y_Strata_tellRingWith (Cond.code y_Strata_tellRingWith c_Strata_tellRingWith 8 (some .boolean) :: TB) ({ frames := 4, cells := 0, slots := 0, locals := 91 } : Room) D (tysv cI cJ cZ cQ) [.ref hs, .int (nI u), .int (nI v), .int (nI t), .ref h] [(hs, .inr (4, [.ref sn, .ref ss, .ref su, .int (nI K)])), (ss, .inr (1, [.ref xs])), (xs, .inl (cJ, 48, .inr (.inl fS))), (h, .inr (3, [.ref rp, .ref ly, .int ln])), (rp, .inr (0, [.ref ap])), (ap, .inl (cI, 48, .inl P)), (ly, .inl (cJ, 48, .inr (.inl Y)))] 0 0 (fun (r : Int32) (u : (Nat → Int32) × (Nat → Int64)) => r = bI true ∧ ∀ j, j < d → u.1 j = nI (pp j)) (fun (u : (Nat → Int32) × (Nat → Int64)) => [(hs, .inr (4, [.ref sn, .ref ss, .ref su, .int (nI K)])), (ss, .inr (1, [.ref xs])), (xs, .inl (cJ, 48, .inr (.inl fS))), (h, .inr (3, [.ref rp, .ref ly, .int (nI d)])), (rp, .inr (0, [.ref ap])), (ap, .inl (cI, 48, .inl u.1)), (ly, .inl (cJ, 48, .inr (.inl u.2)))]) := by
  refine CtI.of c_Strata_tellRingWith 8 (some .boolean) (by decide) rfl (Nat.le_of_ble_eq_true rfl) ?_
  intro p e s m args below meth c A Q hA9 hQ9 X hr9 hlk9 hin9
  refine g_aload_n X 0 d_Strata_tellRingWith_0 rfl rfl ?_
  refine g_get (C := R_Strata) (T := T_Strata) (N := 4) X 0 1 in_Strata rfl rfl (by decide) t1_85 rfl rfl d_Strata_tellRingWith_1 ?_
  refine g_iload_n X 1 d_Strata_tellRingWith_4 rfl rfl ?_
  refine g_calllV (n := 1) X [.int (nI u)] (k_Rows_row ss xs 48 fS u (by omega) (by omega)) t1_173 t1_174 t1_175 t1_6 t1_176 rfl rfl (by decide +kernel) ⟨by decide, by decide⟩ [1, 2] [0, 3, 4, 5, 6] [(hs, .inr (4, [.ref sn, .ref ss, .ref su, .int (nI K)])), (h, .inr (3, [.ref rp, .ref ly, .int ln])), (rp, .inr (0, [.ref ap])), (ap, .inl (cI, 48, .inl P)), (ly, .inl (cJ, 48, .inr (.inl Y)))] rfl rfl rfl rfl (by decide) 0 rfl rfl rfl rfl (Nat.le_of_ble_eq_true rfl) d_Strata_tellRingWith_5 ⟨by decide, by decide⟩ (fun r1 w9u1 hw1 => ?_)
  subst hw1
  refine g_lstore X [(5, .long (fS u)), (0, .ref hs), (1, .int (nI u)), (2, .int (nI v)), (3, .int (nI t)), (4, .ref h)] d_Strata_tellRingWith_8 (by decide) rfl ?_
  refine g_aload_n X 0 d_Strata_tellRingWith_10 rfl rfl ?_
  refine g_get (C := R_Strata) (T := T_Strata) (N := 4) X 0 1 in_Strata rfl rfl (by decide) t1_85 rfl rfl d_Strata_tellRingWith_11 ?_
  refine g_iload_n X 1 d_Strata_tellRingWith_14 rfl rfl ?_
  refine g_iload_n X 2 d_Strata_tellRingWith_15 rfl rfl ?_
  refine g_callvV (n := 2) X [.int (nI u), .int (nI v)] (k_Rows_mark ss xs 48 fS u v (by omega) (by omega) (by omega)) t2_89 t2_90 t2_91 t1_6 t2_92 rfl rfl (by decide +kernel) ⟨by decide, by decide⟩ [5, 6] [0, 1, 2, 3, 4] [(hs, .inr (4, [.ref sn, .ref ss, .ref su, .int (nI K)])), (h, .inr (3, [.ref rp, .ref ly, .int ln])), (rp, .inr (0, [.ref ap])), (ap, .inl (cI, 48, .inl P)), (ly, .inl (cJ, 48, .inr (.inl Y)))] rfl rfl rfl rfl (by decide) 0 rfl rfl rfl rfl (Nat.le_of_ble_eq_true rfl) d_Strata_tellRingWith_16 ⟨by decide, by decide⟩ (fun w9u2 hw2 => ?_)
  refine g_aload X 4 d_Strata_tellRingWith_19 rfl ?_
  refine g_aload_n X 0 d_Strata_tellRingWith_21 rfl rfl ?_
  refine g_get (C := R_Strata) (T := T_Strata) (N := 4) X 0 1 in_Strata rfl rfl (by decide) t1_85 rfl rfl d_Strata_tellRingWith_22 ?_
  refine g_iload_n X 3 d_Strata_tellRingWith_25 rfl rfl ?_
  refine g_calliV (n := 2) X [.ref ss, .int (nI t)] (k_Ring_tell h rp ly ln ap P Y ss xs 48 (vp_updL fS u (fS u ||| ((1 : Int64) <<< ((nI v).toInt64 &&& 63)))) t d pp (Nat.le_refl 48) (by omega) (mark_in hv (Nat.le_refl 48) hf) (by rw [rowE_mark hu (by omega)]; exact hg)) t2_93 t2_94 t2_95 t1_7 t2_96 rfl rfl (by decide +kernel) ⟨by decide, by decide⟩ [1, 2, 3, 4, 5, 6] [0] [(hs, .inr (4, [.ref sn, .ref ss, .ref su, .int (nI K)]))] rfl rfl rfl rfl (by decide) 0 rfl rfl rfl rfl (Nat.le_of_ble_eq_true rfl) d_Strata_tellRingWith_26 ⟨by decide, by decide⟩ (fun r3 ⟨P2_3, Z_3⟩ hPP => ?_)
  obtain ⟨rfl, hPP⟩ := hPP
  refine g_istore X [(7, .int (bI true)), (5, .long (fS u)), (0, .ref hs), (1, .int (nI u)), (2, .int (nI v)), (3, .int (nI t)), (4, .ref h)] d_Strata_tellRingWith_29 (by decide) rfl ?_
  refine g_aload_n X 0 d_Strata_tellRingWith_31 rfl rfl ?_
  refine g_get (C := R_Strata) (T := T_Strata) (N := 4) X 0 1 in_Strata rfl rfl (by decide) t1_85 rfl rfl d_Strata_tellRingWith_32 ?_
  refine g_iload_n X 1 d_Strata_tellRingWith_35 rfl rfl ?_
  refine g_lload X 5 d_Strata_tellRingWith_36 rfl ?_
  refine g_callvV (n := 2) X [.int (nI u), .long (fS u)] (k_Rows_put ss xs 48 (vp_updL fS u (fS u ||| ((1 : Int64) <<< ((nI v).toInt64 &&& 63)))) u (fS u) (by omega) (by omega)) t2_115 t2_116 t2_117 t1_6 t2_118 rfl rfl (by decide +kernel) ⟨by decide, by decide⟩ [5, 6] [0, 1, 2, 3, 4] [(hs, .inr (4, [.ref sn, .ref ss, .ref su, .int (nI K)])), (h, .inr (3, [.ref rp, .ref ly, .int (nI d)])), (rp, .inr (0, [.ref ap])), (ap, .inl (cI, 48, .inl P2_3)), (ly, .inl (cJ, 48, .inr (.inl Z_3)))] rfl rfl rfl rfl (by decide) 0 rfl rfl rfl rfl (Nat.le_of_ble_eq_true rfl) d_Strata_tellRingWith_38 ⟨by decide, by decide⟩ (fun w9u4 hw4 => ?_)
  rw [updL_back]
  refine g_iload X 7 d_Strata_tellRingWith_41 rfl ?_
  exact g_zret X hA9 hQ9 hr9 (by first | exact Or.inl rfl | exact Or.inr rfl) hlk9 ⟨P2_3, Z_3⟩ [0, 5, 6, 1, 2, 3, 4] rfl rfl d_Strata_tellRingWith_43 (by (try dsimp only); exact (⟨rfl, hPP⟩))

set_option maxHeartbeats 4000000 in
set_option maxRecDepth 100000 in
theorem k_Strata_tellRingWithN (hs : Nat) (sn : Nat) (ss : Nat) (su : Nat) (K : Nat) (xs : Nat) (fS : Nat → Int64) (h : Nat) (rp : Nat) (ly : Nat) (ln : Int32) (Y : Nat → Int64) (u : Nat) (v : Nat) (t : Nat) (hu : u < 48) (hv : v < 48) (ht : t < 48) (hf : ∀ x, x < 48 → ∀ j, lb (fS x) j = true → j < 48) (hd : ∀ k, ¬ gw (gadd (rowE 48 fS) u v) (k + 1) t t) : CtI l y_Strata_tellRingWith (Cond.code y_Strata_tellRingWith c_Strata_tellRingWith 8 (some .boolean) :: TB) ({ frames := 3, cells := 0, slots := 0, locals := 75 } : Room) D (tysv cI cJ cZ cQ) [.ref hs, .int (nI u), .int (nI v), .int (nI t), .ref h] [(hs, .inr (4, [.ref sn, .ref ss, .ref su, .int (nI K)])), (ss, .inr (1, [.ref xs])), (xs, .inl (cJ, 48, .inr (.inl fS))), (h, .inr (3, [.ref rp, .ref ly, .int ln])), (ly, .inl (cJ, 48, .inr (.inl Y)))] 0 0 (fun (r : Int32) (Z : Nat → Int64) => r = bI false) (fun (Z : Nat → Int64) => [(hs, .inr (4, [.ref sn, .ref ss, .ref su, .int (nI K)])), (ss, .inr (1, [.ref xs])), (xs, .inl (cJ, 48, .inr (.inl fS))), (h, .inr (3, [.ref rp, .ref ly, .int ln])), (ly, .inl (cJ, 48, .inr (.inl Z)))]) := by
  refine CtI.of c_Strata_tellRingWith 8 (some .boolean) (by decide) rfl (Nat.le_of_ble_eq_true rfl) ?_
  intro p e s m args below meth c A Q hA9 hQ9 X hr9 hlk9 hin9
  refine g_aload_n X 0 d_Strata_tellRingWith_0 rfl rfl ?_
  refine g_get (C := R_Strata) (T := T_Strata) (N := 4) X 0 1 in_Strata rfl rfl (by decide) t1_85 rfl rfl d_Strata_tellRingWith_1 ?_
  refine g_iload_n X 1 d_Strata_tellRingWith_4 rfl rfl ?_
  refine g_calllV (n := 1) X [.int (nI u)] (k_Rows_row ss xs 48 fS u (by omega) (by omega)) t1_173 t1_174 t1_175 t1_6 t1_176 rfl rfl (by decide +kernel) ⟨by decide, by decide⟩ [1, 2] [0, 3, 4] [(hs, .inr (4, [.ref sn, .ref ss, .ref su, .int (nI K)])), (h, .inr (3, [.ref rp, .ref ly, .int ln])), (ly, .inl (cJ, 48, .inr (.inl Y)))] rfl rfl rfl rfl (by decide) 0 rfl rfl rfl rfl (Nat.le_of_ble_eq_true rfl) d_Strata_tellRingWith_5 ⟨by decide, by decide⟩ (fun r1 w9u1 hw1 => ?_)
  subst hw1
  refine g_lstore X [(5, .long (fS u)), (0, .ref hs), (1, .int (nI u)), (2, .int (nI v)), (3, .int (nI t)), (4, .ref h)] d_Strata_tellRingWith_8 (by decide) rfl ?_
  refine g_aload_n X 0 d_Strata_tellRingWith_10 rfl rfl ?_
  refine g_get (C := R_Strata) (T := T_Strata) (N := 4) X 0 1 in_Strata rfl rfl (by decide) t1_85 rfl rfl d_Strata_tellRingWith_11 ?_
  refine g_iload_n X 1 d_Strata_tellRingWith_14 rfl rfl ?_
  refine g_iload_n X 2 d_Strata_tellRingWith_15 rfl rfl ?_
  refine g_callvV (n := 2) X [.int (nI u), .int (nI v)] (k_Rows_mark ss xs 48 fS u v (by omega) (by omega) (by omega)) t2_89 t2_90 t2_91 t1_6 t2_92 rfl rfl (by decide +kernel) ⟨by decide, by decide⟩ [3, 4] [0, 1, 2] [(hs, .inr (4, [.ref sn, .ref ss, .ref su, .int (nI K)])), (h, .inr (3, [.ref rp, .ref ly, .int ln])), (ly, .inl (cJ, 48, .inr (.inl Y)))] rfl rfl rfl rfl (by decide) 0 rfl rfl rfl rfl (Nat.le_of_ble_eq_true rfl) d_Strata_tellRingWith_16 ⟨by decide, by decide⟩ (fun w9u2 hw2 => ?_)
  refine g_aload X 4 d_Strata_tellRingWith_19 rfl ?_
  refine g_aload_n X 0 d_Strata_tellRingWith_21 rfl rfl ?_
  refine g_get (C := R_Strata) (T := T_Strata) (N := 4) X 0 1 in_Strata rfl rfl (by decide) t1_85 rfl rfl d_Strata_tellRingWith_22 ?_
  refine g_iload_n X 3 d_Strata_tellRingWith_25 rfl rfl ?_
  refine g_calliV (n := 2) X [.ref ss, .int (nI t)] (k_Ring_tellN h rp ly ln Y ss xs 48 (vp_updL fS u (fS u ||| ((1 : Int64) <<< ((nI v).toInt64 &&& 63)))) t (Nat.le_refl 48) (by omega) (mark_in hv (Nat.le_refl 48) hf) (by rw [rowE_mark hu (by omega)]; exact hd)) t2_93 t2_94 t2_95 t1_7 t2_96 rfl rfl (by decide +kernel) ⟨by decide, by decide⟩ [1, 2, 3, 4] [0] [(hs, .inr (4, [.ref sn, .ref ss, .ref su, .int (nI K)]))] rfl rfl rfl rfl (by decide) 0 rfl rfl rfl rfl (Nat.le_of_ble_eq_true rfl) d_Strata_tellRingWith_26 ⟨by decide, by decide⟩ (fun r3 Z_3 hw3 => ?_)
  subst hw3
  refine g_istore X [(7, .int (bI false)), (5, .long (fS u)), (0, .ref hs), (1, .int (nI u)), (2, .int (nI v)), (3, .int (nI t)), (4, .ref h)] d_Strata_tellRingWith_29 (by decide) rfl ?_
  refine g_aload_n X 0 d_Strata_tellRingWith_31 rfl rfl ?_
  refine g_get (C := R_Strata) (T := T_Strata) (N := 4) X 0 1 in_Strata rfl rfl (by decide) t1_85 rfl rfl d_Strata_tellRingWith_32 ?_
  refine g_iload_n X 1 d_Strata_tellRingWith_35 rfl rfl ?_
  refine g_lload X 5 d_Strata_tellRingWith_36 rfl ?_
  refine g_callvV (n := 2) X [.int (nI u), .long (fS u)] (k_Rows_put ss xs 48 (vp_updL fS u (fS u ||| ((1 : Int64) <<< ((nI v).toInt64 &&& 63)))) u (fS u) (by omega) (by omega)) t2_115 t2_116 t2_117 t1_6 t2_118 rfl rfl (by decide +kernel) ⟨by decide, by decide⟩ [3, 4] [0, 1, 2] [(hs, .inr (4, [.ref sn, .ref ss, .ref su, .int (nI K)])), (h, .inr (3, [.ref rp, .ref ly, .int ln])), (ly, .inl (cJ, 48, .inr (.inl Z_3)))] rfl rfl rfl rfl (by decide) 0 rfl rfl rfl rfl (Nat.le_of_ble_eq_true rfl) d_Strata_tellRingWith_38 ⟨by decide, by decide⟩ (fun w9u4 hw4 => ?_)
  rw [updL_back]
  refine g_iload X 7 d_Strata_tellRingWith_41 rfl ?_
  exact g_zret X hA9 hQ9 hr9 (by first | exact Or.inl rfl | exact Or.inr rfl) hlk9 Z_3 [0, 3, 4, 1, 2] rfl rfl d_Strata_tellRingWith_43 (rfl)
