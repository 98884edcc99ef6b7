variable {l : Launch} {D : va_G} {cI cJ cZ cQ : ClassId}
section GE
variable {p : Program} {e : Env} {R : Room} {s : State} {m : MethodId} {args : Array Value} {below : List Frame} {meth : Method} {c : Code} {cells slots nL : Nat} {Q : State → Prop} {A : Nat → Prop} {H0 : Heap} {ws : va_W} {lv : List (Nat × Value)} {pc : Nat} {rest : List Value}
theorem g_topE {x y : Int32} (e9 : x = y) (kk : G p l e R s m args below meth c nL D A H0 Q cells slots ws lv pc (.int y :: rest)) : G p l e R s m args below meth c nL D A H0 Q cells slots ws lv pc (.int x :: rest) := by
  subst e9
  exact kk
end GE
/-- a context's group: its number, 12 and more for none -/
def hI (g : Nat) : Int32 := if g < 12 then nI g else -1
theorem hI_t {g : Nat} (h : g < 12) : hI g = nI g := if_pos h
theorem hI_f {g : Nat} (h : ¬ g < 12) : hI g = -1 := if_neg h
theorem hI_ne {g : Nat} (h : ¬ hI g = -1) : g < 12 := by
  rcases Nat.lt_or_ge g 12 with q | q
  · exact q
  · exact absurd (hI_f (by omega)) h
theorem hI_eq {g : Nat} (h : hI g = -1) : ¬ g < 12 := by
  intro q
  rw [hI_t q] at h
  have := nI_pos (n := g) (by omega)
  rw [h] at this
  exact this (by decide)
theorem hI_inj {g k : Nat} (hg : g < 12) (h : hI k = hI g) : k = g := by
  rw [hI_t hg] at h
  rcases Nat.lt_or_ge k 12 with q | q
  · rw [hI_t q] at h
    exact (nI_eq (by omega) (by omega)).mp h
  · rw [hI_f (by omega)] at h
    have := nI_pos (n := g) (by omega)
    rw [← h] at this
    exact absurd (by decide) this
/-- the edge that the contexts x and y give between the groups g and h -/
def gpX (ov : Nat → Nat → Bool) (hm : Nat → Nat) (x y g h : Nat) : Prop := hm x = g ∧ hm y = h ∧ g < 12 ∧ h < 12 ∧ g ≠ h ∧ ov x y = true
/-- what the rows hold after the contexts before i against all, and i against those before k -/
def gpI (ov : Nat → Nat → Bool) (hm : Nat → Nat) (K i k : Nat) (fl : Nat → Int64) : Prop := ∀ g, g < 12 → ∀ h, lb (fl g) h = true ↔ ∃ x y, ((x < i ∧ y < K) ∨ (x = i ∧ y < k)) ∧ gpX ov hm x y g h
theorem gp_0 {ov : Nat → Nat → Bool} {hm : Nat → Nat} {K : Nat} {fl : Nat → Int64} (h : ∀ k, k < 12 → fl k = 0) : gpI ov hm K 0 0 fl := by
  intro g hg j
  rw [h g hg, lb_0]
  constructor
  · intro h; cases h
  · rintro ⟨x, y, h1, -⟩
    omega
theorem gp_row {ov : Nat → Nat → Bool} {hm : Nat → Nat} {K i k : Nat} {fl : Nat → Int64} (h : gpI ov hm K i k fl) (hk : k = K) : gpI ov hm K (i + 1) 0 fl := by
  subst hk
  intro g hg j
  rw [h g hg j]
  constructor
  · rintro ⟨x, y, h1, h2⟩
    exact ⟨x, y, by omega, h2⟩
  · rintro ⟨x, y, h1, h2⟩
    exact ⟨x, y, by omega, h2⟩
theorem gp_none {ov : Nat → Nat → Bool} {hm : Nat → Nat} {K i k : Nat} {fl : Nat → Int64} (h : gpI ov hm K i k fl) (hi : ¬ hm i < 12) : gpI ov hm K (i + 1) 0 fl := by
  intro g hg j
  rw [h g hg j]
  constructor
  · rintro ⟨x, y, h1 | ⟨h1, -⟩, h2⟩
    · exact ⟨x, y, by omega, h2⟩
    · obtain ⟨e1, -, l1, -⟩ := h2
      subst h1
      rw [e1] at hi
      exact absurd l1 hi
  · rintro ⟨x, y, h1, h2⟩
    rcases Nat.lt_or_ge x i with q | q
    · exact ⟨x, y, by omega, h2⟩
    · have e : x = i := by omega
      subst e
      obtain ⟨e1, -, l1, -⟩ := h2
      rw [e1] at hi
      exact absurd l1 hi
theorem gp_skip {ov : Nat → Nat → Bool} {hm : Nat → Nat} {K i k : Nat} {fl : Nat → Int64} (h : gpI ov hm K i k fl) (hx : ∀ g j, ¬ gpX ov hm i k g j) : gpI ov hm K i (k + 1) fl := by
  intro g hg j
  rw [h g hg j]
  constructor
  · rintro ⟨x, y, h1, h2⟩
    exact ⟨x, y, by omega, h2⟩
  · rintro ⟨x, y, h1, h2⟩
    by_cases q : x = i ∧ y = k
    · obtain ⟨rfl, rfl⟩ := q
      exact absurd h2 (hx g j)
    · exact ⟨x, y, by omega, h2⟩
theorem gp_skip1 {ov : Nat → Nat → Bool} {hm : Nat → Nat} {K i k : Nat} {fl : Nat → Int64} (h : gpI ov hm K i k fl) (hi : hm i < 12) (he : hI (hm k) = hI (hm i)) : gpI ov hm K i (k + 1) fl := gp_skip h (by
  rintro g j ⟨e1, e2, -, -, hne, -⟩
  have := hI_inj hi he
  omega)
theorem gp_skip2 {ov : Nat → Nat → Bool} {hm : Nat → Nat} {K i k : Nat} {fl : Nat → Int64} (h : gpI ov hm K i k fl) (he : ov i k = false) : gpI ov hm K i (k + 1) fl := gp_skip h (by
  rintro g j ⟨-, -, -, -, -, h9⟩
  rw [he] at h9
  cases h9)
theorem gp_skip3 {ov : Nat → Nat → Bool} {hm : Nat → Nat} {K i k : Nat} {fl : Nat → Int64} (h : gpI ov hm K i k fl) (he : ¬ hm k < 12) : gpI ov hm K i (k + 1) fl := gp_skip h (by
  rintro g j ⟨-, e2, -, l2, -, -⟩
  rw [e2] at he
  exact he l2)
theorem gp_put {ov : Nat → Nat → Bool} {hm : Nat → Nat} {K i k : Nat} {fl : Nat → Int64} (h : gpI ov hm K i k fl) (hi : hm i < 12) (hk : hm k < 12) (hne : ¬ hI (hm k) = hI (hm i)) (ho : ov i k = true) : gpI ov hm K i (k + 1) (vp_updL fl (hm i) (fl (hm i) ||| ((1 : Int64) <<< ((nI (hm k)).toInt64 &&& 63)))) := by
  intro g hg j
  rw [lb_mark (by omega), Bool.or_eq_true, h g hg j, Bool.and_eq_true, decide_eq_true_eq, decide_eq_true_eq]
  constructor
  · rintro (⟨x, y, h1, h2⟩ | ⟨e1, e2⟩)
    · exact ⟨x, y, by omega, h2⟩
    · subst e1
      subst e2
      exact ⟨i, k, by omega, rfl, rfl, hi, hk, fun q => hne (by rw [q]), ho⟩
  · rintro ⟨x, y, h1, h2⟩
    by_cases q : x = i ∧ y = k
    · obtain ⟨rfl, rfl⟩ := q
      exact Or.inr ⟨h2.1.symm, h2.2.1.symm⟩
    · exact Or.inl ⟨x, y, by omega, h2⟩
def gpE (ov : Nat → Nat → Bool) (hm : Nat → Nat) (K g h : Nat) : Bool := decide (g < 12) && decide (h < 12) && decide (g ≠ h) && anyB (fun x => anyB (fun y => decide (hm x = g) && decide (hm y = h) && ov x y) K) K
theorem gpE_iff {ov : Nat → Nat → Bool} {hm : Nat → Nat} {K g h : Nat} : gpE ov hm K g h = true ↔ ∃ x y, x < K ∧ y < K ∧ gpX ov hm x y g h := by
  simp only [gpE, Bool.and_eq_true, decide_eq_true_eq, anyB_iff]
  constructor
  · rintro ⟨⟨⟨h1, h2⟩, h3⟩, x, hx, y, hy, ⟨h4, h5⟩, h6⟩
    exact ⟨x, y, hx, hy, h4, h5, h1, h2, h3, h6⟩
  · rintro ⟨x, y, hx, hy, h4, h5, h1, h2, h3, h6⟩
    exact ⟨⟨⟨h1, h2⟩, h3⟩, x, hx, y, hy, ⟨h4, h5⟩, h6⟩
theorem gpE_in (ov : Nat → Nat → Bool) (hm : Nat → Nat) (K : Nat) : gin (gpE ov hm K) 12 := by
  intro x y h
  obtain ⟨-, -, -, -, -, -, h1, h2, -⟩ := gpE_iff.mp h
  exact ⟨h1, h2⟩
theorem gp_rowE {ov : Nat → Nat → Bool} {hm : Nat → Nat} {K : Nat} {fl : Nat → Int64} (h : gpI ov hm K K 0 fl) : rowE 12 fl = gpE ov hm K := by
  funext g j
  rw [Bool.eq_iff_iff, gpE_iff]
  rcases Nat.lt_or_ge g 12 with q | q
  · rw [rowE_in q, h g q j]
    constructor
    · rintro ⟨x, y, h1, h2⟩
      exact ⟨x, y, by omega, by omega, h2⟩
    · rintro ⟨x, y, h1, h2, h3⟩
      exact ⟨x, y, Or.inl ⟨h1, h2⟩, h3⟩
  · constructor
    · intro z
      simp [rowE, Nat.not_lt.mpr q] at z
    · rintro ⟨x, y, -, -, -, -, z, -⟩
      omega
theorem gp_in {ov : Nat → Nat → Bool} {hm : Nat → Nat} {K : Nat} {fl : Nat → Int64} (h : rowE 12 fl = gpE ov hm K) : ∀ x, x < 12 → ∀ j, lb (fl x) j = true → j < 12 := by
  intro x hx j hb
  refine (gpE_in ov hm K x j ?_).2
  rw [← h, rowE_in hx]
  exact hb
theorem upd_back (f : Nat → Int32) (k : Nat) (x : Int32) : upd (upd f k x) k (f k) = f := by
  funext j
  by_cases e : j = k
  · subst e; exact pk_us
  · rw [pk_un e, pk_un e]
theorem hm_upd {f : Nat → Int32} {hm : Nat → Nat} {k g : Nat} (hg : g < 12) (h : ∀ c, c < 48 → f c = hI (hm c)) : ∀ c, c < 48 → upd f k (nI g) c = hI (if c = k then g else hm c) := by
  intro c hc
  by_cases e : c = k
  · subst e
    rw [pk_us, if_pos rfl, hI_t hg]
  · rw [pk_un e, if_neg e]
    exact h c hc
/-! versions: what the rows hold -/
def vvI (ov : Nat → Nat → Bool) (K i k : Nat) (x y : Nat) : Prop := ((x < i ∧ y < K) ∨ (x = i ∧ y < k)) ∧ ov x y = true
def vvA (ov : Nat → Nat → Bool) (K i k : Nat) (f : Nat → Int64) : Prop := ∀ x, x < 48 → ∀ y, lb (f x) y = true ↔ vvI ov K i k x y
def vvB (ov : Nat → Nat → Bool) (K i k : Nat) (f : Nat → Int64) : Prop := ∀ x, x < 48 → ∀ y, lb (f x) y = true ↔ vvI ov K i k y x
theorem vv_0 {ov : Nat → Nat → Bool} {K : Nat} (x y : Nat) : ¬ vvI ov K 0 0 x y := by
  rintro ⟨h, -⟩
  omega
theorem vvA_0 {ov : Nat → Nat → Bool} {K : Nat} : vvA ov K 0 0 (fun _ => 0) := by
  intro x hx y
  rw [lb_0]
  exact ⟨fun h => (by cases h), fun h => absurd h (vv_0 x y)⟩
theorem vvB_0 {ov : Nat → Nat → Bool} {K : Nat} : vvB ov K 0 0 (fun _ => 0) := by
  intro x hx y
  rw [lb_0]
  exact ⟨fun h => (by cases h), fun h => absurd h (vv_0 y x)⟩
theorem vv_row {ov : Nat → Nat → Bool} {K i k x y : Nat} (hk : k = K) : vvI ov K i k x y ↔ vvI ov K (i + 1) 0 x y := by
  subst hk
  unfold vvI
  constructor
  · rintro ⟨h1, h2⟩; exact ⟨by omega, h2⟩
  · rintro ⟨h1, h2⟩; exact ⟨by omega, h2⟩
theorem vvA_row {ov : Nat → Nat → Bool} {K i k : Nat} {f : Nat → Int64} (h : vvA ov K i k f) (hk : k = K) : vvA ov K (i + 1) 0 f := fun x hx y => (h x hx y).trans (vv_row hk)
theorem vvB_row {ov : Nat → Nat → Bool} {K i k : Nat} {f : Nat → Int64} (h : vvB ov K i k f) (hk : k = K) : vvB ov K (i + 1) 0 f := fun x hx y => (h x hx y).trans (vv_row hk)
theorem vv_skip {ov : Nat → Nat → Bool} {K i k x y : Nat} (ho : ov i k = false) : vvI ov K i k x y ↔ vvI ov K i (k + 1) x y := by
  unfold vvI
  constructor
  · rintro ⟨h1, h2⟩; exact ⟨by omega, h2⟩
  · rintro ⟨h1, h2⟩
    by_cases q : x = i ∧ y = k
    · obtain ⟨rfl, rfl⟩ := q
      rw [ho] at h2
      cases h2
    · exact ⟨by omega, h2⟩
theorem vvA_skip {ov : Nat → Nat → Bool} {K i k : Nat} {f : Nat → Int64} (h : vvA ov K i k f) (ho : ov i k = false) : vvA ov K i (k + 1) f := fun x hx y => (h x hx y).trans (vv_skip ho)
theorem vvB_skip {ov : Nat → Nat → Bool} {K i k : Nat} {f : Nat → Int64} (h : vvB ov K i k f) (ho : ov i k = false) : vvB ov K i (k + 1) f := fun x hx y => (h x hx y).trans (vv_skip ho)
theorem vv_put {ov : Nat → Nat → Bool} {K i k x y : Nat} (ho : ov i k = true) : vvI ov K i (k + 1) x y ↔ vvI ov K i k x y ∨ (x = i ∧ y = k) := by
  unfold vvI
  constructor
  · rintro ⟨h1, h2⟩
    by_cases q : x = i ∧ y = k
    · exact Or.inr q
    · exact Or.inl ⟨by omega, h2⟩
  · rintro (⟨h1, h2⟩ | ⟨rfl, rfl⟩)
    · exact ⟨by omega, h2⟩
    · exact ⟨by omega, ho⟩
theorem vvA_put {ov : Nat → Nat → Bool} {K i k : Nat} {f : Nat → Int64} (h : vvA ov K i k f) (hk : k < 48) (ho : ov i k = true) : vvA ov K i (k + 1) (vp_updL f i (f i ||| ((1 : Int64) <<< ((nI k).toInt64 &&& 63)))) := by
  intro x hx y
  rw [lb_mark (by omega), Bool.or_eq_true, h x hx y, vv_put ho, Bool.and_eq_true, decide_eq_true_eq, decide_eq_true_eq]
theorem vvB_put {ov : Nat → Nat → Bool} {K i k : Nat} {f : Nat → Int64} (h : vvB ov K i k f) (hi : i < 48) (ho : ov i k = true) : vvB ov K i (k + 1) (vp_updL f k (f k ||| ((1 : Int64) <<< ((nI i).toInt64 &&& 63)))) := by
  intro x hx y
  rw [lb_mark (by omega), Bool.or_eq_true, h x hx y, vv_put ho, Bool.and_eq_true, decide_eq_true_eq, decide_eq_true_eq]
  constructor
  · rintro (z | ⟨z1, z2⟩)
    · exact Or.inl z
    · exact Or.inr ⟨z2, z1⟩
  · rintro (z | ⟨z1, z2⟩)
    · exact Or.inl z
    · exact Or.inr ⟨z2, z1⟩
theorem vnum_step {g fN : Nat → Int32} {i K : Nat} (hi : i < K) (h1 : ∀ k, k < i → g k = fN k) : ∀ k, k < i + 1 → upd g i (fN i) k = fN k := by
  intro k hk
  rcases Nat.lt_or_ge k i with q | q
  · rw [pk_un (by omega)]
    exact h1 k q
  · have e : k = i := by omega
    subst e
    exact pk_us
/-! what differs -/
def dfI (n1 n2 : Nat → Int32) (u1 u2 o1 o2 : Nat → Int64) (z : Nat) : Prop := n1 z = n2 z ∧ u1 z = u2 z ∧ o1 z = o2 z
theorem df_0 {n1 n2 : Nat → Int32} {u1 u2 o1 o2 : Nat → Int64} : ∀ x, lb (0 : Int64) x = true ↔ x < 0 ∧ ¬ dfI n1 n2 u1 u2 o1 o2 x := by
  intro x
  rw [lb_0]
  exact ⟨fun h => (by cases h), fun h => absurd h.1 (Nat.not_lt_zero _)⟩
theorem df_keep {n1 n2 : Nat → Int32} {u1 u2 o1 o2 : Nat → Int64} {w : Int64} {i : Nat} (h : ∀ x, lb w x = true ↔ x < i ∧ ¬ dfI n1 n2 u1 u2 o1 o2 x) (a1 : n1 i = n2 i) (a2 : u1 i = u2 i) (a3 : o1 i = o2 i) : ∀ x, lb w x = true ↔ x < i + 1 ∧ ¬ dfI n1 n2 u1 u2 o1 o2 x := by
  intro x
  rw [h x]
  constructor
  · rintro ⟨h1, h2⟩; exact ⟨by omega, h2⟩
  · rintro ⟨h1, h2⟩
    rcases Nat.lt_or_ge x i with q | q
    · exact ⟨q, h2⟩
    · have e : x = i := by omega
      subst e
      exact absurd ⟨a1, a2, a3⟩ h2
theorem df_put {n1 n2 : Nat → Int32} {u1 u2 o1 o2 : Nat → Int64} {w : Int64} {i : Nat} (hi : i < 64) (h : ∀ x, lb w x = true ↔ x < i ∧ ¬ dfI n1 n2 u1 u2 o1 o2 x) (hn : ¬ dfI n1 n2 u1 u2 o1 o2 i) : ∀ x, lb (w ||| ((1 : Int64) <<< ((nI i).toInt64 &&& 63))) x = true ↔ x < i + 1 ∧ ¬ dfI n1 n2 u1 u2 o1 o2 x := by
  intro x
  rw [lb_or, lb_one hi, Bool.or_eq_true, h x, decide_eq_true_eq]
  constructor
  · rintro (⟨h1, h2⟩ | h1)
    · exact ⟨by omega, h2⟩
    · subst h1; exact ⟨by omega, hn⟩
  · rintro ⟨h1, h2⟩
    rcases Nat.lt_or_ge x i with q | q
    · exact Or.inl ⟨q, h2⟩
    · exact Or.inr (by omega)

set_option maxHeartbeats 4000000 in
set_option maxRecDepth 100000 in
theorem k_Groups_init (hg : Nat)  : CtV l y_Groups_init (Cond.code y_Groups_init c_Groups_init 1 none :: TB) ({ frames := 3, cells := 8, slots := 163, locals := 56 } : Room) D (tysv cI cJ cZ cQ) [.ref hg] [(hg, .inr (5, [.null, .null, .null, .int (nI 0)]))] 8 163 (fun (u : Nat × Nat × Nat × Nat × Nat × Nat × Nat × Nat × (Nat → Int32) × (Nat → Int32)) => ∀ k, k < 48 → u.2.2.2.2.2.2.2.2.1 k = -1) (fun (u : Nat × Nat × Nat × Nat × Nat × Nat × Nat × Nat × (Nat → Int32) × (Nat → Int32)) => [(hg, .inr (5, [.ref u.1, .ref u.2.2.1, .ref u.2.2.2.2.1, .int (nI 0)])), (u.1, .inr (0, [.ref u.2.1])), (u.2.1, .inl (cI, 48, .inl u.2.2.2.2.2.2.2.2.1)), (u.2.2.1, .inr (1, [.ref u.2.2.2.1])), (u.2.2.2.1, .inl (cJ, 12, .inr (.inl (fun _ => 0)))), (u.2.2.2.2.1, .inr (3, [.ref u.2.2.2.2.2.1, .ref u.2.2.2.2.2.2.2.1, .int (nI 0)])), (u.2.2.2.2.2.1, .inr (0, [.ref u.2.2.2.2.2.2.1])), (u.2.2.2.2.2.2.1, .inl (cI, 48, .inl u.2.2.2.2.2.2.2.2.2)), (u.2.2.2.2.2.2.2.1, .inl (cJ, 48, .inr (.inl (fun _ => 0))))]) := by
  refine CtV.of c_Groups_init 1 none (by decide) rfl (Nat.le_of_ble_eq_true rfl) ?_
  intro p e s m args below meth c A Q hA9 hQ9 X hr9 hlk9 hin9
  refine g_aload_n X 0 d_Groups_init_0 rfl rfl ?_
  refine g_objInit X t1_120 t1_23 t1_24 d_Groups_init_1 (by decide) (Nat.le_of_ble_eq_true rfl) ?_
  refine g_aload_n X 0 d_Groups_init_4 rfl rfl ?_
  refine g_new (ci := 0) (fs := [.null]) (C := R_Cells) (T := T_Cells) (N := 1) X t_Cells ty_Cells in_Cells t1_121 t1_32 t1_3 rfl (fun j hj => by rcases (show j = 0 by omega) with rfl <;> rfl) (by decide) (by decide) d_Groups_init_5 (fun q1 => ?_)
  refine g_dup X d_Groups_init_8 rfl ?_
  refine g_bipush (v := nI 48) X d_Groups_init_9 rfl ?_
  refine g_callvI (n := 1) X [.int (nI 48)] (k_Cells_init48 q1 ) t1_122 t1_34 rfl t1_3 t1_35 rfl rfl (by decide +kernel) ⟨by decide, by decide⟩ [1] [0] [(hg, .inr (5, [.null, .null, .null, .int (nI 0)]))] rfl rfl rfl rfl (by decide) rfl rfl (Nat.le_of_ble_eq_true rfl) d_Groups_init_11 ⟨by decide, by decide⟩ (fun ⟨q_2, g_2⟩ w1 => ?_)
  refine g_putF (C := R_Groups) (T := T_Groups) (N := 4) (ty := .object "RelationOrder$Cells") X 0 0 [(hg, .inr (5, [.ref q1, .null, .null, .int (nI 0)])), (q1, .inr (0, [.ref q_2])), (q_2, .inl (cI, 48, .inl g_2))] t_Groups ty_Groups nm_Groups in_Groups rfl rfl (by decide) t1_127 rfl rfl hin9 rfl (by decide +kernel) rfl rfl (Nat.le_of_ble_eq_true rfl) rfl d_Groups_init_14 ?_
  refine g_aload_n X 0 d_Groups_init_17 rfl rfl ?_
  refine g_new (ci := 1) (fs := [.null]) (C := R_Rows) (T := T_Rows) (N := 1) X t_Rows ty_Rows in_Rows t1_123 t1_70 t1_6 rfl (fun j hj => by rcases (show j = 0 by omega) with rfl <;> rfl) (by decide) (by decide) d_Groups_init_18 (fun q3 => ?_)
  refine g_dup X d_Groups_init_21 rfl ?_
  refine g_bipush (v := nI 12) X d_Groups_init_22 rfl ?_
  refine g_callvI (n := 1) X [.int (nI 12)] (k_Rows_init12 q3 ) t1_124 t1_72 rfl t1_6 t1_73 rfl rfl (by decide +kernel) ⟨by decide, by decide⟩ [3] [0, 1, 2] [(hg, .inr (5, [.ref q1, .null, .null, .int (nI 0)])), (q1, .inr (0, [.ref q_2])), (q_2, .inl (cI, 48, .inl g_2))] rfl rfl rfl rfl (by decide) rfl rfl (Nat.le_of_ble_eq_true rfl) d_Groups_init_24 ⟨by decide, by decide⟩ (fun q_4 hw4 => ?_)
  refine g_putF (C := R_Groups) (T := T_Groups) (N := 4) (ty := .object "RelationOrder$Rows") X 0 1 [(hg, .inr (5, [.ref q1, .ref q3, .null, .int (nI 0)])), (q1, .inr (0, [.ref q_2])), (q_2, .inl (cI, 48, .inl g_2)), (q3, .inr (1, [.ref q_4])), (q_4, .inl (cJ, 12, .inr (.inl (fun _ => 0))))] t_Groups ty_Groups nm_Groups in_Groups rfl rfl (by decide) t1_128 rfl rfl hin9 rfl (by decide +kernel) rfl rfl (Nat.le_of_ble_eq_true rfl) rfl d_Groups_init_27 ?_
  refine g_aload_n X 0 d_Groups_init_30 rfl rfl ?_
  refine g_new (ci := 3) (fs := [.null, .null, .int 0]) (C := R_Ring) (T := T_Ring) (N := 3) X t_Ring ty_Ring in_Ring t1_125 t1_98 t1_7 rfl (fun j hj => by rcases (show j = 0 ∨ j = 1 ∨ j = 2 by omega) with rfl | rfl | rfl <;> rfl) (by decide) (by decide) d_Groups_init_31 (fun q5 => ?_)
  refine g_dup X d_Groups_init_34 rfl ?_
  refine g_callvI (n := 0) X [] (k_Ring_init q5 ) t1_126 t1_100 rfl t1_7 t1_101 rfl rfl (by decide +kernel) ⟨by decide, by decide⟩ [5] [0, 1, 2, 3, 4] [(hg, .inr (5, [.ref q1, .ref q3, .null, .int (nI 0)])), (q1, .inr (0, [.ref q_2])), (q_2, .inl (cI, 48, .inl g_2)), (q3, .inr (1, [.ref q_4])), (q_4, .inl (cJ, 12, .inr (.inl (fun _ => 0))))] rfl rfl rfl rfl (by decide) rfl rfl (Nat.le_of_ble_eq_true rfl) d_Groups_init_35 ⟨by decide, by decide⟩ (fun ⟨rp_6, ap_6, ly_6, P_6⟩ hw6 => ?_)
  refine g_putF (C := R_Groups) (T := T_Groups) (N := 4) (ty := .object "RelationOrder$Ring") X 0 2 [(hg, .inr (5, [.ref q1, .ref q3, .ref q5, .int (nI 0)])), (q1, .inr (0, [.ref q_2])), (q_2, .inl (cI, 48, .inl g_2)), (q3, .inr (1, [.ref q_4])), (q_4, .inl (cJ, 12, .inr (.inl (fun _ => 0)))), (q5, .inr (3, [.ref rp_6, .ref ly_6, .int (nI 0)])), (rp_6, .inr (0, [.ref ap_6])), (ap_6, .inl (cI, 48, .inl P_6)), (ly_6, .inl (cJ, 48, .inr (.inl (fun _ => 0))))] t_Groups ty_Groups nm_Groups in_Groups rfl rfl (by decide) t1_129 rfl rfl hin9 rfl (by decide +kernel) rfl rfl (Nat.le_of_ble_eq_true rfl) rfl d_Groups_init_38 ?_
  refine g_aload_n X 0 d_Groups_init_41 rfl rfl ?_
  refine g_iconst (v := nI 0) X d_Groups_init_42 rfl ?_
  refine g_put (C := R_Groups) (T := T_Groups) (N := 4) (ty := .int) X 0 3 [(hg, .inr (5, [.ref q1, .ref q3, .ref q5, .int (nI 0)])), (q1, .inr (0, [.ref q_2])), (q_2, .inl (cI, 48, .inl g_2)), (q3, .inr (1, [.ref q_4])), (q_4, .inl (cJ, 12, .inr (.inl (fun _ => 0)))), (q5, .inr (3, [.ref rp_6, .ref ly_6, .int (nI 0)])), (rp_6, .inr (0, [.ref ap_6])), (ap_6, .inl (cI, 48, .inl P_6)), (ly_6, .inl (cJ, 48, .inr (.inl (fun _ => 0))))] t_Groups ty_Groups nm_Groups in_Groups rfl rfl (by decide) t1_130 rfl rfl (by decide +kernel) rfl rfl (Nat.le_of_ble_eq_true rfl) rfl d_Groups_init_43 ?_
  refine g_widen (k := 8) (n := 163) (by decide) (by decide) ?_
  exact g_vret X hA9 hQ9 hr9 hlk9 ⟨q1, q_2, q3, q_4, q5, rp_6, ap_6, ly_6, g_2, P_6⟩ [0, 1, 2, 3, 4, 5, 6, 7, 8] rfl rfl d_Groups_init_46 (by (try dsimp only); exact (w1))

set_option maxHeartbeats 4000000 in
set_option maxRecDepth 100000 in
theorem k_Groups_made (hg : Nat) (gh : Nat) (gl : Nat) (gr : Nat) (gm : Nat)  : CtI l y_Groups_made (Cond.code y_Groups_made c_Groups_made 1 (some .int) :: TB) ({ frames := 0, cells := 0, slots := 0, locals := 0 } : Room) D (tysv cI cJ cZ cQ) [.ref hg] [(hg, .inr (5, [.ref gh, .ref gl, .ref gr, .int (nI gm)]))] 0 0 (fun (r : Int32) (_ : Unit) => r = nI gm) (fun (_ : Unit) => [(hg, .inr (5, [.ref gh, .ref gl, .ref gr, .int (nI gm)]))]) := by
  refine CtI.of c_Groups_made 1 (some .int) (by decide) rfl (Nat.le_of_ble_eq_true rfl) ?_
  intro p e s m args below meth c A Q hA9 hQ9 X hr9 hlk9 hin9
  refine g_aload_n X 0 d_Groups_made_0 rfl rfl ?_
  refine g_get (C := R_Groups) (T := T_Groups) (N := 4) X 0 3 in_Groups rfl rfl (by decide) t1_130 rfl rfl d_Groups_made_1 ?_
  exact g_iret X hA9 hQ9 hr9 hlk9 () [0] rfl rfl d_Groups_made_4 (rfl)

set_option maxHeartbeats 4000000 in
set_option maxRecDepth 100000 in
theorem k_Groups_add (hg : Nat) (gh : Nat) (gl : Nat) (gr : Nat) (gm : Nat) (hm9 : gm < 12) : CtI l y_Groups_add (Cond.code y_Groups_add c_Groups_add 1 (some .int) :: TB) ({ frames := 0, cells := 0, slots := 0, locals := 0 } : Room) D (tysv cI cJ cZ cQ) [.ref hg] [(hg, .inr (5, [.ref gh, .ref gl, .ref gr, .int (nI gm)]))] 0 0 (fun (r : Int32) (_ : Unit) => r = nI gm) (fun (_ : Unit) => [(hg, .inr (5, [.ref gh, .ref gl, .ref gr, .int (nI (gm + 1))]))]) := by
  refine CtI.of c_Groups_add 1 (some .int) (by decide) rfl (Nat.le_of_ble_eq_true rfl) ?_
  intro p e s m args below meth c A Q hA9 hQ9 X hr9 hlk9 hin9
  refine g_aload_n X 0 d_Groups_add_0 rfl rfl ?_
  refine g_dup X d_Groups_add_1 rfl ?_
  refine g_get (C := R_Groups) (T := T_Groups) (N := 4) X 0 3 in_Groups rfl rfl (by decide) t1_130 rfl rfl d_Groups_add_2 ?_
  refine g_iconst (v := nI 1) X d_Groups_add_5 rfl ?_
  refine g_iadd X (nI (gm + 1)) d_Groups_add_6 (nI_add gm 1) ?_
  refine g_put (C := R_Groups) (T := T_Groups) (N := 4) (ty := .int) X 0 3 [(hg, .inr (5, [.ref gh, .ref gl, .ref gr, .int (nI (gm + 1))]))] t_Groups ty_Groups nm_Groups in_Groups rfl rfl (by decide) t1_130 rfl rfl (by decide +kernel) rfl rfl (Nat.le_of_ble_eq_true rfl) rfl d_Groups_add_7 ?_
  refine g_aload_n X 0 d_Groups_add_10 rfl rfl ?_
  refine g_get (C := R_Groups) (T := T_Groups) (N := 4) X 0 3 in_Groups rfl rfl (by decide) t1_130 rfl rfl d_Groups_add_11 ?_
  refine g_iconst (v := nI 1) X d_Groups_add_14 rfl ?_
  refine g_isub X (nI ((gm + 1) - 1)) d_Groups_add_15 (pk_sub (by omega)) ?_
  exact g_iret X hA9 hQ9 hr9 hlk9 () [0] rfl rfl d_Groups_add_16 (by rw [Nat.add_sub_cancel])

set_option maxHeartbeats 4000000 in
set_option maxRecDepth 100000 in
theorem k_Groups_homeOf (hg : Nat) (gh : Nat) (gl : Nat) (gr : Nat) (mk : Int32) (xh : Nat) (fH : Nat → Int32) (j : Nat) (hj : j < 48) : CtI l y_Groups_homeOf (Cond.code y_Groups_homeOf c_Groups_homeOf 2 (some .int) :: TB) ({ frames := 1, cells := 0, slots := 0, locals := 21 } : Room) D (tysv cI cJ cZ cQ) [.ref hg, .int (nI j)] [(hg, .inr (5, [.ref gh, .ref gl, .ref gr, .int mk])), (gh, .inr (0, [.ref xh])), (xh, .inl (cI, 48, .inl fH))] 0 0 (fun (r : Int32) (_ : Unit) => r = fH j) (fun (_ : Unit) => [(hg, .inr (5, [.ref gh, .ref gl, .ref gr, .int mk])), (gh, .inr (0, [.ref xh])), (xh, .inl (cI, 48, .inl fH))]) := by
  refine CtI.of c_Groups_homeOf 2 (some .int) (by decide) rfl (Nat.le_of_ble_eq_true rfl) ?_
  intro p e s m args below meth c A Q hA9 hQ9 X hr9 hlk9 hin9
  refine g_aload_n X 0 d_Groups_homeOf_0 rfl rfl ?_
  refine g_get (C := R_Groups) (T := T_Groups) (N := 4) X 0 0 in_Groups rfl rfl (by decide) t1_127 rfl rfl d_Groups_homeOf_1 ?_
  refine g_iload_n X 1 d_Groups_homeOf_4 rfl rfl ?_
  refine g_calliV (n := 1) X [.int (nI j)] (k_Cells_at gh xh 48 fH j (by omega) (by omega)) t3_36 t2_78 t2_79 t1_3 t2_80 rfl rfl (by decide +kernel) ⟨by decide, by decide⟩ [1, 2] [0] [(hg, .inr (5, [.ref gh, .ref gl, .ref gr, .int mk]))] rfl rfl rfl rfl (by decide) 0 rfl rfl rfl rfl (Nat.le_of_ble_eq_true rfl) d_Groups_homeOf_5 ⟨by decide, by decide⟩ (fun r1 w9u1 hw1 => ?_)
  subst hw1
  exact g_iret X hA9 hQ9 hr9 hlk9 () [0, 1, 2] rfl rfl d_Groups_homeOf_8 (rfl)

set_option maxHeartbeats 4000000 in
set_option maxRecDepth 100000 in
theorem k_Groups_ringPlace (hg : Nat) (gh : Nat) (gl : Nat) (gr : Nat) (mk : Int32) (rp : Nat) (ly : Nat) (d : Nat) (ap : Nat) (P : Nat → Int32) (k : Nat) (hk : k < d) (hd : d ≤ 48) : CtI l y_Groups_ringPlace (Cond.code y_Groups_ringPlace c_Groups_ringPlace 2 (some .int) :: TB) ({ frames := 2, cells := 0, slots := 0, locals := 42 } : Room) D (tysv cI cJ cZ cQ) [.ref hg, .int (nI k)] [(hg, .inr (5, [.ref gh, .ref gl, .ref gr, .int mk])), (gr, .inr (3, [.ref rp, .ref ly, .int (nI d)])), (rp, .inr (0, [.ref ap])), (ap, .inl (cI, 48, .inl P))] 0 0 (fun (r : Int32) (_ : Unit) => r = P k) (fun (_ : Unit) => [(hg, .inr (5, [.ref gh, .ref gl, .ref gr, .int mk])), (gr, .inr (3, [.ref rp, .ref ly, .int (nI d)])), (rp, .inr (0, [.ref ap])), (ap, .inl (cI, 48, .inl P))]) := by
  refine CtI.of c_Groups_ringPlace 2 (some .int) (by decide) rfl (Nat.le_of_ble_eq_true rfl) ?_
  intro p e s m args below meth c A Q hA9 hQ9 X hr9 hlk9 hin9
  refine g_aload_n X 0 d_Groups_ringPlace_0 rfl rfl ?_
  refine g_get (C := R_Groups) (T := T_Groups) (N := 4) X 0 2 in_Groups rfl rfl (by decide) t1_129 rfl rfl d_Groups_ringPlace_1 ?_
  refine g_iload_n X 1 d_Groups_ringPlace_4 rfl rfl ?_
  refine g_calliV (n := 1) X [.int (nI k)] (k_Ring_place gr rp ly d ap P k (by omega) (by omega)) t3_58 t2_173 t2_174 t1_7 t2_175 rfl rfl (by decide +kernel) ⟨by decide, by decide⟩ [1, 2, 3] [0] [(hg, .inr (5, [.ref gh, .ref gl, .ref gr, .int mk]))] rfl rfl rfl rfl (by decide) 0 rfl rfl rfl rfl (Nat.le_of_ble_eq_true rfl) d_Groups_ringPlace_5 ⟨by decide, by decide⟩ (fun r1 w9u1 hw1 => ?_)
  subst hw1
  exact g_iret X hA9 hQ9 hr9 hlk9 () [0, 1, 2, 3] rfl rfl d_Groups_ringPlace_8 (rfl)

set_option maxHeartbeats 4000000 in
set_option maxRecDepth 100000 in
theorem k_Groups_ringPlaceN (hg : Nat) (gh : Nat) (gl : Nat) (gr : Nat) (mk : Int32) (rp : Nat) (ly : Nat) (d : Nat) (k : Nat) (hk : d ≤ k) (hk2 : k < 2 ^ 31) : CtI l y_Groups_ringPlace (Cond.code y_Groups_ringPlace c_Groups_ringPlace 2 (some .int) :: TB) ({ frames := 1, cells := 0, slots := 0, locals := 21 } : Room) D (tysv cI cJ cZ cQ) [.ref hg, .int (nI k)] [(hg, .inr (5, [.ref gh, .ref gl, .ref gr, .int mk])), (gr, .inr (3, [.ref rp, .ref ly, .int (nI d)]))] 0 0 (fun (r : Int32) (_ : Unit) => r = -1) (fun (_ : Unit) => [(hg, .inr (5, [.ref gh, .ref gl, .ref gr, .int mk])), (gr, .inr (3, [.ref rp, .ref ly, .int (nI d)]))]) := by
  refine CtI.of c_Groups_ringPlace 2 (some .int) (by decide) rfl (Nat.le_of_ble_eq_true rfl) ?_
  intro p e s m args below meth c A Q hA9 hQ9 X hr9 hlk9 hin9
  refine g_aload_n X 0 d_Groups_ringPlace_0 rfl rfl ?_
  refine g_get (C := R_Groups) (T := T_Groups) (N := 4) X 0 2 in_Groups rfl rfl (by decide) t1_129 rfl rfl d_Groups_ringPlace_1 ?_
  refine g_iload_n X 1 d_Groups_ringPlace_4 rfl rfl ?_
  refine g_calliV (n := 1) X [.int (nI k)] (k_Ring_placeN gr rp ly d k (by omega) (by omega)) t3_58 t2_173 t2_174 t1_7 t2_175 rfl rfl (by decide +kernel) ⟨by decide, by decide⟩ [1] [0] [(hg, .inr (5, [.ref gh, .ref gl, .ref gr, .int mk]))] rfl rfl rfl rfl (by decide) 0 rfl rfl rfl rfl (Nat.le_of_ble_eq_true rfl) d_Groups_ringPlace_5 ⟨by decide, by decide⟩ (fun r1 w9u1 hw1 => ?_)
  subst hw1
  exact g_iret X hA9 hQ9 hr9 hlk9 () [0, 1] rfl rfl d_Groups_ringPlace_8 (rfl)

set_option maxHeartbeats 4000000 in
set_option maxRecDepth 100000 in
theorem k_Groups_compare (hg : Nat) (gh : Nat) (gl : Nat) (gr : Nat) (mk : Int32) (xh : Nat) (fH : Nat → Int32) (xl : Nat) (fL : Nat → Int64) (hs : Nat) (sn : Nat) (ss : Nat) (su : Nat) (K : Nat) (xn : Nat) (fN : Nat → Int32) (xu : Nat) (fU : Nat → Int64) (nm : Nat → Nat) (hm : Nat → Nat) (hK : K ≤ 48) (hN : ∀ z, z < K → fN z = nI (nm z) ∧ nm z < 48) (hH : ∀ z, z < 48 → fH z = hI (hm z)) : CtV l y_Groups_compare (Cond.code y_Groups_compare c_Groups_compare 5 none :: TB) ({ frames := 3, cells := 0, slots := 0, locals := 65 } : Room) D (tysv cI cJ cZ cQ) [.ref hg, .ref hs] [(hg, .inr (5, [.ref gh, .ref gl, .ref gr, .int mk])), (gh, .inr (0, [.ref xh])), (xh, .inl (cI, 48, .inl fH)), (gl, .inr (1, [.ref xl])), (xl, .inl (cJ, 12, .inr (.inl fL))), (hs, .inr (4, [.ref sn, .ref ss, .ref su, .int (nI K)])), (sn, .inr (0, [.ref xn])), (xn, .inl (cI, 48, .inl fN)), (su, .inr (1, [.ref xu])), (xu, .inl (cJ, 48, .inr (.inl fU)))] 0 0 (fun (g : Nat → Int64) => rowE 12 g = gpE (fun x y => lb (fU (nm x)) (nm y)) hm K) (fun (g : Nat → Int64) => [(hg, .inr (5, [.ref gh, .ref gl, .ref gr, .int mk])), (gh, .inr (0, [.ref xh])), (xh, .inl (cI, 48, .inl fH)), (gl, .inr (1, [.ref xl])), (xl, .inl (cJ, 12, .inr (.inl g))), (hs, .inr (4, [.ref sn, .ref ss, .ref su, .int (nI K)])), (sn, .inr (0, [.ref xn])), (xn, .inl (cI, 48, .inl fN)), (su, .inr (1, [.ref xu])), (xu, .inl (cJ, 48, .inr (.inl fU)))]) := by
  refine CtV.of c_Groups_compare 5 none (by decide) rfl (Nat.le_of_ble_eq_true rfl) ?_
  intro p e s m args below meth c A Q hA9 hQ9 X hr9 hlk9 hin9
  refine g_aload_n X 0 d_Groups_compare_0 rfl rfl ?_
  refine g_get (C := R_Groups) (T := T_Groups) (N := 4) X 0 1 in_Groups rfl rfl (by decide) t1_128 rfl rfl d_Groups_compare_1 ?_
  refine g_callvV (n := 0) X [] (k_Rows_clear gl xl 12 fL (by omega)) t3_42 t2_153 t2_154 t1_6 t2_155 rfl rfl (by decide +kernel) ⟨by decide, by decide⟩ [3, 4] [0, 1, 2, 5, 6, 7, 8, 9] [(hg, .inr (5, [.ref gh, .ref gl, .ref gr, .int mk])), (gh, .inr (0, [.ref xh])), (xh, .inl (cI, 48, .inl fH)), (hs, .inr (4, [.ref sn, .ref ss, .ref su, .int (nI K)])), (sn, .inr (0, [.ref xn])), (xn, .inl (cI, 48, .inl fN)), (su, .inr (1, [.ref xu])), (xu, .inl (cJ, 48, .inr (.inl fU)))] rfl rfl rfl rfl (by decide) 0 rfl rfl rfl rfl (Nat.le_of_ble_eq_true rfl) d_Groups_compare_4 ⟨by decide, by decide⟩ (fun g_1 hc9 => ?_)
  have L9 : ∀ (N9 : Nat) (i : Nat) (fl : Nat → Int64), (K - i) < N9 → (i ≤ K) → (gpI (fun x y => lb (fU (nm x)) (nm y)) hm K i 0 fl) → G p l e ({ frames := 3, cells := 0, slots := 0, locals := 65 } : Room) s m args below meth c 5 D A s.heap Q 0 0 [(hg, .inr (5, [.ref gh, .ref gl, .ref gr, .int mk])), (gh, .inr (0, [.ref xh])), (xh, .inl (cI, 48, .inl fH)), (gl, .inr (1, [.ref xl])), (xl, .inl (cJ, 12, .inr (.inl fl))), (hs, .inr (4, [.ref sn, .ref ss, .ref su, .int (nI K)])), (sn, .inr (0, [.ref xn])), (xn, .inl (cI, 48, .inl fN)), (su, .inr (1, [.ref xu])), (xu, .inl (cJ, 48, .inr (.inl fU)))] [(0, .ref hg), (1, .ref hs), (2, .int (nI i))] 9 [] := by
    intro N9
    induction N9 with
    | zero =>
      intro i fl hN
      exact absurd hN (Nat.not_lt_zero _)
    | succ N9 ih9 =>
      intro i fl hN9 hi h1
      refine g_iload_n X 2 d_Groups_compare_9 rfl rfl ?_
      refine g_aload_n X 1 d_Groups_compare_10 rfl rfl ?_
      refine g_calliV (n := 0) X [] (k_Strata_contexts hs sn ss su K ) t3_43 t1_201 t1_202 t1_5 t1_203 rfl rfl (by decide +kernel) ⟨by decide, by decide⟩ [5] [0, 1, 2, 3, 4, 6, 7, 8, 9] [(hg, .inr (5, [.ref gh, .ref gl, .ref gr, .int mk])), (gh, .inr (0, [.ref xh])), (xh, .inl (cI, 48, .inl fH)), (gl, .inr (1, [.ref xl])), (xl, .inl (cJ, 12, .inr (.inl fl))), (sn, .inr (0, [.ref xn])), (xn, .inl (cI, 48, .inl fN)), (su, .inr (1, [.ref xu])), (xu, .inl (cJ, 48, .inr (.inl fU)))] rfl rfl rfl rfl (by decide) 0 rfl rfl rfl rfl (Nat.le_of_ble_eq_true rfl) d_Groups_compare_11 ⟨by decide, by decide⟩ (fun r2 w9u2 hw2 => ?_)
      subst hw2
      refine n_icmp_ge X 95 d_Groups_compare_14 (by decide) (by omega) (by omega) (fun h14 => ?_) (fun h14 => ?_)
      · exact g_vret X hA9 hQ9 hr9 hlk9 fl [0, 1, 2, 3, 4, 9, 5, 6, 7, 8] rfl rfl d_Groups_compare_95 (by have e9 : i = K := (by omega); subst e9; exact gp_rowE h1)
      · refine g_aload_n X 0 d_Groups_compare_17 rfl rfl ?_
        refine g_get (C := R_Groups) (T := T_Groups) (N := 4) X 0 0 in_Groups rfl rfl (by decide) t1_127 rfl rfl d_Groups_compare_18 ?_
        refine g_iload_n X 2 d_Groups_compare_21 rfl rfl ?_
        refine g_calliV (n := 1) X [.int (nI i)] (k_Cells_at gh xh 48 fH i (by omega) (by omega)) t3_36 t2_78 t2_79 t1_3 t2_80 rfl rfl (by decide +kernel) ⟨by decide, by decide⟩ [1, 2] [0, 3, 4, 5, 6, 7, 8, 9] [(hg, .inr (5, [.ref gh, .ref gl, .ref gr, .int mk])), (gl, .inr (1, [.ref xl])), (xl, .inl (cJ, 12, .inr (.inl fl))), (sn, .inr (0, [.ref xn])), (xn, .inl (cI, 48, .inl fN)), (su, .inr (1, [.ref xu])), (xu, .inl (cJ, 48, .inr (.inl fU))), (hs, .inr (4, [.ref sn, .ref ss, .ref su, .int (nI K)]))] rfl rfl rfl rfl (by decide) 0 rfl rfl rfl rfl (Nat.le_of_ble_eq_true rfl) d_Groups_compare_22 ⟨by decide, by decide⟩ (fun r3 w9u3 hw3 => ?_)
        subst hw3
        rw [hH i (by omega)]
        refine g_istore_n X [(3, .int (hI (hm i))), (0, .ref hg), (1, .ref hs), (2, .int (nI i))] d_Groups_compare_25 rfl (by decide) rfl ?_
        have L29 : ∀ (N29 : Nat) (k : Nat) (fk : Nat → Int64), (K - k) < N29 → (k ≤ K) → (gpI (fun x y => lb (fU (nm x)) (nm y)) hm K i k fk) → G p l e ({ frames := 3, cells := 0, slots := 0, locals := 65 } : Room) s m args below meth c 5 D A s.heap Q 0 0 [(hg, .inr (5, [.ref gh, .ref gl, .ref gr, .int mk])), (gh, .inr (0, [.ref xh])), (xh, .inl (cI, 48, .inl fH)), (gl, .inr (1, [.ref xl])), (xl, .inl (cJ, 12, .inr (.inl fk))), (hs, .inr (4, [.ref sn, .ref ss, .ref su, .int (nI K)])), (sn, .inr (0, [.ref xn])), (xn, .inl (cI, 48, .inl fN)), (su, .inr (1, [.ref xu])), (xu, .inl (cJ, 48, .inr (.inl fU)))] [(0, .ref hg), (1, .ref hs), (2, .int (nI i)), (3, .int (hI (hm i))), (4, .int (nI k))] 29 [] := by
          intro N29
          induction N29 with
          | zero =>
            intro k fk hN
            exact absurd hN (Nat.not_lt_zero _)
          | succ N29 ih29 =>
            intro k fk hN29 hk k1
            refine g_iload X 4 d_Groups_compare_29 rfl ?_
            refine g_aload_n X 1 d_Groups_compare_31 rfl rfl ?_
            refine g_calliV (n := 0) X [] (k_Strata_contexts hs sn ss su K ) t3_43 t1_201 t1_202 t1_5 t1_203 rfl rfl (by decide +kernel) ⟨by decide, by decide⟩ [5] [0, 1, 2, 3, 4, 6, 7, 8, 9] [(hg, .inr (5, [.ref gh, .ref gl, .ref gr, .int mk])), (gh, .inr (0, [.ref xh])), (xh, .inl (cI, 48, .inl fH)), (gl, .inr (1, [.ref xl])), (xl, .inl (cJ, 12, .inr (.inl fk))), (sn, .inr (0, [.ref xn])), (xn, .inl (cI, 48, .inl fN)), (su, .inr (1, [.ref xu])), (xu, .inl (cJ, 48, .inr (.inl fU)))] rfl rfl rfl rfl (by decide) 0 rfl rfl rfl rfl (Nat.le_of_ble_eq_true rfl) d_Groups_compare_32 ⟨by decide, by decide⟩ (fun r4 w9u4 hw4 => ?_)
            subst hw4
            refine n_icmp_ge X 89 d_Groups_compare_35 (by decide) (by omega) (by omega) (fun h35 => ?_) (fun h35 => ?_)
            · refine g_iinc X (nI (i + 1)) [(2, .int (nI (i + 1))), (0, .ref hg), (1, .ref hs), (3, .int (hI (hm i))), (4, .int (nI k))] d_Groups_compare_89 (k := 2) rfl (nI_1 i) (by decide) rfl ?_
              refine g_goto X 9 d_Groups_compare_92 (by decide) ?_
              refine g_ws [(hg, .inr (5, [.ref gh, .ref gl, .ref gr, .int mk])), (gh, .inr (0, [.ref xh])), (xh, .inl (cI, 48, .inl fH)), (gl, .inr (1, [.ref xl])), (xl, .inl (cJ, 12, .inr (.inl fk))), (hs, .inr (4, [.ref sn, .ref ss, .ref su, .int (nI K)])), (sn, .inr (0, [.ref xn])), (xn, .inl (cI, 48, .inl fN)), (su, .inr (1, [.ref xu])), (xu, .inl (cJ, 48, .inr (.inl fU)))] [0, 1, 2, 3, 4, 9, 5, 6, 7, 8] rfl rfl ?_
              refine g_lv [1, 2, 0] rfl ?_
              exact ih9 (i + 1) fk (by omega) (by omega) (by first | exact gp_row k1 (by omega) | exact gp_none k1 (hI_eq h40))
            · refine g_iload_n X 3 d_Groups_compare_38 rfl rfl ?_
              refine g_iconst (v := -1) X d_Groups_compare_39 rfl ?_
              refine g_icmp_eq X 89 d_Groups_compare_40 (by decide) (fun h40 => ?_) (fun h40 => ?_)
              · refine g_iinc X (nI (i + 1)) [(2, .int (nI (i + 1))), (0, .ref hg), (1, .ref hs), (3, .int (hI (hm i))), (4, .int (nI k))] d_Groups_compare_89 (k := 2) rfl (nI_1 i) (by decide) rfl ?_
                refine g_goto X 9 d_Groups_compare_92 (by decide) ?_
                refine g_ws [(hg, .inr (5, [.ref gh, .ref gl, .ref gr, .int mk])), (gh, .inr (0, [.ref xh])), (xh, .inl (cI, 48, .inl fH)), (gl, .inr (1, [.ref xl])), (xl, .inl (cJ, 12, .inr (.inl fk))), (hs, .inr (4, [.ref sn, .ref ss, .ref su, .int (nI K)])), (sn, .inr (0, [.ref xn])), (xn, .inl (cI, 48, .inl fN)), (su, .inr (1, [.ref xu])), (xu, .inl (cJ, 48, .inr (.inl fU)))] [0, 1, 2, 3, 4, 9, 5, 6, 7, 8] rfl rfl ?_
                refine g_lv [1, 2, 0] rfl ?_
                exact ih9 (i + 1) fk (by omega) (by omega) (by first | exact gp_row k1 (by omega) | exact gp_none k1 (hI_eq h40))
              · have hg12 : hm i < 12 := hI_ne h40
                refine g_aload_n X 0 d_Groups_compare_43 rfl rfl ?_
                refine g_get (C := R_Groups) (T := T_Groups) (N := 4) X 0 0 in_Groups rfl rfl (by decide) t1_127 rfl rfl d_Groups_compare_44 ?_
                refine g_iload X 4 d_Groups_compare_47 rfl ?_
                refine g_calliV (n := 1) X [.int (nI k)] (k_Cells_at gh xh 48 fH k (by omega) (by omega)) t3_36 t2_78 t2_79 t1_3 t2_80 rfl rfl (by decide +kernel) ⟨by decide, by decide⟩ [1, 2] [0, 3, 4, 5, 6, 7, 8, 9] [(hg, .inr (5, [.ref gh, .ref gl, .ref gr, .int mk])), (gl, .inr (1, [.ref xl])), (xl, .inl (cJ, 12, .inr (.inl fk))), (sn, .inr (0, [.ref xn])), (xn, .inl (cI, 48, .inl fN)), (su, .inr (1, [.ref xu])), (xu, .inl (cJ, 48, .inr (.inl fU))), (hs, .inr (4, [.ref sn, .ref ss, .ref su, .int (nI K)]))] rfl rfl rfl rfl (by decide) 0 rfl rfl rfl rfl (Nat.le_of_ble_eq_true rfl) d_Groups_compare_49 ⟨by decide, by decide⟩ (fun r5 w9u5 hw5 => ?_)
                subst hw5
                rw [hH k (by omega)]
                refine g_iload_n X 3 d_Groups_compare_52 rfl rfl ?_
                refine g_icmp_eq X 83 d_Groups_compare_53 (by decide) (fun h53 => ?_) (fun h53 => ?_)
                · refine g_iinc X (nI (k + 1)) [(4, .int (nI (k + 1))), (0, .ref hg), (1, .ref hs), (2, .int (nI i)), (3, .int (hI (hm i)))] d_Groups_compare_83 (k := 4) rfl (nI_1 k) (by decide) rfl ?_
                  refine g_goto X 29 d_Groups_compare_86 (by decide) ?_
                  refine g_ws [(hg, .inr (5, [.ref gh, .ref gl, .ref gr, .int mk])), (gh, .inr (0, [.ref xh])), (xh, .inl (cI, 48, .inl fH)), (gl, .inr (1, [.ref xl])), (xl, .inl (cJ, 12, .inr (.inl fk))), (hs, .inr (4, [.ref sn, .ref ss, .ref su, .int (nI K)])), (sn, .inr (0, [.ref xn])), (xn, .inl (cI, 48, .inl fN)), (su, .inr (1, [.ref xu])), (xu, .inl (cJ, 48, .inr (.inl fU)))] [0, 8, 9, 1, 2, 7, 3, 4, 5, 6] rfl rfl ?_
                  refine g_lv [1, 2, 3, 4, 0] rfl ?_
                  exact ih29 (k + 1) fk (by omega) (by omega) (by first | exact gp_skip1 k1 hg12 h53 | exact gp_skip2 k1 h63 | exact gp_put k1 hg12 q9 h53 h63 | exact gp_skip3 k1 (by omega))
                · refine g_aload_n X 1 d_Groups_compare_56 rfl rfl ?_
                  refine g_iload_n X 2 d_Groups_compare_57 rfl rfl ?_
                  refine g_iload X 4 d_Groups_compare_58 rfl ?_
                  refine g_calliV (n := 2) X [.int (nI i), .int (nI k)] (k_Strata_isOver hs sn ss su K xn fN xu fU i k (nm i) (nm k) (by omega) (by omega) ((hN _ (by omega)).1) ((hN _ (by omega)).1) ((hN _ (by omega)).2) ((hN _ (by omega)).2)) t3_44 t2_197 t2_198 t1_5 t2_199 rfl rfl (by decide +kernel) ⟨by decide, by decide⟩ [7, 3, 4, 5, 6] [0, 1, 2, 8, 9] [(hg, .inr (5, [.ref gh, .ref gl, .ref gr, .int mk])), (gl, .inr (1, [.ref xl])), (xl, .inl (cJ, 12, .inr (.inl fk))), (gh, .inr (0, [.ref xh])), (xh, .inl (cI, 48, .inl fH))] rfl rfl rfl rfl (by decide) 0 rfl rfl rfl rfl (Nat.le_of_ble_eq_true rfl) d_Groups_compare_60 ⟨by decide, by decide⟩ (fun r6 w9u6 hw6 => ?_)
                  subst hw6
                  refine b_if_eq X 83 d_Groups_compare_63 (by decide) (fun h63 => ?_) (fun h63 => ?_)
                  · refine g_iinc X (nI (k + 1)) [(4, .int (nI (k + 1))), (0, .ref hg), (1, .ref hs), (2, .int (nI i)), (3, .int (hI (hm i)))] d_Groups_compare_83 (k := 4) rfl (nI_1 k) (by decide) rfl ?_
                    refine g_goto X 29 d_Groups_compare_86 (by decide) ?_
                    refine g_ws [(hg, .inr (5, [.ref gh, .ref gl, .ref gr, .int mk])), (gh, .inr (0, [.ref xh])), (xh, .inl (cI, 48, .inl fH)), (gl, .inr (1, [.ref xl])), (xl, .inl (cJ, 12, .inr (.inl fk))), (hs, .inr (4, [.ref sn, .ref ss, .ref su, .int (nI K)])), (sn, .inr (0, [.ref xn])), (xn, .inl (cI, 48, .inl fN)), (su, .inr (1, [.ref xu])), (xu, .inl (cJ, 48, .inr (.inl fU)))] [0, 3, 4, 1, 2, 5, 6, 7, 8, 9] rfl rfl ?_
                    refine g_lv [1, 2, 3, 4, 0] rfl ?_
                    exact ih29 (k + 1) fk (by omega) (by omega) (by first | exact gp_skip1 k1 hg12 h53 | exact gp_skip2 k1 h63 | exact gp_put k1 hg12 q9 h53 h63 | exact gp_skip3 k1 (by omega))
                  · refine g_aload_n X 0 d_Groups_compare_66 rfl rfl ?_
                    refine g_get (C := R_Groups) (T := T_Groups) (N := 4) X 0 1 in_Groups rfl rfl (by decide) t1_128 rfl rfl d_Groups_compare_67 ?_
                    refine g_iload_n X 3 d_Groups_compare_70 rfl rfl ?_
                    refine g_topE (hI_t hg12) ?_
                    refine g_aload_n X 0 d_Groups_compare_71 rfl rfl ?_
                    refine g_get (C := R_Groups) (T := T_Groups) (N := 4) X 0 0 in_Groups rfl rfl (by decide) t1_127 rfl rfl d_Groups_compare_72 ?_
                    refine g_iload X 4 d_Groups_compare_75 rfl ?_
                    refine g_calliV (n := 1) X [.int (nI k)] (k_Cells_at gh xh 48 fH k (by omega) (by omega)) t3_36 t2_78 t2_79 t1_3 t2_80 rfl rfl (by decide +kernel) ⟨by decide, by decide⟩ [3, 4] [0, 1, 2, 5, 6, 7, 8, 9] [(hg, .inr (5, [.ref gh, .ref gl, .ref gr, .int mk])), (gl, .inr (1, [.ref xl])), (xl, .inl (cJ, 12, .inr (.inl fk))), (hs, .inr (4, [.ref sn, .ref ss, .ref su, .int (nI K)])), (sn, .inr (0, [.ref xn])), (xn, .inl (cI, 48, .inl fN)), (su, .inr (1, [.ref xu])), (xu, .inl (cJ, 48, .inr (.inl fU)))] rfl rfl rfl rfl (by decide) 0 rfl rfl rfl rfl (Nat.le_of_ble_eq_true rfl) d_Groups_compare_77 ⟨by decide, by decide⟩ (fun r7 w9u7 hw7 => ?_)
                    subst hw7
                    rw [hH k (by omega)]
                    rcases Nat.lt_or_ge (hm k) 12 with q9 | q9
                    · refine g_topE (hI_t q9) ?_
                      refine g_callvV (n := 2) X [.int (nI (hm i)), .int (nI (hm k))] (k_Rows_mark gl xl 12 fk (hm i) (hm k) (by omega) (by omega) (by omega)) t3_45 t2_90 t2_91 t1_6 t2_92 rfl rfl (by decide +kernel) ⟨by decide, by decide⟩ [1, 2] [0, 3, 4, 5, 6, 7, 8, 9] [(hg, .inr (5, [.ref gh, .ref gl, .ref gr, .int mk])), (hs, .inr (4, [.ref sn, .ref ss, .ref su, .int (nI K)])), (sn, .inr (0, [.ref xn])), (xn, .inl (cI, 48, .inl fN)), (su, .inr (1, [.ref xu])), (xu, .inl (cJ, 48, .inr (.inl fU))), (gh, .inr (0, [.ref xh])), (xh, .inl (cI, 48, .inl fH))] rfl rfl rfl rfl (by decide) 0 rfl rfl rfl rfl (Nat.le_of_ble_eq_true rfl) d_Groups_compare_80 ⟨by decide, by decide⟩ (fun w9u8 hw8 => ?_)
                      refine g_iinc X (nI (k + 1)) [(4, .int (nI (k + 1))), (0, .ref hg), (1, .ref hs), (2, .int (nI i)), (3, .int (hI (hm i)))] d_Groups_compare_83 (k := 4) rfl (nI_1 k) (by decide) rfl ?_
                      refine g_goto X 29 d_Groups_compare_86 (by decide) ?_
                      refine g_ws [(hg, .inr (5, [.ref gh, .ref gl, .ref gr, .int mk])), (gh, .inr (0, [.ref xh])), (xh, .inl (cI, 48, .inl fH)), (gl, .inr (1, [.ref xl])), (xl, .inl (cJ, 12, .inr (.inl (vp_updL fk (hm i) (fk (hm i) ||| ((1 : Int64) <<< ((nI (hm k)).toInt64 &&& 63))))))), (hs, .inr (4, [.ref sn, .ref ss, .ref su, .int (nI K)])), (sn, .inr (0, [.ref xn])), (xn, .inl (cI, 48, .inl fN)), (su, .inr (1, [.ref xu])), (xu, .inl (cJ, 48, .inr (.inl fU)))] [0, 6, 7, 8, 9, 1, 2, 3, 4, 5] rfl rfl ?_
                      refine g_lv [1, 2, 3, 4, 0] rfl ?_
                      exact ih29 (k + 1) (vp_updL fk (hm i) (fk (hm i) ||| ((1 : Int64) <<< ((nI (hm k)).toInt64 &&& 63)))) (by omega) (by omega) (by first | exact gp_skip1 k1 hg12 h53 | exact gp_skip2 k1 h63 | exact gp_put k1 hg12 q9 h53 h63 | exact gp_skip3 k1 (by omega))
                    · refine g_topE (hI_f (by omega)) ?_
                      refine g_callvV (n := 2) X [.int (nI (hm i)), .int (-1)] (k_Rows_markM gl xl 12 fk (hm i) (by omega) (by omega)) t3_45 t2_90 t2_91 t1_6 t2_92 rfl rfl (by decide +kernel) ⟨by decide, by decide⟩ [1, 2] [0, 3, 4, 5, 6, 7, 8, 9] [(hg, .inr (5, [.ref gh, .ref gl, .ref gr, .int mk])), (hs, .inr (4, [.ref sn, .ref ss, .ref su, .int (nI K)])), (sn, .inr (0, [.ref xn])), (xn, .inl (cI, 48, .inl fN)), (su, .inr (1, [.ref xu])), (xu, .inl (cJ, 48, .inr (.inl fU))), (gh, .inr (0, [.ref xh])), (xh, .inl (cI, 48, .inl fH))] rfl rfl rfl rfl (by decide) 0 rfl rfl rfl rfl (Nat.le_of_ble_eq_true rfl) d_Groups_compare_80 ⟨by decide, by decide⟩ (fun w9u9 hw9 => ?_)
                      refine g_iinc X (nI (k + 1)) [(4, .int (nI (k + 1))), (0, .ref hg), (1, .ref hs), (2, .int (nI i)), (3, .int (hI (hm i)))] d_Groups_compare_83 (k := 4) rfl (nI_1 k) (by decide) rfl ?_
                      refine g_goto X 29 d_Groups_compare_86 (by decide) ?_
                      refine g_ws [(hg, .inr (5, [.ref gh, .ref gl, .ref gr, .int mk])), (gh, .inr (0, [.ref xh])), (xh, .inl (cI, 48, .inl fH)), (gl, .inr (1, [.ref xl])), (xl, .inl (cJ, 12, .inr (.inl fk))), (hs, .inr (4, [.ref sn, .ref ss, .ref su, .int (nI K)])), (sn, .inr (0, [.ref xn])), (xn, .inl (cI, 48, .inl fN)), (su, .inr (1, [.ref xu])), (xu, .inl (cJ, 48, .inr (.inl fU)))] [0, 6, 7, 8, 9, 1, 2, 3, 4, 5] rfl rfl ?_
                      refine g_lv [1, 2, 3, 4, 0] rfl ?_
                      exact ih29 (k + 1) fk (by omega) (by omega) (by first | exact gp_skip1 k1 hg12 h53 | exact gp_skip2 k1 h63 | exact gp_put k1 hg12 q9 h53 h63 | exact gp_skip3 k1 (by omega))
        refine g_iconst (v := nI 0) X d_Groups_compare_26 rfl ?_
        refine g_istore X [(4, .int (nI 0)), (3, .int (hI (hm i))), (0, .ref hg), (1, .ref hs), (2, .int (nI i))] d_Groups_compare_27 (by decide) rfl ?_
        refine g_ws [(hg, .inr (5, [.ref gh, .ref gl, .ref gr, .int mk])), (gh, .inr (0, [.ref xh])), (xh, .inl (cI, 48, .inl fH)), (gl, .inr (1, [.ref xl])), (xl, .inl (cJ, 12, .inr (.inl fl))), (hs, .inr (4, [.ref sn, .ref ss, .ref su, .int (nI K)])), (sn, .inr (0, [.ref xn])), (xn, .inl (cI, 48, .inl fN)), (su, .inr (1, [.ref xu])), (xu, .inl (cJ, 48, .inr (.inl fU)))] [0, 8, 9, 1, 2, 7, 3, 4, 5, 6] rfl rfl ?_
        refine g_lv [2, 3, 4, 1, 0] rfl ?_
        exact L29 ((K - 0) + 1) 0 fl (Nat.lt_succ_self _) (by omega) (h1)
  refine g_iconst (v := nI 0) X d_Groups_compare_7 rfl ?_
  refine g_istore_n X [(2, .int (nI 0)), (0, .ref hg), (1, .ref hs)] d_Groups_compare_8 rfl (by decide) rfl ?_
  refine g_ws [(hg, .inr (5, [.ref gh, .ref gl, .ref gr, .int mk])), (gh, .inr (0, [.ref xh])), (xh, .inl (cI, 48, .inl fH)), (gl, .inr (1, [.ref xl])), (xl, .inl (cJ, 12, .inr (.inl g_1))), (hs, .inr (4, [.ref sn, .ref ss, .ref su, .int (nI K)])), (sn, .inr (0, [.ref xn])), (xn, .inl (cI, 48, .inl fN)), (su, .inr (1, [.ref xu])), (xu, .inl (cJ, 48, .inr (.inl fU)))] [0, 1, 2, 8, 9, 3, 4, 5, 6, 7] rfl rfl ?_
  refine g_lv [1, 2, 0] rfl ?_
  exact L9 ((K - 0) + 1) 0 g_1 (Nat.lt_succ_self _) (by omega) (gp_0 hc9)

set_option maxHeartbeats 4000000 in
set_option maxRecDepth 100000 in
theorem k_Groups_move (hg : Nat) (gh : Nat) (gl : Nat) (gr : Nat) (mk : Int32) (xh : Nat) (fH : Nat → Int32) (xl : Nat) (fL : Nat → Int64) (rp : Nat) (ly : Nat) (ln : Int32) (ap : Nat) (P : Nat → Int32) (Y : Nat → Int64) (hs : Nat) (sn : Nat) (ss : Nat) (su : Nat) (K : Nat) (xn : Nat) (fN : Nat → Int32) (xu : Nat) (fU : Nat → Int64) (nm : Nat → Nat) (hm : Nat → Nat) (grp : Nat) (ctx : Nat) (hK : K ≤ 48) (hN : ∀ z, z < K → fN z = nI (nm z) ∧ nm z < 48) (hH : ∀ z, z < 48 → fH z = hI (hm z)) (hgp : grp < 12) (hcx : ctx < 48) (hd : ∀ k, ¬ gw (gpE (fun x y => lb (fU (nm x)) (nm y)) (fun z => if z = ctx then grp else hm z) K) (k + 1) grp grp) : CtI l y_Groups_move (Cond.code y_Groups_move c_Groups_move 5 (some .boolean) :: TB) ({ frames := 4, cells := 0, slots := 0, locals := 89 } : Room) D (tysv cI cJ cZ cQ) [.ref hg, .int (nI grp), .int (nI ctx), .ref hs] [(hg, .inr (5, [.ref gh, .ref gl, .ref gr, .int mk])), (gh, .inr (0, [.ref xh])), (xh, .inl (cI, 48, .inl fH)), (gl, .inr (1, [.ref xl])), (xl, .inl (cJ, 12, .inr (.inl fL))), (gr, .inr (3, [.ref rp, .ref ly, .int ln])), (rp, .inr (0, [.ref ap])), (ap, .inl (cI, 48, .inl P)), (ly, .inl (cJ, 48, .inr (.inl Y))), (hs, .inr (4, [.ref sn, .ref ss, .ref su, .int (nI K)])), (sn, .inr (0, [.ref xn])), (xn, .inl (cI, 48, .inl fN)), (su, .inr (1, [.ref xu])), (xu, .inl (cJ, 48, .inr (.inl fU)))] 0 0 (fun (r : Int32) (u : (Nat → Int64) × (Nat → Int64)) => r = bI true) (fun (u : (Nat → Int64) × (Nat → Int64)) => [(hg, .inr (5, [.ref gh, .ref gl, .ref gr, .int mk])), (gh, .inr (0, [.ref xh])), (xh, .inl (cI, 48, .inl (upd fH ctx (nI grp)))), (gl, .inr (1, [.ref xl])), (xl, .inl (cJ, 12, .inr (.inl u.1))), (gr, .inr (3, [.ref rp, .ref ly, .int ln])), (rp, .inr (0, [.ref ap])), (ap, .inl (cI, 48, .inl P)), (ly, .inl (cJ, 48, .inr (.inl u.2))), (hs, .inr (4, [.ref sn, .ref ss, .ref su, .int (nI K)])), (sn, .inr (0, [.ref xn])), (xn, .inl (cI, 48, .inl fN)), (su, .inr (1, [.ref xu])), (xu, .inl (cJ, 48, .inr (.inl fU)))]) := by
  refine CtI.of c_Groups_move 5 (some .boolean) (by decide) rfl (Nat.le_of_ble_eq_true rfl) ?_
  intro p e s m args below meth c A Q hA9 hQ9 X hr9 hlk9 hin9
  refine g_aload_n X 0 d_Groups_move_0 rfl rfl ?_
  refine g_get (C := R_Groups) (T := T_Groups) (N := 4) X 0 0 in_Groups rfl rfl (by decide) t1_127 rfl rfl d_Groups_move_1 ?_
  refine g_iload_n X 2 d_Groups_move_4 rfl rfl ?_
  refine g_calliV (n := 1) X [.int (nI ctx)] (k_Cells_at gh xh 48 fH ctx (by omega) (by omega)) t3_36 t2_78 t2_79 t1_3 t2_80 rfl rfl (by decide +kernel) ⟨by decide, by decide⟩ [1, 2] [0, 3, 4, 5, 6, 7, 8, 9, 10, 11, 12, 13] [(hg, .inr (5, [.ref gh, .ref gl, .ref gr, .int mk])), (gl, .inr (1, [.ref xl])), (xl, .inl (cJ, 12, .inr (.inl fL))), (gr, .inr (3, [.ref rp, .ref ly, .int ln])), (rp, .inr (0, [.ref ap])), (ap, .inl (cI, 48, .inl P)), (ly, .inl (cJ, 48, .inr (.inl Y))), (hs, .inr (4, [.ref sn, .ref ss, .ref su, .int (nI K)])), (sn, .inr (0, [.ref xn])), (xn, .inl (cI, 48, .inl fN)), (su, .inr (1, [.ref xu])), (xu, .inl (cJ, 48, .inr (.inl fU)))] rfl rfl rfl rfl (by decide) 0 rfl rfl rfl rfl (Nat.le_of_ble_eq_true rfl) d_Groups_move_5 ⟨by decide, by decide⟩ (fun r1 w9u1 hw1 => ?_)
  subst hw1
  refine g_istore X [(4, .int (fH ctx)), (0, .ref hg), (1, .int (nI grp)), (2, .int (nI ctx)), (3, .ref hs)] d_Groups_move_8 (by decide) rfl ?_
  refine g_aload_n X 0 d_Groups_move_10 rfl rfl ?_
  refine g_get (C := R_Groups) (T := T_Groups) (N := 4) X 0 0 in_Groups rfl rfl (by decide) t1_127 rfl rfl d_Groups_move_11 ?_
  refine g_iload_n X 2 d_Groups_move_14 rfl rfl ?_
  refine g_iload_n X 1 d_Groups_move_15 rfl rfl ?_
  refine g_callvV (n := 2) X [.int (nI ctx), .int (nI grp)] (k_Cells_put gh xh 48 fH ctx (nI grp) (by omega) (by omega)) t3_37 t2_36 t2_37 t1_3 t2_38 rfl rfl (by decide +kernel) ⟨by decide, by decide⟩ [12, 13] [0, 1, 2, 3, 4, 5, 6, 7, 8, 9, 10, 11] [(hg, .inr (5, [.ref gh, .ref gl, .ref gr, .int mk])), (gl, .inr (1, [.ref xl])), (xl, .inl (cJ, 12, .inr (.inl fL))), (gr, .inr (3, [.ref rp, .ref ly, .int ln])), (rp, .inr (0, [.ref ap])), (ap, .inl (cI, 48, .inl P)), (ly, .inl (cJ, 48, .inr (.inl Y))), (hs, .inr (4, [.ref sn, .ref ss, .ref su, .int (nI K)])), (sn, .inr (0, [.ref xn])), (xn, .inl (cI, 48, .inl fN)), (su, .inr (1, [.ref xu])), (xu, .inl (cJ, 48, .inr (.inl fU)))] rfl rfl rfl rfl (by decide) 0 rfl rfl rfl rfl (Nat.le_of_ble_eq_true rfl) d_Groups_move_16 ⟨by decide, by decide⟩ (fun w9u2 hw2 => ?_)
  refine g_aload_n X 0 d_Groups_move_19 rfl rfl ?_
  refine g_aload_n X 3 d_Groups_move_20 rfl rfl ?_
  refine g_callvV (n := 1) X [.ref hs] (k_Groups_compare hg gh gl gr mk xh (upd fH ctx (nI grp)) xl fL hs sn ss su K xn fN xu fU nm (fun z => if z = ctx then grp else hm z) (by omega) (hN) (hm_upd hgp hH)) t3_38 t3_40 ts_9 t1_8 t3_41 rfl rfl (by decide +kernel) ⟨by decide, by decide⟩ [0, 12, 13, 1, 2, 7, 8, 9, 10, 11] [3, 4, 5, 6] [(gr, .inr (3, [.ref rp, .ref ly, .int ln])), (rp, .inr (0, [.ref ap])), (ap, .inl (cI, 48, .inl P)), (ly, .inl (cJ, 48, .inr (.inl Y)))] rfl rfl rfl rfl (by decide) 0 rfl rfl rfl rfl (Nat.le_of_ble_eq_true rfl) d_Groups_move_21 ⟨by decide, by decide⟩ (fun g_3 hrow => ?_)
  refine g_aload_n X 0 d_Groups_move_24 rfl rfl ?_
  refine g_get (C := R_Groups) (T := T_Groups) (N := 4) X 4 2 in_Groups rfl rfl (by decide) t1_129 rfl rfl d_Groups_move_25 ?_
  refine g_aload_n X 0 d_Groups_move_28 rfl rfl ?_
  refine g_get (C := R_Groups) (T := T_Groups) (N := 4) X 4 1 in_Groups rfl rfl (by decide) t1_128 rfl rfl d_Groups_move_29 ?_
  refine g_iload_n X 1 d_Groups_move_32 rfl rfl ?_
  refine g_calliV (n := 2) X [.ref gl, .int (nI grp)] (k_Ring_tellN gr rp ly ln Y gl xl 12 g_3 grp (by decide) (by omega) (gp_in hrow) (by rw [hrow]; exact hd)) t3_46 t2_94 t2_95 t1_7 t2_96 rfl rfl (by decide +kernel) ⟨by decide, by decide⟩ [0, 3, 7, 8] [1, 2, 4, 5, 6, 9, 10, 11, 12, 13] [(rp, .inr (0, [.ref ap])), (ap, .inl (cI, 48, .inl P)), (hg, .inr (5, [.ref gh, .ref gl, .ref gr, .int mk])), (gh, .inr (0, [.ref xh])), (xh, .inl (cI, 48, .inl (upd fH ctx (nI grp)))), (hs, .inr (4, [.ref sn, .ref ss, .ref su, .int (nI K)])), (sn, .inr (0, [.ref xn])), (xn, .inl (cI, 48, .inl fN)), (su, .inr (1, [.ref xu])), (xu, .inl (cJ, 48, .inr (.inl fU)))] rfl rfl rfl rfl (by decide) 0 rfl rfl rfl rfl (Nat.le_of_ble_eq_true rfl) d_Groups_move_33 ⟨by decide, by decide⟩ (fun r4 Z_4 hw4 => ?_)
  subst hw4
  refine b_if_eq X 51 d_Groups_move_36 (by decide) (fun h36 => ?_) (fun h36 => absurd h36 (by decide))
  refine g_iconst (v := nI 1) X d_Groups_move_51 rfl ?_
  exact g_zret X hA9 hQ9 hr9 (by first | exact Or.inl rfl | exact Or.inr rfl) hlk9 ⟨g_3, Z_4⟩ [2, 3, 4, 12, 13, 10, 0, 1, 11, 5, 6, 7, 8, 9] rfl rfl d_Groups_move_52 (rfl)

set_option maxHeartbeats 4000000 in
set_option maxRecDepth 100000 in
theorem k_Groups_moveR (hg : Nat) (gh : Nat) (gl : Nat) (gr : Nat) (mk : Int32) (xh : Nat) (fH : Nat → Int32) (xl : Nat) (fL : Nat → Int64) (rp : Nat) (ly : Nat) (ln : Int32) (ap : Nat) (P : Nat → Int32) (Y : Nat → Int64) (hs : Nat) (sn : Nat) (ss : Nat) (su : Nat) (K : Nat) (xn : Nat) (fN : Nat → Int32) (xu : Nat) (fU : Nat → Int64) (nm : Nat → Nat) (hm : Nat → Nat) (grp : Nat) (ctx : Nat) (d : Nat) (pp : Nat → Nat) (hK : K ≤ 48) (hN : ∀ z, z < K → fN z = nI (nm z) ∧ nm z < 48) (hH : ∀ z, z < 48 → fH z = hI (hm z)) (hgp : grp < 12) (hcx : ctx < 48) (hd : gring (gpE (fun x y => lb (fU (nm x)) (nm y)) (fun z => if z = ctx then grp else hm z) K) grp d pp) : CtI l y_Groups_move (Cond.code y_Groups_move c_Groups_move 5 (some .boolean) :: TB) ({ frames := 4, cells := 0, slots := 0, locals := 91 } : Room) D (tysv cI cJ cZ cQ) [.ref hg, .int (nI grp), .int (nI ctx), .ref hs] [(hg, .inr (5, [.ref gh, .ref gl, .ref gr, .int mk])), (gh, .inr (0, [.ref xh])), (xh, .inl (cI, 48, .inl fH)), (gl, .inr (1, [.ref xl])), (xl, .inl (cJ, 12, .inr (.inl fL))), (gr, .inr (3, [.ref rp, .ref ly, .int ln])), (rp, .inr (0, [.ref ap])), (ap, .inl (cI, 48, .inl P)), (ly, .inl (cJ, 48, .inr (.inl Y))), (hs, .inr (4, [.ref sn, .ref ss, .ref su, .int (nI K)])), (sn, .inr (0, [.ref xn])), (xn, .inl (cI, 48, .inl fN)), (su, .inr (1, [.ref xu])), (xu, .inl (cJ, 48, .inr (.inl fU)))] 0 0 (fun (r : Int32) (u : (Nat → Int64) × (Nat → Int32) × (Nat → Int64)) => r = bI false ∧ ∀ j, j < d → u.2.1 j = nI (pp j)) (fun (u : (Nat → Int64) × (Nat → Int32) × (Nat → Int64)) => [(hg, .inr (5, [.ref gh, .ref gl, .ref gr, .int mk])), (gh, .inr (0, [.ref xh])), (xh, .inl (cI, 48, .inl fH)), (gl, .inr (1, [.ref xl])), (xl, .inl (cJ, 12, .inr (.inl u.1))), (gr, .inr (3, [.ref rp, .ref ly, .int (nI d)])), (rp, .inr (0, [.ref ap])), (ap, .inl (cI, 48, .inl u.2.1)), (ly, .inl (cJ, 48, .inr (.inl u.2.2))), (hs, .inr (4, [.ref sn, .ref ss, .ref su, .int (nI K)])), (sn, .inr (0, [.ref xn])), (xn, .inl (cI, 48, .inl fN)), (su, .inr (1, [.ref xu])), (xu, .inl (cJ, 48, .inr (.inl fU)))]) := by
  refine CtI.of c_Groups_move 5 (some .boolean) (by decide) rfl (Nat.le_of_ble_eq_true rfl) ?_
  intro p e s m args below meth c A Q hA9 hQ9 X hr9 hlk9 hin9
  refine g_aload_n X 0 d_Groups_move_0 rfl rfl ?_
  refine g_get (C := R_Groups) (T := T_Groups) (N := 4) X 0 0 in_Groups rfl rfl (by decide) t1_127 rfl rfl d_Groups_move_1 ?_
  refine g_iload_n X 2 d_Groups_move_4 rfl rfl ?_
  refine g_calliV (n := 1) X [.int (nI ctx)] (k_Cells_at gh xh 48 fH ctx (by omega) (by omega)) t3_36 t2_78 t2_79 t1_3 t2_80 rfl rfl (by decide +kernel) ⟨by decide, by decide⟩ [1, 2] [0, 3, 4, 5, 6, 7, 8, 9, 10, 11, 12, 13] [(hg, .inr (5, [.ref gh, .ref gl, .ref gr, .int mk])), (gl, .inr (1, [.ref xl])), (xl, .inl (cJ, 12, .inr (.inl fL))), (gr, .inr (3, [.ref rp, .ref ly, .int ln])), (rp, .inr (0, [.ref ap])), (ap, .inl (cI, 48, .inl P)), (ly, .inl (cJ, 48, .inr (.inl Y))), (hs, .inr (4, [.ref sn, .ref ss, .ref su, .int (nI K)])), (sn, .inr (0, [.ref xn])), (xn, .inl (cI, 48, .inl fN)), (su, .inr (1, [.ref xu])), (xu, .inl (cJ, 48, .inr (.inl fU)))] rfl rfl rfl rfl (by decide) 0 rfl rfl rfl rfl (Nat.le_of_ble_eq_true rfl) d_Groups_move_5 ⟨by decide, by decide⟩ (fun r1 w9u1 hw1 => ?_)
  subst hw1
  refine g_istore X [(4, .int (fH ctx)), (0, .ref hg), (1, .int (nI grp)), (2, .int (nI ctx)), (3, .ref hs)] d_Groups_move_8 (by decide) rfl ?_
  refine g_aload_n X 0 d_Groups_move_10 rfl rfl ?_
  refine g_get (C := R_Groups) (T := T_Groups) (N := 4) X 0 0 in_Groups rfl rfl (by decide) t1_127 rfl rfl d_Groups_move_11 ?_
  refine g_iload_n X 2 d_Groups_move_14 rfl rfl ?_
  refine g_iload_n X 1 d_Groups_move_15 rfl rfl ?_
  refine g_callvV (n := 2) X [.int (nI ctx), .int (nI grp)] (k_Cells_put gh xh 48 fH ctx (nI grp) (by omega) (by omega)) t3_37 t2_36 t2_37 t1_3 t2_38 rfl rfl (by decide +kernel) ⟨by decide, by decide⟩ [12, 13] [0, 1, 2, 3, 4, 5, 6, 7, 8, 9, 10, 11] [(hg, .inr (5, [.ref gh, .ref gl, .ref gr, .int mk])), (gl, .inr (1, [.ref xl])), (xl, .inl (cJ, 12, .inr (.inl fL))), (gr, .inr (3, [.ref rp, .ref ly, .int ln])), (rp, .inr (0, [.ref ap])), (ap, .inl (cI, 48, .inl P)), (ly, .inl (cJ, 48, .inr (.inl Y))), (hs, .inr (4, [.ref sn, .ref ss, .ref su, .int (nI K)])), (sn, .inr (0, [.ref xn])), (xn, .inl (cI, 48, .inl fN)), (su, .inr (1, [.ref xu])), (xu, .inl (cJ, 48, .inr (.inl fU)))] rfl rfl rfl rfl (by decide) 0 rfl rfl rfl rfl (Nat.le_of_ble_eq_true rfl) d_Groups_move_16 ⟨by decide, by decide⟩ (fun w9u2 hw2 => ?_)
  refine g_aload_n X 0 d_Groups_move_19 rfl rfl ?_
  refine g_aload_n X 3 d_Groups_move_20 rfl rfl ?_
  refine g_callvV (n := 1) X [.ref hs] (k_Groups_compare hg gh gl gr mk xh (upd fH ctx (nI grp)) xl fL hs sn ss su K xn fN xu fU nm (fun z => if z = ctx then grp else hm z) (by omega) (hN) (hm_upd hgp hH)) t3_38 t3_40 ts_9 t1_8 t3_41 rfl rfl (by decide +kernel) ⟨by decide, by decide⟩ [0, 12, 13, 1, 2, 7, 8, 9, 10, 11] [3, 4, 5, 6] [(gr, .inr (3, [.ref rp, .ref ly, .int ln])), (rp, .inr (0, [.ref ap])), (ap, .inl (cI, 48, .inl P)), (ly, .inl (cJ, 48, .inr (.inl Y)))] rfl rfl rfl rfl (by decide) 0 rfl rfl rfl rfl (Nat.le_of_ble_eq_true rfl) d_Groups_move_21 ⟨by decide, by decide⟩ (fun g_3 hrow => ?_)
  refine g_aload_n X 0 d_Groups_move_24 rfl rfl ?_
  refine g_get (C := R_Groups) (T := T_Groups) (N := 4) X 4 2 in_Groups rfl rfl (by decide) t1_129 rfl rfl d_Groups_move_25 ?_
  refine g_aload_n X 0 d_Groups_move_28 rfl rfl ?_
  refine g_get (C := R_Groups) (T := T_Groups) (N := 4) X 4 1 in_Groups rfl rfl (by decide) t1_128 rfl rfl d_Groups_move_29 ?_
  refine g_iload_n X 1 d_Groups_move_32 rfl rfl ?_
  refine g_calliV (n := 2) X [.ref gl, .int (nI grp)] (k_Ring_tell gr rp ly ln ap P Y gl xl 12 g_3 grp d pp (by decide) (by omega) (gp_in hrow) (by rw [hrow]; exact hd)) t3_46 t2_94 t2_95 t1_7 t2_96 rfl rfl (by decide +kernel) ⟨by decide, by decide⟩ [0, 1, 2, 3, 7, 8] [4, 5, 6, 9, 10, 11, 12, 13] [(hg, .inr (5, [.ref gh, .ref gl, .ref gr, .int mk])), (gh, .inr (0, [.ref xh])), (xh, .inl (cI, 48, .inl (upd fH ctx (nI grp)))), (hs, .inr (4, [.ref sn, .ref ss, .ref su, .int (nI K)])), (sn, .inr (0, [.ref xn])), (xn, .inl (cI, 48, .inl fN)), (su, .inr (1, [.ref xu])), (xu, .inl (cJ, 48, .inr (.inl fU)))] rfl rfl rfl rfl (by decide) 0 rfl rfl rfl rfl (Nat.le_of_ble_eq_true rfl) d_Groups_move_33 ⟨by decide, by decide⟩ (fun r4 ⟨P2_4, Z_4⟩ hPP => ?_)
  obtain ⟨rfl, hPP⟩ := hPP
  refine b_if_eq X 51 d_Groups_move_36 (by decide) (fun h36 => absurd h36 (by decide)) (fun h36 => ?_)
  refine g_aload_n X 0 d_Groups_move_39 rfl rfl ?_
  refine g_get (C := R_Groups) (T := T_Groups) (N := 4) X 0 0 in_Groups rfl rfl (by decide) t1_127 rfl rfl d_Groups_move_40 ?_
  refine g_iload_n X 2 d_Groups_move_43 rfl rfl ?_
  refine g_iload X 4 d_Groups_move_44 rfl ?_
  refine g_callvV (n := 2) X [.int (nI ctx), .int (fH ctx)] (k_Cells_put gh xh 48 (upd fH ctx (nI grp)) ctx (fH ctx) (by omega) (by omega)) t3_37 t2_36 t2_37 t1_3 t2_38 rfl rfl (by decide +kernel) ⟨by decide, by decide⟩ [1, 2] [0, 3, 4, 5, 6, 7, 8, 9, 10, 11, 12, 13] [(hg, .inr (5, [.ref gh, .ref gl, .ref gr, .int mk])), (hs, .inr (4, [.ref sn, .ref ss, .ref su, .int (nI K)])), (sn, .inr (0, [.ref xn])), (xn, .inl (cI, 48, .inl fN)), (su, .inr (1, [.ref xu])), (xu, .inl (cJ, 48, .inr (.inl fU))), (gr, .inr (3, [.ref rp, .ref ly, .int (nI d)])), (rp, .inr (0, [.ref ap])), (ap, .inl (cI, 48, .inl P2_4)), (ly, .inl (cJ, 48, .inr (.inl Z_4))), (gl, .inr (1, [.ref xl])), (xl, .inl (cJ, 12, .inr (.inl g_3)))] rfl rfl rfl rfl (by decide) 0 rfl rfl rfl rfl (Nat.le_of_ble_eq_true rfl) d_Groups_move_46 ⟨by decide, by decide⟩ (fun w9u5 hw5 => ?_)
  rw [upd_back]
  refine g_iconst (v := nI 0) X d_Groups_move_49 rfl ?_
  exact g_zret X hA9 hQ9 hr9 (by first | exact Or.inl rfl | exact Or.inr rfl) hlk9 ⟨g_3, P2_4, Z_4⟩ [0, 12, 13, 10, 11, 6, 7, 8, 9, 1, 2, 3, 4, 5] rfl rfl d_Groups_move_50 (by (try dsimp only); exact (⟨rfl, hPP⟩))
