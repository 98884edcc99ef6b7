variable {l : Launch} {D : va_G} {cI cJ cZ cQ : ClassId}
theorem ring_ex {E : Nat → Nat → Bool} {t : Nat} : ∀ (k x : Nat), gD E t (k + 1) x → ∃ p : Nat → Nat, p 0 = x ∧ ∀ j, j < k → E (p j) (p (j + 1)) = true ∧ gD E t (k - j) (p (j + 1)) ∧ ∀ c, c < p (j + 1) → E (p j) c = true → ¬ gD E t (k - j) c
  | 0, x, _ => ⟨fun _ => x, rfl, fun j hj => absurd hj (Nat.not_lt_zero _)⟩
  | k + 1, x, h => by
    obtain ⟨y0, hy1, hy2⟩ := gD_next h
    obtain ⟨y, -, ⟨h1, h2⟩, h3⟩ := least_of (P := fun y => E x y = true ∧ gD E t (k + 1) y) ⟨hy1, hy2⟩
    obtain ⟨q, hq0, hq⟩ := ring_ex k y h2
    refine ⟨fun j => match j with
      | 0 => x
      | j + 1 => q j, rfl, fun j hj => ?_⟩
    cases j with
    | zero =>
      show E x (q 0) = true ∧ gD E t (k + 1) (q 0) ∧ ∀ c, c < q 0 → E x c = true → ¬ gD E t (k + 1) c
      rw [hq0]
      exact ⟨h1, h2, fun c hc he hd => h3 c hc ⟨he, hd⟩⟩
    | succ j =>
      have := hq j (by omega)
      rw [show k + 1 - (j + 1) = k - j by omega]
      exact this
theorem gring_ex {E : Nat → Nat → Bool} {t d : Nat} (h : gD E t d t) : ∃ p, gring E t d p := by
  obtain ⟨k, rfl⟩ : ∃ k, d = k + 1 := ⟨d - 1, by have := h.1; omega⟩
  obtain ⟨p, h0, hp⟩ := ring_ex k t h
  exact ⟨p, h, h0, fun j hj => hp j (by omega)⟩
/-! the k-th of a set -/
theorem nth_end {P : Nat → Bool} {n k : Nat} (h : ∃ x, x < n ∧ P x = true ∧ cnt P x = k) : k < cnt P n := by
  obtain ⟨x, h1, h2, h3⟩ := h
  have h4 := cnt_mono P (show x + 1 ≤ n from h1)
  rw [cnt_t h2] at h4
  omega
theorem cnt_none {P : Nat → Bool} {x : Nat} (h : cnt P x = 0) : ∀ y, y < x → P y = false := by
  intro y hy
  cases hb : P y with
  | false => rfl
  | true =>
    have h4 := cnt_mono P (show y + 1 ≤ x from hy)
    rw [cnt_t hb] at h4
    omega
theorem cnt_least {P : Nat → Bool} {n : Nat} (h : ∃ x, x < n ∧ P x = true) : ∃ x, x < n ∧ P x = true ∧ cnt P x = 0 := by
  obtain ⟨x, hx, hp⟩ := h
  obtain ⟨y, h1, h2, h3⟩ := least_of (P := fun y => P y = true) hp
  refine ⟨y, by omega, h2, ?_⟩
  have key : ∀ m, m ≤ y → cnt P m = 0 := by
    intro m
    induction m with
    | zero => intro _; rfl
    | succ m ih =>
      intro hm
      have hb : P m = false := by
        cases hb : P m with
        | false => rfl
        | true => exact absurd hb (h3 m (by omega))
      rw [cnt_f hb]
      exact ih (by omega)
  exact key y (Nat.le_refl y)
/-! layers -/
def lay (E : Nat → Nat → Bool) (t i : Nat) (w : Int64) : Prop := ∀ x, lb w x = true ↔ (if i = 0 then x = t else gD E t i x)
def seenL (E : Nat → Nat → Bool) (t i : Nat) (w : Int64) : Prop := ∀ x, lb w x = true ↔ ∃ j, j < i ∧ gD E t (j + 1) x
def layY (E : Nat → Nat → Bool) (t i : Nat) (Y : Nat → Int64) : Prop := ∀ j, j < i → ∀ x, lb (Y j) x = true ↔ gD E t (j + 1) x
theorem rowE_gin {n : Nat} {f : Nat → Int64} (hf : ∀ x, x < n → ∀ j, lb (f x) j = true → j < n) : gin (rowE n f) n := by
  intro x y h
  simp only [rowE, Bool.and_eq_true, decide_eq_true_eq] at h
  exact ⟨h.1, hf x h.1 y h.2⟩
theorem lay_0 {E : Nat → Nat → Bool} {t : Nat} (ht : t < 64) : lay E t 0 ((1 : Int64) <<< ((nI t).toInt64 &&& 63)) := by
  intro x
  rw [lb_one ht, decide_eq_true_eq]
  simp
theorem seen_0 {E : Nat → Nat → Bool} {t : Nat} : seenL E t 0 0 := by
  intro x
  rw [lb_0]
  constructor
  · intro h; cases h
  · rintro ⟨j, h, -⟩; exact absurd h (Nat.not_lt_zero _)
theorem lay_step {n t i : Nat} {f : Nat → Int64} {w seen r : Int64} (hw : lay (rowE n f) t i w) (hs : seenL (rowE n f) t i seen) (ht : t < 64) (hr : ∀ x, lb r x = true ↔ x < n ∧ ¬ (f x &&& w) = 0) (hf : ∀ x, x < n → ∀ j, lb (f x) j = true → j < n) (hn : n ≤ 48) : ∀ x, lb (r &&& (seen ^^^ (-1))) x = true ↔ gD (rowE n f) t (i + 1) x := by
  intro x
  have hab : lb r x = true ↔ ∃ y, rowE n f x y = true ∧ lb w y = true := by
    rw [hr x, and_ne0]
    constructor
    · rintro ⟨h1, j, hj, h2, h3⟩
      exact ⟨j, by rw [rowE_in h1]; exact h2, h3⟩
    · rintro ⟨y, h1, h2⟩
      simp only [rowE, Bool.and_eq_true, decide_eq_true_eq] at h1
      have := hf x h1.1 y h1.2
      exact ⟨h1.1, y, by omega, h1.2, h2⟩
  have hgD : gD (rowE n f) t (i + 1) x ↔ (∃ y, rowE n f x y = true ∧ lb w y = true) ∧ ∀ j, j < i → ¬ gD (rowE n f) t (j + 1) x := by
    cases i with
    | zero =>
      rw [gD_first]
      constructor
      · intro h
        exact ⟨⟨t, h, (hw t).mpr (by simp)⟩, fun j hj => absurd hj (Nat.not_lt_zero _)⟩
      · rintro ⟨⟨y, h1, h2⟩, -⟩
        have e : y = t := by
          have := (hw y).mp h2
          simpa using this
        rw [e] at h1
        exact h1
    | succ i =>
      rw [gD_layer]
      constructor
      · rintro ⟨⟨y, h1, h2⟩, h3⟩
        exact ⟨⟨y, h1, (hw y).mpr (by simpa using h2)⟩, fun j hj => h3 j (by omega)⟩
      · rintro ⟨⟨y, h1, h2⟩, h3⟩
        exact ⟨⟨y, h1, by simpa using (hw y).mp h2⟩, fun j hj => h3 j (by omega)⟩
  rw [lb_and, Bool.and_eq_true, hab, hgD]
  constructor
  · rintro ⟨h1, h2⟩
    refine ⟨h1, fun j hj hd => ?_⟩
    rcases Nat.lt_or_ge x 64 with q | q
    · rw [lb_not _ q] at h2
      have := (hs x).mpr ⟨j, hj, hd⟩
      rw [this] at h2
      cases h2
    · rw [lb_big q] at h2
      cases h2
  · rintro ⟨h1, h2⟩
    refine ⟨h1, ?_⟩
    have hx : x < n := ((hr x).mp (hab.mpr h1)).1
    rw [lb_not _ (by omega)]
    cases hb : lb seen x with
    | false => rfl
    | true =>
      obtain ⟨j, hj, hd⟩ := (hs x).mp hb
      exact absurd hd (h2 j hj)
theorem lay_next {E : Nat → Nat → Bool} {t i : Nat} {w : Int64} (h : ∀ x, lb w x = true ↔ gD E t (i + 1) x) : lay E t (i + 1) w := by
  intro x
  rw [h x]
  simp
theorem seen_next {E : Nat → Nat → Bool} {t i : Nat} {w seen : Int64} (hs : seenL E t i seen) (h : ∀ x, lb w x = true ↔ gD E t (i + 1) x) : seenL E t (i + 1) (seen ||| w) := by
  intro x
  rw [lb_or, Bool.or_eq_true, hs x, h x]
  constructor
  · rintro (⟨j, h1, h2⟩ | h1)
    · exact ⟨j, by omega, h2⟩
    · exact ⟨i, by omega, h1⟩
  · rintro ⟨j, h1, h2⟩
    rcases Nat.lt_or_ge j i with q | q
    · exact Or.inl ⟨j, q, h2⟩
    · have e : j = i := by omega
      subst e
      exact Or.inr h2
theorem layY_next {E : Nat → Nat → Bool} {t i : Nat} {w : Int64} {Y : Nat → Int64} (hY : layY E t i Y) (h : ∀ x, lb w x = true ↔ gD E t (i + 1) x) : layY E t (i + 1) (vp_updL Y i w) := by
  intro j hj x
  rcases Nat.lt_or_ge j i with q | q
  · rw [pk_uLn (by omega)]
    exact hY j q x
  · have e : j = i := by omega
    subst e
    rw [pk_uLs]
    exact h x
theorem no_next {E : Nat → Nat → Bool} {t i : Nat} {w : Int64} (hno : ∀ j, j < i → ¬ gD E t (j + 1) t) (h : ∀ x, lb w x = true ↔ gD E t (i + 1) x) (hb : lb w t = false) : ∀ j, j < i + 1 → ¬ gD E t (j + 1) t := by
  intro j hj hd
  rcases Nat.lt_or_ge j i with q | q
  · exact hno j q hd
  · have e : j = i := by omega
    subst e
    rw [(h t).mpr hd] at hb
    cases hb
/-- the search goes on as long as there is a ring to find -/
theorem lay_ne {E : Nat → Nat → Bool} {t i d : Nat} {w : Int64} (hw : lay E t i w) (hd : gD E t d t) (hno : ∀ j, j < i → ¬ gD E t (j + 1) t) : ¬ w = 0 := by
  intro h0
  have hz : ∀ x, lb w x = false := lb_eq0 h0
  have hpos := hd.1
  have hid : i < d := by
    rcases Nat.lt_or_ge i d with q | q
    · exact q
    · exact absurd (by rw [Nat.sub_add_cancel hpos]; exact hd) (hno (d - 1) (by omega))
  cases i with
  | zero =>
    have := (hw t).mpr (by simp)
    rw [hz t] at this
    cases this
  | succ i =>
    obtain ⟨k, rfl⟩ : ∃ k, d = k + 1 := ⟨d - 1, by omega⟩
    obtain ⟨y, hy⟩ := gD_all k t hd i (by omega)
    have := (hw y).mpr (by simpa using hy)
    rw [hz y] at this
    cases this
theorem lay_lt {E : Nat → Nat → Bool} {t i d n : Nat} (hE : gin E n) (hd : gD E t d t) (hno : ∀ j, j < i → ¬ gD E t (j + 1) t) : i < n := by
  have h1 := gD_le hE hd
  have hpos := hd.1
  rcases Nat.lt_or_ge i d with q | q
  · omega
  · exact absurd (by rw [Nat.sub_add_cancel hpos]; exact hd) (hno (d - 1) (by omega))
theorem lay_hit {E : Nat → Nat → Bool} {t i d : Nat} {w : Int64} (hd : gD E t d t) (h : ∀ x, lb w x = true ↔ gD E t (i + 1) x) (hb : lb w t = true) : i + 1 = d := gD_uniq ((h t).mp hb) hd
theorem sub2_in {d k : Nat} (hd : d < 2 ^ 20) (h : k + 1 < d) : nI d - nI 2 - nI k = nI (d - 2 - k) := by
  rw [pk_sub (by omega), pk_sub (by omega)]
theorem sub2_out {d k : Nat} (hd : 0 < d) (h : k + 1 = d) : nI d - nI 2 - nI k = -1 := by
  subst h
  have e : nI (k + 1) = nI k + 1 := nI_succ k
  rw [e, show nI 2 = 1 + 1 from rfl]
  have : ∀ x : Int32, x + 1 - (1 + 1) - x = -1 := by
    intro x
    rw [← Int32.toBitVec_inj]
    simp only [Int32.toBitVec_sub, Int32.toBitVec_add]
    generalize x.toBitVec = y
    show y + 1#32 - (1#32 + 1#32) - y = (-1 : Int32).toBitVec
    rw [show (-1 : Int32).toBitVec = -1#32 from rfl]
    simp only [BitVec.sub_eq_add_neg]
    rw [show -(1#32 + 1#32) = -1#32 + -1#32 by decide]
    have e9 : y + 1#32 + (-1#32 + -1#32) + -y = (y + -y) + (1#32 + (-1#32 + -1#32)) := by ac_rfl
    rw [e9, ← BitVec.sub_eq_add_neg y y, BitVec.sub_self]
    decide
  exact this (nI k)

set_option maxHeartbeats 4000000 in
set_option maxRecDepth 100000 in
theorem k_RO_nthOf (set : Int64) (k : Nat) (hk : k < 2 ^ 20) (hx : ∃ x, x < 48 ∧ lb set x = true ∧ cnt (lb set) x = k) : CtI l y_RO_nthOf (Cond.code y_RO_nthOf c_RO_nthOf 5 (some .int) :: TB) ({ frames := 0, cells := 0, slots := 0, locals := 0 } : Room) D (tysv cI cJ cZ cQ) [.long set, .int (nI k)] [] 0 0 (fun (r : Int32) (x : Nat) => r = nI x ∧ x < 48 ∧ lb set x = true ∧ cnt (lb set) x = k) (fun (x : Nat) => []) := by
  refine CtI.of c_RO_nthOf 5 (some .int) (by decide) rfl (Nat.le_of_ble_eq_true rfl) ?_
  intro p e s m args below meth c A Q hA9 hQ9 X hr9 hlk9 hin9
  have L5 : ∀ (N5 : Nat) (lf : Nat) (i : Nat), (48 - i) < N5 → (i ≤ 48) → (lf + cnt (lb set) i = k) → G p l e ({ frames := 0, cells := 0, slots := 0, locals := 0 } : Room) s m args below meth c 5 D A s.heap Q 0 0 [] [(0, .long set), (2, .int (nI k)), (3, .int (nI lf)), (4, .int (nI i))] 5 [] := by
    intro N5
    induction N5 with
    | zero =>
      intro lf i hN
      exact absurd hN (Nat.not_lt_zero _)
    | succ N5 ih5 =>
      intro lf i hN5 hi h1
      refine g_iload X 4 d_RO_nthOf_5 rfl ?_
      refine g_bipush (v := nI 48) X d_RO_nthOf_7 rfl ?_
      refine n_icmp_ge X 39 d_RO_nthOf_9 (by decide) (by omega) (by omega) (fun h9 => absurd h9 (fun q => absurd (nth_end hx) (by have e : i = 48 := (by omega); subst e; omega))) (fun h9 => ?_)
      refine g_lload_n X 0 d_RO_nthOf_12 rfl rfl ?_
      refine g_iload X 4 d_RO_nthOf_13 rfl ?_
      refine g_lushr X (((set).toUInt64 >>> ((nI i).toInt64.toUInt64 &&& Int64.toUInt64 63)).toInt64) d_RO_nthOf_15 rfl ?_
      refine g_lconst (v := 1) X d_RO_nthOf_16 rfl ?_
      refine g_land X ((((set).toUInt64 >>> ((nI i).toInt64.toUInt64 &&& Int64.toUInt64 63)).toInt64) &&& 1) d_RO_nthOf_17 rfl ?_
      refine g_lconst (v := 0) X d_RO_nthOf_18 rfl ?_
      refine g_lcmp X d_RO_nthOf_19 ?_
      refine bit_if_eq X 33 d_RO_nthOf_20 (by decide) (by omega) (fun h20 => ?_) (fun h20 => ?_)
      · refine g_iinc X (nI (i + 1)) [(4, .int (nI (i + 1))), (0, .long set), (2, .int (nI k)), (3, .int (nI lf))] d_RO_nthOf_33 (k := 3) rfl (nI_1 i) (by decide) rfl ?_
        refine g_goto X 5 d_RO_nthOf_36 (by decide) ?_
        refine g_lv [1, 2, 3, 0] rfl ?_
        exact ih5 lf (i + 1) (by omega) (by omega) (by first | (rw [cnt_f h20]; exact h1) | (rw [cnt_t h20]; omega))
      · refine g_iload_n X 3 d_RO_nthOf_23 rfl rfl ?_
        refine n_if_ne X 30 d_RO_nthOf_24 (by decide) (by omega) (fun h24 => ?_) (fun h24 => ?_)
        · refine g_iinc X (nI (lf - 1)) [(3, .int (nI (lf - 1))), (0, .long set), (2, .int (nI k)), (4, .int (nI i))] d_RO_nthOf_30 (k := 2) rfl (nI_dec (by omega)) (by decide) rfl ?_
          refine g_iinc X (nI (i + 1)) [(4, .int (nI (i + 1))), (3, .int (nI (lf - 1))), (0, .long set), (2, .int (nI k))] d_RO_nthOf_33 (k := 3) rfl (nI_1 i) (by decide) rfl ?_
          refine g_goto X 5 d_RO_nthOf_36 (by decide) ?_
          refine g_lv [2, 3, 1, 0] rfl ?_
          exact ih5 (lf - 1) (i + 1) (by omega) (by omega) (by first | (rw [cnt_f h20]; exact h1) | (rw [cnt_t h20]; omega))
        · refine g_iload X 4 d_RO_nthOf_27 rfl ?_
          exact g_iret X hA9 hQ9 hr9 hlk9 i [] rfl rfl d_RO_nthOf_29 (⟨rfl, by omega, h20, by omega⟩)
  refine g_iload_n X 2 d_RO_nthOf_0 rfl rfl ?_
  refine g_istore_n X [(3, .int (nI k)), (0, .long set), (2, .int (nI k))] d_RO_nthOf_1 rfl (by decide) rfl ?_
  refine g_iconst (v := nI 0) X d_RO_nthOf_2 rfl ?_
  refine g_istore X [(4, .int (nI 0)), (3, .int (nI k)), (0, .long set), (2, .int (nI k))] d_RO_nthOf_3 (by decide) rfl ?_
  refine g_lv [2, 3, 1, 0] rfl ?_
  exact L5 ((48 - 0) + 1) k 0 (Nat.lt_succ_self _) (by omega) (by simp [cnt])

set_option maxHeartbeats 4000000 in
set_option maxRecDepth 100000 in
theorem k_RO_nthOfN (set : Int64) (k : Nat) (hk : k < 2 ^ 31) (hx : cnt (lb set) 48 ≤ k) : CtI l y_RO_nthOf (Cond.code y_RO_nthOf c_RO_nthOf 5 (some .int) :: TB) ({ frames := 0, cells := 0, slots := 0, locals := 0 } : Room) D (tysv cI cJ cZ cQ) [.long set, .int (nI k)] [] 0 0 (fun (r : Int32) (_ : Unit) => r = -1) (fun (_ : Unit) => []) := by
  refine CtI.of c_RO_nthOf 5 (some .int) (by decide) rfl (Nat.le_of_ble_eq_true rfl) ?_
  intro p e s m args below meth c A Q hA9 hQ9 X hr9 hlk9 hin9
  have L5 : ∀ (N5 : Nat) (lf : Nat) (i : Nat), (48 - i) < N5 → (i ≤ 48) → (lf + cnt (lb set) i = k) → G p l e ({ frames := 0, cells := 0, slots := 0, locals := 0 } : Room) s m args below meth c 5 D A s.heap Q 0 0 [] [(0, .long set), (2, .int (nI k)), (3, .int (nI lf)), (4, .int (nI i))] 5 [] := by
    intro N5
    induction N5 with
    | zero =>
      intro lf i hN
      exact absurd hN (Nat.not_lt_zero _)
    | succ N5 ih5 =>
      intro lf i hN5 hi h1
      refine g_iload X 4 d_RO_nthOf_5 rfl ?_
      refine g_bipush (v := nI 48) X d_RO_nthOf_7 rfl ?_
      refine n_icmp_ge X 39 d_RO_nthOf_9 (by decide) (by omega) (by omega) (fun h9 => ?_) (fun h9 => ?_)
      · refine g_iconst (v := -1) X d_RO_nthOf_39 rfl ?_
        exact g_iret X hA9 hQ9 hr9 hlk9 () [] rfl rfl d_RO_nthOf_40 (rfl)
      · refine g_lload_n X 0 d_RO_nthOf_12 rfl rfl ?_
        refine g_iload X 4 d_RO_nthOf_13 rfl ?_
        refine g_lushr X (((set).toUInt64 >>> ((nI i).toInt64.toUInt64 &&& Int64.toUInt64 63)).toInt64) d_RO_nthOf_15 rfl ?_
        refine g_lconst (v := 1) X d_RO_nthOf_16 rfl ?_
        refine g_land X ((((set).toUInt64 >>> ((nI i).toInt64.toUInt64 &&& Int64.toUInt64 63)).toInt64) &&& 1) d_RO_nthOf_17 rfl ?_
        refine g_lconst (v := 0) X d_RO_nthOf_18 rfl ?_
        refine g_lcmp X d_RO_nthOf_19 ?_
        refine bit_if_eq X 33 d_RO_nthOf_20 (by decide) (by omega) (fun h20 => ?_) (fun h20 => ?_)
        · refine g_iinc X (nI (i + 1)) [(4, .int (nI (i + 1))), (0, .long set), (2, .int (nI k)), (3, .int (nI lf))] d_RO_nthOf_33 (k := 3) rfl (nI_1 i) (by decide) rfl ?_
          refine g_goto X 5 d_RO_nthOf_36 (by decide) ?_
          refine g_lv [1, 2, 3, 0] rfl ?_
          exact ih5 lf (i + 1) (by omega) (by omega) (by first | (rw [cnt_f h20]; exact h1) | (rw [cnt_t h20]; omega))
        · refine g_iload_n X 3 d_RO_nthOf_23 rfl rfl ?_
          refine n_if_ne X 30 d_RO_nthOf_24 (by decide) (by omega) (fun h24 => ?_) (fun h24 => absurd h24 (by have := cnt_mono (lb set) (show i + 1 ≤ 48 by omega); rw [cnt_t h20] at this; omega))
          refine g_iinc X (nI (lf - 1)) [(3, .int (nI (lf - 1))), (0, .long set), (2, .int (nI k)), (4, .int (nI i))] d_RO_nthOf_30 (k := 2) rfl (nI_dec (by omega)) (by decide) rfl ?_
          refine g_iinc X (nI (i + 1)) [(4, .int (nI (i + 1))), (3, .int (nI (lf - 1))), (0, .long set), (2, .int (nI k))] d_RO_nthOf_33 (k := 3) rfl (nI_1 i) (by decide) rfl ?_
          refine g_goto X 5 d_RO_nthOf_36 (by decide) ?_
          refine g_lv [2, 3, 1, 0] rfl ?_
          exact ih5 (lf - 1) (i + 1) (by omega) (by omega) (by first | (rw [cnt_f h20]; exact h1) | (rw [cnt_t h20]; omega))
  refine g_iload_n X 2 d_RO_nthOf_0 rfl rfl ?_
  refine g_istore_n X [(3, .int (nI k)), (0, .long set), (2, .int (nI k))] d_RO_nthOf_1 rfl (by decide) rfl ?_
  refine g_iconst (v := nI 0) X d_RO_nthOf_2 rfl ?_
  refine g_istore X [(4, .int (nI 0)), (3, .int (nI k)), (0, .long set), (2, .int (nI k))] d_RO_nthOf_3 (by decide) rfl ?_
  refine g_lv [2, 3, 1, 0] rfl ?_
  exact L5 ((48 - 0) + 1) k 0 (Nat.lt_succ_self _) (by omega) (by simp [cnt])
