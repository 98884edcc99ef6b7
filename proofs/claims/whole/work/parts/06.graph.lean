/-! graphs on numbers, by a Bool; walks of a length; what is over what -/
def gw (E : Nat → Nat → Bool) : Nat → Nat → Nat → Prop
  | 0, x, y => x = y
  | k + 1, x, y => ∃ z, E x z = true ∧ gw E k z y
def gov (E : Nat → Nat → Bool) (x y : Nat) : Prop := ∃ k, gw E (k + 1) x y
/-- all ends of edges are below N -/
def gin (E : Nat → Nat → Bool) (N : Nat) : Prop := ∀ x y, E x y = true → x < N ∧ y < N
theorem gw_add {E : Nat → Nat → Bool} : ∀ (a b x y z : Nat), gw E a x y → gw E b y z → gw E (a + b) x z
  | 0, b, x, y, z, h1, h2 => by
    have e : x = y := h1
    subst e
    rw [Nat.zero_add]
    exact h2
  | a + 1, b, x, y, z, h1, h2 => by
    obtain ⟨w, hw, h⟩ := h1
    rw [Nat.add_right_comm]
    exact ⟨w, hw, gw_add a b w y z h h2⟩
theorem gw_split {E : Nat → Nat → Bool} : ∀ (a b x z : Nat), gw E (a + b) x z → ∃ y, gw E a x y ∧ gw E b y z
  | 0, b, x, z, h => ⟨x, rfl, by rw [Nat.zero_add] at h; exact h⟩
  | a + 1, b, x, z, h => by
    rw [Nat.add_right_comm] at h
    obtain ⟨w, hw, h⟩ := h
    obtain ⟨y, h1, h2⟩ := gw_split a b w z h
    exact ⟨y, ⟨w, hw, h1⟩, h2⟩
theorem gw_one {E : Nat → Nat → Bool} {x y : Nat} (h : E x y = true) : gw E 1 x y := ⟨y, h, rfl⟩
theorem gov_one {E : Nat → Nat → Bool} {x y : Nat} (h : E x y = true) : gov E x y := ⟨0, gw_one h⟩
theorem gov_of {E : Nat → Nat → Bool} {k x y : Nat} (h : gw E k x y) (hk : 0 < k) : gov E x y := by
  obtain ⟨j, rfl⟩ : ∃ j, k = j + 1 := ⟨k - 1, by omega⟩
  exact ⟨j, h⟩
theorem gov_trans {E : Nat → Nat → Bool} {x y z : Nat} (h1 : gov E x y) (h2 : gov E y z) : gov E x z := by
  obtain ⟨a, h1⟩ := h1
  obtain ⟨b, h2⟩ := h2
  exact gov_of (gw_add _ _ _ _ _ h1 h2) (by omega)
theorem gov_cases {E : Nat → Nat → Bool} {x y : Nat} (h : gov E x y) : E x y = true ∨ ∃ z, E x z = true ∧ gov E z y := by
  obtain ⟨k, z, hz, h⟩ := h
  cases k with
  | zero =>
    have e : z = y := h
    subst e
    exact Or.inl hz
  | succ k => exact Or.inr ⟨z, hz, k, h⟩
theorem gov_map {E E' : Nat → Nat → Bool} {f : Nat → Nat} (h : ∀ x y, E x y = true → gov E' (f x) (f y)) : ∀ (k x y : Nat), gw E (k + 1) x y → gov E' (f x) (f y)
  | 0, x, y, ⟨z, hz, e⟩ => by
    have e : z = y := e
    subst e
    exact h _ _ hz
  | k + 1, x, y, ⟨z, hz, r⟩ => gov_trans (h _ _ hz) (gov_map h k z y r)
theorem gov_lt {E : Nat → Nat → Bool} {N x y : Nat} (hN : gin E N) (h : gov E x y) : x < N ∧ y < N := by
  obtain ⟨k, h⟩ := h
  refine ⟨?_, ?_⟩
  · obtain ⟨z, hz, -⟩ := h
    exact (hN _ _ hz).1
  · obtain ⟨z, -, h2⟩ := gw_split k 1 x y h
    obtain ⟨w, hw, e⟩ := h2
    have e : w = y := e
    subst e
    exact (hN _ _ hw).2
/-- a set that holds an edge and what lies behind is closed -/
theorem gov_into {E : Nat → Nat → Bool} {T : Nat → Nat → Prop} (h1 : ∀ x y, E x y = true → T x y) (h2 : ∀ x y z, T x y → T y z → T x z) : ∀ (k x y : Nat), gw E (k + 1) x y → T x y
  | 0, x, y, ⟨z, hz, e⟩ => by
    have e : z = y := e
    subst e
    exact h1 _ _ hz
  | k + 1, x, y, ⟨z, hz, r⟩ => h2 _ _ _ (h1 _ _ hz) (gov_into h1 h2 k z y r)
/-! the closure, stage by stage -/
def gwar (E : Nat → Nat → Bool) : Nat → Nat → Nat → Bool
  | 0, x, y => E x y
  | z + 1, x, y => gwar E z x y || (gwar E z x z && gwar E z z y)
theorem gwar_mono {E : Nat → Nat → Bool} {z x y : Nat} (h : gwar E z x y = true) : gwar E (z + 1) x y = true := by
  simp [gwar, h]
theorem gwar_le {E : Nat → Nat → Bool} {x y : Nat} (h : E x y = true) : ∀ z, gwar E z x y = true
  | 0 => h
  | z + 1 => gwar_mono (gwar_le h z)
theorem gwar_gov {E : Nat → Nat → Bool} : ∀ (z x y : Nat), gwar E z x y = true → gov E x y
  | 0, x, y, h => gov_one h
  | z + 1, x, y, h => by
    simp only [gwar, Bool.or_eq_true, Bool.and_eq_true] at h
    rcases h with h | ⟨h1, h2⟩
    · exact gwar_gov z x y h
    · exact gov_trans (gwar_gov z x z h1) (gwar_gov z z y h2)
theorem gwar_row {E : Nat → Nat → Bool} {z y : Nat} (h : gwar E (z + 1) z y = true) : gwar E z z y = true := by
  simp only [gwar, Bool.or_eq_true, Bool.and_eq_true] at h
  rcases h with h | ⟨-, h⟩
  · exact h
  · exact h
theorem gwar_col {E : Nat → Nat → Bool} {z x : Nat} (h : gwar E (z + 1) x z = true) : gwar E z x z = true := by
  simp only [gwar, Bool.or_eq_true, Bool.and_eq_true] at h
  rcases h with h | ⟨h, -⟩
  · exact h
  · exact h
theorem gwar_via {E : Nat → Nat → Bool} {z x y : Nat} (h1 : gwar E z x z = true) (h2 : gwar E z z y = true) : gwar E (z + 1) x y = true := by
  simp [gwar, h1, h2]
theorem gwar_trans {E : Nat → Nat → Bool} : ∀ (z m x y : Nat), m < z → gwar E z x m = true → gwar E z m y = true → gwar E z x y = true
  | 0, m, x, y, h, _, _ => absurd h (Nat.not_lt_zero _)
  | z + 1, m, x, y, h, h1, h2 => by
    rcases Nat.lt_or_ge m z with hm | hm
    · simp only [gwar, Bool.or_eq_true, Bool.and_eq_true] at h1 h2
      rcases h1 with h1 | ⟨h1, h1'⟩ <;> rcases h2 with h2 | ⟨h2, h2'⟩
      · exact gwar_mono (gwar_trans z m x y hm h1 h2)
      · exact gwar_via (gwar_trans z m x z hm h1 h2) h2'
      · exact gwar_via h1 (gwar_trans z m z y hm h1' h2)
      · exact gwar_via h1 h2'
    · have e : m = z := by omega
      subst e
      exact gwar_via (gwar_col h1) (gwar_row h2)
theorem gwar_of {E : Nat → Nat → Bool} {N : Nat} (hN : gin E N) : ∀ (k x y : Nat), gw E (k + 1) x y → gwar E N x y = true
  | 0, x, y, ⟨z, hz, e⟩ => by
    have e : z = y := e
    subst e
    exact gwar_le hz N
  | k + 1, x, y, ⟨z, hz, r⟩ => gwar_trans N z x y (hN _ _ hz).2 (gwar_le hz N) (gwar_of hN k z y r)
theorem gwar_iff {E : Nat → Nat → Bool} {N : Nat} (hN : gin E N) (x y : Nat) : gwar E N x y = true ↔ gov E x y :=
  ⟨gwar_gov N x y, fun ⟨k, h⟩ => gwar_of hN k x y h⟩
/-- stages beyond the last vertex change nothing -/
theorem gwar_far {E : Nat → Nat → Bool} {N : Nat} (hN : gin E N) (j x y : Nat) : gwar E (N + j) x y = gwar E N x y := by
  rw [Bool.eq_iff_iff, gwar_iff hN, gwar_iff (N := N + j) (fun a b h => ⟨by have := (hN a b h).1; omega, by have := (hN a b h).2; omega⟩)]
theorem gwar_ext {E F : Nat → Nat → Bool} (h : ∀ x y, E x y = F x y) : ∀ (z x y : Nat), gwar E z x y = gwar F z x y
  | 0, x, y => h x y
  | z + 1, x, y => by simp only [gwar, gwar_ext h z]
/-! no more than N different numbers below N -/
theorem pig : ∀ (N d : Nat) (f : Nat → Nat), (∀ i, i < d → f i < N) → (∀ i j, i < d → j < d → f i = f j → i = j) → d ≤ N
  | 0, d, f, h, _ => by
    rcases Nat.eq_zero_or_pos d with e | e
    · omega
    · exact absurd (h 0 e) (Nat.not_lt_zero _)
  | N + 1, d, f, h, hi => by
    rcases Nat.eq_zero_or_pos d with e | e
    · omega
    · have key := pig N (d - 1) (fun i => if f i = N then f (d - 1) else f i) (fun i hd => by
        show (if f i = N then f (d - 1) else f i) < N
        by_cases hf : f i = N
        · rw [if_pos hf]
          have h1 := h (d - 1) (by omega)
          have h2 : f (d - 1) ≠ N := fun q => by
            have := hi i (d - 1) (by omega) (by omega) (hf.trans q.symm)
            omega
          omega
        · rw [if_neg hf]
          have h1 := h i (by omega)
          omega) (fun i j hdi hdj hx => by
        have hx : (if f i = N then f (d - 1) else f i) = (if f j = N then f (d - 1) else f j) := hx
        by_cases hf : f i = N <;> by_cases hg : f j = N
        · exact hi i j (by omega) (by omega) (hf.trans hg.symm)
        · rw [if_pos hf, if_neg hg] at hx
          have := hi (d - 1) j (by omega) (by omega) hx
          omega
        · rw [if_neg hf, if_pos hg] at hx
          have := hi i (d - 1) (by omega) (by omega) hx
          omega
        · rw [if_neg hf, if_neg hg] at hx
          exact hi i j (by omega) (by omega) hx)
      omega
/-! the least number with a property -/
theorem least_of {P : Nat → Prop} {k : Nat} (h : P k) : ∃ j, j ≤ k ∧ P j ∧ ∀ i, i < j → ¬ P i := by
  induction k using Nat.strongRecOn with
  | ind k ih =>
    by_cases hx : ∃ i, i < k ∧ P i
    · obtain ⟨i, hi, hp⟩ := hx
      obtain ⟨j, h1, h2, h3⟩ := ih i hi hp
      exact ⟨j, by omega, h2, h3⟩
    · exact ⟨k, Nat.le_refl k, h, fun i hi hp => hx ⟨i, hi, hp⟩⟩
/-! distances: of at least one step (gD), of any number of steps (gd) -/
def gD (E : Nat → Nat → Bool) (t k x : Nat) : Prop := 0 < k ∧ gw E k x t ∧ ∀ j, 0 < j → j < k → ¬ gw E j x t
def gd (E : Nat → Nat → Bool) (t k x : Nat) : Prop := gw E k x t ∧ ∀ j, j < k → ¬ gw E j x t
theorem gD_of {E : Nat → Nat → Bool} {t k x : Nat} (hk : 0 < k) (h : gw E k x t) : ∃ j, j ≤ k ∧ gD E t j x := by
  obtain ⟨j, h1, h2, h3⟩ := least_of (P := fun j => 0 < j ∧ gw E j x t) ⟨hk, h⟩
  exact ⟨j, h1, h2.1, h2.2, fun i hi hj hw => h3 i hj ⟨hi, hw⟩⟩
theorem gD_uniq {E : Nat → Nat → Bool} {t j k x : Nat} (h1 : gD E t j x) (h2 : gD E t k x) : j = k := by
  rcases Nat.lt_trichotomy j k with h | h | h
  · exact absurd h1.2.1 (h2.2.2 j h1.1 h)
  · exact h
  · exact absurd h2.2.1 (h1.2.2 k h2.1 h)
theorem gD_next {E : Nat → Nat → Bool} {t k x : Nat} (h : gD E t (k + 2) x) : ∃ y, E x y = true ∧ gD E t (k + 1) y := by
  obtain ⟨-, ⟨y, hy, hw⟩, hm⟩ := h
  exact ⟨y, hy, Nat.succ_pos k, hw, fun j h1 h2 h3 => hm (j + 1) (by omega) (by omega) ⟨y, hy, h3⟩⟩
/-- the layer i + 1: above a member of layer i, and in none before -/
theorem gD_layer {E : Nat → Nat → Bool} {t i x : Nat} : gD E t (i + 2) x ↔ (∃ y, E x y = true ∧ gD E t (i + 1) y) ∧ ∀ j, j ≤ i → ¬ gD E t (j + 1) x := by
  constructor
  · intro h
    refine ⟨gD_next h, fun j hj hx => ?_⟩
    have := gD_uniq h hx
    omega
  · rintro ⟨⟨y, hy, hd⟩, hn⟩
    refine ⟨by omega, ⟨y, hy, hd.2.1⟩, fun j h1 h2 hw => ?_⟩
    obtain ⟨j', h3, h4⟩ := gD_of h1 hw
    have h5 := h4.1
    exact hn (j' - 1) (by omega) (by rw [Nat.sub_add_cancel h5]; exact h4)
theorem gD_first {E : Nat → Nat → Bool} {t x : Nat} : gD E t 1 x ↔ E x t = true := by
  constructor
  · rintro ⟨-, ⟨y, hy, e⟩, -⟩
    have e : y = t := e
    subst e
    exact hy
  · intro h
    exact ⟨Nat.one_pos, gw_one h, fun j h1 h2 => by omega⟩
/-- from a place at distance k every smaller distance is met -/
theorem gD_all {E : Nat → Nat → Bool} {t : Nat} : ∀ (k x : Nat), gD E t (k + 1) x → ∀ j, j ≤ k → ∃ y, gD E t (j + 1) y
  | 0, x, h, j, hj => ⟨x, by have e : j = 0 := by omega
                             subst e; exact h⟩
  | k + 1, x, h, j, hj => by
    rcases Nat.lt_or_ge k j with hl | hl
    · have e : j = k + 1 := by omega
      subst e
      exact ⟨x, h⟩
    · obtain ⟨y, -, hy⟩ := gD_next h
      exact gD_all k y hy j hl
theorem gD_lt {E : Nat → Nat → Bool} {N t k x : Nat} (hN : gin E N) (h : gD E t k x) : x < N := (gov_lt hN (gov_of h.2.1 h.1)).1
theorem gD_le {E : Nat → Nat → Bool} {N t k x : Nat} (hN : gin E N) (h : gD E t k x) : k ≤ N := by
  obtain ⟨j, rfl⟩ : ∃ j, k = j + 1 := ⟨k - 1, by have := h.1; omega⟩
  have hall := gD_all j x h
  have hc : ∀ i : Nat, ∃ y, i ≤ j → gD E t (i + 1) y := fun i => by
    by_cases hi : i ≤ j
    · obtain ⟨y, hy⟩ := hall i hi
      exact ⟨y, fun _ => hy⟩
    · exact ⟨0, fun q => absurd q hi⟩
  refine pig N (j + 1) (fun i => Classical.choose (hc i)) (fun i hi => gD_lt hN (Classical.choose_spec (hc i) (by omega))) (fun a b ha hb he => ?_)
  have h1 := Classical.choose_spec (hc a) (by omega)
  have h2 := Classical.choose_spec (hc b) (by omega)
  have he : Classical.choose (hc a) = Classical.choose (hc b) := he
  rw [he] at h1
  have := gD_uniq h1 h2
  omega
/-- a ring from t on, the shortest, and of these the lowest: it is the only one -/
def gring (E : Nat → Nat → Bool) (t len : Nat) (p : Nat → Nat) : Prop := gD E t len t ∧ p 0 = t ∧ ∀ k, k + 1 < len → E (p k) (p (k + 1)) = true ∧ gD E t (len - 1 - k) (p (k + 1)) ∧ ∀ c, c < p (k + 1) → E (p k) c = true → ¬ gD E t (len - 1 - k) c
theorem gring_uniq {E : Nat → Nat → Bool} {t n1 n2 : Nat} {p q : Nat → Nat} (h1 : gring E t n1 p) (h2 : gring E t n2 q) : n1 = n2 ∧ ∀ k, k < n1 → p k = q k := by
  have e := gD_uniq h1.1 h2.1
  subst e
  refine ⟨rfl, fun k => ?_⟩
  induction k with
  | zero => intro _; rw [h1.2.1, h2.2.1]
  | succ k ih =>
    intro hk
    have e := ih (by omega)
    obtain ⟨a1, a2, a3⟩ := h1.2.2 k hk
    obtain ⟨b1, b2, b3⟩ := h2.2.2 k hk
    rw [← e] at b1 b3
    rcases Nat.lt_trichotomy (p (k + 1)) (q (k + 1)) with h | h | h
    · exact absurd a2 (b3 _ h a1)
    · exact h
    · exact absurd b2 (a3 _ h b1)
