section
/-! graphs on numbers, by a Bool; walks of a length; what is over what -/
def gw (E : Nat → Nat → Bool) : Nat → Nat → Nat → Prop
  | 0, x, y => x = y
  | k + 1, x, y => ∃ z, E x z = true ∧ gw E k z y
def gov (E : Nat → Nat → Bool) (x y : Nat) : Prop := ∃ k, gw E (k + 1) x y
/-- all ends of edges are below N -/
def gin (E : Nat → Nat → Bool) (N : Nat) : Prop := ∀ x y, E x y = true → x < N ∧ y < N
theorem gw_add {E : Nat → Nat → Bool} : ∀ (a b x y z : Nat), gw E a x y → gw E b y z → gw E (a + b) x z
  | 0, b, x, y, z, h1, h2 => by
    have e : x = y := h1
    subst e
    rw [Nat.zero_add]
    exact h2
  | a + 1, b, x, y, z, h1, h2 => by
    obtain ⟨w, hw, h⟩ := h1
    rw [Nat.add_right_comm]
    exact ⟨w, hw, gw_add a b w y z h h2⟩
theorem gw_split {E : Nat → Nat → Bool} : ∀ (a b x z : Nat), gw E (a + b) x z → ∃ y, gw E a x y ∧ gw E b y z
  | 0, b, x, z, h => ⟨x, rfl, by rw [Nat.zero_add] at h; exact h⟩
  | a + 1, b, x, z, h => by
    rw [Nat.add_right_comm] at h
    obtain ⟨w, hw, h⟩ := h
    obtain ⟨y, h1, h2⟩ := gw_split a b w z h
    exact ⟨y, ⟨w, hw, h1⟩, h2⟩
theorem gw_one {E : Nat → Nat → Bool} {x y : Nat} (h : E x y = true) : gw E 1 x y := ⟨y, h, rfl⟩
theorem gov_one {E : Nat → Nat → Bool} {x y : Nat} (h : E x y = true) : gov E x y := ⟨0, gw_one h⟩
theorem gov_of {E : Nat → Nat → Bool} {k x y : Nat} (h : gw E k x y) (hk : 0 < k) : gov E x y := by
  obtain ⟨j, rfl⟩ : ∃ j, k = j + 1 := ⟨k - 1, by omega⟩
  exact ⟨j, h⟩
theorem gov_trans {E : Nat → Nat → Bool} {x y z : Nat} (h1 : gov E x y) (h2 : gov E y z) : gov E x z := by
  obtain ⟨a, h1⟩ := h1
  obtain ⟨b, h2⟩ := h2
  exact gov_of (gw_add _ _ _ _ _ h1 h2) (by omega)
theorem gov_cases {E : Nat → Nat → Bool} {x y : Nat} (h : gov E x y) : E x y = true ∨ ∃ z, E x z = true ∧ gov E z y := by
  obtain ⟨k, z, hz, h⟩ := h
  cases k with
  | zero =>
    have e : z = y := h
    subst e
    exact Or.inl hz
  | succ k => exact Or.inr ⟨z, hz, k, h⟩
theorem gov_map {E E' : Nat → Nat → Bool} {f : Nat → Nat} (h : ∀ x y, E x y = true → gov E' (f x) (f y)) : ∀ (k x y : Nat), gw E (k + 1) x y → gov E' (f x) (f y)
  | 0, x, y, ⟨z, hz, e⟩ => by
    have e : z = y := e
    subst e
    exact h _ _ hz
  | k + 1, x, y, ⟨z, hz, r⟩ => gov_trans (h _ _ hz) (gov_map h k z y r)
theorem gov_lt {E : Nat → Nat → Bool} {N x y : Nat} (hN : gin E N) (h : gov E x y) : x < N ∧ y < N := by
  obtain ⟨k, h⟩ := h
  refine ⟨?_, ?_⟩
  · obtain ⟨z, hz, -⟩ := h
    exact (hN _ _ hz).1
  · obtain ⟨z, -, h2⟩ := gw_split k 1 x y h
    obtain ⟨w, hw, e⟩ := h2
    have e : w = y := e
    subst e
    exact (hN _ _ hw).2
/-- a set that holds an edge and what lies behind is closed -/
theorem gov_into {E : Nat → Nat → Bool} {T : Nat → Nat → Prop} (h1 : ∀ x y, E x y = true → T x y) (h2 : ∀ x y z, T x y → T y z → T x z) : ∀ (k x y : Nat), gw E (k + 1) x y → T x y
  | 0, x, y, ⟨z, hz, e⟩ => by
    have e : z = y := e
    subst e
    exact h1 _ _ hz
  | k + 1, x, y, ⟨z, hz, r⟩ => h2 _ _ _ (h1 _ _ hz) (gov_into h1 h2 k z y r)
/-! the closure, stage by stage -/
def gwar (E : Nat → Nat → Bool) : Nat → Nat → Nat → Bool
  | 0, x, y => E x y
  | z + 1, x, y => gwar E z x y || (gwar E z x z && gwar E z z y)
theorem gwar_mono {E : Nat → Nat → Bool} {z x y : Nat} (h : gwar E z x y = true) : gwar E (z + 1) x y = true := by
  simp [gwar, h]
theorem gwar_le {E : Nat → Nat → Bool} {x y : Nat} (h : E x y = true) : ∀ z, gwar E z x y = true
  | 0 => h
  | z + 1 => gwar_mono (gwar_le h z)
theorem gwar_gov {E : Nat → Nat → Bool} : ∀ (z x y : Nat), gwar E z x y = true → gov E x y
  | 0, x, y, h => gov_one h
  | z + 1, x, y, h => by
    simp only [gwar, Bool.or_eq_true, Bool.and_eq_true] at h
    rcases h with h | ⟨h1, h2⟩
    · exact gwar_gov z x y h
    · exact gov_trans (gwar_gov z x z h1) (gwar_gov z z y h2)
theorem gwar_row {E : Nat → Nat → Bool} {z y : Nat} (h : gwar E (z + 1) z y = true) : gwar E z z y = true := by
  simp only [gwar, Bool.or_eq_true, Bool.and_eq_true] at h
  rcases h with h | ⟨-, h⟩
  · exact h
  · exact h
theorem gwar_col {E : Nat → Nat → Bool} {z x : Nat} (h : gwar E (z + 1) x z = true) : gwar E z x z = true := by
  simp only [gwar, Bool.or_eq_true, Bool.and_eq_true] at h
  rcases h with h | ⟨h, -⟩
  · exact h
  · exact h
theorem gwar_via {E : Nat → Nat → Bool} {z x y : Nat} (h1 : gwar E z x z = true) (h2 : gwar E z z y = true) : gwar E (z + 1) x y = true := by
  simp [gwar, h1, h2]
theorem gwar_trans {E : Nat → Nat → Bool} : ∀ (z m x y : Nat), m < z → gwar E z x m = true → gwar E z m y = true → gwar E z x y = true
  | 0, m, x, y, h, _, _ => absurd h (Nat.not_lt_zero _)
  | z + 1, m, x, y, h, h1, h2 => by
    rcases Nat.lt_or_ge m z with hm | hm
    · simp only [gwar, Bool.or_eq_true, Bool.and_eq_true] at h1 h2
      rcases h1 with h1 | ⟨h1, h1'⟩ <;> rcases h2 with h2 | ⟨h2, h2'⟩
      · exact gwar_mono (gwar_trans z m x y hm h1 h2)
      · exact gwar_via (gwar_trans z m x z hm h1 h2) h2'
      · exact gwar_via h1 (gwar_trans z m z y hm h1' h2)
      · exact gwar_via h1 h2'
    · have e : m = z := by omega
      subst e
      exact gwar_via (gwar_col h1) (gwar_row h2)
theorem gwar_of {E : Nat → Nat → Bool} {N : Nat} (hN : gin E N) : ∀ (k x y : Nat), gw E (k + 1) x y → gwar E N x y = true
  | 0, x, y, ⟨z, hz, e⟩ => by
    have e : z = y := e
    subst e
    exact gwar_le hz N
  | k + 1, x, y, ⟨z, hz, r⟩ => gwar_trans N z x y (hN _ _ hz).2 (gwar_le hz N) (gwar_of hN k z y r)
theorem gwar_iff {E : Nat → Nat → Bool} {N : Nat} (hN : gin E N) (x y : Nat) : gwar E N x y = true ↔ gov E x y :=
  ⟨gwar_gov N x y, fun ⟨k, h⟩ => gwar_of hN k x y h⟩
/-- stages beyond the last vertex change nothing -/
theorem gwar_far {E : Nat → Nat → Bool} {N : Nat} (hN : gin E N) (j x y : Nat) : gwar E (N + j) x y = gwar E N x y := by
  rw [Bool.eq_iff_iff, gwar_iff hN, gwar_iff (N := N + j) (fun a b h => ⟨by have := (hN a b h).1; omega, by have := (hN a b h).2; omega⟩)]
theorem gwar_ext {E F : Nat → Nat → Bool} (h : ∀ x y, E x y = F x y) : ∀ (z x y : Nat), gwar E z x y = gwar F z x y
  | 0, x, y => h x y
  | z + 1, x, y => by simp only [gwar, gwar_ext h z]
/-! no more than N different numbers below N -/
theorem pig : ∀ (N d : Nat) (f : Nat → Nat), (∀ i, i < d → f i < N) → (∀ i j, i < d → j < d → f i = f j → i = j) → d ≤ N
  | 0, d, f, h, _ => by
    rcases Nat.eq_zero_or_pos d with e | e
    · omega
    · exact absurd (h 0 e) (Nat.not_lt_zero _)
  | N + 1, d, f, h, hi => by
    rcases Nat.eq_zero_or_pos d with e | e
    · omega
    · have key := pig N (d - 1) (fun i => if f i = N then f (d - 1) else f i) (fun i hd => by
        show (if f i = N then f (d - 1) else f i) < N
        by_cases hf : f i = N
        · rw [if_pos hf]
          have h1 := h (d - 1) (by omega)
          have h2 : f (d - 1) ≠ N := fun q => by
            have := hi i (d - 1) (by omega) (by omega) (hf.trans q.symm)
            omega
          omega
        · rw [if_neg hf]
          have h1 := h i (by omega)
          omega) (fun i j hdi hdj hx => by
        have hx : (if f i = N then f (d - 1) else f i) = (if f j = N then f (d - 1) else f j) := hx
        by_cases hf : f i = N <;> by_cases hg : f j = N
        · exact hi i j (by omega) (by omega) (hf.trans hg.symm)
        · rw [if_pos hf, if_neg hg] at hx
          have := hi (d - 1) j (by omega) (by omega) hx
          omega
        · rw [if_neg hf, if_pos hg] at hx
          have := hi i (d - 1) (by omega) (by omega) hx
          omega
        · rw [if_neg hf, if_neg hg] at hx
          exact hi i j (by omega) (by omega) hx)
      omega
/-! the least number with a property -/
theorem least_of {P : Nat → Prop} {k : Nat} (h : P k) : ∃ j, j ≤ k ∧ P j ∧ ∀ i, i < j → ¬ P i := by
  induction k using Nat.strongRecOn with
  | ind k ih =>
    by_cases hx : ∃ i, i < k ∧ P i
    · obtain ⟨i, hi, hp⟩ := hx
      obtain ⟨j, h1, h2, h3⟩ := ih i hi hp
      exact ⟨j, by omega, h2, h3⟩
    · exact ⟨k, Nat.le_refl k, h, fun i hi hp => hx ⟨i, hi, hp⟩⟩
/-! distances: of at least one step (gD), of any number of steps (gd) -/
def gD (E : Nat → Nat → Bool) (t k x : Nat) : Prop := 0 < k ∧ gw E k x t ∧ ∀ j, 0 < j → j < k → ¬ gw E j x t
def gd (E : Nat → Nat → Bool) (t k x : Nat) : Prop := gw E k x t ∧ ∀ j, j < k → ¬ gw E j x t
theorem gD_of {E : Nat → Nat → Bool} {t k x : Nat} (hk : 0 < k) (h : gw E k x t) : ∃ j, j ≤ k ∧ gD E t j x := by
  obtain ⟨j, h1, h2, h3⟩ := least_of (P := fun j => 0 < j ∧ gw E j x t) ⟨hk, h⟩
  exact ⟨j, h1, h2.1, h2.2, fun i hi hj hw => h3 i hj ⟨hi, hw⟩⟩
theorem gD_uniq {E : Nat → Nat → Bool} {t j k x : Nat} (h1 : gD E t j x) (h2 : gD E t k x) : j = k := by
  rcases Nat.lt_trichotomy j k with h | h | h
  · exact absurd h1.2.1 (h2.2.2 j h1.1 h)
  · exact h
  · exact absurd h2.2.1 (h1.2.2 k h2.1 h)
theorem gD_next {E : Nat → Nat → Bool} {t k x : Nat} (h : gD E t (k + 2) x) : ∃ y, E x y = true ∧ gD E t (k + 1) y := by
  obtain ⟨-, ⟨y, hy, hw⟩, hm⟩ := h
  exact ⟨y, hy, Nat.succ_pos k, hw, fun j h1 h2 h3 => hm (j + 1) (by omega) (by omega) ⟨y, hy, h3⟩⟩
/-- the layer i + 1: above a member of layer i, and in none before -/
theorem gD_layer {E : Nat → Nat → Bool} {t i x : Nat} : gD E t (i + 2) x ↔ (∃ y, E x y = true ∧ gD E t (i + 1) y) ∧ ∀ j, j ≤ i → ¬ gD E t (j + 1) x := by
  constructor
  · intro h
    refine ⟨gD_next h, fun j hj hx => ?_⟩
    have := gD_uniq h hx
    omega
  · rintro ⟨⟨y, hy, hd⟩, hn⟩
    refine ⟨by omega, ⟨y, hy, hd.2.1⟩, fun j h1 h2 hw => ?_⟩
    obtain ⟨j', h3, h4⟩ := gD_of h1 hw
    have h5 := h4.1
    exact hn (j' - 1) (by omega) (by rw [Nat.sub_add_cancel h5]; exact h4)
theorem gD_first {E : Nat → Nat → Bool} {t x : Nat} : gD E t 1 x ↔ E x t = true := by
  constructor
  · rintro ⟨-, ⟨y, hy, e⟩, -⟩
    have e : y = t := e
    subst e
    exact hy
  · intro h
    exact ⟨Nat.one_pos, gw_one h, fun j h1 h2 => by omega⟩
/-- from a place at distance k every smaller distance is met -/
theorem gD_all {E : Nat → Nat → Bool} {t : Nat} : ∀ (k x : Nat), gD E t (k + 1) x → ∀ j, j ≤ k → ∃ y, gD E t (j + 1) y
  | 0, x, h, j, hj => ⟨x, by have e : j = 0 := by omega
                             subst e; exact h⟩
  | k + 1, x, h, j, hj => by
    rcases Nat.lt_or_ge k j with hl | hl
    · have e : j = k + 1 := by omega
      subst e
      exact ⟨x, h⟩
    · obtain ⟨y, -, hy⟩ := gD_next h
      exact gD_all k y hy j hl
theorem gD_lt {E : Nat → Nat → Bool} {N t k x : Nat} (hN : gin E N) (h : gD E t k x) : x < N := (gov_lt hN (gov_of h.2.1 h.1)).1
theorem gD_le {E : Nat → Nat → Bool} {N t k x : Nat} (hN : gin E N) (h : gD E t k x) : k ≤ N := by
  obtain ⟨j, rfl⟩ : ∃ j, k = j + 1 := ⟨k - 1, by have := h.1; omega⟩
  have hall := gD_all j x h
  have hc : ∀ i : Nat, ∃ y, i ≤ j → gD E t (i + 1) y := fun i => by
    by_cases hi : i ≤ j
    · obtain ⟨y, hy⟩ := hall i hi
      exact ⟨y, fun _ => hy⟩
    · exact ⟨0, fun q => absurd q hi⟩
  refine pig N (j + 1) (fun i => Classical.choose (hc i)) (fun i hi => gD_lt hN (Classical.choose_spec (hc i) (by omega))) (fun a b ha hb he => ?_)
  have h1 := Classical.choose_spec (hc a) (by omega)
  have h2 := Classical.choose_spec (hc b) (by omega)
  have he : Classical.choose (hc a) = Classical.choose (hc b) := he
  rw [he] at h1
  have := gD_uniq h1 h2
  omega
/-- a ring from t on, the shortest, and of these the lowest: it is the only one -/
def gring (E : Nat → Nat → Bool) (t len : Nat) (p : Nat → Nat) : Prop := gD E t len t ∧ p 0 = t ∧ ∀ k, k + 1 < len → E (p k) (p (k + 1)) = true ∧ gD E t (len - 1 - k) (p (k + 1)) ∧ ∀ c, c < p (k + 1) → E (p k) c = true → ¬ gD E t (len - 1 - k) c
theorem gring_uniq {E : Nat → Nat → Bool} {t n1 n2 : Nat} {p q : Nat → Nat} (h1 : gring E t n1 p) (h2 : gring E t n2 q) : n1 = n2 ∧ ∀ k, k < n1 → p k = q k := by
  have e := gD_uniq h1.1 h2.1
  subst e
  refine ⟨rfl, fun k => ?_⟩
  induction k with
  | zero => intro _; rw [h1.2.1, h2.2.1]
  | succ k ih =>
    intro hk
    have e := ih (by omega)
    obtain ⟨a1, a2, a3⟩ := h1.2.2 k hk
    obtain ⟨b1, b2, b3⟩ := h2.2.2 k hk
    rw [← e] at b1 b3
    rcases Nat.lt_trichotomy (p (k + 1)) (q (k + 1)) with h | h | h
    · exact absurd a2 (b3 _ h a1)
    · exact h
    · exact absurd b2 (a3 _ h b1)
end
section
/-! an edge more -/
def gadd (E : Nat → Nat → Bool) (x y a b : Nat) : Bool := E a b || (decide (a = x) && decide (b = y))
theorem gadd_or {E : Nat → Nat → Bool} {x y a b : Nat} (h : gadd E x y a b = true) : E a b = true ∨ (a = x ∧ b = y) := by
  simp only [gadd, Bool.or_eq_true, Bool.and_eq_true, decide_eq_true_eq] at h
  exact h
theorem gadd_l {E : Nat → Nat → Bool} {x y a b : Nat} (h : E a b = true) : gadd E x y a b = true := by
  simp [gadd, h]
theorem gadd_r {E : Nat → Nat → Bool} {x y : Nat} : gadd E x y x y = true := by
  simp [gadd]
theorem gw_mono {E F : Nat → Nat → Bool} (h : ∀ a b, E a b = true → F a b = true) : ∀ (k x y : Nat), gw E k x y → gw F k x y
  | 0, x, y, e => e
  | k + 1, x, y, ⟨z, hz, r⟩ => ⟨z, h _ _ hz, gw_mono h k z y r⟩
theorem gadd_w {E : Nat → Nat → Bool} {x y : Nat} (k a b : Nat) (h : gw E k a b) : gw (gadd E x y) k a b := gw_mono (fun _ _ h => gadd_l h) k a b h
/-- the first coming to x needs the old edges alone -/
theorem gadd_come {E : Nat → Nat → Bool} {x y : Nat} : ∀ (j c : Nat), c ≠ x → gw (gadd E x y) j c x → ∃ i, i ≤ j ∧ gw E i c x
  | 0, c, hc, h => absurd h hc
  | j + 1, c, hc, ⟨z, hz, r⟩ => by
    rcases gadd_or hz with h | ⟨h, -⟩
    · by_cases hx : z = x
      · subst hx
        exact ⟨1, by omega, gw_one h⟩
      · obtain ⟨i, h1, h2⟩ := gadd_come j z hx r
        exact ⟨i + 1, by omega, z, h, h2⟩
    · exact absurd h hc
theorem gd_pos {E : Nat → Nat → Bool} {t k x : Nat} (hx : x ≠ t) (h : gw E k x t) : 0 < k := by
  rcases Nat.eq_zero_or_pos k with e | e
  · subst e
    exact absurd h hx
  · exact e
theorem gD_gd {E : Nat → Nat → Bool} {t k x : Nat} (hx : x ≠ t) : gD E t k x ↔ gd E t k x := by
  constructor
  · rintro ⟨h1, h2, h3⟩
    exact ⟨h2, fun j hj hw => h3 j (gd_pos hx hw) hj hw⟩
  · rintro ⟨h1, h2⟩
    exact ⟨gd_pos hx h1, h1, fun j _ hj hw => h2 j hj hw⟩
theorem gd_uniq {E : Nat → Nat → Bool} {t j k x : Nat} (h1 : gd E t j x) (h2 : gd E t k x) : j = k := by
  rcases Nat.lt_trichotomy j k with h | h | h
  · exact absurd h1.1 (h2.2 j h)
  · exact h
  · exact absurd h2.1 (h1.2 k h)
theorem gadd_D {E : Nat → Nat → Bool} {x y c k : Nat} (hc : c ≠ x) : gD (gadd E x y) x k c ↔ gd E x k c := by
  rw [gD_gd hc]
  constructor
  · rintro ⟨h1, h2⟩
    obtain ⟨i, h3, h4⟩ := gadd_come k c hc h1
    have e : i = k := by
      rcases Nat.lt_or_ge i k with q | q
      · exact absurd (gadd_w i c x h4) (h2 i q)
      · omega
    subst e
    exact ⟨h4, fun j hj hw => h2 j hj (gadd_w j c x hw)⟩
  · rintro ⟨h1, h2⟩
    refine ⟨gadd_w k c x h1, fun j hj hw => ?_⟩
    obtain ⟨i, h3, h4⟩ := gadd_come j c hc hw
    exact h2 i (by omega) h4
theorem gadd_self {E : Nat → Nat → Bool} {x y d : Nat} (hac : ¬ gov E x x) (hxy : y ≠ x) (hd : gd E x d y) : gD (gadd E x y) x (d + 1) x := by
  refine ⟨Nat.succ_pos d, ⟨y, gadd_r, gadd_w d y x hd.1⟩, fun j h1 h2 hw => ?_⟩
  obtain ⟨i, rfl⟩ : ∃ i, j = i + 1 := ⟨j - 1, by omega⟩
  obtain ⟨z, hz, r⟩ := hw
  rcases gadd_or hz with h | ⟨-, h⟩
  · by_cases hx : z = x
    · subst hx
      exact hac (gov_one h)
    · obtain ⟨i', -, h4⟩ := gadd_come i z hx r
      exact hac (gov_trans (gov_one h) (gov_of h4 (gd_pos hx h4)))
  · subst h
    obtain ⟨i', h3, h4⟩ := gadd_come i z hxy r
    exact hd.2 i' (by omega) h4
/-- the ring that an edge x over y would close: x, then the lowest shortest way from y -/
theorem ring_edge {E : Nat → Nat → Bool} {x y d : Nat} {q : Nat → Nat} (hac : ¬ gov E x x) (hxy : y ≠ x) (hd : gd E x d y) (h0 : q 0 = x) (h1 : q 1 = y)
    (hs : ∀ k, 1 ≤ k → k < d → E (q k) (q (k + 1)) = true ∧ gd E x (d - k) (q (k + 1)) ∧ ∀ c, c < q (k + 1) → E (q k) c = true → ¬ gd E x (d - k) c) : gring (gadd E x y) x (d + 1) q := by
  have hne : ∀ k, 1 ≤ k → k ≤ d → q k ≠ x := by
    intro k hk hkd
    rcases Nat.lt_or_ge 1 k with h | h
    · obtain ⟨j, rfl⟩ : ∃ j, k = j + 1 := ⟨k - 1, by omega⟩
      have h2 := (hs j (by omega) (by omega)).2.1
      intro e
      rw [e] at h2
      exact h2.2 0 (by omega) rfl
    · have e : k = 1 := by omega
      subst e
      rw [h1]
      exact hxy
  refine ⟨gadd_self hac hxy hd, h0, fun k hk => ?_⟩
  have e1 : d + 1 - 1 - k = d - k := by omega
  rw [e1]
  rcases Nat.eq_zero_or_pos k with h | h
  · subst h
    rw [h0, h1, Nat.sub_zero]
    refine ⟨gadd_r, (gadd_D hxy).mpr hd, fun c hc he hD => ?_⟩
    rcases gadd_or he with h | ⟨-, h⟩
    · by_cases hx : c = x
      · subst hx
        exact hac (gov_one h)
      · have h2 := (gadd_D hx).mp hD
        exact hac (gov_trans (gov_one h) (gov_of h2.1 (gd_pos hx h2.1)))
    · omega
  · obtain ⟨a1, a2, a3⟩ := hs k h (by omega)
    refine ⟨gadd_l a1, (gadd_D (hne (k + 1) (by omega) (by omega))).mpr a2, fun c hc he hD => ?_⟩
    rcases gadd_or he with h' | ⟨h', -⟩
    · have hx : c ≠ x := by
        intro e
        subst e
        have h3 := gadd_self hac hxy hd
        have := gD_uniq hD h3
        omega
      exact a3 c hc h' ((gadd_D hx).mp hD)
    · exact absurd h' (hne k h (by omega))
/-! the same for the edge that leads back from the lower one w to the upper one u -/
theorem gback_come {E : Nat → Nat → Bool} {u w : Nat} : ∀ (j c : Nat), ¬ gov E c u → gw (gadd E w u) (j + 1) c u → ∃ i, i ≤ j ∧ gw E i c w
  | j, c, hc, ⟨z, hz, r⟩ => by
    rcases gadd_or hz with h | ⟨h, -⟩
    · cases j with
      | zero =>
        have e : z = u := r
        subst e
        exact absurd (gov_one h) hc
      | succ j =>
        obtain ⟨i, h1, h2⟩ := gback_come j z (fun q => hc (gov_trans (gov_one h) q)) r
        exact ⟨i + 1, by omega, z, h, h2⟩
    · subst h
      exact ⟨0, Nat.zero_le j, rfl⟩
theorem gback_go {E : Nat → Nat → Bool} {u w i c : Nat} (h : gw E i c w) : gw (gadd E w u) (i + 1) c u := gw_add i 1 c w u (gadd_w i c w h) (gw_one gadd_r)
theorem gback_D {E : Nat → Nat → Bool} {u w c k : Nat} (hc : ¬ gov E c u) : gD (gadd E w u) u (k + 1) c ↔ gd E w k c := by
  constructor
  · rintro ⟨-, h1, h2⟩
    obtain ⟨i, h3, h4⟩ := gback_come k c hc h1
    have e : i = k := by
      rcases Nat.lt_or_ge i k with q | q
      · exact absurd (gback_go h4) (h2 (i + 1) (by omega) (by omega))
      · omega
    subst e
    exact ⟨h4, fun j hj hw => h2 (j + 1) (by omega) (by omega) (gback_go hw)⟩
  · rintro ⟨h1, h2⟩
    refine ⟨Nat.succ_pos k, gback_go h1, fun j h3 h4 hw => ?_⟩
    obtain ⟨j, rfl⟩ : ∃ i, j = i + 1 := ⟨j - 1, by omega⟩
    obtain ⟨i, h5, h6⟩ := gback_come j c hc hw
    exact h2 i (by omega) h6
theorem ring_back {E : Nat → Nat → Bool} {u w d : Nat} {q : Nat → Nat} (hac : ∀ z, ¬ gov E z z) (hd : gd E w d u) (h0 : q 0 = u)
    (hs : ∀ k, k < d → E (q k) (q (k + 1)) = true ∧ gd E w (d - 1 - k) (q (k + 1)) ∧ ∀ c, c < q (k + 1) → E (q k) c = true → ¬ gd E w (d - 1 - k) c) : gring (gadd E w u) u (d + 1) q := by
  have hun : ∀ k, k ≤ d → q k = u ∨ gov E u (q k) := by
    intro k
    induction k with
    | zero => intro _; exact Or.inl h0
    | succ k ih =>
      intro hk
      have h1 := (hs k (by omega)).1
      rcases ih (by omega) with h | h
      · rw [h] at h1
        exact Or.inr (gov_one h1)
      · exact Or.inr (gov_trans h (gov_one h1))
  have hnot : ∀ k c, k ≤ d → E (q k) c = true → ¬ gov E c u := by
    intro k c hk he hg
    rcases hun k hk with h | h
    · rw [h] at he
      exact hac u (gov_trans (gov_one he) hg)
    · exact hac u (gov_trans h (gov_trans (gov_one he) hg))
  have hfar : ∀ k, k ≤ d → gd E w (d - k) (q k) := by
    intro k hk
    cases k with
    | zero => rw [h0]; exact hd
    | succ k =>
      have h1 := (hs k (by omega)).2.1
      have e : d - (k + 1) = d - 1 - k := by omega
      rw [e]
      exact h1
  refine ⟨(gback_D (hac u)).mpr hd, h0, fun k hk => ?_⟩
  obtain ⟨a1, a2, a3⟩ := hs k (by omega)
  have e1 : d + 1 - 1 - k = d - 1 - k + 1 := by omega
  rw [e1]
  refine ⟨gadd_l a1, (gback_D (hnot k _ (by omega) a1)).mpr a2, fun c hc he hD => ?_⟩
  rcases gadd_or he with h | ⟨h, -⟩
  · exact a3 c hc h ((gback_D (hnot k _ (by omega) h)).mp hD)
  · have h2 := hfar k (by omega)
    rw [h] at h2
    exact h2.2 0 (by omega) rfl
/-- the ring from t on, by distances to t; nothing is added -/
theorem ring_plain {E : Nat → Nat → Bool} {t d : Nat} {q : Nat → Nat} (hg : ∃ g, E t g = true ∧ gd E t d g) (hmin : ∀ g j, E t g = true → gw E j g t → d ≤ j) (h0 : q 0 = t)
    (hs : ∀ k, k < d → E (q k) (q (k + 1)) = true ∧ gd E t (d - k) (q (k + 1)) ∧ ∀ c, c < q (k + 1) → E (q k) c = true → ¬ gd E t (d - k) c) : gring E t (d + 1) q := by
  obtain ⟨g, hg1, hg2⟩ := hg
  have hself : gD E t (d + 1) t := by
    refine ⟨Nat.succ_pos d, ⟨g, hg1, hg2.1⟩, fun j h1 h2 hw => ?_⟩
    obtain ⟨j, rfl⟩ : ∃ i, j = i + 1 := ⟨j - 1, by omega⟩
    obtain ⟨z, hz, r⟩ := hw
    have := hmin z j hz r
    omega
  refine ⟨hself, h0, fun k hk => ?_⟩
  obtain ⟨a1, a2, a3⟩ := hs k (by omega)
  have e1 : d + 1 - 1 - k = d - k := by omega
  rw [e1]
  have hne : q (k + 1) ≠ t := by
    intro e
    rw [e] at a2
    exact a2.2 0 (by omega) rfl
  refine ⟨a1, (gD_gd hne).mpr a2, fun c hc he hD => ?_⟩
  by_cases hx : c = t
  · subst hx
    have := gD_uniq hD hself
    omega
  · exact a3 c hc he ((gD_gd hx).mp hD)
/-! distances by the numbers that relaxing ends with -/
def gfar (E : Nat → Nat → Bool) (t N : Nat) (far : Nat → Nat) : Prop := far t = 0 ∧ (∀ x, x < N → far x ≤ 99 ∧ (far x < 99 → gw E (far x) x t)) ∧ ∀ x y, E x y = true → far x ≤ far y + 1
theorem gfar_le {E : Nat → Nat → Bool} {t N : Nat} {far : Nat → Nat} (h : gfar E t N far) : ∀ (k x : Nat), gw E k x t → far x ≤ k
  | 0, x, e => by
    have e : x = t := e
    subst e
    have := h.1
    omega
  | k + 1, x, ⟨z, hz, r⟩ => by
    have h1 := gfar_le h k z r
    have h2 := h.2.2 x z hz
    omega
theorem gfar_gd {E : Nat → Nat → Bool} {t N x k : Nat} {far : Nat → Nat} (h : gfar E t N far) (hx : x < N) (hk : k < 99) : far x = k ↔ gd E t k x := by
  constructor
  · intro e
    subst e
    refine ⟨(h.2.1 x hx).2 hk, fun j hj hw => ?_⟩
    have := gfar_le h j x hw
    omega
  · intro hd
    have h1 := gfar_le h k x hd.1
    have h2 := (h.2.1 x hx).2 (by omega)
    rcases Nat.lt_or_ge (far x) k with q | q
    · exact absurd h2 (hd.2 _ q)
    · omega
theorem gd_of {E : Nat → Nat → Bool} {t k x : Nat} (h : gw E k x t) : ∃ j, j ≤ k ∧ gd E t j x := by
  obtain ⟨j, h1, h2, h3⟩ := least_of (P := fun j => gw E j x t) h
  exact ⟨j, h1, h2, h3⟩
theorem gd_le {E : Nat → Nat → Bool} {N t k x : Nat} (hN : gin E N) (h : gd E t k x) : k ≤ N := by
  by_cases hx : x = t
  · subst hx
    rcases Nat.eq_zero_or_pos k with e | e
    · omega
    · exact absurd rfl (h.2 0 e)
  · exact gD_le hN ((gD_gd hx).mpr h)
theorem gd_next {E : Nat → Nat → Bool} {t k x : Nat} (h : gd E t (k + 1) x) : ∃ y, E x y = true ∧ gd E t k y := by
  obtain ⟨⟨y, hy, hw⟩, hm⟩ := h
  exact ⟨y, hy, hw, fun j h2 h3 => hm (j + 1) (by omega) ⟨y, hy, h3⟩⟩
/-! the longest way down to a place -/
def glong (E : Nat → Nat → Bool) (t m : Nat) : Prop := (∃ z, gw E m z t) ∧ ∀ k z, gw E k z t → k ≤ m
theorem glong_uniq {E : Nat → Nat → Bool} {t a b : Nat} (h1 : glong E t a) (h2 : glong E t b) : a = b := by
  obtain ⟨⟨x, hx⟩, h1⟩ := h1
  obtain ⟨⟨y, hy⟩, h2⟩ := h2
  have := h1 _ _ hy
  have := h2 _ _ hx
  omega
theorem gw_places {E : Nat → Nat → Bool} : ∀ (k x y : Nat), gw E k x y → ∃ f : Nat → Nat, f 0 = x ∧ f k = y ∧ ∀ i, i < k → E (f i) (f (i + 1)) = true
  | 0, x, y, e => ⟨fun _ => x, rfl, e, fun i hi => absurd hi (Nat.not_lt_zero _)⟩
  | k + 1, x, y, ⟨z, hz, r⟩ => by
    obtain ⟨f, h1, h2, h3⟩ := gw_places k z y r
    refine ⟨fun i => match i with
      | 0 => x
      | i + 1 => f i, rfl, h2, fun i hi => ?_⟩
    cases i with
    | zero =>
      show E x (f 0) = true
      rw [h1]
      exact hz
    | succ i => exact h3 i (by omega)
theorem gw_seg {E : Nat → Nat → Bool} {f : Nat → Nat} {k : Nat} (h : ∀ i, i < k → E (f i) (f (i + 1)) = true) : ∀ (d i : Nat), i + d ≤ k → gw E d (f i) (f (i + d))
  | 0, i, _ => rfl
  | d + 1, i, hi => by
    refine ⟨f (i + 1), h i (by omega), ?_⟩
    have h1 := gw_seg h d (i + 1) (by omega)
    rw [show i + (d + 1) = i + 1 + d by omega]
    exact h1
theorem gw_short {E : Nat → Nat → Bool} {N k x y : Nat} (hN : gin E N) (hac : ∀ z, ¬ gov E z z) (hk : 0 < k) (h : gw E k x y) : k < N := by
  obtain ⟨f, h1, h2, h3⟩ := gw_places k x y h
  refine pig N (k + 1) f (fun i hi => ?_) (fun a b ha hb he => ?_)
  · rcases Nat.lt_or_ge i k with q | q
    · exact (hN _ _ (h3 i q)).1
    · obtain ⟨j, rfl⟩ : ∃ j, i = j + 1 := ⟨i - 1, by omega⟩
      exact (hN _ _ (h3 j (by omega))).2
  · rcases Nat.lt_trichotomy a b with q | q | q
    · have hw := gw_seg h3 (b - a) a (by omega)
      rw [show a + (b - a) = b by omega, ← he] at hw
      exact absurd (gov_of hw (by omega)) (hac _)
    · exact q
    · have hw := gw_seg h3 (a - b) b (by omega)
      rw [show b + (a - b) = a by omega, he] at hw
      exact absurd (gov_of hw (by omega)) (hac _)
/-- by the numbers that relaxing downwards ends with -/
theorem glong_far {E : Nat → Nat → Bool} {N : Nat} {far : Nat → Nat} (hw : ∀ x, x < N → ∃ z, gw E (far x) z x) (he : ∀ x y, E x y = true → far x + 1 ≤ far y) {t : Nat} (ht : t < N) : glong E t (far t) := by
  refine ⟨hw t ht, ?_⟩
  have key : ∀ (k z y : Nat), gw E k z y → far z + k ≤ far y := by
    intro k
    induction k with
    | zero =>
      intro z y e
      have e : z = y := e
      subst e
      omega
    | succ k ih =>
      rintro z y ⟨w, hz, r⟩
      have h1 := ih w y r
      have h2 := he z w hz
      omega
  intro k z h
  have := key k z t h
  omega
/-- by rounds: after i rounds those are left that have a way of more than i steps down to t -/
theorem glong_rounds {E : Nat → Nat → Bool} {t c : Nat} (h0 : ∀ z k, c < k → ¬ gw E k z t) (h1 : 0 < c → ∃ z k, c ≤ k ∧ gw E k z t) : glong E t c := by
  have hle : ∀ k z, gw E k z t → k ≤ c := by
    intro k z h
    rcases Nat.lt_or_ge c k with q | q
    · exact absurd h (h0 z k q)
    · exact q
  refine ⟨?_, hle⟩
  rcases Nat.eq_zero_or_pos c with e | e
  · subst e
    exact ⟨t, rfl⟩
  · obtain ⟨z, k, h2, h3⟩ := h1 e
    have := hle k z h3
    have e : k = c := by omega
    subst e
    exact ⟨z, h3⟩
end
section
/-! what was told: a r, b r the two contexts of relation r; eq r: it counts and says that they are one; ab r: it counts and says that a r is above b r -/
def jnum (a b : Nat → Nat) (eq : Nat → Bool) : Nat → Nat → Nat
  | 0, c => c
  | r + 1, c => if eq r = true ∧ jnum a b eq r c = max (jnum a b eq r (a r)) (jnum a b eq r (b r)) then min (jnum a b eq r (a r)) (jnum a b eq r (b r)) else jnum a b eq r c
def jfix (a b : Nat → Nat) (eq : Nat → Bool) (R : Nat) (f : Nat → Nat) : Prop := ∀ r, r < R → eq r = true → f (a r) = f (b r)
def jok (a b : Nat → Nat) (eq : Nat → Bool) (R : Nat) (m : Nat → Nat) : Prop := jfix a b eq R m ∧ ∀ c, m c ≤ c ∧ ∀ f, jfix a b eq R f → f (m c) = f c
theorem jok_uniq {a b : Nat → Nat} {eq : Nat → Bool} {R : Nat} {m n : Nat → Nat} (h1 : jok a b eq R m) (h2 : jok a b eq R n) (c : Nat) : m c = n c := by
  have e1 := (h1.2 c).2 n h2.1
  have e2 := (h2.2 c).2 m h1.1
  have l1 := (h1.2 (n c)).1
  have l2 := (h2.2 (m c)).1
  omega
theorem jnum_ok {a b : Nat → Nat} {eq : Nat → Bool} : ∀ R, jok a b eq R (jnum a b eq R)
  | 0 => ⟨fun r h => absurd h (Nat.not_lt_zero _), fun c => ⟨Nat.le_refl c, fun _ _ => rfl⟩⟩
  | R + 1 => by
    obtain ⟨h1, h2⟩ := jnum_ok (a := a) (b := b) (eq := eq) R
    by_cases he : eq R = true
    · have hd : ∀ c, jnum a b eq (R + 1) c = if jnum a b eq R c = max (jnum a b eq R (a R)) (jnum a b eq R (b R)) then min (jnum a b eq R (a R)) (jnum a b eq R (b R)) else jnum a b eq R c := by
        intro c
        simp only [jnum, he, true_and]
      generalize hm : jnum a b eq R = m at h1 h2 hd
      refine ⟨fun r hr her => ?_, fun c => ⟨?_, fun f hf => ?_⟩⟩
      · rw [hd, hd]
        rcases Nat.lt_or_ge r R with q | q
        · rw [h1 r q her]
        · have e : r = R := by omega
          subst e
          by_cases g1 : m (a r) = max (m (a r)) (m (b r)) <;> by_cases g2 : m (b r) = max (m (a r)) (m (b r))
          · rw [if_pos g1, if_pos g2]
          · rw [if_pos g1, if_neg g2]
            omega
          · rw [if_neg g1, if_pos g2]
            omega
          · omega
      · rw [hd]
        have l := (h2 c).1
        by_cases g1 : m c = max (m (a R)) (m (b R))
        · rw [if_pos g1]
          omega
        · rw [if_neg g1]
          exact l
      · rw [hd]
        have hf' : jfix a b eq R f := fun r hr => hf r (by omega)
        have e1 := (h2 c).2 f hf'
        have e2 := (h2 (a R)).2 f hf'
        have e3 := (h2 (b R)).2 f hf'
        have e4 := hf R (by omega) he
        by_cases g1 : m c = max (m (a R)) (m (b R))
        · rw [if_pos g1]
          rw [← e1, g1]
          rcases Nat.le_total (m (a R)) (m (b R)) with q | q
          · rw [Nat.min_eq_left q, Nat.max_eq_right q, e2, e3, e4]
          · rw [Nat.min_eq_right q, Nat.max_eq_left q, e2, e3, e4]
        · rw [if_neg g1]
          exact e1
    · have hd : ∀ c, jnum a b eq (R + 1) c = jnum a b eq R c := by
        intro c
        simp [jnum, he]
      refine ⟨fun r hr her => ?_, fun c => ⟨?_, fun f hf => ?_⟩⟩
      · rw [hd, hd]
        rcases Nat.lt_or_ge r R with q | q
        · exact h1 r q her
        · have e : r = R := by omega
          subst e
          exact absurd her he
      · rw [hd]
        exact (h2 c).1
      · rw [hd]
        exact (h2 c).2 f (fun r hr => hf r (by omega))
theorem jnum_le {a b : Nat → Nat} {eq : Nat → Bool} (R c : Nat) : jnum a b eq R c ≤ c := ((jnum_ok R).2 c).1
theorem jnum_same {a b : Nat → Nat} {eq : Nat → Bool} {R : Nat} (h : eq R = false) (c : Nat) : jnum a b eq (R + 1) c = jnum a b eq R c := by
  simp [jnum, h]
/-- a joined one's number is its own -/
theorem jnum_idem {a b : Nat → Nat} {eq : Nat → Bool} (R c : Nat) : jnum a b eq R (jnum a b eq R c) = jnum a b eq R c :=
  ((jnum_ok (a := a) (b := b) (eq := eq) R).2 c).2 _ (jnum_ok R).1
theorem jnum_congr {a b a' b' : Nat → Nat} {eq eq' : Nat → Bool} : ∀ (R c : Nat), (∀ r, r < R → a r = a' r ∧ b r = b' r ∧ eq r = eq' r) → jnum a b eq R c = jnum a' b' eq' R c
  | 0, c, _ => rfl
  | R + 1, c, h => by
    obtain ⟨h1, h2, h3⟩ := h R (by omega)
    have ih : ∀ c, jnum a b eq R c = jnum a' b' eq' R c := fun c => jnum_congr R c (fun r hr => h r (by omega))
    simp only [jnum, h1, h2, h3, ih]
/-! the steps between the joined ones -/
def jst (a b m : Nat → Nat) (ab : Nat → Bool) : Nat → Nat → Nat → Bool
  | 0, _, _ => false
  | r + 1, x, y => jst a b m ab r x y || (ab r && decide (m (a r) = x) && decide (m (b r) = y))
theorem jst_iff {a b m : Nat → Nat} {ab : Nat → Bool} : ∀ (R x y : Nat), jst a b m ab R x y = true ↔ ∃ r, r < R ∧ ab r = true ∧ m (a r) = x ∧ m (b r) = y
  | 0, x, y => by
    constructor
    · intro h
      cases h
    · rintro ⟨r, h, -⟩
      exact absurd h (Nat.not_lt_zero _)
  | R + 1, x, y => by
    simp only [jst, Bool.or_eq_true, Bool.and_eq_true, decide_eq_true_eq, jst_iff R x y]
    constructor
    · rintro (⟨r, h1, h2⟩ | ⟨⟨h1, h2⟩, h3⟩)
      · exact ⟨r, by omega, h2⟩
      · exact ⟨R, by omega, h1, h2, h3⟩
    · rintro ⟨r, h1, h2, h3, h4⟩
      rcases Nat.lt_or_ge r R with q | q
      · exact Or.inl ⟨r, q, h2, h3, h4⟩
      · have e : r = R := by omega
        subst e
        exact Or.inr ⟨⟨h2, h3⟩, h4⟩
theorem jst_congr {a b a' b' m m' : Nat → Nat} {ab ab' : Nat → Bool} : ∀ (R x y : Nat), (∀ r, r < R → ab r = ab' r ∧ m (a r) = m' (a' r) ∧ m (b r) = m' (b' r)) → jst a b m ab R x y = jst a' b' m' ab' R x y
  | 0, x, y, _ => rfl
  | R + 1, x, y, h => by
    obtain ⟨h1, h2, h3⟩ := h R (by omega)
    have ih := jst_congr R x y (fun r hr => h r (by omega))
    simp only [jst, h1, h2, h3, ih]
theorem jst_in {a b m : Nat → Nat} {ab : Nat → Bool} {R n N : Nat} (hn : n ≤ N) (hm : ∀ c, m c ≤ c) (hr : ∀ r, r < R → a r < n ∧ b r < n) : gin (jst a b m ab R) N := by
  intro x y h
  obtain ⟨r, h1, -, h3, h4⟩ := (jst_iff R x y).mp h
  have h5 := hr r h1
  have h6 := hm (a r)
  have h7 := hm (b r)
  omega
/-! no rings: kept by an edge, by a joining, by an undoing -/
theorem acyc_edge {E : Nat → Nat → Bool} {x y : Nat} (hac : ∀ z, ¬ gov E z z) (hxy : x ≠ y) (hno : ¬ gov E y x) : ∀ z, ¬ gov (gadd E x y) z z := by
  have key : ∀ (k u v : Nat), gw (gadd E x y) (k + 1) u v → gov E u v ∨ ((u = x ∨ gov E u x) ∧ (v = y ∨ gov E y v)) := by
    apply gov_into
    · intro u v h
      rcases gadd_or h with h | ⟨h1, h2⟩
      · exact Or.inl (gov_one h)
      · exact Or.inr ⟨Or.inl h1, Or.inl h2⟩
    · rintro u v w (h1 | ⟨h1, h1'⟩) (h2 | ⟨h2, h2'⟩)
      · exact Or.inl (gov_trans h1 h2)
      · refine Or.inr ⟨Or.inr ?_, h2'⟩
        rcases h2 with h2 | h2
        · rw [← h2]; exact h1
        · exact gov_trans h1 h2
      · refine Or.inr ⟨h1, Or.inr ?_⟩
        rcases h1' with h1' | h1'
        · rw [← h1']; exact h2
        · exact gov_trans h1' h2
      · exact Or.inr ⟨h1, h2'⟩
  rintro z ⟨k, h⟩
  rcases key k z z h with h | ⟨h1, h2⟩
  · exact hac z h
  · rcases h1 with h1 | h1 <;> rcases h2 with h2 | h2
    · exact hxy (h1.symm.trans h2)
    · rw [h1] at h2
      exact hno h2
    · rw [h2] at h1
      exact hno h1
    · exact hno (gov_trans h2 h1)
/-- f puts y and x into one place, and moves nothing else -/
theorem acyc_join {E E' : Nat → Nat → Bool} {x y : Nat} {f : Nat → Nat} (hac : ∀ z, ¬ gov E z z) (h1 : ¬ gov E x y) (h2 : ¬ gov E y x) (hf : ∀ u v, f u = f v → u = v ∨ (u = x ∧ v = y) ∨ (u = y ∧ v = x)) (he : ∀ u v, E' u v = true → ∃ p q, f p = u ∧ f q = v ∧ E p q = true) : ∀ z, ¬ gov E' z z := by
  have out : ∀ p, (gov E x p ∨ gov E y p) → (gov E p x ∨ gov E p y) → False := by
    rintro p (a | a) (b | b)
    · exact hac x (gov_trans a b)
    · exact h1 (gov_trans a b)
    · exact h2 (gov_trans a b)
    · exact hac y (gov_trans a b)
  have key : ∀ (k u v : Nat), gw E' (k + 1) u v → ∃ p q, f p = u ∧ f q = v ∧ (gov E p q ∨ ((gov E p x ∨ gov E p y) ∧ (gov E x q ∨ gov E y q))) := by
    apply gov_into
    · intro u v h
      obtain ⟨p, q, e1, e2, h⟩ := he u v h
      exact ⟨p, q, e1, e2, Or.inl (gov_one h)⟩
    · rintro u v w ⟨p, q, e1, e2, g1⟩ ⟨p', q', e3, e4, g2⟩
      have hl : (gov E p x ∨ gov E p y) → (gov E x q' ∨ gov E y q') → ∃ p q, f p = u ∧ f q = w ∧ (gov E p q ∨ ((gov E p x ∨ gov E p y) ∧ (gov E x q ∨ gov E y q))) := fun c1 c2 => ⟨p, q', e1, e4, Or.inr ⟨c1, c2⟩⟩
      have left : ∀ z, z = x ∨ z = y → gov E p z → (gov E p x ∨ gov E p y) := by
        rintro z (rfl | rfl) h
        · exact Or.inl h
        · exact Or.inr h
      have right : ∀ z, z = x ∨ z = y → gov E z q' → (gov E x q' ∨ gov E y q') := by
        rintro z (rfl | rfl) h
        · exact Or.inl h
        · exact Or.inr h
      rcases hf q p' (e2.trans e3.symm) with e | e
      · subst e
        rcases g1 with g1 | ⟨g1, g1'⟩ <;> rcases g2 with g2 | ⟨g2, g2'⟩
        · exact ⟨p, q', e1, e4, Or.inl (gov_trans g1 g2)⟩
        · refine hl ?_ g2'
          rcases g2 with g2 | g2
          · exact Or.inl (gov_trans g1 g2)
          · exact Or.inr (gov_trans g1 g2)
        · refine hl g1 ?_
          rcases g1' with g1' | g1'
          · exact Or.inl (gov_trans g1' g2)
          · exact Or.inr (gov_trans g1' g2)
        · exact hl g1 g2'
      · have hq : q = x ∨ q = y := by
          rcases e with e | e
          · exact Or.inl e.1
          · exact Or.inr e.1
        have hp : p' = x ∨ p' = y := by
          rcases e with e | e
          · exact Or.inr e.2
          · exact Or.inl e.2
        rcases g1 with g1 | ⟨g1, g1'⟩ <;> rcases g2 with g2 | ⟨g2, g2'⟩
        · exact hl (left q hq g1) (right p' hp g2)
        · exact hl (left q hq g1) g2'
        · exact hl g1 (right p' hp g2)
        · exact hl g1 g2'
  rintro z ⟨k, h⟩
  obtain ⟨p, q, e1, e2, g⟩ := key k z z h
  rcases hf p q (e1.trans e2.symm) with e | e
  · subst e
    rcases g with g | ⟨g1, g2⟩
    · exact hac p g
    · exact out p g2 g1
  · rcases g with g | ⟨g1, g2⟩
    · rcases e with ⟨e3, e4⟩ | ⟨e3, e4⟩
      · rw [e3, e4] at g
        exact h1 g
      · rw [e3, e4] at g
        exact h2 g
    · rcases e with ⟨e3, e4⟩ | ⟨e3, e4⟩
      · rw [e3] at g1
        rcases g1 with g1 | g1
        · exact hac x g1
        · exact h1 g1
      · rw [e3] at g1
        rcases g1 with g1 | g1
        · exact h2 g1
        · exact hac y g1
theorem acyc_map {E E' : Nat → Nat → Bool} {f : Nat → Nat} (hac : ∀ z, ¬ gov E z z) (he : ∀ u v, E' u v = true → E (f u) (f v) = true) : ∀ z, ¬ gov E' z z := by
  rintro z ⟨k, h⟩
  exact hac _ (gov_map (f := f) (fun u v q => gov_one (he u v q)) k z z h)
end
section
/-! a long as a set of numbers below 64 -/
def lb (w : Int64) (j : Nat) : Bool := w.toBitVec.getLsbD j
theorem lb_ext {x y : Int64} (h : ∀ j, j < 64 → lb x j = lb y j) : x = y := by
  rw [← Int64.toBitVec_inj]
  exact BitVec.eq_of_getLsbD_eq (fun i hi => h i hi)
theorem lb_big {x : Int64} {j : Nat} (h : 64 ≤ j) : lb x j = false := BitVec.getLsbD_of_ge _ _ h
theorem lb_0 (j : Nat) : lb 0 j = false := by
  show (0#64).getLsbD j = false
  simp
theorem lb_and (x y : Int64) (j : Nat) : lb (x &&& y) j = (lb x j && lb y j) := by
  simp only [lb, Int64.toBitVec_and, BitVec.getLsbD_and]
theorem lb_or (x y : Int64) (j : Nat) : lb (x ||| y) j = (lb x j || lb y j) := by
  simp only [lb, Int64.toBitVec_or, BitVec.getLsbD_or]
theorem lb_not (x : Int64) {j : Nat} (hj : j < 64) : lb (x ^^^ (-1)) j = !lb x j := by
  have e : (-1 : Int64).toBitVec = BitVec.allOnes 64 := by decide +kernel
  simp only [lb, Int64.toBitVec_xor, BitVec.getLsbD_xor, e, BitVec.getLsbD_allOnes, hj, decide_true, Bool.xor_true]
theorem lb_pow : ∀ k, k < 64 → ((1 : Int64) <<< ((nI k).toInt64 &&& 63)).toBitVec = BitVec.twoPow 64 k := by decide +kernel
theorem lb_one {k : Nat} (hk : k < 64) (j : Nat) : lb ((1 : Int64) <<< ((nI k).toInt64 &&& 63)) j = decide (j = k) := by
  simp only [lb, lb_pow k hk, BitVec.getLsbD_twoPow, hk, decide_true, Bool.true_and]
  by_cases h : k = j
  · subst h; simp
  · simp [h, Ne.symm h]
theorem lb_cnt : ∀ k, k < 64 → ((nI k).toInt64.toUInt64 &&& Int64.toUInt64 63).toNat = k := by decide +kernel
theorem lb_shr {k : Nat} (hk : k < 64) (w : Int64) : ((w.toUInt64 >>> ((nI k).toInt64.toUInt64 &&& Int64.toUInt64 63)).toInt64 &&& 1) = 0 ↔ lb w k = false := by
  generalize hs : ((nI k).toInt64.toUInt64 &&& Int64.toUInt64 63) = s
  have hs2 : s.toNat = k := by rw [← hs]; exact lb_cnt k hk
  have e : (w.toUInt64 >>> s).toInt64.toBitVec = w.toBitVec >>> k := by
    apply BitVec.eq_of_toNat_eq
    show (w.toUInt64 >>> s).toNat = _
    rw [UInt64.toNat_shiftRight, hs2, Nat.mod_eq_of_lt hk, BitVec.toNat_ushiftRight]
    rfl
  rw [← Int64.toBitVec_inj, Int64.toBitVec_and, e]
  show w.toBitVec >>> k &&& 1#64 = 0#64 ↔ _
  constructor
  · intro h
    have t := congrArg (fun x => x.getLsbD 0) h
    simpa [lb] using t
  · intro h
    have h : w.toBitVec.getLsbD k = false := h
    apply BitVec.eq_of_getLsbD_eq
    intro i hi
    cases i with
    | zero => simp [h]
    | succ i => simp
theorem lcmp_eq {x y : Int64} : lg_cmp x y = 0 ↔ x = y := by
  unfold lg_cmp
  by_cases h1 : y < x
  · rw [if_pos h1]
    constructor
    · intro h; exact absurd h (by decide)
    · intro h; subst h; exact absurd h1 (Int64.lt_irrefl)
  · rw [if_neg h1]
    by_cases h2 : x = y
    · simp [h2]
    · rw [if_neg h2]
      constructor
      · intro h; exact absurd h (by decide)
      · intro h; exact absurd h h2
theorem lb_ne0 {x : Int64} (h : ¬ x = 0) : ∃ j, j < 64 ∧ lb x j = true := by
  refine Classical.byContradiction fun q => h (lb_ext fun j hj => ?_)
  rw [lb_0]
  cases hb : lb x j with
  | false => rfl
  | true => exact absurd ⟨j, hj, hb⟩ q
theorem lb_eq0 {x : Int64} (h : x = 0) (j : Nat) : lb x j = false := by rw [h]; exact lb_0 j
/-! how many numbers below n have a property -/
def cnt (P : Nat → Bool) : Nat → Nat
  | 0 => 0
  | n + 1 => cnt P n + (if P n = true then 1 else 0)
theorem cnt_t {P : Nat → Bool} {n : Nat} (h : P n = true) : cnt P (n + 1) = cnt P n + 1 := by simp [cnt, h]
theorem cnt_f {P : Nat → Bool} {n : Nat} (h : P n = false) : cnt P (n + 1) = cnt P n := by simp [cnt, h]
theorem cnt_le (P : Nat → Bool) : ∀ n, cnt P n ≤ n
  | 0 => Nat.le_refl 0
  | n + 1 => by
    have := cnt_le P n
    simp only [cnt]
    split <;> omega
theorem cnt_mono (P : Nat → Bool) {a b : Nat} (h : a ≤ b) : cnt P a ≤ cnt P b := by
  induction b with
  | zero =>
    have e : a = 0 := by omega
    subst e
    exact Nat.le_refl _
  | succ b ih =>
    rcases Nat.lt_or_ge b a with q | q
    · have e : a = b + 1 := by omega
      subst e
      exact Nat.le_refl _
    · have := ih q
      simp only [cnt]
      omega
theorem cnt_congr {P P' : Nat → Bool} : ∀ n, (∀ j, j < n → P j = P' j) → cnt P n = cnt P' n
  | 0, _ => rfl
  | n + 1, h => by simp only [cnt, h n (by omega), cnt_congr n (fun j hj => h j (by omega))]
theorem cnt_stop {P : Nat → Bool} {a : Nat} (h : ∀ j, a ≤ j → P j = false) : ∀ k, cnt P (a + k) = cnt P a
  | 0 => rfl
  | k + 1 => by
    show cnt P (a + k + 1) = _
    rw [cnt_f (h _ (by omega)), cnt_stop h k]
/-- the place of the k-th one is told by the count before it -/
theorem cnt_inj {P : Nat → Bool} {x y : Nat} (hx : P x = true) (hy : P y = true) (h : cnt P x = cnt P y) : x = y := by
  rcases Nat.lt_trichotomy x y with q | q | q
  · have h1 := cnt_mono P (show x + 1 ≤ y from q)
    rw [cnt_t hx] at h1
    omega
  · exact q
  · have h1 := cnt_mono P (show y + 1 ≤ x from q)
    rw [cnt_t hy] at h1
    omega
end
section
/-! Long.bitCount: its steps on numbers, byte by byte -/
def bs (d : Nat → Nat) : Nat → Nat
  | 0 => 0
  | k + 1 => d 0 + 256 * bs (fun i => d (i + 1)) k
/-- the mask of k bytes u -/
def bm (u : Nat) : Nat → Nat
  | 0 => 0
  | k + 1 => u + 256 * bm u k
theorem and_split {a u : Nat} (q m : Nat) (ha : a < 256) (hu : u < 256) : (a + 256 * q) &&& (u + 256 * m) = (a &&& u) + 256 * (q &&& m) := by
  have h1 : ((a + 256 * q) &&& (u + 256 * m)) % 2 ^ 8 = a &&& u := by
    rw [Nat.and_mod_two_pow, show (a + 256 * q) % 2 ^ 8 = a by omega, show (u + 256 * m) % 2 ^ 8 = u by omega]
  have h2 : ((a + 256 * q) &&& (u + 256 * m)) / 2 ^ 8 = q &&& m := by
    rw [Nat.and_div_two_pow, show (a + 256 * q) / 2 ^ 8 = q by omega, show (u + 256 * m) / 2 ^ 8 = m by omega]
  omega
theorem bs_f1 : ∀ (k : Nat) (d : Nat → Nat), (∀ i, d i < 256) → (bs d k / 2 &&& bm 85 k) ≤ bs d k ∧ bs d k - (bs d k / 2 &&& bm 85 k) = bs (fun i => d i - (d i / 2 &&& 85)) k
  | 0, d, h => by simp [bs, bm]
  | k + 1, d, h => by
    obtain ⟨h1, h2⟩ := bs_f1 k (fun i => d (i + 1)) (fun i => h (i + 1))
    have hd := h 0
    simp only [bs, bm]
    generalize bs (fun i => d (i + 1)) k = q at h1 h2 ⊢
    generalize d 0 = a at hd ⊢
    have e1 : (a + 256 * q) / 2 = (a / 2 + 128 * (q % 2)) + 256 * (q / 2) := by omega
    have e2 : ∀ a, a < 256 → (a / 2 + 128 * 0 &&& 85) = (a / 2 &&& 85) ∧ (a / 2 + 128 * 1 &&& 85) = (a / 2 &&& 85) ∧ (a / 2 &&& 85) ≤ a := by decide +kernel
    have e3 : (a / 2 + 128 * (q % 2) &&& 85) = (a / 2 &&& 85) := by
      rcases (show q % 2 = 0 ∨ q % 2 = 1 by omega) with z | z <;> rw [z]
      · exact (e2 a hd).1
      · exact (e2 a hd).2.1
    have e4 := (e2 a hd).2.2
    rw [e1, and_split _ _ (by omega) (by decide), e3]
    omega
theorem bs_f2 : ∀ (k : Nat) (d : Nat → Nat), (∀ i, d i < 256) → (bs d k &&& bm 51 k) + (bs d k / 4 &&& bm 51 k) = bs (fun i => (d i &&& 51) + (d i / 4 &&& 51)) k
  | 0, d, h => by simp [bs, bm]
  | k + 1, d, h => by
    have h2 := bs_f2 k (fun i => d (i + 1)) (fun i => h (i + 1))
    have hd := h 0
    simp only [bs, bm]
    generalize bs (fun i => d (i + 1)) k = q at h2 ⊢
    generalize d 0 = a at hd ⊢
    have e1 : (a + 256 * q) / 4 = (a / 4 + 64 * (q % 4)) + 256 * (q / 4) := by omega
    have e2 : ∀ a, a < 256 → ∀ z, z < 4 → (a / 4 + 64 * z &&& 51) = (a / 4 &&& 51) := by decide +kernel
    have e3 : (a / 4 + 64 * (q % 4) &&& 51) = (a / 4 &&& 51) := e2 a hd _ (by omega)
    rw [e1, and_split _ _ hd (by decide), and_split _ _ (by omega) (by decide), e3]
    omega
theorem bs_low (d : Nat → Nat) (k : Nat) (h : ∀ i, d i < 256) (hk : ∀ i, d i % 16 ≤ 4) : bs d k % 16 ≤ 4 := by
  cases k with
  | zero => simp [bs]
  | succ k =>
    have := hk 0
    simp only [bs]
    omega
theorem bs_f3 : ∀ (k : Nat) (d : Nat → Nat), (∀ i, d i < 256 ∧ d i % 16 ≤ 4 ∧ d i / 16 ≤ 4) → (bs d k + bs d k / 16 &&& bm 15 k) = bs (fun i => (d i + d i / 16) % 16) k
  | 0, d, h => by simp [bs, bm]
  | k + 1, d, h => by
    have h2 := bs_f3 k (fun i => d (i + 1)) (fun i => h (i + 1))
    have hl := bs_low (fun i => d (i + 1)) k (fun i => (h (i + 1)).1) (fun i => (h (i + 1)).2.1)
    obtain ⟨hd, hd1, hd2⟩ := h 0
    simp only [bs, bm]
    generalize bs (fun i => d (i + 1)) k = q at h2 hl ⊢
    generalize d 0 = a at hd hd1 hd2 ⊢
    have e1 : a + 256 * q + (a + 256 * q) / 16 = (a + a / 16 + 16 * (q % 16)) + 256 * (q + q / 16) := by omega
    have e3 : (a + a / 16 + 16 * (q % 16) &&& 15) = (a + a / 16) % 16 := by
      rw [show (15 : Nat) = 2 ^ 4 - 1 from rfl, Nat.and_two_pow_sub_one_eq_mod]
      omega
    rw [e1, and_split _ _ (by omega) (by decide), e3, h2]
def pb (a : Nat) : Nat := let y := a - (a / 2 &&& 85); let z := (y &&& 51) + (y / 4 &&& 51); (z + z / 16) % 16
theorem pb_ok : ∀ a, a < 256 → (a - (a / 2 &&& 85)) < 256 ∧ ((a - (a / 2 &&& 85) &&& 51) + ((a - (a / 2 &&& 85)) / 4 &&& 51)) < 256 ∧ ((a - (a / 2 &&& 85) &&& 51) + ((a - (a / 2 &&& 85)) / 4 &&& 51)) % 16 ≤ 4 ∧ ((a - (a / 2 &&& 85) &&& 51) + ((a - (a / 2 &&& 85)) / 4 &&& 51)) / 16 ≤ 4 ∧ pb a = cnt (fun j => a.testBit j) 8 ∧ pb a ≤ 8 := by decide +kernel
theorem bs_of : ∀ (k n : Nat), n < 256 ^ k → n = bs (fun i => n / 256 ^ i % 256) k
  | 0, n, h => by simp only [bs]; simp at h; exact h
  | k + 1, n, h => by
    have h1 : n / 256 < 256 ^ k := by
      rw [Nat.pow_succ] at h
      omega
    have h2 := bs_of k (n / 256) h1
    have e : (fun i => n / 256 ^ (i + 1) % 256) = (fun i => n / 256 / 256 ^ i % 256) := by
      funext i
      rw [Nat.div_div_eq_div_mul, Nat.pow_succ, Nat.mul_comm (256 ^ i) 256]
    simp only [bs]
    rw [e, ← h2]
    simp only [Nat.pow_zero, Nat.div_one]
    omega
theorem cnt_add (P : Nat → Bool) (a : Nat) : ∀ b, cnt P (a + b) = cnt P a + cnt (fun j => P (a + j)) b
  | 0 => rfl
  | b + 1 => by
    show cnt P (a + b + 1) = _
    simp only [cnt, cnt_add P a b]
    omega
theorem byte_cnt (n i : Nat) : cnt (fun j => (n / 256 ^ i % 256).testBit j) 8 = cnt (fun j => n.testBit (8 * i + j)) 8 := by
  refine cnt_congr 8 fun j hj => ?_
  show (n / 256 ^ i % 2 ^ 8).testBit j = _
  rw [Nat.testBit_mod_two_pow, show (256 : Nat) = 2 ^ 8 from rfl, ← Nat.pow_mul, Nat.testBit_div_two_pow]
  simp [hj, Nat.add_comm]
theorem pop_sum {x0 x1 x2 x3 x4 x5 x6 x7 c d e : Nat} (p0 : x0 ≤ 8) (p1 : x1 ≤ 8) (p2 : x2 ≤ 8) (p3 : x3 ≤ 8) (p4 : x4 ≤ 8) (p5 : x5 ≤ 8) (p6 : x6 ≤ 8) (p7 : x7 ≤ 8)
    (hc : c = x0 + 256 * (x1 + 256 * (x2 + 256 * (x3 + 256 * (x4 + 256 * (x5 + 256 * (x6 + 256 * x7))))))) (hd : d = c + c / 256) (he : e = d + d / 65536) : (e + e / 4294967296) % 128 = x0 + x1 + x2 + x3 + x4 + x5 + x6 + x7 := by
  have c1 : c / 256 = x1 + 256 * (x2 + 256 * (x3 + 256 * (x4 + 256 * (x5 + 256 * (x6 + 256 * x7))))) := by omega
  have d1 : d = (x0 + x1) + 256 * ((x1 + x2) + 256 * ((x2 + x3) + 256 * ((x3 + x4) + 256 * ((x4 + x5) + 256 * ((x5 + x6) + 256 * ((x6 + x7) + 256 * x7)))))) := by omega
  clear hd hc c1
  have d2 : d / 65536 = (x2 + x3) + 256 * ((x3 + x4) + 256 * ((x4 + x5) + 256 * ((x5 + x6) + 256 * ((x6 + x7) + 256 * x7)))) := by omega
  have e1 : e = (x0 + x1 + x2 + x3) + 256 * ((x1 + x2 + x3 + x4) + 256 * ((x2 + x3 + x4 + x5) + 256 * ((x3 + x4 + x5 + x6) + 256 * ((x4 + x5 + x6 + x7) + 256 * ((x5 + x6 + x7) + 256 * ((x6 + x7) + 256 * x7)))))) := by omega
  clear he d1 d2
  have e2 : e / 4294967296 = (x4 + x5 + x6 + x7) + 256 * ((x5 + x6 + x7) + 256 * ((x6 + x7) + 256 * x7)) := by omega
  have e3 : e % 256 = x0 + x1 + x2 + x3 := by omega
  have e4 : (e / 4294967296) % 256 = x4 + x5 + x6 + x7 := by omega
  clear e1 e2
  omega
def popN (n : Nat) : Nat :=
  let a := n - (n / 2 &&& 6148914691236517205)
  let b := (a &&& 3689348814741910323) + (a / 4 &&& 3689348814741910323)
  let c := b + b / 16 &&& 1085102592571150095
  let d := c + c / 256
  let e := d + d / 65536
  (e + e / 4294967296) % 128
theorem popN_ok {n : Nat} (h : n < 2 ^ 64) : popN n = cnt (fun j => n.testBit j) 64 := by
  have h8 : n < 256 ^ 8 := h
  have hb := bs_of 8 n h8
  generalize hd : (fun i => n / 256 ^ i % 256) = d at hb
  have hdl : ∀ i, d i < 256 := fun i => by rw [← hd]; exact Nat.mod_lt _ (by decide)
  have f1 := (bs_f1 8 d hdl).2
  have f2 := bs_f2 8 (fun i => d i - (d i / 2 &&& 85)) (fun i => (pb_ok _ (hdl i)).1)
  have f3 := bs_f3 8 (fun i => (d i - (d i / 2 &&& 85) &&& 51) + ((d i - (d i / 2 &&& 85)) / 4 &&& 51)) (fun i => ⟨(pb_ok _ (hdl i)).2.1, (pb_ok _ (hdl i)).2.2.1, (pb_ok _ (hdl i)).2.2.2.1⟩)
  rw [← hb] at f1
  rw [← f1] at f2
  rw [← f2] at f3
  have m1 : bm 85 8 = 6148914691236517205 := by decide +kernel
  have m2 : bm 51 8 = 3689348814741910323 := by decide +kernel
  have m3 : bm 15 8 = 1085102592571150095 := by decide +kernel
  rw [m1] at f1 f2 f3
  rw [m2] at f2 f3
  rw [m3] at f3
  have hp : ∀ i, pb (d i) ≤ 8 := fun i => (pb_ok _ (hdl i)).2.2.2.2.2
  have hc : ∀ i, pb (d i) = cnt (fun j => n.testBit (8 * i + j)) 8 := fun i => by
    rw [(pb_ok _ (hdl i)).2.2.2.2.1, ← byte_cnt, ← hd]
  have f4 : popN n = (let c := bs (fun i => pb (d i)) 8; let d := c + c / 256; let e := d + d / 65536; (e + e / 4294967296) % 128) := by
    unfold popN
    rw [f3]
    rfl
  rw [f4]
  have p0 := hp 0
  have p1 := hp 1
  have p2 := hp 2
  have p3 := hp 3
  have p4 := hp 4
  have p5 := hp 5
  have p6 := hp 6
  have p7 := hp 7
  have g : cnt (fun j => n.testBit j) 64 = pb (d 0) + pb (d 1) + pb (d 2) + pb (d 3) + pb (d 4) + pb (d 5) + pb (d 6) + pb (d 7) := by
    rw [hc 0, hc 1, hc 2, hc 3, hc 4, hc 5, hc 6, hc 7]
    rw [show (64 : Nat) = 56 + 8 from rfl, cnt_add, show (56 : Nat) = 48 + 8 from rfl, cnt_add, show (48 : Nat) = 40 + 8 from rfl, cnt_add, show (40 : Nat) = 32 + 8 from rfl, cnt_add, show (32 : Nat) = 24 + 8 from rfl, cnt_add, show (24 : Nat) = 16 + 8 from rfl, cnt_add, show (16 : Nat) = 8 + 8 from rfl, cnt_add]
    simp
  rw [g]
  exact pop_sum p0 p1 p2 p3 p4 p5 p6 p7 (by simp only [bs]; omega) rfl rfl
end
