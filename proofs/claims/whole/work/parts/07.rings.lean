/-! an edge more -/
def gadd (E : Nat → Nat → Bool) (x y a b : Nat) : Bool := E a b || (decide (a = x) && decide (b = y))
theorem gadd_or {E : Nat → Nat → Bool} {x y a b : Nat} (h : gadd E x y a b = true) : E a b = true ∨ (a = x ∧ b = y) := by
  simp only [gadd, Bool.or_eq_true, Bool.and_eq_true, decide_eq_true_eq] at h
  exact h
theorem gadd_l {E : Nat → Nat → Bool} {x y a b : Nat} (h : E a b = true) : gadd E x y a b = true := by
  simp [gadd, h]
theorem gadd_r {E : Nat → Nat → Bool} {x y : Nat} : gadd E x y x y = true := by
  simp [gadd]
theorem gw_mono {E F : Nat → Nat → Bool} (h : ∀ a b, E a b = true → F a b = true) : ∀ (k x y : Nat), gw E k x y → gw F k x y
  | 0, x, y, e => e
  | k + 1, x, y, ⟨z, hz, r⟩ => ⟨z, h _ _ hz, gw_mono h k z y r⟩
theorem gadd_w {E : Nat → Nat → Bool} {x y : Nat} (k a b : Nat) (h : gw E k a b) : gw (gadd E x y) k a b := gw_mono (fun _ _ h => gadd_l h) k a b h
/-- the first coming to x needs the old edges alone -/
theorem gadd_come {E : Nat → Nat → Bool} {x y : Nat} : ∀ (j c : Nat), c ≠ x → gw (gadd E x y) j c x → ∃ i, i ≤ j ∧ gw E i c x
  | 0, c, hc, h => absurd h hc
  | j + 1, c, hc, ⟨z, hz, r⟩ => by
    rcases gadd_or hz with h | ⟨h, -⟩
    · by_cases hx : z = x
      · subst hx
        exact ⟨1, by omega, gw_one h⟩
      · obtain ⟨i, h1, h2⟩ := gadd_come j z hx r
        exact ⟨i + 1, by omega, z, h, h2⟩
    · exact absurd h hc
theorem gd_pos {E : Nat → Nat → Bool} {t k x : Nat} (hx : x ≠ t) (h : gw E k x t) : 0 < k := by
  rcases Nat.eq_zero_or_pos k with e | e
  · subst e
    exact absurd h hx
  · exact e
theorem gD_gd {E : Nat → Nat → Bool} {t k x : Nat} (hx : x ≠ t) : gD E t k x ↔ gd E t k x := by
  constructor
  · rintro ⟨h1, h2, h3⟩
    exact ⟨h2, fun j hj hw => h3 j (gd_pos hx hw) hj hw⟩
  · rintro ⟨h1, h2⟩
    exact ⟨gd_pos hx h1, h1, fun j _ hj hw => h2 j hj hw⟩
theorem gd_uniq {E : Nat → Nat → Bool} {t j k x : Nat} (h1 : gd E t j x) (h2 : gd E t k x) : j = k := by
  rcases Nat.lt_trichotomy j k with h | h | h
  · exact absurd h1.1 (h2.2 j h)
  · exact h
  · exact absurd h2.1 (h1.2 k h)
theorem gadd_D {E : Nat → Nat → Bool} {x y c k : Nat} (hc : c ≠ x) : gD (gadd E x y) x k c ↔ gd E x k c := by
  rw [gD_gd hc]
  constructor
  · rintro ⟨h1, h2⟩
    obtain ⟨i, h3, h4⟩ := gadd_come k c hc h1
    have e : i = k := by
      rcases Nat.lt_or_ge i k with q | q
      · exact absurd (gadd_w i c x h4) (h2 i q)
      · omega
    subst e
    exact ⟨h4, fun j hj hw => h2 j hj (gadd_w j c x hw)⟩
  · rintro ⟨h1, h2⟩
    refine ⟨gadd_w k c x h1, fun j hj hw => ?_⟩
    obtain ⟨i, h3, h4⟩ := gadd_come j c hc hw
    exact h2 i (by omega) h4
theorem gadd_self {E : Nat → Nat → Bool} {x y d : Nat} (hac : ¬ gov E x x) (hxy : y ≠ x) (hd : gd E x d y) : gD (gadd E x y) x (d + 1) x := by
  refine ⟨Nat.succ_pos d, ⟨y, gadd_r, gadd_w d y x hd.1⟩, fun j h1 h2 hw => ?_⟩
  obtain ⟨i, rfl⟩ : ∃ i, j = i + 1 := ⟨j - 1, by omega⟩
  obtain ⟨z, hz, r⟩ := hw
  rcases gadd_or hz with h | ⟨-, h⟩
  · by_cases hx : z = x
    · subst hx
      exact hac (gov_one h)
    · obtain ⟨i', -, h4⟩ := gadd_come i z hx r
      exact hac (gov_trans (gov_one h) (gov_of h4 (gd_pos hx h4)))
  · subst h
    obtain ⟨i', h3, h4⟩ := gadd_come i z hxy r
    exact hd.2 i' (by omega) h4
/-- the ring that an edge x over y would close: x, then the lowest shortest way from y -/
theorem ring_edge {E : Nat → Nat → Bool} {x y d : Nat} {q : Nat → Nat} (hac : ¬ gov E x x) (hxy : y ≠ x) (hd : gd E x d y) (h0 : q 0 = x) (h1 : q 1 = y)
    (hs : ∀ k, 1 ≤ k → k < d → E (q k) (q (k + 1)) = true ∧ gd E x (d - k) (q (k + 1)) ∧ ∀ c, c < q (k + 1) → E (q k) c = true → ¬ gd E x (d - k) c) : gring (gadd E x y) x (d + 1) q := by
  have hne : ∀ k, 1 ≤ k → k ≤ d → q k ≠ x := by
    intro k hk hkd
    rcases Nat.lt_or_ge 1 k with h | h
    · obtain ⟨j, rfl⟩ : ∃ j, k = j + 1 := ⟨k - 1, by omega⟩
      have h2 := (hs j (by omega) (by omega)).2.1
      intro e
      rw [e] at h2
      exact h2.2 0 (by omega) rfl
    · have e : k = 1 := by omega
      subst e
      rw [h1]
      exact hxy
  refine ⟨gadd_self hac hxy hd, h0, fun k hk => ?_⟩
  have e1 : d + 1 - 1 - k = d - k := by omega
  rw [e1]
  rcases Nat.eq_zero_or_pos k with h | h
  · subst h
    rw [h0, h1, Nat.sub_zero]
    refine ⟨gadd_r, (gadd_D hxy).mpr hd, fun c hc he hD => ?_⟩
    rcases gadd_or he with h | ⟨-, h⟩
    · by_cases hx : c = x
      · subst hx
        exact hac (gov_one h)
      · have h2 := (gadd_D hx).mp hD
        exact hac (gov_trans (gov_one h) (gov_of h2.1 (gd_pos hx h2.1)))
    · omega
  · obtain ⟨a1, a2, a3⟩ := hs k h (by omega)
    refine ⟨gadd_l a1, (gadd_D (hne (k + 1) (by omega) (by omega))).mpr a2, fun c hc he hD => ?_⟩
    rcases gadd_or he with h' | ⟨h', -⟩
    · have hx : c ≠ x := by
        intro e
        subst e
        have h3 := gadd_self hac hxy hd
        have := gD_uniq hD h3
        omega
      exact a3 c hc h' ((gadd_D hx).mp hD)
    · exact absurd h' (hne k h (by omega))
/-! the same for the edge that leads back from the lower one w to the upper one u -/
theorem gback_come {E : Nat → Nat → Bool} {u w : Nat} : ∀ (j c : Nat), ¬ gov E c u → gw (gadd E w u) (j + 1) c u → ∃ i, i ≤ j ∧ gw E i c w
  | j, c, hc, ⟨z, hz, r⟩ => by
    rcases gadd_or hz with h | ⟨h, -⟩
    · cases j with
      | zero =>
        have e : z = u := r
        subst e
        exact absurd (gov_one h) hc
      | succ j =>
        obtain ⟨i, h1, h2⟩ := gback_come j z (fun q => hc (gov_trans (gov_one h) q)) r
        exact ⟨i + 1, by omega, z, h, h2⟩
    · subst h
      exact ⟨0, Nat.zero_le j, rfl⟩
theorem gback_go {E : Nat → Nat → Bool} {u w i c : Nat} (h : gw E i c w) : gw (gadd E w u) (i + 1) c u := gw_add i 1 c w u (gadd_w i c w h) (gw_one gadd_r)
theorem gback_D {E : Nat → Nat → Bool} {u w c k : Nat} (hc : ¬ gov E c u) : gD (gadd E w u) u (k + 1) c ↔ gd E w k c := by
  constructor
  · rintro ⟨-, h1, h2⟩
    obtain ⟨i, h3, h4⟩ := gback_come k c hc h1
    have e : i = k := by
      rcases Nat.lt_or_ge i k with q | q
      · exact absurd (gback_go h4) (h2 (i + 1) (by omega) (by omega))
      · omega
    subst e
    exact ⟨h4, fun j hj hw => h2 (j + 1) (by omega) (by omega) (gback_go hw)⟩
  · rintro ⟨h1, h2⟩
    refine ⟨Nat.succ_pos k, gback_go h1, fun j h3 h4 hw => ?_⟩
    obtain ⟨j, rfl⟩ : ∃ i, j = i + 1 := ⟨j - 1, by omega⟩
    obtain ⟨i, h5, h6⟩ := gback_come j c hc hw
    exact h2 i (by omega) h6
theorem ring_back {E : Nat → Nat → Bool} {u w d : Nat} {q : Nat → Nat} (hac : ∀ z, ¬ gov E z z) (hd : gd E w d u) (h0 : q 0 = u)
    (hs : ∀ k, k < d → E (q k) (q (k + 1)) = true ∧ gd E w (d - 1 - k) (q (k + 1)) ∧ ∀ c, c < q (k + 1) → E (q k) c = true → ¬ gd E w (d - 1 - k) c) : gring (gadd E w u) u (d + 1) q := by
  have hun : ∀ k, k ≤ d → q k = u ∨ gov E u (q k) := by
    intro k
    induction k with
    | zero => intro _; exact Or.inl h0
    | succ k ih =>
      intro hk
      have h1 := (hs k (by omega)).1
      rcases ih (by omega) with h | h
      · rw [h] at h1
        exact Or.inr (gov_one h1)
      · exact Or.inr (gov_trans h (gov_one h1))
  have hnot : ∀ k c, k ≤ d → E (q k) c = true → ¬ gov E c u := by
    intro k c hk he hg
    rcases hun k hk with h | h
    · rw [h] at he
      exact hac u (gov_trans (gov_one he) hg)
    · exact hac u (gov_trans h (gov_trans (gov_one he) hg))
  have hfar : ∀ k, k ≤ d → gd E w (d - k) (q k) := by
    intro k hk
    cases k with
    | zero => rw [h0]; exact hd
    | succ k =>
      have h1 := (hs k (by omega)).2.1
      have e : d - (k + 1) = d - 1 - k := by omega
      rw [e]
      exact h1
  refine ⟨(gback_D (hac u)).mpr hd, h0, fun k hk => ?_⟩
  obtain ⟨a1, a2, a3⟩ := hs k (by omega)
  have e1 : d + 1 - 1 - k = d - 1 - k + 1 := by omega
  rw [e1]
  refine ⟨gadd_l a1, (gback_D (hnot k _ (by omega) a1)).mpr a2, fun c hc he hD => ?_⟩
  rcases gadd_or he with h | ⟨h, -⟩
  · exact a3 c hc h ((gback_D (hnot k _ (by omega) h)).mp hD)
  · have h2 := hfar k (by omega)
    rw [h] at h2
    exact h2.2 0 (by omega) rfl
/-- the ring from t on, by distances to t; nothing is added -/
theorem ring_plain {E : Nat → Nat → Bool} {t d : Nat} {q : Nat → Nat} (hg : ∃ g, E t g = true ∧ gd E t d g) (hmin : ∀ g j, E t g = true → gw E j g t → d ≤ j) (h0 : q 0 = t)
    (hs : ∀ k, k < d → E (q k) (q (k + 1)) = true ∧ gd E t (d - k) (q (k + 1)) ∧ ∀ c, c < q (k + 1) → E (q k) c = true → ¬ gd E t (d - k) c) : gring E t (d + 1) q := by
  obtain ⟨g, hg1, hg2⟩ := hg
  have hself : gD E t (d + 1) t := by
    refine ⟨Nat.succ_pos d, ⟨g, hg1, hg2.1⟩, fun j h1 h2 hw => ?_⟩
    obtain ⟨j, rfl⟩ : ∃ i, j = i + 1 := ⟨j - 1, by omega⟩
    obtain ⟨z, hz, r⟩ := hw
    have := hmin z j hz r
    omega
  refine ⟨hself, h0, fun k hk => ?_⟩
  obtain ⟨a1, a2, a3⟩ := hs k (by omega)
  have e1 : d + 1 - 1 - k = d - k := by omega
  rw [e1]
  have hne : q (k + 1) ≠ t := by
    intro e
    rw [e] at a2
    exact a2.2 0 (by omega) rfl
  refine ⟨a1, (gD_gd hne).mpr a2, fun c hc he hD => ?_⟩
  by_cases hx : c = t
  · subst hx
    have := gD_uniq hD hself
    omega
  · exact a3 c hc he ((gD_gd hx).mp hD)
/-! distances by the numbers that relaxing ends with -/
def gfar (E : Nat → Nat → Bool) (t N : Nat) (far : Nat → Nat) : Prop := far t = 0 ∧ (∀ x, x < N → far x ≤ 99 ∧ (far x < 99 → gw E (far x) x t)) ∧ ∀ x y, E x y = true → far x ≤ far y + 1
theorem gfar_le {E : Nat → Nat → Bool} {t N : Nat} {far : Nat → Nat} (h : gfar E t N far) : ∀ (k x : Nat), gw E k x t → far x ≤ k
  | 0, x, e => by
    have e : x = t := e
    subst e
    have := h.1
    omega
  | k + 1, x, ⟨z, hz, r⟩ => by
    have h1 := gfar_le h k z r
    have h2 := h.2.2 x z hz
    omega
theorem gfar_gd {E : Nat → Nat → Bool} {t N x k : Nat} {far : Nat → Nat} (h : gfar E t N far) (hx : x < N) (hk : k < 99) : far x = k ↔ gd E t k x := by
  constructor
  · intro e
    subst e
    refine ⟨(h.2.1 x hx).2 hk, fun j hj hw => ?_⟩
    have := gfar_le h j x hw
    omega
  · intro hd
    have h1 := gfar_le h k x hd.1
    have h2 := (h.2.1 x hx).2 (by omega)
    rcases Nat.lt_or_ge (far x) k with q | q
    · exact absurd h2 (hd.2 _ q)
    · omega
theorem gd_of {E : Nat → Nat → Bool} {t k x : Nat} (h : gw E k x t) : ∃ j, j ≤ k ∧ gd E t j x := by
  obtain ⟨j, h1, h2, h3⟩ := least_of (P := fun j => gw E j x t) h
  exact ⟨j, h1, h2, h3⟩
theorem gd_le {E : Nat → Nat → Bool} {N t k x : Nat} (hN : gin E N) (h : gd E t k x) : k ≤ N := by
  by_cases hx : x = t
  · subst hx
    rcases Nat.eq_zero_or_pos k with e | e
    · omega
    · exact absurd rfl (h.2 0 e)
  · exact gD_le hN ((gD_gd hx).mpr h)
theorem gd_next {E : Nat → Nat → Bool} {t k x : Nat} (h : gd E t (k + 1) x) : ∃ y, E x y = true ∧ gd E t k y := by
  obtain ⟨⟨y, hy, hw⟩, hm⟩ := h
  exact ⟨y, hy, hw, fun j h2 h3 => hm (j + 1) (by omega) ⟨y, hy, h3⟩⟩
/-! the longest way down to a place -/
def glong (E : Nat → Nat → Bool) (t m : Nat) : Prop := (∃ z, gw E m z t) ∧ ∀ k z, gw E k z t → k ≤ m
theorem glong_uniq {E : Nat → Nat → Bool} {t a b : Nat} (h1 : glong E t a) (h2 : glong E t b) : a = b := by
  obtain ⟨⟨x, hx⟩, h1⟩ := h1
  obtain ⟨⟨y, hy⟩, h2⟩ := h2
  have := h1 _ _ hy
  have := h2 _ _ hx
  omega
theorem gw_places {E : Nat → Nat → Bool} : ∀ (k x y : Nat), gw E k x y → ∃ f : Nat → Nat, f 0 = x ∧ f k = y ∧ ∀ i, i < k → E (f i) (f (i + 1)) = true
  | 0, x, y, e => ⟨fun _ => x, rfl, e, fun i hi => absurd hi (Nat.not_lt_zero _)⟩
  | k + 1, x, y, ⟨z, hz, r⟩ => by
    obtain ⟨f, h1, h2, h3⟩ := gw_places k z y r
    refine ⟨fun i => match i with
      | 0 => x
      | i + 1 => f i, rfl, h2, fun i hi => ?_⟩
    cases i with
    | zero =>
      show E x (f 0) = true
      rw [h1]
      exact hz
    | succ i => exact h3 i (by omega)
theorem gw_seg {E : Nat → Nat → Bool} {f : Nat → Nat} {k : Nat} (h : ∀ i, i < k → E (f i) (f (i + 1)) = true) : ∀ (d i : Nat), i + d ≤ k → gw E d (f i) (f (i + d))
  | 0, i, _ => rfl
  | d + 1, i, hi => by
    refine ⟨f (i + 1), h i (by omega), ?_⟩
    have h1 := gw_seg h d (i + 1) (by omega)
    rw [show i + (d + 1) = i + 1 + d by omega]
    exact h1
theorem gw_short {E : Nat → Nat → Bool} {N k x y : Nat} (hN : gin E N) (hac : ∀ z, ¬ gov E z z) (hk : 0 < k) (h : gw E k x y) : k < N := by
  obtain ⟨f, h1, h2, h3⟩ := gw_places k x y h
  refine pig N (k + 1) f (fun i hi => ?_) (fun a b ha hb he => ?_)
  · rcases Nat.lt_or_ge i k with q | q
    · exact (hN _ _ (h3 i q)).1
    · obtain ⟨j, rfl⟩ : ∃ j, i = j + 1 := ⟨i - 1, by omega⟩
      exact (hN _ _ (h3 j (by omega))).2
  · rcases Nat.lt_trichotomy a b with q | q | q
    · have hw := gw_seg h3 (b - a) a (by omega)
      rw [show a + (b - a) = b by omega, ← he] at hw
      exact absurd (gov_of hw (by omega)) (hac _)
    · exact q
    · have hw := gw_seg h3 (a - b) b (by omega)
      rw [show b + (a - b) = a by omega, he] at hw
      exact absurd (gov_of hw (by omega)) (hac _)
/-- by the numbers that relaxing downwards ends with -/
theorem glong_far {E : Nat → Nat → Bool} {N : Nat} {far : Nat → Nat} (hw : ∀ x, x < N → ∃ z, gw E (far x) z x) (he : ∀ x y, E x y = true → far x + 1 ≤ far y) {t : Nat} (ht : t < N) : glong E t (far t) := by
  refine ⟨hw t ht, ?_⟩
  have key : ∀ (k z y : Nat), gw E k z y → far z + k ≤ far y := by
    intro k
    induction k with
    | zero =>
      intro z y e
      have e : z = y := e
      subst e
      omega
    | succ k ih =>
      rintro z y ⟨w, hz, r⟩
      have h1 := ih w y r
      have h2 := he z w hz
      omega
  intro k z h
  have := key k z t h
  omega
/-- by rounds: after i rounds those are left that have a way of more than i steps down to t -/
theorem glong_rounds {E : Nat → Nat → Bool} {t c : Nat} (h0 : ∀ z k, c < k → ¬ gw E k z t) (h1 : 0 < c → ∃ z k, c ≤ k ∧ gw E k z t) : glong E t c := by
  have hle : ∀ k z, gw E k z t → k ≤ c := by
    intro k z h
    rcases Nat.lt_or_ge c k with q | q
    · exact absurd h (h0 z k q)
    · exact q
  refine ⟨?_, hle⟩
  rcases Nat.eq_zero_or_pos c with e | e
  · subst e
    exact ⟨t, rfl⟩
  · obtain ⟨z, k, h2, h3⟩ := h1 e
    have := hle k z h3
    have e : k = c := by omega
    subst e
    exact ⟨z, h3⟩
