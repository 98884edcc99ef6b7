/-! what was told: a r, b r the two contexts of relation r; eq r: it counts and says that they are one; ab r: it counts and says that a r is above b r -/
def jnum (a b : Nat → Nat) (eq : Nat → Bool) : Nat → Nat → Nat
  | 0, c => c
  | r + 1, c => if eq r = true ∧ jnum a b eq r c = max (jnum a b eq r (a r)) (jnum a b eq r (b r)) then min (jnum a b eq r (a r)) (jnum a b eq r (b r)) else jnum a b eq r c
def jfix (a b : Nat → Nat) (eq : Nat → Bool) (R : Nat) (f : Nat → Nat) : Prop := ∀ r, r < R → eq r = true → f (a r) = f (b r)
def jok (a b : Nat → Nat) (eq : Nat → Bool) (R : Nat) (m : Nat → Nat) : Prop := jfix a b eq R m ∧ ∀ c, m c ≤ c ∧ ∀ f, jfix a b eq R f → f (m c) = f c
theorem jok_uniq {a b : Nat → Nat} {eq : Nat → Bool} {R : Nat} {m n : Nat → Nat} (h1 : jok a b eq R m) (h2 : jok a b eq R n) (c : Nat) : m c = n c := by
  have e1 := (h1.2 c).2 n h2.1
  have e2 := (h2.2 c).2 m h1.1
  have l1 := (h1.2 (n c)).1
  have l2 := (h2.2 (m c)).1
  omega
theorem jnum_ok {a b : Nat → Nat} {eq : Nat → Bool} : ∀ R, jok a b eq R (jnum a b eq R)
  | 0 => ⟨fun r h => absurd h (Nat.not_lt_zero _), fun c => ⟨Nat.le_refl c, fun _ _ => rfl⟩⟩
  | R + 1 => by
    obtain ⟨h1, h2⟩ := jnum_ok (a := a) (b := b) (eq := eq) R
    by_cases he : eq R = true
    · have hd : ∀ c, jnum a b eq (R + 1) c = if jnum a b eq R c = max (jnum a b eq R (a R)) (jnum a b eq R (b R)) then min (jnum a b eq R (a R)) (jnum a b eq R (b R)) else jnum a b eq R c := by
        intro c
        simp only [jnum, he, true_and]
      generalize hm : jnum a b eq R = m at h1 h2 hd
      refine ⟨fun r hr her => ?_, fun c => ⟨?_, fun f hf => ?_⟩⟩
      · rw [hd, hd]
        rcases Nat.lt_or_ge r R with q | q
        · rw [h1 r q her]
        · have e : r = R := by omega
          subst e
          by_cases g1 : m (a r) = max (m (a r)) (m (b r)) <;> by_cases g2 : m (b r) = max (m (a r)) (m (b r))
          · rw [if_pos g1, if_pos g2]
          · rw [if_pos g1, if_neg g2]
            omega
          · rw [if_neg g1, if_pos g2]
            omega
          · omega
      · rw [hd]
        have l := (h2 c).1
        by_cases g1 : m c = max (m (a R)) (m (b R))
        · rw [if_pos g1]
          omega
        · rw [if_neg g1]
          exact l
      · rw [hd]
        have hf' : jfix a b eq R f := fun r hr => hf r (by omega)
        have e1 := (h2 c).2 f hf'
        have e2 := (h2 (a R)).2 f hf'
        have e3 := (h2 (b R)).2 f hf'
        have e4 := hf R (by omega) he
        by_cases g1 : m c = max (m (a R)) (m (b R))
        · rw [if_pos g1]
          rw [← e1, g1]
          rcases Nat.le_total (m (a R)) (m (b R)) with q | q
          · rw [Nat.min_eq_left q, Nat.max_eq_right q, e2, e3, e4]
          · rw [Nat.min_eq_right q, Nat.max_eq_left q, e2, e3, e4]
        · rw [if_neg g1]
          exact e1
    · have hd : ∀ c, jnum a b eq (R + 1) c = jnum a b eq R c := by
        intro c
        simp [jnum, he]
      refine ⟨fun r hr her => ?_, fun c => ⟨?_, fun f hf => ?_⟩⟩
      · rw [hd, hd]
        rcases Nat.lt_or_ge r R with q | q
        · exact h1 r q her
        · have e : r = R := by omega
          subst e
          exact absurd her he
      · rw [hd]
        exact (h2 c).1
      · rw [hd]
        exact (h2 c).2 f (fun r hr => hf r (by omega))
theorem jnum_le {a b : Nat → Nat} {eq : Nat → Bool} (R c : Nat) : jnum a b eq R c ≤ c := ((jnum_ok R).2 c).1
theorem jnum_same {a b : Nat → Nat} {eq : Nat → Bool} {R : Nat} (h : eq R = false) (c : Nat) : jnum a b eq (R + 1) c = jnum a b eq R c := by
  simp [jnum, h]
/-- a joined one's number is its own -/
theorem jnum_idem {a b : Nat → Nat} {eq : Nat → Bool} (R c : Nat) : jnum a b eq R (jnum a b eq R c) = jnum a b eq R c :=
  ((jnum_ok (a := a) (b := b) (eq := eq) R).2 c).2 _ (jnum_ok R).1
theorem jnum_congr {a b a' b' : Nat → Nat} {eq eq' : Nat → Bool} : ∀ (R c : Nat), (∀ r, r < R → a r = a' r ∧ b r = b' r ∧ eq r = eq' r) → jnum a b eq R c = jnum a' b' eq' R c
  | 0, c, _ => rfl
  | R + 1, c, h => by
    obtain ⟨h1, h2, h3⟩ := h R (by omega)
    have ih : ∀ c, jnum a b eq R c = jnum a' b' eq' R c := fun c => jnum_congr R c (fun r hr => h r (by omega))
    simp only [jnum, h1, h2, h3, ih]
/-! the steps between the joined ones -/
def jst (a b m : Nat → Nat) (ab : Nat → Bool) : Nat → Nat → Nat → Bool
  | 0, _, _ => false
  | r + 1, x, y => jst a b m ab r x y || (ab r && decide (m (a r) = x) && decide (m (b r) = y))
theorem jst_iff {a b m : Nat → Nat} {ab : Nat → Bool} : ∀ (R x y : Nat), jst a b m ab R x y = true ↔ ∃ r, r < R ∧ ab r = true ∧ m (a r) = x ∧ m (b r) = y
  | 0, x, y => by
    constructor
    · intro h
      cases h
    · rintro ⟨r, h, -⟩
      exact absurd h (Nat.not_lt_zero _)
  | R + 1, x, y => by
    simp only [jst, Bool.or_eq_true, Bool.and_eq_true, decide_eq_true_eq, jst_iff R x y]
    constructor
    · rintro (⟨r, h1, h2⟩ | ⟨⟨h1, h2⟩, h3⟩)
      · exact ⟨r, by omega, h2⟩
      · exact ⟨R, by omega, h1, h2, h3⟩
    · rintro ⟨r, h1, h2, h3, h4⟩
      rcases Nat.lt_or_ge r R with q | q
      · exact Or.inl ⟨r, q, h2, h3, h4⟩
      · have e : r = R := by omega
        subst e
        exact Or.inr ⟨⟨h2, h3⟩, h4⟩
theorem jst_congr {a b a' b' m m' : Nat → Nat} {ab ab' : Nat → Bool} : ∀ (R x y : Nat), (∀ r, r < R → ab r = ab' r ∧ m (a r) = m' (a' r) ∧ m (b r) = m' (b' r)) → jst a b m ab R x y = jst a' b' m' ab' R x y
  | 0, x, y, _ => rfl
  | R + 1, x, y, h => by
    obtain ⟨h1, h2, h3⟩ := h R (by omega)
    have ih := jst_congr R x y (fun r hr => h r (by omega))
    simp only [jst, h1, h2, h3, ih]
theorem jst_in {a b m : Nat → Nat} {ab : Nat → Bool} {R n N : Nat} (hn : n ≤ N) (hm : ∀ c, m c ≤ c) (hr : ∀ r, r < R → a r < n ∧ b r < n) : gin (jst a b m ab R) N := by
  intro x y h
  obtain ⟨r, h1, -, h3, h4⟩ := (jst_iff R x y).mp h
  have h5 := hr r h1
  have h6 := hm (a r)
  have h7 := hm (b r)
  omega
/-! no rings: kept by an edge, by a joining, by an undoing -/
theorem acyc_edge {E : Nat → Nat → Bool} {x y : Nat} (hac : ∀ z, ¬ gov E z z) (hxy : x ≠ y) (hno : ¬ gov E y x) : ∀ z, ¬ gov (gadd E x y) z z := by
  have key : ∀ (k u v : Nat), gw (gadd E x y) (k + 1) u v → gov E u v ∨ ((u = x ∨ gov E u x) ∧ (v = y ∨ gov E y v)) := by
    apply gov_into
    · intro u v h
      rcases gadd_or h with h | ⟨h1, h2⟩
      · exact Or.inl (gov_one h)
      · exact Or.inr ⟨Or.inl h1, Or.inl h2⟩
    · rintro u v w (h1 | ⟨h1, h1'⟩) (h2 | ⟨h2, h2'⟩)
      · exact Or.inl (gov_trans h1 h2)
      · refine Or.inr ⟨Or.inr ?_, h2'⟩
        rcases h2 with h2 | h2
        · rw [← h2]; exact h1
        · exact gov_trans h1 h2
      · refine Or.inr ⟨h1, Or.inr ?_⟩
        rcases h1' with h1' | h1'
        · rw [← h1']; exact h2
        · exact gov_trans h1' h2
      · exact Or.inr ⟨h1, h2'⟩
  rintro z ⟨k, h⟩
  rcases key k z z h with h | ⟨h1, h2⟩
  · exact hac z h
  · rcases h1 with h1 | h1 <;> rcases h2 with h2 | h2
    · exact hxy (h1.symm.trans h2)
    · rw [h1] at h2
      exact hno h2
    · rw [h2] at h1
      exact hno h1
    · exact hno (gov_trans h2 h1)
/-- f puts y and x into one place, and moves nothing else -/
theorem acyc_join {E E' : Nat → Nat → Bool} {x y : Nat} {f : Nat → Nat} (hac : ∀ z, ¬ gov E z z) (h1 : ¬ gov E x y) (h2 : ¬ gov E y x) (hf : ∀ u v, f u = f v → u = v ∨ (u = x ∧ v = y) ∨ (u = y ∧ v = x)) (he : ∀ u v, E' u v = true → ∃ p q, f p = u ∧ f q = v ∧ E p q = true) : ∀ z, ¬ gov E' z z := by
  have out : ∀ p, (gov E x p ∨ gov E y p) → (gov E p x ∨ gov E p y) → False := by
    rintro p (a | a) (b | b)
    · exact hac x (gov_trans a b)
    · exact h1 (gov_trans a b)
    · exact h2 (gov_trans a b)
    · exact hac y (gov_trans a b)
  have key : ∀ (k u v : Nat), gw E' (k + 1) u v → ∃ p q, f p = u ∧ f q = v ∧ (gov E p q ∨ ((gov E p x ∨ gov E p y) ∧ (gov E x q ∨ gov E y q))) := by
    apply gov_into
    · intro u v h
      obtain ⟨p, q, e1, e2, h⟩ := he u v h
      exact ⟨p, q, e1, e2, Or.inl (gov_one h)⟩
    · rintro u v w ⟨p, q, e1, e2, g1⟩ ⟨p', q', e3, e4, g2⟩
      have hl : (gov E p x ∨ gov E p y) → (gov E x q' ∨ gov E y q') → ∃ p q, f p = u ∧ f q = w ∧ (gov E p q ∨ ((gov E p x ∨ gov E p y) ∧ (gov E x q ∨ gov E y q))) := fun c1 c2 => ⟨p, q', e1, e4, Or.inr ⟨c1, c2⟩⟩
      have left : ∀ z, z = x ∨ z = y → gov E p z → (gov E p x ∨ gov E p y) := by
        rintro z (rfl | rfl) h
        · exact Or.inl h
        · exact Or.inr h
      have right : ∀ z, z = x ∨ z = y → gov E z q' → (gov E x q' ∨ gov E y q') := by
        rintro z (rfl | rfl) h
        · exact Or.inl h
        · exact Or.inr h
      rcases hf q p' (e2.trans e3.symm) with e | e
      · subst e
        rcases g1 with g1 | ⟨g1, g1'⟩ <;> rcases g2 with g2 | ⟨g2, g2'⟩
        · exact ⟨p, q', e1, e4, Or.inl (gov_trans g1 g2)⟩
        · refine hl ?_ g2'
          rcases g2 with g2 | g2
          · exact Or.inl (gov_trans g1 g2)
          · exact Or.inr (gov_trans g1 g2)
        · refine hl g1 ?_
          rcases g1' with g1' | g1'
          · exact Or.inl (gov_trans g1' g2)
          · exact Or.inr (gov_trans g1' g2)
        · exact hl g1 g2'
      · have hq : q = x ∨ q = y := by
          rcases e with e | e
          · exact Or.inl e.1
          · exact Or.inr e.1
        have hp : p' = x ∨ p' = y := by
          rcases e with e | e
          · exact Or.inr e.2
          · exact Or.inl e.2
        rcases g1 with g1 | ⟨g1, g1'⟩ <;> rcases g2 with g2 | ⟨g2, g2'⟩
        · exact hl (left q hq g1) (right p' hp g2)
        · exact hl (left q hq g1) g2'
        · exact hl g1 (right p' hp g2)
        · exact hl g1 g2'
  rintro z ⟨k, h⟩
  obtain ⟨p, q, e1, e2, g⟩ := key k z z h
  rcases hf p q (e1.trans e2.symm) with e | e
  · subst e
    rcases g with g | ⟨g1, g2⟩
    · exact hac p g
    · exact out p g2 g1
  · rcases g with g | ⟨g1, g2⟩
    · rcases e with ⟨e3, e4⟩ | ⟨e3, e4⟩
      · rw [e3, e4] at g
        exact h1 g
      · rw [e3, e4] at g
        exact h2 g
    · rcases e with ⟨e3, e4⟩ | ⟨e3, e4⟩
      · rw [e3] at g1
        rcases g1 with g1 | g1
        · exact hac x g1
        · exact h1 g1
      · rw [e3] at g1
        rcases g1 with g1 | g1
        · exact h2 g1
        · exact hac y g1
theorem acyc_map {E E' : Nat → Nat → Bool} {f : Nat → Nat} (hac : ∀ z, ¬ gov E z z) (he : ∀ u v, E' u v = true → E (f u) (f v) = true) : ∀ z, ¬ gov E' z z := by
  rintro z ⟨k, h⟩
  exact hac _ (gov_map (f := f) (fun u v q => gov_one (he u v q)) k z z h)
