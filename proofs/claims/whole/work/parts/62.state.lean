variable {l : Launch} {D : va_G} {cI cJ cZ cQ : ClassId}
/-! the state of both sides, in one vocabulary -/
def kI (u : Bool) (k : Nat) : Int32 := if u = true then -1 else nI k
theorem kI_ne {u : Bool} {k : Nat} (hk : k ≤ 4) : kI u k = -1 ↔ u = true := by
  cases u
  · have h : k = 0 ∨ k = 1 ∨ k = 2 ∨ k = 3 ∨ k = 4 := by omega
    rcases h with h | h | h | h | h <;> subst h <;> decide
  · simp [kI]
theorem kI_eq {u : Bool} {k : Nat} (hk : k ≤ 4) : isEq (kI u k) = (!u && decide (k = 3)) := by
  have h : k = 0 ∨ k = 1 ∨ k = 2 ∨ k = 3 ∨ k = 4 := by omega
  cases u <;> rcases h with h | h | h | h | h <;> subst h <;> decide
theorem kI_ab {u : Bool} {k : Nat} (hk : k ≤ 4) : isAb (kI u k) = (!u && decide (k < 3)) := by
  have h : k = 0 ∨ k = 1 ∨ k = 2 ∨ k = 3 ∨ k = 4 := by omega
  cases u <;> rcases h with h | h | h | h | h <;> subst h <;> decide
theorem kI_ct {u : Bool} {k : Nat} (hk : k ≤ 4) : isCt (kI u k) = (!u && decide (k = 4)) := by
  have h : k = 0 ∨ k = 1 ∨ k = 2 ∨ k = 3 ∨ k = 4 := by omega
  cases u <;> rcases h with h | h | h | h | h <;> subst h <;> decide
abbrev NU (Fa Fb Fk : Nat → Nat) (UN : Nat → Bool) (R : Nat) : Nat → Nat := jnum Fa Fb (eqm UN Fk) R
abbrev SE (Fa Fb Fk : Nat → Nat) (UN : Nat → Bool) (R : Nat) : Nat → Nat → Bool := jst Fa Fb (jnum Fa Fb (eqm UN Fk) R) (abm UN Fk) R
def iB (K R gm vv d d2 : Nat) : Prop := K ≤ 48 ∧ R ≤ 200 ∧ gm ≤ 12 ∧ vv ≤ 8 ∧ d ≤ 48 ∧ d2 ≤ 12
def iR (K R : Nat) (Fa Fb Fk : Nat → Nat) (UN : Nat → Bool) : Prop := (∀ r, r < R → Fa r < K ∧ Fb r < K) ∧ (∀ r, r < R → Fk r ≤ 4) ∧ (∀ r, R ≤ r → UN r = false) ∧ ∀ z, ¬ gov (SE Fa Fb Fk UN R) z z
def iM (K R : Nat) (Fa Fb Fk : Nat → Nat) (UN : Nat → Bool) (M : Nat → Nat) (AB OV : Nat → Bool) : Prop := (∀ z, z < K → M z = NU Fa Fb Fk UN R z) ∧ tbI AB (SE Fa Fb Fk UN R) ∧ tbI OV (gwar (SE Fa Fb Fk UN R) 48)
def iA (R : Nat) (Fa Fb Fk : Nat → Nat) (UN : Nat → Bool) (sd : Nat) (fA fB fK : Nat → Int32) : Prop := (∀ r, r < R → fA r = nI (Fa r) ∧ fB r = nI (Fb r) ∧ fK r = kI (UN r) (Fk r)) ∧ sd = cnt (fun r => !UN r) R
def iS (K R : Nat) (Fa Fb Fk : Nat → Nat) (UN : Nat → Bool) (fN : Nat → Int32) (fS fU : Nat → Int64) : Prop := (∀ z, z < K → fN z = nI (NU Fa Fb Fk UN R z)) ∧ (∀ k, K ≤ k → k < 48 → fN k = -1) ∧ (∀ x, x < 48 → ∀ z9, lb (fS x) z9 = SE Fa Fb Fk UN R x z9) ∧ ∀ x, x < 48 → ∀ z9, lb (fU x) z9 = gwar (SE Fa Fb Fk UN R) 48 x z9
def iP (d : Nat) (FR : Nat → Nat) (P : Nat → Int32) : Prop := ∀ j, j < d → P j = nI (FR j)
def iH (hm : Nat → Nat) (fH : Nat → Int32) : Prop := ∀ z, z < 48 → fH z = hI (hm z)
/-! numbers -/
theorem jnum_out {a b : Nat → Nat} {eq : Nat → Bool} {R K z : Nat} (hr : ∀ r, r < R → a r < K ∧ b r < K) (hz : K ≤ z) : jnum a b eq R z = z := by
  have h := ((jnum_ok (a := a) (b := b) (eq := eq) R).2 z).2 (fun c => if c < K then 0 else c + 1) (fun r h1 _ => by
    show (if a r < K then 0 else a r + 1) = (if b r < K then 0 else b r + 1)
    rw [if_pos (hr r h1).1, if_pos (hr r h1).2])
  have h' : (if jnum a b eq R z < K then 0 else jnum a b eq R z + 1) = (if z < K then 0 else z + 1) := h
  rw [if_neg (show ¬ z < K by omega)] at h'
  by_cases q : jnum a b eq R z < K
  · rw [if_pos q] at h'; omega
  · rw [if_neg q] at h'; omega
section ST
variable {K R : Nat} {Fa Fb Fk : Nat → Nat} {UN : Nat → Bool}
theorem SE_in (h : iR K R Fa Fb Fk UN) : gin (SE Fa Fb Fk UN R) K := jst_in (Nat.le_refl K) (fun c => jnum_le R c) h.1
theorem SE_in48 (hK : K ≤ 48) (h : iR K R Fa Fb Fk UN) : gin (SE Fa Fb Fk UN R) 48 := jst_in hK (fun c => jnum_le R c) h.1
theorem NU_lt (hK : K ≤ 48) {z : Nat} (hz : z < K) : NU Fa Fb Fk UN R z < 48 := Nat.lt_of_lt_of_le (jnum_lt hz) hK
theorem iR_context (h : iR K R Fa Fb Fk UN) : iR (K + 1) R Fa Fb Fk UN := ⟨fun r hr => ⟨Nat.lt_succ_of_lt (h.1 r hr).1, Nat.lt_succ_of_lt (h.1 r hr).2⟩, h.2⟩
theorem iS_context {fN : Nat → Int32} {fS fU : Nat → Int64} (hr : iR K R Fa Fb Fk UN) (h : iS K R Fa Fb Fk UN fN fS fU) : iS (K + 1) R Fa Fb Fk UN (upd fN K (nI K)) fS fU := by
  refine ⟨fun z hz => ?_, fun k h1 h2 => ?_, h.2.2⟩
  · by_cases e : z = K
    · subst e
      rw [pk_us]
      exact congrArg nI (jnum_out hr.1 (Nat.le_refl z)).symm
    · rw [pk_un e]
      exact h.1 z (by omega)
  · rw [pk_un (by omega)]
    exact h.2.1 k (by omega) h2
/-! the relations as the class holds them -/
theorem iA_eq {sd : Nat} {fA fB fK : Nat → Int32} (hk : ∀ r, r < R → Fk r ≤ 4) (h : iA R Fa Fb Fk UN sd fA fB fK) : ∀ r, r < R → isEq (fK r) = eqm UN Fk r ∧ isAb (fK r) = abm UN Fk r ∧ isCt (fK r) = (!UN r && decide (Fk r = 4)) := by
  intro r hr
  rw [(h.1 r hr).2.2]
  exact ⟨kI_eq (hk r hr), kI_ab (hk r hr), kI_ct (hk r hr)⟩
theorem iA_sd {sd : Nat} {fA fB fK : Nat → Int32} (h : iA R Fa Fb Fk UN sd fA fB fK) : sd ≤ R := by rw [h.2]; exact cnt_le _ R
theorem iS_of {sd : Nat} {fA fB fK gN : Nat → Int32} {gS gU : Nat → Int64} (hk : ∀ r, r < R → Fk r ≤ 4) (hA : iA R Fa Fb Fk UN sd fA fB fK)
    (h1 : ∀ x, x < K → gN x = nI (jnum Fa Fb (fun r => isEq (fK r)) R x)) (h2 : ∀ k, K ≤ k → k < 48 → gN k = -1)
    (h3 : ∀ x, x < 48 → ∀ z9, lb (gS x) z9 = jst Fa Fb (jnum Fa Fb (fun r => isEq (fK r)) R) (fun r => isAb (fK r)) R x z9)
    (h4 : ∀ x, x < 48 → ∀ z9, lb (gU x) z9 = gwar (jst Fa Fb (jnum Fa Fb (fun r => isEq (fK r)) R) (fun r => isAb (fK r)) R) 48 x z9) : iS K R Fa Fb Fk UN gN gS gU := by
  have hq := iA_eq hk hA
  have e1 : jnum Fa Fb (fun r => isEq (fK r)) R = jnum Fa Fb (eqm UN Fk) R := by
    funext c
    exact jnum_congr R c (fun r hr => ⟨rfl, rfl, (hq r hr).1⟩)
  have e2 : jst Fa Fb (jnum Fa Fb (fun r => isEq (fK r)) R) (fun r => isAb (fK r)) R = SE Fa Fb Fk UN R := by
    funext x y
    exact jst_congr R x y (fun r hr => ⟨(hq r hr).2.1, by rw [e1], by rw [e1]⟩)
  rw [e2] at h3 h4
  rw [e1] at h1
  exact ⟨h1, h2, h3, h4⟩
theorem cnt_put {P P' : Nat → Bool} {n : Nat} (h : ∀ r, r < n → P' r = P r) (hn : P' n = true) : cnt P' (n + 1) = cnt P n + 1 := by
  rw [cnt_t hn, cnt_congr n h]
theorem iA_add {sd i j kd : Nat} {fA fB fK : Nat → Int32} (hu : UN R = false) (h : iA R Fa Fb Fk UN sd fA fB fK) : iA (R + 1) (updN Fa R i) (updN Fb R j) (updN Fk R kd) UN (sd + 1) (upd fA R (nI i)) (upd fB R (nI j)) (upd fK R (nI kd)) := by
  refine ⟨fun r hr => ?_, ?_⟩
  · by_cases e : r = R
    · subst e
      rw [pk_us, pk_us, pk_us, updN_s, updN_s, updN_s, hu]
      exact ⟨rfl, rfl, rfl⟩
    · rw [pk_un e, pk_un e, pk_un e, updN_n e, updN_n e, updN_n e]
      exact h.1 r (by omega)
  · rw [cnt_t (show (!UN R) = true by rw [hu]; rfl), ← h.2]
theorem cnt_drop {UN : Nat → Bool} {j : Nat} (hu : UN j = false) : ∀ n, j < n → cnt (fun r => !updB UN j true r) n + 1 = cnt (fun r => !UN r) n
  | 0, h => absurd h (Nat.not_lt_zero _)
  | n + 1, h => by
    by_cases e : j = n
    · subst e
      rw [cnt_f (show (!updB UN j true j) = false by rw [updB_s]; rfl), cnt_t (show (!UN j) = true by rw [hu]; rfl)]
      rw [cnt_congr j (P' := fun r => !UN r) (fun r hr => by rw [updB_n (by omega)])]
    · have ih := cnt_drop hu n (by omega)
      cases hb : UN n with
      | false =>
        rw [cnt_t (show (!updB UN j true n) = true by rw [updB_n (Ne.symm e), hb]; rfl), cnt_t (show (!UN n) = true by rw [hb]; rfl)]
        omega
      | true =>
        rw [cnt_f (show (!updB UN j true n) = false by rw [updB_n (Ne.symm e), hb]; rfl), cnt_f (show (!UN n) = false by rw [hb]; rfl)]
        exact ih
theorem iA_drop {sd j : Nat} {fA fB fK : Nat → Int32} (hj : j < R) (hu : UN j = false) (h : iA R Fa Fb Fk UN sd fA fB fK) : iA R Fa Fb Fk (updB UN j true) (sd - 1) fA fB (upd fK j (-1)) ∧ 0 < sd := by
  have hc := cnt_drop hu R hj
  refine ⟨⟨fun r hr => ?_, ?_⟩, ?_⟩
  · by_cases e : r = j
    · subst e
      rw [pk_us, updB_s]
      exact ⟨(h.1 r hr).1, (h.1 r hr).2.1, rfl⟩
    · rw [pk_un e, updB_n e]
      exact h.1 r hr
  · rw [h.2]; omega
  · rw [h.2]; omega
theorem updB_id {UN : Nat → Bool} {j : Nat} (h : UN j = true) : updB UN j true = UN := by
  funext r
  by_cases e : r = j
  · subst e; rw [updB_s, h]
  · rw [updB_n e]
/-! numbers and steps after one relation more -/
theorem NU_old {i j kd : Nat} : jnum (updN Fa R i) (updN Fb R j) (eqm UN (updN Fk R kd)) R = NU Fa Fb Fk UN R := by
  funext c
  refine jnum_congr R c (fun r hr => ⟨updN_n (by omega), updN_n (by omega), ?_⟩)
  simp only [eqm]
  rw [updN_n (by omega)]
theorem NU_add1 {i j kd : Nat} (hk : kd ≠ 3) : NU (updN Fa R i) (updN Fb R j) (updN Fk R kd) UN (R + 1) = NU Fa Fb Fk UN R := by
  funext c
  rw [show NU (updN Fa R i) (updN Fb R j) (updN Fk R kd) UN (R + 1) c = jnum (updN Fa R i) (updN Fb R j) (eqm UN (updN Fk R kd)) (R + 1) c from rfl, jnum_same (by simp [eqm, updN_s, hk]), NU_old]
theorem NU_add3 {i j : Nat} (hu : UN R = false) (c : Nat) : NU (updN Fa R i) (updN Fb R j) (updN Fk R 3) UN (R + 1) c = if NU Fa Fb Fk UN R c = max (NU Fa Fb Fk UN R i) (NU Fa Fb Fk UN R j) then min (NU Fa Fb Fk UN R i) (NU Fa Fb Fk UN R j) else NU Fa Fb Fk UN R c := by
  have he : eqm UN (updN Fk R 3) R = true := by simp [eqm, updN_s, hu]
  show jnum (updN Fa R i) (updN Fb R j) (eqm UN (updN Fk R 3)) (R + 1) c = _
  simp only [jnum, he, true_and, updN_s]
  rw [NU_old]
theorem SE_same {i j kd : Nat} (hn : NU (updN Fa R i) (updN Fb R j) (updN Fk R kd) UN (R + 1) = NU Fa Fb Fk UN R) (hk : 3 ≤ kd) : SE (updN Fa R i) (updN Fb R j) (updN Fk R kd) UN (R + 1) = SE Fa Fb Fk UN R := by
  funext x y
  rw [Bool.eq_iff_iff]
  show jst (updN Fa R i) (updN Fb R j) (NU (updN Fa R i) (updN Fb R j) (updN Fk R kd) UN (R + 1)) (abm UN (updN Fk R kd)) (R + 1) x y = true ↔ jst Fa Fb (NU Fa Fb Fk UN R) (abm UN Fk) R x y = true
  rw [hn, jst_iff, jst_iff]
  constructor
  · rintro ⟨r, hr, h1, h2, h3⟩
    by_cases e : r = R
    · subst e
      simp [abm, updN_s] at h1
      omega
    · rw [updN_n e] at h2 h3
      simp only [abm] at h1
      rw [updN_n e] at h1
      exact ⟨r, by omega, h1, h2, h3⟩
  · rintro ⟨r, hr, h1, h2, h3⟩
    have e : r ≠ R := by omega
    refine ⟨r, by omega, ?_, by rw [updN_n e]; exact h2, by rw [updN_n e]; exact h3⟩
    simp only [abm]
    rw [updN_n e]
    exact h1
theorem SE_edge {i j kd : Nat} (hu : UN R = false) (hk : kd < 3) : SE (updN Fa R i) (updN Fb R j) (updN Fk R kd) UN (R + 1) = gadd (SE Fa Fb Fk UN R) (NU Fa Fb Fk UN R i) (NU Fa Fb Fk UN R j) := by
  funext x y
  rw [Bool.eq_iff_iff]
  show jst (updN Fa R i) (updN Fb R j) (NU (updN Fa R i) (updN Fb R j) (updN Fk R kd) UN (R + 1)) (abm UN (updN Fk R kd)) (R + 1) x y = true ↔ _
  rw [NU_add1 (by omega), jst_iff]
  constructor
  · rintro ⟨r, hr, h1, h2, h3⟩
    by_cases e : r = R
    · subst e
      rw [updN_s] at h2 h3
      subst h2
      subst h3
      exact gadd_r
    · rw [updN_n e] at h2 h3
      simp only [abm] at h1
      rw [updN_n e] at h1
      exact gadd_l ((jst_iff R x y).mpr ⟨r, by omega, h1, h2, h3⟩)
  · intro h
    rcases gadd_or h with h | ⟨h1, h2⟩
    · obtain ⟨r, hr, h1, h2, h3⟩ := (jst_iff R x y).mp h
      have e : r ≠ R := by omega
      refine ⟨r, by omega, ?_, by rw [updN_n e]; exact h2, by rw [updN_n e]; exact h3⟩
      simp only [abm]
      rw [updN_n e]
      exact h1
    · refine ⟨R, by omega, by simp [abm, updN_s, hu, hk], by rw [updN_s, h1], by rw [updN_s, h2]⟩
/-- what is told makes no ring: the steps stay without one -/
theorem acyc_add {i j kd : Nat} (hu : UN R = false) (hac : ∀ z, ¬ gov (SE Fa Fb Fk UN R) z z) (hT : kd = 4 ∨ (kd < 3 ∧ (∀ k, ¬ gw (gadd (SE Fa Fb Fk UN R) (NU Fa Fb Fk UN R i) (NU Fa Fb Fk UN R j)) (k + 1) (NU Fa Fb Fk UN R i) (NU Fa Fb Fk UN R i))) ∨ (kd = 3 ∧ NU Fa Fb Fk UN R i = NU Fa Fb Fk UN R j) ∨ (kd = 3 ∧ NU Fa Fb Fk UN R i ≠ NU Fa Fb Fk UN R j ∧ (∀ k, ¬ gw (gadd (SE Fa Fb Fk UN R) (NU Fa Fb Fk UN R j) (NU Fa Fb Fk UN R i)) (k + 1) (NU Fa Fb Fk UN R i) (NU Fa Fb Fk UN R i)) ∧ (∀ k, ¬ gw (gadd (SE Fa Fb Fk UN R) (NU Fa Fb Fk UN R i) (NU Fa Fb Fk UN R j)) (k + 1) (NU Fa Fb Fk UN R j) (NU Fa Fb Fk UN R j)))) :
    ∀ z, ¬ gov (SE (updN Fa R i) (updN Fb R j) (updN Fk R kd) UN (R + 1)) z z := by
  rcases hT with k1 | ⟨k1, g1⟩ | ⟨k1, k2⟩ | ⟨k1, k2, g0, g1⟩
  · subst k1
    rw [SE_same (NU_add1 (by omega)) (by omega)]
    exact hac
  · rw [SE_edge hu k1]
    exact acyc_edge hac (no_self g1) (no_gov g1)
  · subst k1
    have hn : NU (updN Fa R i) (updN Fb R j) (updN Fk R 3) UN (R + 1) = NU Fa Fb Fk UN R := by
      funext c
      rw [NU_add3 hu, k2]
      by_cases q : NU Fa Fb Fk UN R c = max (NU Fa Fb Fk UN R j) (NU Fa Fb Fk UN R j)
      · rw [if_pos q, q, Nat.max_self, Nat.min_self]
      · rw [if_neg q]
    rw [SE_same hn (by omega)]
    exact hac
  · subst k1
    refine acyc_join (x := NU Fa Fb Fk UN R i) (y := NU Fa Fb Fk UN R j) (f := fun u => if u = max (NU Fa Fb Fk UN R i) (NU Fa Fb Fk UN R j) then min (NU Fa Fb Fk UN R i) (NU Fa Fb Fk UN R j) else u) hac (no_gov2 g0) (no_gov2 g1) (fun u v h => ?_) (fun u v h => ?_)
    · revert h
      generalize NU Fa Fb Fk UN R i = x
      generalize NU Fa Fb Fk UN R j = y
      intro h
      have h' : (if u = max x y then min x y else u) = (if v = max x y then min x y else v) := h
      by_cases q1 : u = max x y
      · by_cases q2 : v = max x y
        · exact Or.inl (q1.trans q2.symm)
        · rw [if_pos q1, if_neg q2] at h'
          omega
      · by_cases q2 : v = max x y
        · rw [if_neg q1, if_pos q2] at h'
          omega
        · rw [if_neg q1, if_neg q2] at h'
          exact Or.inl h'
    · obtain ⟨r, hr, h1, h2, h3⟩ := (jst_iff (R + 1) u v).mp h
      by_cases e : r = R
      · subst e
        simp [abm, updN_s] at h1
      · rw [updN_n e] at h2 h3
        simp only [abm] at h1
        rw [updN_n e] at h1
        have e2 := (NU_add3 (i := i) (j := j) (Fa := Fa) (Fb := Fb) (Fk := Fk) hu (Fa r)).symm.trans h2
        have e3 := (NU_add3 (i := i) (j := j) (Fa := Fa) (Fb := Fb) (Fk := Fk) hu (Fb r)).symm.trans h3
        exact ⟨NU Fa Fb Fk UN R (Fa r), NU Fa Fb Fk UN R (Fb r), e2, e3, (jst_iff R _ _).mpr ⟨r, by omega, h1, rfl, rfl⟩⟩
theorem iR_add {i j kd : Nat} (h : iR K R Fa Fb Fk UN) (hi : i < K) (hj : j < K) (hk : kd ≤ 4) (hac : ∀ z, ¬ gov (SE (updN Fa R i) (updN Fb R j) (updN Fk R kd) UN (R + 1)) z z) : iR K (R + 1) (updN Fa R i) (updN Fb R j) (updN Fk R kd) UN :=
  ⟨fun r hr => ⟨upd_lt hi (fun r hr => (h.1 r hr).1) r hr, upd_lt hj (fun r hr => (h.1 r hr).2) r hr⟩, fun r hr => Nat.le_of_lt_succ (upd_lt (K := 5) (by omega) (fun r hr => Nat.lt_succ_of_le (h.2.1 r hr)) r hr), fun r hr => h.2.2.1 r (by omega), hac⟩
theorem iS_add4 {i j : Nat} {fN : Nat → Int32} {fS fU : Nat → Int64} (h : iS K R Fa Fb Fk UN fN fS fU) : iS K (R + 1) (updN Fa R i) (updN Fb R j) (updN Fk R 4) UN fN fS fU := by
  have hn : NU (updN Fa R i) (updN Fb R j) (updN Fk R 4) UN (R + 1) = NU Fa Fb Fk UN R := NU_add1 (by omega)
  have hs := SE_same hn (show 3 ≤ 4 by omega)
  refine ⟨fun z hz => ?_, h.2.1, fun x hx z9 => ?_, fun x hx z9 => ?_⟩
  · rw [hn]; exact h.1 z hz
  · rw [hs]; exact h.2.2.1 x hx z9
  · rw [hs]; exact h.2.2.2 x hx z9
/-! one relation less -/
theorem iR_drop {j : Nat} (hj : j < R) (h : iR K R Fa Fb Fk UN) : iR K R Fa Fb Fk (updB UN j true) := by
  have hsub : ∀ r, eqm (updB UN j true) Fk r = true → eqm UN Fk r = true := by
    intro r hr
    by_cases e : r = j
    · subst e; simp [eqm, updB_s] at hr
    · simp only [eqm] at hr ⊢; rw [updB_n e] at hr; exact hr
  refine ⟨h.1, h.2.1, fun r hr => by rw [updB_n (by omega)]; exact h.2.2.1 r hr, ?_⟩
  refine acyc_map (f := NU Fa Fb Fk UN R) h.2.2.2 (fun u v he => ?_)
  obtain ⟨r, hr, h1, h2, h3⟩ := (jst_iff R u v).mp he
  have hfix : jfix Fa Fb (eqm (updB UN j true) Fk) R (NU Fa Fb Fk UN R) := fun r hr h9 => (jnum_ok R).1 r hr (hsub r h9)
  have hab : abm UN Fk r = true := by
    by_cases e : r = j
    · subst e; simp [abm, updB_s] at h1
    · simp only [abm] at h1 ⊢; rw [updB_n e] at h1; exact h1
  refine (jst_iff R _ _).mpr ⟨r, hr, hab, ?_, ?_⟩
  · rw [← h2]; exact (((jnum_ok R).2 (Fa r)).2 _ hfix).symm
  · rw [← h3]; exact (((jnum_ok R).2 (Fb r)).2 _ hfix).symm
/-! what is read -/
theorem iS_row (hK : K ≤ 48) (hr : iR K R Fa Fb Fk UN) {fN : Nat → Int32} {fS fU : Nat → Int64} (h : iS K R Fa Fb Fk UN fN fS fU) : rowE 48 fS = SE Fa Fb Fk UN R := rowE_jst (SE_in48 hK hr) h.2.2.1
theorem iM_tab (hK : K ≤ 48) (hr : iR K R Fa Fb Fk UN) {M : Nat → Nat} {AB OV : Nat → Bool} (h : iM K R Fa Fb Fk UN M AB OV) : tE 48 AB = SE Fa Fb Fk UN R := tE_of (SE_in48 hK hr) h.2.1
theorem iS_f (hK : K ≤ 48) (hr : iR K R Fa Fb Fk UN) {fN : Nat → Int32} {fS fU : Nat → Int64} (h : iS K R Fa Fb Fk UN fN fS fU) : ∀ z, z < 48 → ∀ j, lb (fS z) j = true → j < 48 := fun z hz j hb => by
  rw [h.2.2.1 z hz j] at hb
  exact (SE_in48 hK hr z j hb).2
theorem iS_u (hK : K ≤ 48) (hr : iR K R Fa Fb Fk UN) {fN : Nat → Int32} {fS fU : Nat → Int64} (h : iS K R Fa Fb Fk UN fN fS fU) : ∀ u, u < 48 → ∀ x, lb (fU u) x = true → x < 48 := fun u hu x hb => by
  rw [h.2.2.2 u hu x] at hb
  exact (gwar_in (SE_in48 hK hr) hb).2
theorem ring_or (G : Nat → Nat → Bool) (t : Nat) : (∃ d pp, gring G t d pp) ∨ ∀ k, ¬ gw G (k + 1) t t := by
  by_cases h : ∃ k, gw G (k + 1) t t
  · obtain ⟨k, hk⟩ := h
    obtain ⟨j, -, hj⟩ := gD_of (Nat.succ_pos k) hk
    obtain ⟨pp, hp⟩ := gring_ex hj
    exact Or.inl ⟨j, pp, hp⟩
  · exact Or.inr (fun k hk => h ⟨k, hk⟩)
theorem gin_gadd {E : Nat → Nat → Bool} {x y N : Nat} (hE : gin E N) (hx : x < N) (hy : y < N) : gin (gadd E x y) N := by
  intro a b h
  rcases gadd_or h with h | ⟨h1, h2⟩
  · exact hE a b h
  · subst h1; subst h2; exact ⟨hx, hy⟩
/-- a relation either tells a ring or makes none -/
theorem told_or {E : Nat → Nat → Bool} {x y kd : Nat} (hk : kd ≤ 4) (hE : gin E 48) (hx : x < 48) (hy : y < 48) :
    (∃ d pp, d ≤ 48 ∧ ((kd < 3 ∧ gring (gadd E x y) x d pp) ∨ (kd = 3 ∧ x ≠ y ∧ gring (gadd E y x) x d pp) ∨ (kd = 3 ∧ x ≠ y ∧ (∀ k, ¬ gw (gadd E y x) (k + 1) x x) ∧ gring (gadd E x y) y d pp))) ∨
    (kd = 4 ∨ (kd < 3 ∧ (∀ k, ¬ gw (gadd E x y) (k + 1) x x)) ∨ (kd = 3 ∧ x = y) ∨ (kd = 3 ∧ x ≠ y ∧ (∀ k, ¬ gw (gadd E y x) (k + 1) x x) ∧ (∀ k, ¬ gw (gadd E x y) (k + 1) y y))) := by
  have g1 := gin_gadd hE hx hy
  have g2 := gin_gadd hE hy hx
  rcases (show kd = 4 ∨ kd < 3 ∨ kd = 3 by omega) with h | h | h
  · exact Or.inr (Or.inl h)
  · rcases ring_or (gadd E x y) x with ⟨d, pp, q⟩ | q
    · exact Or.inl ⟨d, pp, gD_le g1 q.1, Or.inl ⟨h, q⟩⟩
    · exact Or.inr (Or.inr (Or.inl ⟨h, q⟩))
  · by_cases e : x = y
    · exact Or.inr (Or.inr (Or.inr (Or.inl ⟨h, e⟩)))
    · rcases ring_or (gadd E y x) x with ⟨d, pp, q⟩ | q
      · exact Or.inl ⟨d, pp, gD_le g2 q.1, Or.inr (Or.inl ⟨h, e, q⟩)⟩
      · rcases ring_or (gadd E x y) y with ⟨d, pp, q2⟩ | q2
        · exact Or.inl ⟨d, pp, gD_le g1 q2.1, Or.inr (Or.inr ⟨h, e, q, q2⟩)⟩
        · exact Or.inr (Or.inr (Or.inr (Or.inr ⟨h, e, q, q2⟩)))
theorem OV_U (hK : K ≤ 48) {M : Nat → Nat} {AB OV : Nat → Bool} {fN : Nat → Int32} {fS fU : Nat → Int64} (hS : iS K R Fa Fb Fk UN fN fS fU) (hM : iM K R Fa Fb Fk UN M AB OV) {x y : Nat} (hx : x < 48) (hy : y < 48) : OV (48 * x + y) = lb (fU x) y := by
  rw [hM.2.2 x hx y hy, hS.2.2.2 x hx y]
theorem order_eq (hK : K ≤ 48) {M : Nat → Nat} {AB OV : Nat → Bool} {fN : Nat → Int32} {fS fU : Nat → Int64} (hS : iS K R Fa Fb Fk UN fN fS fU) (hM : iM K R Fa Fb Fk UN M AB OV) {i j : Nat} (hi : i < K) (hj : j < K) :
    (if OV (48 * M i + M j) = true then (1 : Int32) else if OV (48 * M j + M i) = true then -1 else 0) = (if lb (fU (NU Fa Fb Fk UN R i)) (NU Fa Fb Fk UN R j) = true then 1 else if lb (fU (NU Fa Fb Fk UN R j)) (NU Fa Fb Fk UN R i) = true then -1 else 0) := by
  rw [hM.1 i hi, hM.1 j hj, OV_U hK hS hM (NU_lt hK hi) (NU_lt hK hj), OV_U hK hS hM (NU_lt hK hj) (NU_lt hK hi)]
/-! tables counted row by row -/
theorem tab_cnt {P : Nat → Bool} {B : Nat → Nat → Bool} (hP : ∀ z, z < 48 → ∀ x, x < 48 → P (48 * z + x) = B z x) (h0 : ∀ z, z < 48 → ∀ x, 48 ≤ x → B z x = false) : ∀ u, u ≤ 48 → cnt P (48 * u) = lsum (fun z => cnt (B z) 64) u
  | 0, _ => rfl
  | u + 1, h => by
    have ih := tab_cnt hP h0 u (by omega)
    rw [show 48 * (u + 1) = 48 * u + 48 by omega, cnt_add, ih]
    simp only [lsum]
    congr 1
    rw [cnt_congr 48 (P' := B u) (fun j hj => hP u (by omega) j hj)]
    exact (cnt_stop (a := 48) (fun j hj => h0 u (by omega) j hj) 16).symm
theorem lsum_stop {F : Nat → Nat} {K : Nat} : ∀ k, (∀ z, K ≤ z → z < K + k → F z = 0) → lsum F (K + k) = lsum F K
  | 0, _ => rfl
  | k + 1, h => by
    show lsum F (K + k) + F (K + k) = lsum F K
    rw [h (K + k) (by omega) (by omega), lsum_stop k (fun z h1 h2 => h z h1 (by omega))]
    rfl
theorem cnt_all0 {P : Nat → Bool} : ∀ n, (∀ j, j < n → P j = false) → cnt P n = 0
  | 0, _ => rfl
  | n + 1, h => by rw [cnt_f (h n (by omega))]; exact cnt_all0 n (fun j hj => h j (by omega))
theorem tab_all {P : Nat → Bool} {B : Nat → Nat → Bool} {K : Nat} (hK : K ≤ 48) (hP : ∀ z, z < 48 → ∀ x, x < 48 → P (48 * z + x) = B z x) (h0 : ∀ z, z < 48 → ∀ x, 48 ≤ x → B z x = false) (h1 : ∀ z, K ≤ z → z < 48 → ∀ x, B z x = false) : cnt P 2304 = lsum (fun z => cnt (B z) 64) K := by
  rw [show 2304 = 48 * 48 from rfl, tab_cnt hP h0 48 (Nat.le_refl 48)]
  have := lsum_stop (F := fun z => cnt (B z) 64) (K := K) (48 - K) (fun z a b => cnt_all0 64 (fun j _ => h1 z a (by omega) j))
  rw [show K + (48 - K) = 48 by omega] at this
  exact this
/-- the k-th of a table: its row, its column -/
theorem tab_nth {P : Nat → Bool} {B : Nat → Nat → Bool} {p k u : Nat} (hP : ∀ z, z < 48 → ∀ x, x < 48 → P (48 * z + x) = B z x) (h0 : ∀ z, z < 48 → ∀ x, 48 ≤ x → B z x = false) (hp : p < 2304) (hpp : P p = true) (hc : cnt P p = k) (hu : u < 48) (l1 : lsum (fun z => cnt (B z) 64) u ≤ k) (l2 : k < lsum (fun z => cnt (B z) 64) u + cnt (B u) 64) : p / 48 = u ∧ B u (p % 48) = true ∧ cnt (B u) (p % 48) = k - lsum (fun z => cnt (B z) 64) u := by
  have hv : p / 48 < 48 := by omega
  have hx : p % 48 < 48 := by omega
  have e : 48 * (p / 48) + p % 48 = p := by omega
  have hB : B (p / 48) (p % 48) = true := by rw [← hP _ hv _ hx, e]; exact hpp
  have hk : k = lsum (fun z => cnt (B z) 64) (p / 48) + cnt (B (p / 48)) (p % 48) := by
    rw [← hc]
    have h9 : cnt P (48 * (p / 48) + p % 48) = cnt P p := by rw [e]
    rw [← h9, cnt_add, tab_cnt hP h0 _ (by omega)]
    congr 1
    exact cnt_congr _ (fun j hj => hP _ hv j (by omega))
  have hl : cnt (B (p / 48)) (p % 48) < cnt (B (p / 48)) 64 := by
    have := cnt_mono (B (p / 48)) (show p % 48 + 1 ≤ 64 by omega)
    rw [cnt_t hB] at this
    omega
  have hs : ∀ v, lsum (fun z => cnt (B z) 64) (v + 1) = lsum (fun z => cnt (B z) 64) v + cnt (B v) 64 := fun v => rfl
  have key : p / 48 = u := by
    rcases Nat.lt_trichotomy (p / 48) u with q | q | q
    · have := lsum_mono (fun z => cnt (B z) 64) (show p / 48 + 1 ≤ u from q)
      rw [hs] at this
      omega
    · exact q
    · have := lsum_mono (fun z => cnt (B z) 64) (show u + 1 ≤ p / 48 from q)
      rw [hs] at this
      omega
  rw [key] at hB hk
  exact ⟨key, hB, by omega⟩
theorem lk_tab (hK : K ≤ 48) {M : Nat → Nat} {AB OV : Nat → Bool} {fN : Nat → Int32} {fS fU : Nat → Int64} (hS : iS K R Fa Fb Fk UN fN fS fU) (hM : iM K R Fa Fb Fk UN M AB OV) : ∀ z, z < 48 → ∀ x, x < 48 → lkP OV K (48 * z + x) = lkB fU K z x := by
  intro z hz x hx
  have e1 : (48 * z + x) / 48 = z := by omega
  have e2 : (48 * z + x) % 48 = x := by omega
  simp only [lkP, lkT, lkB, e1, e2]
  rw [OV_U hK hS hM hz hx]
  have hany : ∀ n, n ≤ K → anyB (fun k => OV (48 * z + k) && OV (48 * k + x)) n = anyB (fun k => lb (fU z) k && lb (fU k) x) n := by
    intro n
    induction n with
    | zero => intro _; rfl
    | succ n ih =>
      intro hn
      simp only [anyB]
      rw [ih (by omega), OV_U hK hS hM hz (show n < 48 by omega), OV_U hK hS hM (show n < 48 by omega) hx]
  rw [hany K (Nat.le_refl K)]
theorem lk_far (hK : K ≤ 48) (hr : iR K R Fa Fb Fk UN) {fN : Nat → Int32} {fS fU : Nat → Int64} (hS : iS K R Fa Fb Fk UN fN fS fU) : ∀ z, z < 48 → ∀ x, 48 ≤ x → lkB fU K z x = false := by
  intro z hz x hx
  have : lb (fU z) x = false := by
    cases hb : lb (fU z) x with
    | false => rfl
    | true => have := iS_u hK hr hS z hz x hb; omega
  simp [lkB, this]
theorem U_far (hK : K ≤ 48) (hr : iR K R Fa Fb Fk UN) {fN : Nat → Int32} {fS fU : Nat → Int64} (hS : iS K R Fa Fb Fk UN fN fS fU) : ∀ z, z < 48 → ∀ x, 48 ≤ x → lb (fU z) x = false := by
  intro z hz x hx
  cases hb : lb (fU z) x with
  | false => rfl
  | true => have := iS_u hK hr hS z hz x hb; omega
theorem U_none (hK : K ≤ 48) (hr : iR K R Fa Fb Fk UN) {fN : Nat → Int32} {fS fU : Nat → Int64} (hS : iS K R Fa Fb Fk UN fN fS fU) : ∀ z, K ≤ z → z < 48 → ∀ x, lb (fU z) x = false := by
  intro z hz hz2 x
  cases hb : lb (fU z) x with
  | false => rfl
  | true =>
    rw [hS.2.2.2 z hz2 x] at hb
    have := (gov_lt (SE_in hr) (gwar_gov 48 z x hb)).1
    omega
theorem links_eq (hK : K ≤ 48) (hr : iR K R Fa Fb Fk UN) {M : Nat → Nat} {AB OV : Nat → Bool} {fN : Nat → Int32} {fS fU : Nat → Int64} (hS : iS K R Fa Fb Fk UN fN fS fU) (hM : iM K R Fa Fb Fk UN M AB OV) : cnt (lkP OV K) 2304 = lsum (fun z9 => cnt (lkB fU K z9) 64) K :=
  tab_all hK (lk_tab hK hS hM) (lk_far hK hr hS) (fun z h1 h2 x => by simp [lkB, U_none hK hr hS z h1 h2 x])
theorem pairs_eq (hK : K ≤ 48) (hr : iR K R Fa Fb Fk UN) {M : Nat → Nat} {AB OV : Nat → Bool} {fN : Nat → Int32} {fS fU : Nat → Int64} (hS : iS K R Fa Fb Fk UN fN fS fU) (hM : iM K R Fa Fb Fk UN M AB OV) : cnt OV 2304 = lsum (fun z9 => cnt (lb (fU z9)) 64) K :=
  tab_all hK (fun z hz x hx => OV_U hK hS hM hz hx) (U_far hK hr hS) (U_none hK hr hS)
theorem joined_eq (hK : K ≤ 48) {M : Nat → Nat} {AB OV : Nat → Bool} {fN : Nat → Int32} {fS fU : Nat → Int64} (hS : iS K R Fa Fb Fk UN fN fS fU) (hM : iM K R Fa Fb Fk UN M AB OV) : cnt (fun z => decide (M z = z)) K = cnt (fun z => decide (fN z = nI z)) K := by
  refine cnt_congr K (fun z hz => ?_)
  have l1 : NU Fa Fb Fk UN R z < 48 := NU_lt hK hz
  show decide (M z = z) = decide (fN z = nI z)
  rw [hM.1 z hz, hS.1 z hz]
  exact decide_eq_decide.mpr (nI_eq (by omega) (by omega)).symm
theorem ct_eq {sd : Nat} {fA fB fK : Nat → Int32} {M : Nat → Nat} {AB OV : Nat → Bool} (hr : iR K R Fa Fb Fk UN) (hA : iA R Fa Fb Fk UN sd fA fB fK) (hM : iM K R Fa Fb Fk UN M AB OV) {i j : Nat} (hi : i < K) (hj : j < K) : (decide (M i = M j) || anyB (ctm UN Fk Fa Fb M (M i) (M j)) R) = (decide (NU Fa Fb Fk UN R i = NU Fa Fb Fk UN R j) || anyB (ctP fK Fa Fb (NU Fa Fb Fk UN R) i j) R) := by
  rw [hM.1 i hi, hM.1 j hj]
  congr 1
  have key : ∀ n, n ≤ R → anyB (ctm UN Fk Fa Fb M (NU Fa Fb Fk UN R i) (NU Fa Fb Fk UN R j)) n = anyB (ctP fK Fa Fb (NU Fa Fb Fk UN R) i j) n := by
    intro n
    induction n with
    | zero => intro _; rfl
    | succ n ih =>
      intro hn
      simp only [anyB]
      rw [ih (by omega)]
      congr 1
      have h1 := hr.1 n (by omega)
      have h2 := (iA_eq hr.2.1 hA n (by omega)).2.2
      simp only [ctm, ctP, ctQ]
      rw [h2, hM.1 _ h1.1, hM.1 _ h1.2]
      simp only [eq_comm (a := NU Fa Fb Fk UN R i), eq_comm (a := NU Fa Fb Fk UN R j)]
      rw [Bool.and_comm (decide (NU Fa Fb Fk UN R (Fb n) = NU Fa Fb Fk UN R i))]
  exact key R (Nat.le_refl R)
theorem gpE_congr {ov ov' : Nat → Nat → Bool} {hm : Nat → Nat} (h : ∀ x, x < K → ∀ y, y < K → ov x y = ov' x y) : gpE ov hm K = gpE ov' hm K := by
  funext g j
  rw [Bool.eq_iff_iff, gpE_iff, gpE_iff]
  constructor
  · rintro ⟨x, y, hx, hy, a, b, c, d, f, q⟩
    exact ⟨x, y, hx, hy, a, b, c, d, f, by rw [← h x hx y hy]; exact q⟩
  · rintro ⟨x, y, hx, hy, a, b, c, d, f, q⟩
    exact ⟨x, y, hx, hy, a, b, c, d, f, by rw [h x hx y hy]; exact q⟩
theorem gp_eq (hK : K ≤ 48) {M : Nat → Nat} {AB OV : Nat → Bool} {fN : Nat → Int32} {fS fU : Nat → Int64} (hS : iS K R Fa Fb Fk UN fN fS fU) (hM : iM K R Fa Fb Fk UN M AB OV) (hm : Nat → Nat) : gpE (fun x y => OV (48 * M x + M y)) hm K = gpE (fun x y => lb (fU (NU Fa Fb Fk UN R x)) (NU Fa Fb Fk UN R y)) hm K :=
  gpE_congr (fun x hx y hy => by
    show OV (48 * M x + M y) = _
    rw [hM.1 x hx, hM.1 y hy]
    exact OV_U hK hS hM (NU_lt hK hx) (NU_lt hK hy))
theorem U_gov (hK : K ≤ 48) (hr : iR K R Fa Fb Fk UN) {fN : Nat → Int32} {fS fU : Nat → Int64} (hS : iS K R Fa Fb Fk UN fN fS fU) : ∀ y, y < 48 → ∀ j, lb (fU y) j = true ↔ gov (SE Fa Fb Fk UN R) y j := fun y hy j => by
  rw [hS.2.2.2 y hy j]
  exact gwar_iff (SE_in48 hK hr) y j
theorem S_num {fN : Nat → Int32} {fS fU : Nat → Int64} (hK : K ≤ 48) (hS : iS K R Fa Fb Fk UN fN fS fU) : ∀ z, z < K → fN z = nI (NU Fa Fb Fk UN R z) ∧ NU Fa Fb Fk UN R z < 48 := fun z hz => ⟨hS.1 z hz, NU_lt hK hz⟩
theorem M_lt {M : Nat → Nat} {AB OV : Nat → Bool} (hK : K ≤ 48) (hM : iM K R Fa Fb Fk UN M AB OV) : ∀ z, z < K → M z < 48 := fun z hz => by rw [hM.1 z hz]; exact NU_lt hK hz
theorem A_a {sd : Nat} {fA fB fK : Nat → Int32} (hr : iR K R Fa Fb Fk UN) (hA : iA R Fa Fb Fk UN sd fA fB fK) : ∀ r, r < R → fA r = nI (Fa r) ∧ Fa r < K := fun r h => ⟨(hA.1 r h).1, (hr.1 r h).1⟩
theorem A_b {sd : Nat} {fA fB fK : Nat → Int32} (hr : iR K R Fa Fb Fk UN) (hA : iA R Fa Fb Fk UN sd fA fB fK) : ∀ r, r < R → fB r = nI (Fb r) ∧ Fb r < K := fun r h => ⟨(hA.1 r h).2.1, (hr.1 r h).2⟩
end ST
theorem iP_of {d : Nat} {FR pp : Nat → Nat} {P : Nat → Int32} (h1 : ∀ j, j < d → P j = nI (pp j)) (h2 : ∀ j, j < d → FR j = pp j) : iP d FR P := fun j hj => by rw [h1 j hj, h2 j hj]
theorem int_cases (K : Nat) (hK : K ≤ 2 ^ 20) (x : Int32) : (∃ i, i < K ∧ x = nI i) ∨ badI K x := by
  by_cases h0 : x < 0
  · exact Or.inr (Or.inl h0)
  · by_cases h1 : nI K ≤ x
    · exact Or.inr (Or.inr h1)
    · have a0 : ¬ x.toInt < 0 := fun q => h0 (Int32.lt_iff_toInt_lt.mpr q)
      have a1 : ¬ (nI K).toInt ≤ x.toInt := fun q => h1 (Int32.le_iff_toInt_le.mpr q)
      rw [nI_toInt (by omega)] at a1
      refine Or.inl ⟨x.toInt.toNat, by omega, ?_⟩
      apply Int32.toInt_inj.mp
      rw [nI_toInt (by omega)]
      omega
theorem int_nat (x : Int32) : (∃ k, k < 2 ^ 31 ∧ x = nI k) ∨ x < 0 := by
  by_cases h0 : x < 0
  · exact Or.inr h0
  · have a0 : ¬ x.toInt < 0 := fun q => h0 (Int32.lt_iff_toInt_lt.mpr q)
    have a1 := Int32.toInt_lt x
    refine Or.inl ⟨x.toInt.toNat, by omega, ?_⟩
    apply Int32.toInt_inj.mp
    rw [nI_toInt (by omega)]
    omega
