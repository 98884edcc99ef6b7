/-! a long as a set of numbers below 64 -/
def lb (w : Int64) (j : Nat) : Bool := w.toBitVec.getLsbD j
theorem lb_ext {x y : Int64} (h : ∀ j, j < 64 → lb x j = lb y j) : x = y := by
  rw [← Int64.toBitVec_inj]
  exact BitVec.eq_of_getLsbD_eq (fun i hi => h i hi)
theorem lb_big {x : Int64} {j : Nat} (h : 64 ≤ j) : lb x j = false := BitVec.getLsbD_of_ge _ _ h
theorem lb_0 (j : Nat) : lb 0 j = false := by
  show (0#64).getLsbD j = false
  simp
theorem lb_and (x y : Int64) (j : Nat) : lb (x &&& y) j = (lb x j && lb y j) := by
  simp only [lb, Int64.toBitVec_and, BitVec.getLsbD_and]
theorem lb_or (x y : Int64) (j : Nat) : lb (x ||| y) j = (lb x j || lb y j) := by
  simp only [lb, Int64.toBitVec_or, BitVec.getLsbD_or]
theorem lb_not (x : Int64) {j : Nat} (hj : j < 64) : lb (x ^^^ (-1)) j = !lb x j := by
  have e : (-1 : Int64).toBitVec = BitVec.allOnes 64 := by decide +kernel
  simp only [lb, Int64.toBitVec_xor, BitVec.getLsbD_xor, e, BitVec.getLsbD_allOnes, hj, decide_true, Bool.xor_true]
theorem lb_pow : ∀ k, k < 64 → ((1 : Int64) <<< ((nI k).toInt64 &&& 63)).toBitVec = BitVec.twoPow 64 k := by decide +kernel
theorem lb_one {k : Nat} (hk : k < 64) (j : Nat) : lb ((1 : Int64) <<< ((nI k).toInt64 &&& 63)) j = decide (j = k) := by
  simp only [lb, lb_pow k hk, BitVec.getLsbD_twoPow, hk, decide_true, Bool.true_and]
  by_cases h : k = j
  · subst h; simp
  · simp [h, Ne.symm h]
theorem lb_cnt : ∀ k, k < 64 → ((nI k).toInt64.toUInt64 &&& Int64.toUInt64 63).toNat = k := by decide +kernel
theorem lb_shr {k : Nat} (hk : k < 64) (w : Int64) : ((w.toUInt64 >>> ((nI k).toInt64.toUInt64 &&& Int64.toUInt64 63)).toInt64 &&& 1) = 0 ↔ lb w k = false := by
  generalize hs : ((nI k).toInt64.toUInt64 &&& Int64.toUInt64 63) = s
  have hs2 : s.toNat = k := by rw [← hs]; exact lb_cnt k hk
  have e : (w.toUInt64 >>> s).toInt64.toBitVec = w.toBitVec >>> k := by
    apply BitVec.eq_of_toNat_eq
    show (w.toUInt64 >>> s).toNat = _
    rw [UInt64.toNat_shiftRight, hs2, Nat.mod_eq_of_lt hk, BitVec.toNat_ushiftRight]
    rfl
  rw [← Int64.toBitVec_inj, Int64.toBitVec_and, e]
  show w.toBitVec >>> k &&& 1#64 = 0#64 ↔ _
  constructor
  · intro h
    have t := congrArg (fun x => x.getLsbD 0) h
    simpa [lb] using t
  · intro h
    have h : w.toBitVec.getLsbD k = false := h
    apply BitVec.eq_of_getLsbD_eq
    intro i hi
    cases i with
    | zero => simp [h]
    | succ i => simp
theorem lcmp_eq {x y : Int64} : lg_cmp x y = 0 ↔ x = y := by
  unfold lg_cmp
  by_cases h1 : y < x
  · rw [if_pos h1]
    constructor
    · intro h; exact absurd h (by decide)
    · intro h; subst h; exact absurd h1 (Int64.lt_irrefl)
  · rw [if_neg h1]
    by_cases h2 : x = y
    · simp [h2]
    · rw [if_neg h2]
      constructor
      · intro h; exact absurd h (by decide)
      · intro h; exact absurd h h2
theorem lb_ne0 {x : Int64} (h : ¬ x = 0) : ∃ j, j < 64 ∧ lb x j = true := by
  refine Classical.byContradiction fun q => h (lb_ext fun j hj => ?_)
  rw [lb_0]
  cases hb : lb x j with
  | false => rfl
  | true => exact absurd ⟨j, hj, hb⟩ q
theorem lb_eq0 {x : Int64} (h : x = 0) (j : Nat) : lb x j = false := by rw [h]; exact lb_0 j
/-! how many numbers below n have a property -/
def cnt (P : Nat → Bool) : Nat → Nat
  | 0 => 0
  | n + 1 => cnt P n + (if P n = true then 1 else 0)
theorem cnt_t {P : Nat → Bool} {n : Nat} (h : P n = true) : cnt P (n + 1) = cnt P n + 1 := by simp [cnt, h]
theorem cnt_f {P : Nat → Bool} {n : Nat} (h : P n = false) : cnt P (n + 1) = cnt P n := by simp [cnt, h]
theorem cnt_le (P : Nat → Bool) : ∀ n, cnt P n ≤ n
  | 0 => Nat.le_refl 0
  | n + 1 => by
    have := cnt_le P n
    simp only [cnt]
    split <;> omega
theorem cnt_mono (P : Nat → Bool) {a b : Nat} (h : a ≤ b) : cnt P a ≤ cnt P b := by
  induction b with
  | zero =>
    have e : a = 0 := by omega
    subst e
    exact Nat.le_refl _
  | succ b ih =>
    rcases Nat.lt_or_ge b a with q | q
    · have e : a = b + 1 := by omega
      subst e
      exact Nat.le_refl _
    · have := ih q
      simp only [cnt]
      omega
theorem cnt_congr {P P' : Nat → Bool} : ∀ n, (∀ j, j < n → P j = P' j) → cnt P n = cnt P' n
  | 0, _ => rfl
  | n + 1, h => by simp only [cnt, h n (by omega), cnt_congr n (fun j hj => h j (by omega))]
theorem cnt_stop {P : Nat → Bool} {a : Nat} (h : ∀ j, a ≤ j → P j = false) : ∀ k, cnt P (a + k) = cnt P a
  | 0 => rfl
  | k + 1 => by
    show cnt P (a + k + 1) = _
    rw [cnt_f (h _ (by omega)), cnt_stop h k]
/-- the place of the k-th one is told by the count before it -/
theorem cnt_inj {P : Nat → Bool} {x y : Nat} (hx : P x = true) (hy : P y = true) (h : cnt P x = cnt P y) : x = y := by
  rcases Nat.lt_trichotomy x y with q | q | q
  · have h1 := cnt_mono P (show x + 1 ≤ y from q)
    rw [cnt_t hx] at h1
    omega
  · exact q
  · have h1 := cnt_mono P (show y + 1 ≤ x from q)
    rw [cnt_t hy] at h1
    omega
