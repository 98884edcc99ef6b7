/-! Long.bitCount: its steps on numbers, byte by byte -/
def bs (d : Nat → Nat) : Nat → Nat
  | 0 => 0
  | k + 1 => d 0 + 256 * bs (fun i => d (i + 1)) k
/-- the mask of k bytes u -/
def bm (u : Nat) : Nat → Nat
  | 0 => 0
  | k + 1 => u + 256 * bm u k
theorem and_split {a u : Nat} (q m : Nat) (ha : a < 256) (hu : u < 256) : (a + 256 * q) &&& (u + 256 * m) = (a &&& u) + 256 * (q &&& m) := by
  have h1 : ((a + 256 * q) &&& (u + 256 * m)) % 2 ^ 8 = a &&& u := by
    rw [Nat.and_mod_two_pow, show (a + 256 * q) % 2 ^ 8 = a by omega, show (u + 256 * m) % 2 ^ 8 = u by omega]
  have h2 : ((a + 256 * q) &&& (u + 256 * m)) / 2 ^ 8 = q &&& m := by
    rw [Nat.and_div_two_pow, show (a + 256 * q) / 2 ^ 8 = q by omega, show (u + 256 * m) / 2 ^ 8 = m by omega]
  omega
theorem bs_f1 : ∀ (k : Nat) (d : Nat → Nat), (∀ i, d i < 256) → (bs d k / 2 &&& bm 85 k) ≤ bs d k ∧ bs d k - (bs d k / 2 &&& bm 85 k) = bs (fun i => d i - (d i / 2 &&& 85)) k
  | 0, d, h => by simp [bs, bm]
  | k + 1, d, h => by
    obtain ⟨h1, h2⟩ := bs_f1 k (fun i => d (i + 1)) (fun i => h (i + 1))
    have hd := h 0
    simp only [bs, bm]
    generalize bs (fun i => d (i + 1)) k = q at h1 h2 ⊢
    generalize d 0 = a at hd ⊢
    have e1 : (a + 256 * q) / 2 = (a / 2 + 128 * (q % 2)) + 256 * (q / 2) := by omega
    have e2 : ∀ a, a < 256 → (a / 2 + 128 * 0 &&& 85) = (a / 2 &&& 85) ∧ (a / 2 + 128 * 1 &&& 85) = (a / 2 &&& 85) ∧ (a / 2 &&& 85) ≤ a := by decide +kernel
    have e3 : (a / 2 + 128 * (q % 2) &&& 85) = (a / 2 &&& 85) := by
      rcases (show q % 2 = 0 ∨ q % 2 = 1 by omega) with z | z <;> rw [z]
      · exact (e2 a hd).1
      · exact (e2 a hd).2.1
    have e4 := (e2 a hd).2.2
    rw [e1, and_split _ _ (by omega) (by decide), e3]
    omega
theorem bs_f2 : ∀ (k : Nat) (d : Nat → Nat), (∀ i, d i < 256) → (bs d k &&& bm 51 k) + (bs d k / 4 &&& bm 51 k) = bs (fun i => (d i &&& 51) + (d i / 4 &&& 51)) k
  | 0, d, h => by simp [bs, bm]
  | k + 1, d, h => by
    have h2 := bs_f2 k (fun i => d (i + 1)) (fun i => h (i + 1))
    have hd := h 0
    simp only [bs, bm]
    generalize bs (fun i => d (i + 1)) k = q at h2 ⊢
    generalize d 0 = a at hd ⊢
    have e1 : (a + 256 * q) / 4 = (a / 4 + 64 * (q % 4)) + 256 * (q / 4) := by omega
    have e2 : ∀ a, a < 256 → ∀ z, z < 4 → (a / 4 + 64 * z &&& 51) = (a / 4 &&& 51) := by decide +kernel
    have e3 : (a / 4 + 64 * (q % 4) &&& 51) = (a / 4 &&& 51) := e2 a hd _ (by omega)
    rw [e1, and_split _ _ hd (by decide), and_split _ _ (by omega) (by decide), e3]
    omega
theorem bs_low (d : Nat → Nat) (k : Nat) (h : ∀ i, d i < 256) (hk : ∀ i, d i % 16 ≤ 4) : bs d k % 16 ≤ 4 := by
  cases k with
  | zero => simp [bs]
  | succ k =>
    have := hk 0
    simp only [bs]
    omega
theorem bs_f3 : ∀ (k : Nat) (d : Nat → Nat), (∀ i, d i < 256 ∧ d i % 16 ≤ 4 ∧ d i / 16 ≤ 4) → (bs d k + bs d k / 16 &&& bm 15 k) = bs (fun i => (d i + d i / 16) % 16) k
  | 0, d, h => by simp [bs, bm]
  | k + 1, d, h => by
    have h2 := bs_f3 k (fun i => d (i + 1)) (fun i => h (i + 1))
    have hl := bs_low (fun i => d (i + 1)) k (fun i => (h (i + 1)).1) (fun i => (h (i + 1)).2.1)
    obtain ⟨hd, hd1, hd2⟩ := h 0
    simp only [bs, bm]
    generalize bs (fun i => d (i + 1)) k = q at h2 hl ⊢
    generalize d 0 = a at hd hd1 hd2 ⊢
    have e1 : a + 256 * q + (a + 256 * q) / 16 = (a + a / 16 + 16 * (q % 16)) + 256 * (q + q / 16) := by omega
    have e3 : (a + a / 16 + 16 * (q % 16) &&& 15) = (a + a / 16) % 16 := by
      rw [show (15 : Nat) = 2 ^ 4 - 1 from rfl, Nat.and_two_pow_sub_one_eq_mod]
      omega
    rw [e1, and_split _ _ (by omega) (by decide), e3, h2]
def pb (a : Nat) : Nat := let y := a - (a / 2 &&& 85); let z := (y &&& 51) + (y / 4 &&& 51); (z + z / 16) % 16
theorem pb_ok : ∀ a, a < 256 → (a - (a / 2 &&& 85)) < 256 ∧ ((a - (a / 2 &&& 85) &&& 51) + ((a - (a / 2 &&& 85)) / 4 &&& 51)) < 256 ∧ ((a - (a / 2 &&& 85) &&& 51) + ((a - (a / 2 &&& 85)) / 4 &&& 51)) % 16 ≤ 4 ∧ ((a - (a / 2 &&& 85) &&& 51) + ((a - (a / 2 &&& 85)) / 4 &&& 51)) / 16 ≤ 4 ∧ pb a = cnt (fun j => a.testBit j) 8 ∧ pb a ≤ 8 := by decide +kernel
theorem bs_of : ∀ (k n : Nat), n < 256 ^ k → n = bs (fun i => n / 256 ^ i % 256) k
  | 0, n, h => by simp only [bs]; simp at h; exact h
  | k + 1, n, h => by
    have h1 : n / 256 < 256 ^ k := by
      rw [Nat.pow_succ] at h
      omega
    have h2 := bs_of k (n / 256) h1
    have e : (fun i => n / 256 ^ (i + 1) % 256) = (fun i => n / 256 / 256 ^ i % 256) := by
      funext i
      rw [Nat.div_div_eq_div_mul, Nat.pow_succ, Nat.mul_comm (256 ^ i) 256]
    simp only [bs]
    rw [e, ← h2]
    simp only [Nat.pow_zero, Nat.div_one]
    omega
theorem cnt_add (P : Nat → Bool) (a : Nat) : ∀ b, cnt P (a + b) = cnt P a + cnt (fun j => P (a + j)) b
  | 0 => rfl
  | b + 1 => by
    show cnt P (a + b + 1) = _
    simp only [cnt, cnt_add P a b]
    omega
theorem byte_cnt (n i : Nat) : cnt (fun j => (n / 256 ^ i % 256).testBit j) 8 = cnt (fun j => n.testBit (8 * i + j)) 8 := by
  refine cnt_congr 8 fun j hj => ?_
  show (n / 256 ^ i % 2 ^ 8).testBit j = _
  rw [Nat.testBit_mod_two_pow, show (256 : Nat) = 2 ^ 8 from rfl, ← Nat.pow_mul, Nat.testBit_div_two_pow]
  simp [hj, Nat.add_comm]
theorem pop_sum {x0 x1 x2 x3 x4 x5 x6 x7 c d e : Nat} (p0 : x0 ≤ 8) (p1 : x1 ≤ 8) (p2 : x2 ≤ 8) (p3 : x3 ≤ 8) (p4 : x4 ≤ 8) (p5 : x5 ≤ 8) (p6 : x6 ≤ 8) (p7 : x7 ≤ 8)
    (hc : c = x0 + 256 * (x1 + 256 * (x2 + 256 * (x3 + 256 * (x4 + 256 * (x5 + 256 * (x6 + 256 * x7))))))) (hd : d = c + c / 256) (he : e = d + d / 65536) : (e + e / 4294967296) % 128 = x0 + x1 + x2 + x3 + x4 + x5 + x6 + x7 := by
  have c1 : c / 256 = x1 + 256 * (x2 + 256 * (x3 + 256 * (x4 + 256 * (x5 + 256 * (x6 + 256 * x7))))) := by omega
  have d1 : d = (x0 + x1) + 256 * ((x1 + x2) + 256 * ((x2 + x3) + 256 * ((x3 + x4) + 256 * ((x4 + x5) + 256 * ((x5 + x6) + 256 * ((x6 + x7) + 256 * x7)))))) := by omega
  clear hd hc c1
  have d2 : d / 65536 = (x2 + x3) + 256 * ((x3 + x4) + 256 * ((x4 + x5) + 256 * ((x5 + x6) + 256 * ((x6 + x7) + 256 * x7)))) := by omega
  have e1 : e = (x0 + x1 + x2 + x3) + 256 * ((x1 + x2 + x3 + x4) + 256 * ((x2 + x3 + x4 + x5) + 256 * ((x3 + x4 + x5 + x6) + 256 * ((x4 + x5 + x6 + x7) + 256 * ((x5 + x6 + x7) + 256 * ((x6 + x7) + 256 * x7)))))) := by omega
  clear he d1 d2
  have e2 : e / 4294967296 = (x4 + x5 + x6 + x7) + 256 * ((x5 + x6 + x7) + 256 * ((x6 + x7) + 256 * x7)) := by omega
  have e3 : e % 256 = x0 + x1 + x2 + x3 := by omega
  have e4 : (e / 4294967296) % 256 = x4 + x5 + x6 + x7 := by omega
  clear e1 e2
  omega
def popA (n : Nat) : Nat := n - (n / 2 &&& 6148914691236517205)
def popB (a : Nat) : Nat := (a &&& 3689348814741910323) + (a / 4 &&& 3689348814741910323)
def popC (b : Nat) : Nat := b + b / 16 &&& 1085102592571150095
def popD (c : Nat) : Nat := c + c / 256
def popE (d : Nat) : Nat := d + d / 65536
def popF (e : Nat) : Nat := (e + e / 4294967296) % 128
def popN (n : Nat) : Nat := popF (popE (popD (popC (popB (popA n)))))
theorem popN_ok {n : Nat} (h : n < 2 ^ 64) : popN n = cnt (fun j => n.testBit j) 64 := by
  have h8 : n < 256 ^ 8 := h
  have hb := bs_of 8 n h8
  generalize hd : (fun i => n / 256 ^ i % 256) = d at hb
  have hdl : ∀ i, d i < 256 := fun i => by rw [← hd]; exact Nat.mod_lt _ (by decide)
  have f1 := (bs_f1 8 d hdl).2
  have f2 := bs_f2 8 (fun i => d i - (d i / 2 &&& 85)) (fun i => (pb_ok _ (hdl i)).1)
  have f3 := bs_f3 8 (fun i => (d i - (d i / 2 &&& 85) &&& 51) + ((d i - (d i / 2 &&& 85)) / 4 &&& 51)) (fun i => ⟨(pb_ok _ (hdl i)).2.1, (pb_ok _ (hdl i)).2.2.1, (pb_ok _ (hdl i)).2.2.2.1⟩)
  rw [← hb] at f1
  rw [← f1] at f2
  rw [← f2] at f3
  have m1 : bm 85 8 = 6148914691236517205 := by decide +kernel
  have m2 : bm 51 8 = 3689348814741910323 := by decide +kernel
  have m3 : bm 15 8 = 1085102592571150095 := by decide +kernel
  rw [m1] at f1 f2 f3
  rw [m2] at f2 f3
  rw [m3] at f3
  have hp : ∀ i, pb (d i) ≤ 8 := fun i => (pb_ok _ (hdl i)).2.2.2.2.2
  have hc : ∀ i, pb (d i) = cnt (fun j => n.testBit (8 * i + j)) 8 := fun i => by
    rw [(pb_ok _ (hdl i)).2.2.2.2.1, ← byte_cnt, ← hd]
  have f4 : popC (popB (popA n)) = bs (fun i => pb (d i)) 8 := f3
  have f5 : popN n = popF (popE (popD (bs (fun i => pb (d i)) 8))) := by rw [← f4]; rfl
  rw [f5]
  have p0 := hp 0
  have p1 := hp 1
  have p2 := hp 2
  have p3 := hp 3
  have p4 := hp 4
  have p5 := hp 5
  have p6 := hp 6
  have p7 := hp 7
  have g : cnt (fun j => n.testBit j) 64 = pb (d 0) + pb (d 1) + pb (d 2) + pb (d 3) + pb (d 4) + pb (d 5) + pb (d 6) + pb (d 7) := by
    rw [hc 0, hc 1, hc 2, hc 3, hc 4, hc 5, hc 6, hc 7]
    rw [show (64 : Nat) = 56 + 8 from rfl, cnt_add, show (56 : Nat) = 48 + 8 from rfl, cnt_add, show (48 : Nat) = 40 + 8 from rfl, cnt_add, show (40 : Nat) = 32 + 8 from rfl, cnt_add, show (32 : Nat) = 24 + 8 from rfl, cnt_add, show (24 : Nat) = 16 + 8 from rfl, cnt_add, show (16 : Nat) = 8 + 8 from rfl, cnt_add]
    simp
  rw [g]
  exact pop_sum (c := bs (fun i => pb (d i)) 8) p0 p1 p2 p3 p4 p5 p6 p7 rfl rfl rfl
