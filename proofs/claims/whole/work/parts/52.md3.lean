variable {l : Launch} {D : va_G} {cI cJ cZ cQ : ClassId}
/-! distances by relaxing, over a table of N times N -/
def tE (N : Nat) (T : Nat → Bool) (x y : Nat) : Bool := decide (x < N) && (decide (y < N) && T (N * x + y))
theorem tE_at {N k : Nat} {T : Nat → Bool} (hN : 0 < N) (hk : k < N * N) : tE N T (k / N) (k % N) = T k := by
  have h1 : k / N < N := Nat.div_lt_of_lt_mul hk
  have h2 : k % N < N := Nat.mod_lt _ hN
  simp [tE, h1, h2, Nat.div_add_mod]
theorem tE_in {N : Nat} (T : Nat → Bool) : gin (tE N T) N := by
  intro x y h
  simp only [tE, Bool.and_eq_true, decide_eq_true_eq] at h
  exact ⟨h.1, h.2.1⟩
theorem tE_eq {N : Nat} {T : Nat → Bool} {x y : Nat} (hx : x < N) (hy : y < N) : tE N T x y = T (N * x + y) := by simp [tE, hx, hy]
theorem tE_of {T : Nat → Bool} {E : Nat → Nat → Bool} (hE : gin E 48) (h : tbI T E) : tE 48 T = E := by
  funext x y
  by_cases hx : x < 48
  · by_cases hy : y < 48
    · rw [tE_eq hx hy, h x hx y hy]
    · have : E x y = false := by
        cases hb : E x y with
        | false => rfl
        | true => exact absurd (hE x y hb).2 hy
      simp [tE, hy, this]
  · have : E x y = false := by
      cases hb : E x y with
      | false => rfl
      | true => exact absurd (hE x y hb).1 hx
    simp [tE, hx, this]
def bfI (E : Nat → Nat → Bool) (t N : Nat) (F : Nat → Nat) : Prop := F t = 0 ∧ ∀ x, x < N → F x ≤ 99 ∧ (F x < 99 → gw E (F x) x t)
def bfR (T : Nat → Bool) (N q : Nat) (F0 F : Nat → Nat) (mo : Bool) : Prop := (mo = false → F = F0 ∧ ∀ k, k < q → T k = true → F (k / N) ≤ F (k % N) + 1) ∧ (mo = true → lsum F N < lsum F0 N)
theorem bf_i1 {F : Nat → Nat} {i t : Nat} (h : ∀ k, k < i → F k = if k = t then 0 else 99) (e : i = t) : ∀ k, k < i + 1 → updN F i 0 k = if k = t then 0 else 99 := by
  intro k hk
  by_cases q : k = i
  · subst q; rw [updN_s, if_pos e]
  · rw [updN_n q]; exact h k (by omega)
theorem bf_i2 {F : Nat → Nat} {i t : Nat} (h : ∀ k, k < i → F k = if k = t then 0 else 99) (e : ¬ i = t) : ∀ k, k < i + 1 → updN F i 99 k = if k = t then 0 else 99 := by
  intro k hk
  by_cases q : k = i
  · subst q; rw [updN_s, if_neg e]
  · rw [updN_n q]; exact h k (by omega)
theorem bf_start {E : Nat → Nat → Bool} {F : Nat → Nat} {N t : Nat} (ht : t < N) (h : ∀ k, k < N → F k = if k = t then 0 else 99) : bfI E t N F := by
  refine ⟨by rw [h t ht, if_pos rfl], fun x hx => ?_⟩
  rw [h x hx]
  by_cases q : x = t
  · rw [if_pos q]
    exact ⟨by omega, fun _ => q⟩
  · rw [if_neg q]
    exact ⟨Nat.le_refl 99, fun z => absurd z (Nat.lt_irrefl 99)⟩
theorem bf_0 {T : Nat → Bool} {N : Nat} {F : Nat → Nat} : bfR T N 0 F F false := ⟨fun _ => ⟨rfl, fun k h => absurd h (Nat.not_lt_zero _)⟩, fun h => by cases h⟩
theorem bf_skip {T : Nat → Bool} {N q : Nat} {F0 F : Nat → Nat} {mo : Bool} (h : bfR T N q F0 F mo) (hx : T q = true → F (q / N) ≤ F (q % N) + 1) : bfR T N (q + 1) F0 F mo := by
  refine ⟨fun e => ⟨(h.1 e).1, fun r hr he => ?_⟩, h.2⟩
  rcases Nat.lt_or_ge r q with z | z
  · exact (h.1 e).2 r z he
  · have e2 : r = q := by omega
    subst e2
    exact hx he
theorem bf_less {F : Nat → Nat} {N j v : Nat} (hj : j < N) (hv : v < F j) : lsum (updN F j v) N < lsum F N := by
  have := lsum_upd (M := F) (j := j) (v := v) N hj
  omega
theorem bf_putR {T : Nat → Bool} {N q : Nat} {F0 F F' : Nat → Nat} {mo : Bool} (h : bfR T N q F0 F mo) (hl : lsum F' N < lsum F N) : bfR T N (q + 1) F0 F' true := by
  refine ⟨fun e => (by cases e), fun _ => ?_⟩
  cases mo with
  | true => exact Nat.lt_trans hl (h.2 rfl)
  | false =>
    have := (h.1 rfl).1
    rw [this] at hl
    exact hl
theorem bf_putI {T : Nat → Bool} {N q t : Nat} {F : Nat → Nat} (hN : 0 < N) (hq : q < N * N) (h : bfI (tE N T) t N F) (hT : T q = true) (hl : F (q % N) + 1 < F (q / N)) : bfI (tE N T) t N (updN F (q / N) (F (q % N) + 1)) := by
  have h1 : q / N < N := Nat.div_lt_of_lt_mul hq
  have h2 : q % N < N := Nat.mod_lt _ hN
  have b1 := (h.2 _ h1).1
  refine ⟨?_, fun x hx => ?_⟩
  · by_cases e : t = q / N
    · rw [← e, h.1] at hl
      omega
    · rw [updN_n e]; exact h.1
  · by_cases e : x = q / N
    · subst e
      rw [updN_s]
      exact ⟨by omega, fun _ => ⟨q % N, by rw [tE_at hN hq]; exact hT, (h.2 _ h2).2 (by omega)⟩⟩
    · rw [updN_n e]; exact h.2 x hx
theorem bf_end {T : Nat → Bool} {N t : Nat} {F : Nat → Nat} (hN : 0 < N) (h : bfI (tE N T) t N F) (hx : ∀ k, k < N * N → T k = true → F (k / N) ≤ F (k % N) + 1) : gfar (tE N T) t N F := by
  refine ⟨h.1, h.2, fun x y he => ?_⟩
  have hb := tE_in T x y he
  rw [tE_eq hb.1 hb.2] at he
  have hlt : N * x + y < N * N := by
    have h9 : N * (x + 1) ≤ N * N := Nat.mul_le_mul_left N hb.1
    rw [Nat.mul_succ] at h9
    omega
  have := hx (N * x + y) hlt he
  rw [Nat.mul_add_div hN, Nat.div_eq_of_lt hb.2, Nat.add_zero, Nat.mul_add_mod, Nat.mod_eq_of_lt hb.2] at this
  exact this
/-! the lowest shortest way -/
def gpath (E : Nat → Nat → Bool) (t n x : Nat) (pp : Nat → Nat) : Prop := gd E t n x ∧ pp 0 = x ∧ ∀ k, k < n → E (pp k) (pp (k + 1)) = true ∧ gd E t (n - 1 - k) (pp (k + 1)) ∧ ∀ z, z < pp (k + 1) → E (pp k) z = true → ¬ gd E t (n - 1 - k) z
theorem gpath_ex {E : Nat → Nat → Bool} {t : Nat} : ∀ (n x : Nat), gd E t n x → ∃ pp, gpath E t n x pp
  | 0, x, h => ⟨fun _ => x, h, rfl, fun j hj => absurd hj (Nat.not_lt_zero _)⟩
  | n + 1, x, h => by
    obtain ⟨y0, hy1, hy2⟩ := gd_next h
    obtain ⟨y, -, ⟨h1, h2⟩, h3⟩ := least_of (P := fun y => E x y = true ∧ gd E t n y) ⟨hy1, hy2⟩
    obtain ⟨q, hq1, hq0, hq⟩ := gpath_ex n y h2
    refine ⟨fun j => match j with
      | 0 => x
      | j + 1 => q j, h, rfl, fun j hj => ?_⟩
    cases j with
    | zero =>
      show E x (q 0) = true ∧ gd E t (n + 1 - 1 - 0) (q 0) ∧ ∀ z, z < q 0 → E x z = true → ¬ gd E t (n + 1 - 1 - 0) z
      rw [hq0]
      exact ⟨h1, h2, fun z hz he hd => h3 z hz ⟨he, hd⟩⟩
    | succ j =>
      have := hq j (by omega)
      rw [show n + 1 - 1 - (j + 1) = n - 1 - j by omega]
      exact this
theorem gpath_d {E : Nat → Nat → Bool} {t n x k : Nat} {pp : Nat → Nat} (h : gpath E t n x pp) (hk : k ≤ n) : gd E t (n - k) (pp k) := by
  cases k with
  | zero => rw [h.2.1]; exact h.1
  | succ k =>
    have := (h.2.2 k (by omega)).2.1
    rw [show n - (k + 1) = n - 1 - k by omega]
    exact this
theorem gpath_lt {E : Nat → Nat → Bool} {t n x k N : Nat} {pp : Nat → Nat} (hE : gin E N) (hx : x < N) (h : gpath E t n x pp) (hk : k ≤ n) : pp k < N := by
  cases k with
  | zero => rw [h.2.1]; exact hx
  | succ k => exact (hE _ _ (h.2.2 k (by omega)).1).2
theorem gd_zero {E : Nat → Nat → Bool} {t n : Nat} (h : gd E t n t) : n = 0 := by
  rcases Nat.eq_zero_or_pos n with e | e
  · exact e
  · exact absurd rfl (h.2 0 e)
theorem gpath_end {E : Nat → Nat → Bool} {t n x k : Nat} {pp : Nat → Nat} (h : gpath E t n x pp) (hk : k ≤ n) : pp k = t ↔ k = n := by
  have h1 := gpath_d h hk
  constructor
  · intro e
    rw [e] at h1
    have := gd_zero h1
    omega
  · intro e
    subst e
    rw [Nat.sub_self] at h1
    exact h1.1
theorem edge_split {E : Nat → Nat → Bool} {x y d : Nat} {pp : Nat → Nat} (hac : ∀ z, ¬ gov E z z) (hxy : y ≠ x) (h : gring (gadd E x y) x d pp) : gov E y x ∧ ∃ n qq, gpath E x n y qq ∧ d = n + 1 ∧ pp 0 = x ∧ ∀ k, k < n → pp (k + 1) = qq k := by
  have hg : gov E y x := by
    refine Classical.byContradiction fun q => ?_
    exact acyc_edge hac (Ne.symm hxy) q x (gov_of h.1.2.1 h.1.1)
  obtain ⟨k0, hk0⟩ := id hg
  obtain ⟨n, -, hn⟩ := gd_of hk0
  obtain ⟨qq, hq⟩ := gpath_ex n y hn
  have hn0 : 0 < n := gd_pos hxy hn.1
  have hr : gring (gadd E x y) x (n + 1) (fun k => match k with | 0 => x | k + 1 => qq k) := by
    refine ring_edge (hac x) hxy hn rfl hq.2.1 (fun k h1 h2 => ?_)
    obtain ⟨k, rfl⟩ : ∃ j, k = j + 1 := ⟨k - 1, by omega⟩
    have := hq.2.2 k (by omega)
    rw [show n - (k + 1) = n - 1 - k by omega]
    exact this
  obtain ⟨e1, e2⟩ := gring_uniq h hr
  exact ⟨hg, n, qq, hq, e1, h.2.1, fun k hk => e2 (k + 1) (by omega)⟩
theorem back_split {E : Nat → Nat → Bool} {u w d : Nat} {pp : Nat → Nat} (hac : ∀ z, ¬ gov E z z) (huw : u ≠ w) (h : gring (gadd E w u) u d pp) : gov E u w ∧ ∃ n qq, gpath E w n u qq ∧ d = n + 1 ∧ ∀ k, k < n + 1 → pp k = qq k := by
  have hg : gov E u w := by
    refine Classical.byContradiction fun q => ?_
    exact acyc_edge hac (Ne.symm huw) q u (gov_of h.1.2.1 h.1.1)
  obtain ⟨k0, hk0⟩ := id hg
  obtain ⟨n, -, hn⟩ := gd_of hk0
  obtain ⟨qq, hq⟩ := gpath_ex n u hn
  have hr : gring (gadd E w u) u (n + 1) qq := ring_back hac hn hq.2.1 hq.2.2
  obtain ⟨e1, e2⟩ := gring_uniq h hr
  exact ⟨hg, n, qq, hq, e1, fun k hk => e2 k (by omega)⟩
/-! the search for the lowest next one, from 47 down -/
def dn (j : Nat) : Int32 := nI j + Int32.ofInt (-1)
theorem dn_s (k : Nat) : dn (k + 1) = nI k := sb_m1 (p := k + 1) (Nat.succ_pos k)
theorem dn_0 : dn 0 = -1 := by decide
def nxI (v : Nat) : Int32 := if v < 48 then nI v else -1
theorem nxI_t {v : Nat} (h : v < 48) : nxI v = nI v := if_pos h
def nxP (P : Nat → Prop) (j v : Nat) : Prop := v ≤ 48 ∧ (v < 48 → P v) ∧ ∀ z, j ≤ z → z < v → z < 48 → ¬ P z
theorem nx_0 {P : Nat → Prop} : nxP P 48 48 := ⟨Nat.le_refl 48, fun h => absurd h (Nat.lt_irrefl 48), fun z h1 _ h3 => by omega⟩
theorem nx_hit {P : Nat → Prop} {k v : Nat} (hk : k < 48) (hp : P k) : nxP P k k := ⟨by omega, fun _ => hp, fun z h1 h2 _ => by omega⟩
theorem nx_miss {P : Nat → Prop} {k v : Nat} (h : nxP P (k + 1) v) (hp : ¬ P k) : nxP P k v := by
  refine ⟨h.1, h.2.1, fun z h1 h2 h3 => ?_⟩
  rcases Nat.lt_or_ge k z with q | q
  · exact h.2.2 z q h2 h3
  · have e : z = k := by omega
    subst e
    exact hp
theorem nx_end {P : Nat → Prop} {v x : Nat} (h : nxP P 0 v) (hx : x < 48) (hp : P x) (hl : ∀ z, z < x → ¬ P z) : v = x := by
  rcases Nat.lt_trichotomy v x with q | q | q
  · exact absurd (h.2.1 (by omega)) (hl v q)
  · exact q
  · exact absurd hp (h.2.2 x (Nat.zero_le x) q hx)
/-- the next one of the way, by distances -/
theorem walk_next {E : Nat → Nat → Bool} {t n x k v : Nat} {pp F : Nat → Nat} (hE : gin E 48) (hg : gpath E t n x pp) (hF : gfar E t 48 F) (hn : n ≤ 48) (hk : k < n) (h : nxP (fun z => E (pp k) z = true ∧ F z = F (pp k) - 1) 0 v) (hx : x < 48) : v = pp (k + 1) := by
  obtain ⟨h1, h2, h3⟩ := hg.2.2 k hk
  have hk2 := gpath_lt hE hx hg (show k ≤ n by omega)
  have hk3 := gpath_lt hE hx hg (show k + 1 ≤ n by omega)
  have e1 : F (pp k) = n - k := (gfar_gd hF hk2 (by omega)).mpr (gpath_d hg (by omega))
  refine nx_end h hk3 ⟨h1, ?_⟩ (fun z hz hp => ?_)
  · rw [e1, (gfar_gd hF hk3 (show n - 1 - k < 99 by omega)).mpr h2]
    omega
  · have hz2 := (hE _ _ hp.1).2
    have := hp.2
    rw [e1, show n - k - 1 = n - 1 - k by omega] at this
    exact h3 z hz hp.1 ((gfar_gd hF hz2 (by omega)).mp this)
theorem ring_app {FR FR0 pp : Nat → Nat} {d0 k v : Nat} (h1 : ∀ j, j < d0 → FR j = FR0 j) (h2 : ∀ j, j < k → FR (d0 + j) = pp j) (e : v = pp k) : (∀ j, j < d0 → updN FR (d0 + k) v j = FR0 j) ∧ ∀ j, j < k + 1 → updN FR (d0 + k) v (d0 + j) = pp j := by
  refine ⟨fun j hj => by rw [updN_n (by omega)]; exact h1 j hj, fun j hj => ?_⟩
  by_cases q : j = k
  · subst q; rw [updN_s, e]
  · rw [updN_n (by omega)]; exact h2 j (by omega)
theorem walk_lt {E : Nat → Nat → Bool} {t n x k v : Nat} {pp : Nat → Nat} (hg : gpath E t n x pp) (hk : k ≤ n) (hv : v = pp k) (h : ¬ v = t) : k < n := by
  rcases Nat.lt_or_ge k n with q9 | q9
  · exact q9
  · exact absurd (hv.trans ((gpath_end hg hk).mpr (by omega))) h

set_option maxHeartbeats 4000000 in
set_option maxRecDepth 100000 in
theorem k_Md_measure (mo : Nat) (tw : Int32) (K : Nat) (R : Nat) (qa : Nat) (qb : Nat) (qk : Nat) (qu : Nat) (qn : Nat) (qx : Nat) (qo : Nat) (qf : Nat) (d : Nat) (qr : Nat) (gm : Nat) (qg : Nat) (qv : Nat) (d2 : Nat) (qs : Nat) (vv : Nat) (qc : Nat) (qm : Nat) (qw : Nat) (AB : Nat → Bool) (FF : Nat → Nat) (t : Nat) (ht : t < 48) : CtV l y_Md_measure (Cond.code y_Md_measure c_Md_measure 4 none :: TB) ({ frames := 0, cells := 0, slots := 0, locals := 0 } : Room) D (tysv cI cJ cZ cQ) [.ref mo, .int (nI t)] [(mo, .inr (8, [.int tw, .int (nI K), .int (nI R), .ref qa, .ref qb, .ref qk, .ref qu, .ref qn, .ref qx, .ref qo, .ref qf, .int (nI d), .ref qr, .int (nI gm), .ref qg, .ref qv, .int (nI d2), .ref qs, .int (nI vv), .ref qc, .ref qm, .ref qw])), (qx, .inl (cZ, 2304, .inl (zf AB))), (qf, .inl (cI, 48, .inl (nf FF)))] 0 0 (fun (F9 : Nat → Nat) => gfar (tE 48 AB) t 48 F9) (fun (F9 : Nat → Nat) => [(mo, .inr (8, [.int tw, .int (nI K), .int (nI R), .ref qa, .ref qb, .ref qk, .ref qu, .ref qn, .ref qx, .ref qo, .ref qf, .int (nI d), .ref qr, .int (nI gm), .ref qg, .ref qv, .int (nI d2), .ref qs, .int (nI vv), .ref qc, .ref qm, .ref qw])), (qx, .inl (cZ, 2304, .inl (zf AB))), (qf, .inl (cI, 48, .inl (nf F9)))]) := by
  refine CtV.of c_Md_measure 4 none (by decide) rfl (Nat.le_of_ble_eq_true rfl) ?_
  intro p e s m args below meth c A Q hA9 hQ9 X hr9 hlk9 hin9
  have L33 : ∀ (N33 : Nat) (b9 : Bool) (F9 : Nat → Nat), (if b9 = true then lsum F9 48 + 1 else 0) < N33 → (bfI (tE 48 AB) t 48 F9) → (b9 = false → ∀ k, k < 2304 → AB k = true → F9 (k / 48) ≤ F9 (k % 48) + 1) → G p l e ({ frames := 0, cells := 0, slots := 0, locals := 0 } : Room) s m args below meth c 4 D A s.heap Q 0 0 [(mo, .inr (8, [.int tw, .int (nI K), .int (nI R), .ref qa, .ref qb, .ref qk, .ref qu, .ref qn, .ref qx, .ref qo, .ref qf, .int (nI d), .ref qr, .int (nI gm), .ref qg, .ref qv, .int (nI d2), .ref qs, .int (nI vv), .ref qc, .ref qm, .ref qw])), (qx, .inl (cZ, 2304, .inl (zf AB))), (qf, .inl (cI, 48, .inl (nf F9)))] [(0, .ref mo), (1, .int (nI t)), (2, .int (bI b9))] 33 [] := by
    intro N33
    induction N33 with
    | zero =>
      intro b9 F9 hN
      exact absurd hN (Nat.not_lt_zero _)
    | succ N33 ih33 =>
      intro b9 F9 hN33 h1 h2
      refine g_iload_n X 2 d_Md_measure_33 rfl rfl ?_
      refine b_if_eq X 111 d_Md_measure_34 (by decide) (fun h34 => ?_) (fun h34 => ?_)
      · exact g_vret X hA9 hQ9 hr9 hlk9 F9 [0, 1, 2] rfl rfl d_Md_measure_111 (bf_end (by decide) h1 (h2 h34))
      · refine g_iconst (v := nI 0) X d_Md_measure_37 rfl ?_
        refine g_topE (show nI 0 = bI false from rfl) ?_
        refine g_istore_n X [(2, .int (bI false)), (0, .ref mo), (1, .int (nI t))] d_Md_measure_38 rfl (by decide) rfl ?_
        have L41 : ∀ (N41 : Nat) (q : Nat) (c9 : Bool) (F8 : Nat → Nat), (2304 - q) < N41 → (q ≤ 2304) → (bfI (tE 48 AB) t 48 F8) → (bfR AB 48 q F9 F8 c9) → G p l e ({ frames := 0, cells := 0, slots := 0, locals := 0 } : Room) s m args below meth c 4 D A s.heap Q 0 0 [(mo, .inr (8, [.int tw, .int (nI K), .int (nI R), .ref qa, .ref qb, .ref qk, .ref qu, .ref qn, .ref qx, .ref qo, .ref qf, .int (nI d), .ref qr, .int (nI gm), .ref qg, .ref qv, .int (nI d2), .ref qs, .int (nI vv), .ref qc, .ref qm, .ref qw])), (qx, .inl (cZ, 2304, .inl (zf AB))), (qf, .inl (cI, 48, .inl (nf F8)))] [(0, .ref mo), (1, .int (nI t)), (2, .int (bI c9)), (3, .int (nI q))] 41 [] := by
          intro N41
          induction N41 with
          | zero =>
            intro q c9 F8 hN
            exact absurd hN (Nat.not_lt_zero _)
          | succ N41 ih41 =>
            intro q c9 F8 hN41 hq h3 h4
            refine g_iload_n X 3 d_Md_measure_41 rfl rfl ?_
            refine g_sipush (v := nI 2304) X d_Md_measure_42 rfl ?_
            refine n_icmp_ge X 108 d_Md_measure_45 (by decide) (by omega) (by omega) (fun h45 => ?_) (fun h45 => ?_)
            · refine g_goto X 33 d_Md_measure_108 (by decide) ?_
              refine g_lv [0, 1, 2] rfl ?_
              exact ih33 c9 F8 (mj_meas h34 hN33 h4.2) (h3) (fun q9 k hk he => (h4.1 q9).2 k (by omega) he)
            · have hq1 : q / 48 < 48 := by omega
              have hq2 : q % 48 < 48 := by omega
              have hb1 := (h3.2 _ hq1).1
              have hb2 := (h3.2 _ hq2).1
              refine g_aload_n X 0 d_Md_measure_48 rfl rfl ?_
              refine g_get (C := R_Md) (T := T_Md) (N := 22) X 0 8 in_Md rfl rfl (by decide) t3_155 rfl rfl d_Md_measure_49 ?_
              refine g_iload_n X 3 d_Md_measure_52 rfl rfl ?_
              refine g_zaldB X 1 2 rfl rfl (by omega) (by omega) d_Md_measure_53 ?_
              refine b_if_eq X 102 d_Md_measure_54 (by decide) (fun h54 => ?_) (fun h54 => ?_)
              · refine g_iinc X (nI (q + 1)) [(3, .int (nI (q + 1))), (0, .ref mo), (1, .int (nI t)), (2, .int (bI c9))] d_Md_measure_102 (k := 3) rfl (nI_1 q) (by decide) rfl ?_
                refine g_goto X 41 d_Md_measure_105 (by decide) ?_
                refine g_lv [1, 2, 3, 0] rfl ?_
                exact ih41 (q + 1) c9 F8 (by omega) (by omega) (by first | exact h3 | exact bf_putI (by decide) (by omega) h3 h54 h77) (by first | exact bf_skip h4 (vF h54) | exact bf_skip h4 (fun _ => h77) | exact bf_putR h4 (bf_less hq1 h77))
              · refine g_aload_n X 0 d_Md_measure_57 rfl rfl ?_
                refine g_get (C := R_Md) (T := T_Md) (N := 22) X 0 10 in_Md rfl rfl (by decide) t3_157 rfl rfl d_Md_measure_58 ?_
                refine g_iload_n X 3 d_Md_measure_61 rfl rfl ?_
                refine g_bipush (v := nI 48) X d_Md_measure_62 rfl ?_
                refine g_irem X (nI (q % 48)) d_Md_measure_64 (nI_ne0 (by omega) (by omega)) (pk_rem (by omega) (by omega) (by omega)) ?_
                refine g_ialdN X 2 0 rfl rfl (by omega) (by omega) d_Md_measure_65 ?_
                refine g_iconst (v := nI 1) X d_Md_measure_66 rfl ?_
                refine g_iadd X (nI (F8 (q % 48) + 1)) d_Md_measure_67 (nI_add (F8 (q % 48)) 1) ?_
                refine g_aload_n X 0 d_Md_measure_68 rfl rfl ?_
                refine g_get (C := R_Md) (T := T_Md) (N := 22) X 0 10 in_Md rfl rfl (by decide) t3_157 rfl rfl d_Md_measure_69 ?_
                refine g_iload_n X 3 d_Md_measure_72 rfl rfl ?_
                refine g_bipush (v := nI 48) X d_Md_measure_73 rfl ?_
                refine g_idiv X (nI (q / 48)) d_Md_measure_75 (nI_ne0 (by omega) (by omega)) (pk_div (by omega) (by omega) (by omega)) ?_
                refine g_ialdN X 2 0 rfl rfl (by omega) (by omega) d_Md_measure_76 ?_
                refine n_icmp_ge X 102 d_Md_measure_77 (by decide) (by omega) (by omega) (fun h77 => ?_) (fun h77 => ?_)
                · refine g_iinc X (nI (q + 1)) [(3, .int (nI (q + 1))), (0, .ref mo), (1, .int (nI t)), (2, .int (bI c9))] d_Md_measure_102 (k := 3) rfl (nI_1 q) (by decide) rfl ?_
                  refine g_goto X 41 d_Md_measure_105 (by decide) ?_
                  refine g_lv [1, 2, 3, 0] rfl ?_
                  exact ih41 (q + 1) c9 F8 (by omega) (by omega) (by first | exact h3 | exact bf_putI (by decide) (by omega) h3 h54 h77) (by first | exact bf_skip h4 (vF h54) | exact bf_skip h4 (fun _ => h77) | exact bf_putR h4 (bf_less hq1 h77))
                · refine g_aload_n X 0 d_Md_measure_80 rfl rfl ?_
                  refine g_get (C := R_Md) (T := T_Md) (N := 22) X 0 10 in_Md rfl rfl (by decide) t3_157 rfl rfl d_Md_measure_81 ?_
                  refine g_iload_n X 3 d_Md_measure_84 rfl rfl ?_
                  refine g_bipush (v := nI 48) X d_Md_measure_85 rfl ?_
                  refine g_idiv X (nI (q / 48)) d_Md_measure_87 (nI_ne0 (by omega) (by omega)) (pk_div (by omega) (by omega) (by omega)) ?_
                  refine g_aload_n X 0 d_Md_measure_88 rfl rfl ?_
                  refine g_get (C := R_Md) (T := T_Md) (N := 22) X 0 10 in_Md rfl rfl (by decide) t3_157 rfl rfl d_Md_measure_89 ?_
                  refine g_iload_n X 3 d_Md_measure_92 rfl rfl ?_
                  refine g_bipush (v := nI 48) X d_Md_measure_93 rfl ?_
                  refine g_irem X (nI (q % 48)) d_Md_measure_95 (nI_ne0 (by omega) (by omega)) (pk_rem (by omega) (by omega) (by omega)) ?_
                  refine g_ialdN X 2 0 rfl rfl (by omega) (by omega) d_Md_measure_96 ?_
                  refine g_iconst (v := nI 1) X d_Md_measure_97 rfl ?_
                  refine g_iadd X (nI (F8 (q % 48) + 1)) d_Md_measure_98 (nI_add (F8 (q % 48)) 1) ?_
                  refine g_iastN X 2 0 [(mo, .inr (8, [.int tw, .int (nI K), .int (nI R), .ref qa, .ref qb, .ref qk, .ref qu, .ref qn, .ref qx, .ref qo, .ref qf, .int (nI d), .ref qr, .int (nI gm), .ref qg, .ref qv, .int (nI d2), .ref qs, .int (nI vv), .ref qc, .ref qm, .ref qw])), (qx, .inl (cZ, 2304, .inl (zf AB))), (qf, .inl (cI, 48, .inl (nf (updN F8 (q / 48) (F8 (q % 48) + 1)))))] rfl rfl (by omega) (by omega) rfl d_Md_measure_99 ?_
                  refine g_iconst (v := nI 1) X d_Md_measure_100 rfl ?_
                  refine g_topE (show nI 1 = bI true from rfl) ?_
                  refine g_istore_n X [(2, .int (bI true)), (0, .ref mo), (1, .int (nI t)), (3, .int (nI q))] d_Md_measure_101 rfl (by decide) rfl ?_
                  refine g_iinc X (nI (q + 1)) [(3, .int (nI (q + 1))), (2, .int (bI true)), (0, .ref mo), (1, .int (nI t))] d_Md_measure_102 (k := 3) rfl (nI_1 q) (by decide) rfl ?_
                  refine g_goto X 41 d_Md_measure_105 (by decide) ?_
                  refine g_lv [2, 3, 1, 0] rfl ?_
                  exact ih41 (q + 1) true (updN F8 (q / 48) (F8 (q % 48) + 1)) (by omega) (by omega) (by first | exact h3 | exact bf_putI (by decide) (by omega) h3 h54 h77) (by first | exact bf_skip h4 (vF h54) | exact bf_skip h4 (fun _ => h77) | exact bf_putR h4 (bf_less hq1 h77))
        refine g_iconst (v := nI 0) X d_Md_measure_39 rfl ?_
        refine g_istore_n X [(3, .int (nI 0)), (2, .int (bI false)), (0, .ref mo), (1, .int (nI t))] d_Md_measure_40 rfl (by decide) rfl ?_
        refine g_lv [2, 3, 1, 0] rfl ?_
        exact L41 ((2304 - 0) + 1) 0 false F9 (Nat.lt_succ_self _) (by omega) (h1) (bf_0)
  have L2 : ∀ (N2 : Nat) (i : Nat) (F9 : Nat → Nat), (48 - i) < N2 → (i ≤ 48) → (∀ k, k < i → F9 k = if k = t then 0 else 99) → G p l e ({ frames := 0, cells := 0, slots := 0, locals := 0 } : Room) s m args below meth c 4 D A s.heap Q 0 0 [(mo, .inr (8, [.int tw, .int (nI K), .int (nI R), .ref qa, .ref qb, .ref qk, .ref qu, .ref qn, .ref qx, .ref qo, .ref qf, .int (nI d), .ref qr, .int (nI gm), .ref qg, .ref qv, .int (nI d2), .ref qs, .int (nI vv), .ref qc, .ref qm, .ref qw])), (qx, .inl (cZ, 2304, .inl (zf AB))), (qf, .inl (cI, 48, .inl (nf F9)))] [(0, .ref mo), (1, .int (nI t)), (2, .int (nI i))] 2 [] := by
    intro N2
    induction N2 with
    | zero =>
      intro i F9 hN
      exact absurd hN (Nat.not_lt_zero _)
    | succ N2 ih2 =>
      intro i F9 hN2 hi h1
      refine g_iload_n X 2 d_Md_measure_2 rfl rfl ?_
      refine g_bipush (v := nI 48) X d_Md_measure_3 rfl ?_
      refine n_icmp_ge X 31 d_Md_measure_5 (by decide) (by omega) (by omega) (fun h5 => ?_) (fun h5 => ?_)
      · refine g_iconst (v := nI 1) X d_Md_measure_31 rfl ?_
        refine g_topE (show nI 1 = bI true from rfl) ?_
        refine g_istore_n X [(2, .int (bI true)), (0, .ref mo), (1, .int (nI t))] d_Md_measure_32 rfl (by decide) rfl ?_
        refine g_lv [1, 2, 0] rfl ?_
        exact L33 ((if true = true then lsum F9 48 + 1 else 0) + 1) true F9 (Nat.lt_succ_self _) (bf_start ht (fun k hk => h1 k (by omega))) (fun q9 => by cases q9)
      · refine g_aload_n X 0 d_Md_measure_8 rfl rfl ?_
        refine g_get (C := R_Md) (T := T_Md) (N := 22) X 0 10 in_Md rfl rfl (by decide) t3_157 rfl rfl d_Md_measure_9 ?_
        refine g_iload_n X 2 d_Md_measure_12 rfl rfl ?_
        refine g_iload_n X 2 d_Md_measure_13 rfl rfl ?_
        refine g_iload_n X 1 d_Md_measure_14 rfl rfl ?_
        refine n_icmp_ne X 22 d_Md_measure_15 (by decide) (by omega) (by omega) (fun h15 => ?_) (fun h15 => ?_)
        · refine g_bipush (v := nI 99) X d_Md_measure_22 rfl ?_
          refine g_iastN X 2 0 [(mo, .inr (8, [.int tw, .int (nI K), .int (nI R), .ref qa, .ref qb, .ref qk, .ref qu, .ref qn, .ref qx, .ref qo, .ref qf, .int (nI d), .ref qr, .int (nI gm), .ref qg, .ref qv, .int (nI d2), .ref qs, .int (nI vv), .ref qc, .ref qm, .ref qw])), (qx, .inl (cZ, 2304, .inl (zf AB))), (qf, .inl (cI, 48, .inl (nf (updN F9 i 99))))] rfl rfl (by omega) (by omega) rfl d_Md_measure_24 ?_
          refine g_iinc X (nI (i + 1)) [(2, .int (nI (i + 1))), (0, .ref mo), (1, .int (nI t))] d_Md_measure_25 (k := 2) rfl (nI_1 i) (by decide) rfl ?_
          refine g_goto X 2 d_Md_measure_28 (by decide) ?_
          refine g_lv [1, 2, 0] rfl ?_
          exact ih2 (i + 1) (updN F9 i 99) (by omega) (by omega) (by first | exact bf_i1 h1 h15 | exact bf_i2 h1 h15)
        · refine g_iconst (v := nI 0) X d_Md_measure_18 rfl ?_
          refine g_goto X 24 d_Md_measure_19 (by decide) ?_
          refine g_iastN X 2 0 [(mo, .inr (8, [.int tw, .int (nI K), .int (nI R), .ref qa, .ref qb, .ref qk, .ref qu, .ref qn, .ref qx, .ref qo, .ref qf, .int (nI d), .ref qr, .int (nI gm), .ref qg, .ref qv, .int (nI d2), .ref qs, .int (nI vv), .ref qc, .ref qm, .ref qw])), (qx, .inl (cZ, 2304, .inl (zf AB))), (qf, .inl (cI, 48, .inl (nf (updN F9 i 0))))] rfl rfl (by omega) (by omega) rfl d_Md_measure_24 ?_
          refine g_iinc X (nI (i + 1)) [(2, .int (nI (i + 1))), (0, .ref mo), (1, .int (nI t))] d_Md_measure_25 (k := 2) rfl (nI_1 i) (by decide) rfl ?_
          refine g_goto X 2 d_Md_measure_28 (by decide) ?_
          refine g_lv [1, 2, 0] rfl ?_
          exact ih2 (i + 1) (updN F9 i 0) (by omega) (by omega) (by first | exact bf_i1 h1 h15 | exact bf_i2 h1 h15)
  refine g_iconst (v := nI 0) X d_Md_measure_0 rfl ?_
  refine g_istore_n X [(2, .int (nI 0)), (0, .ref mo), (1, .int (nI t))] d_Md_measure_1 rfl (by decide) rfl ?_
  refine g_lv [1, 2, 0] rfl ?_
  exact L2 ((48 - 0) + 1) 0 FF (Nat.lt_succ_self _) (by omega) (fun j hj => absurd hj (Nat.not_lt_zero j))

set_option maxHeartbeats 4000000 in
set_option maxRecDepth 100000 in
theorem k_Md_walk (mo : Nat) (tw : Int32) (K : Nat) (R : Nat) (qa : Nat) (qb : Nat) (qk : Nat) (qu : Nat) (qn : Nat) (qx : Nat) (qo : Nat) (qf : Nat) (d : Nat) (qr : Nat) (gm : Nat) (qg : Nat) (qv : Nat) (d2 : Nat) (qs : Nat) (vv : Nat) (qc : Nat) (qm : Nat) (qw : Nat) (AB : Nat → Bool) (FF : Nat → Nat) (FR : Nat → Nat) (x : Nat) (t : Nat) (n : Nat) (pp : Nat → Nat) (hx : x < 48) (ht : t < 48) (hg : gpath (tE 48 AB) t n x pp) (hn : d + n ≤ 48) : CtV l y_Md_walk (Cond.code y_Md_walk c_Md_walk 7 none :: TB) ({ frames := 1, cells := 0, slots := 0, locals := 23 } : Room) D (tysv cI cJ cZ cQ) [.ref mo, .int (nI x), .int (nI t), .int (bI false)] [(mo, .inr (8, [.int tw, .int (nI K), .int (nI R), .ref qa, .ref qb, .ref qk, .ref qu, .ref qn, .ref qx, .ref qo, .ref qf, .int (nI d), .ref qr, .int (nI gm), .ref qg, .ref qv, .int (nI d2), .ref qs, .int (nI vv), .ref qc, .ref qm, .ref qw])), (qx, .inl (cZ, 2304, .inl (zf AB))), (qf, .inl (cI, 48, .inl (nf FF))), (qr, .inl (cI, 48, .inl (nf FR)))] 0 0 (fun (u : (Nat → Nat) × (Nat → Nat)) => (∀ j, j < d → u.2 j = FR j) ∧ ∀ j, j < n → u.2 (d + j) = pp j) (fun (u : (Nat → Nat) × (Nat → Nat)) => [(mo, .inr (8, [.int tw, .int (nI K), .int (nI R), .ref qa, .ref qb, .ref qk, .ref qu, .ref qn, .ref qx, .ref qo, .ref qf, .int (nI (d + n)), .ref qr, .int (nI gm), .ref qg, .ref qv, .int (nI d2), .ref qs, .int (nI vv), .ref qc, .ref qm, .ref qw])), (qx, .inl (cZ, 2304, .inl (zf AB))), (qf, .inl (cI, 48, .inl (nf u.1))), (qr, .inl (cI, 48, .inl (nf u.2)))]) := by
  refine CtV.of c_Md_walk 7 none (by decide) rfl (Nat.le_of_ble_eq_true rfl) ?_
  intro p e s m args below meth c A Q hA9 hQ9 X hr9 hlk9 hin9
  refine g_aload_n X 0 d_Md_walk_0 rfl rfl ?_
  refine g_iload_n X 2 d_Md_walk_1 rfl rfl ?_
  refine g_callvV (n := 1) X [.int (nI t)] (k_Md_measure mo tw K R qa qb qk qu qn qx qo qf d qr gm qg qv d2 qs vv qc qm qw AB FF t (by omega)) t4_11 t4_13 ts_17 t1_9 t4_14 rfl rfl (by decide +kernel) ⟨by decide, by decide⟩ [0, 1, 2] [3] [(qr, .inl (cI, 48, .inl (nf FR)))] rfl rfl rfl rfl (by decide) 0 rfl rfl rfl rfl (Nat.le_of_ble_eq_true rfl) d_Md_walk_2 ⟨by decide, by decide⟩ (fun F9_1 hF => ?_)
  have L8 : ∀ (N8 : Nat) (k : Nat) (v : Nat) (R8 : Nat → Nat), (n - k) < N8 → (k ≤ n) → (v = pp k) → (v < 48) → ((∀ j, j < d → R8 j = FR j) ∧ ∀ j, j < k → R8 (d + j) = pp j) → G p l e ({ frames := 1, cells := 0, slots := 0, locals := 23 } : Room) s m args below meth c 7 D A s.heap Q 0 0 [(mo, .inr (8, [.int tw, .int (nI K), .int (nI R), .ref qa, .ref qb, .ref qk, .ref qu, .ref qn, .ref qx, .ref qo, .ref qf, .int (nI (d + k)), .ref qr, .int (nI gm), .ref qg, .ref qv, .int (nI d2), .ref qs, .int (nI vv), .ref qc, .ref qm, .ref qw])), (qx, .inl (cZ, 2304, .inl (zf AB))), (qf, .inl (cI, 48, .inl (nf F9_1))), (qr, .inl (cI, 48, .inl (nf R8)))] [(0, .ref mo), (1, .int (nI x)), (2, .int (nI t)), (3, .int (bI false)), (4, .int (nI v))] 8 [] := by
    intro N8
    induction N8 with
    | zero =>
      intro k v R8 hN
      exact absurd hN (Nat.not_lt_zero _)
    | succ N8 ih8 =>
      intro k v R8 hN8 hk hv hv2 hR
      refine g_iload X 4 d_Md_walk_8 rfl ?_
      refine g_iload_n X 2 d_Md_walk_10 rfl rfl ?_
      refine n_icmp_eq X 104 d_Md_walk_11 (by decide) (by omega) (by omega) (fun h11 => ?_) (fun h11 => ?_)
      · refine g_iload_n X 3 d_Md_walk_104 rfl rfl ?_
        refine b_if_eq X 128 d_Md_walk_105 (by decide) (fun h105 => ?_) (fun h105 => absurd h105 (by decide))
        have ek : k = n := (gpath_end hg hk).mp (hv.symm.trans h11)
        subst ek
        exact g_vret X hA9 hQ9 hr9 hlk9 ⟨F9_1, R8⟩ [0, 1, 2, 3] rfl rfl d_Md_walk_128 (by (try dsimp only); exact (hR))
      · have hkn : k < n := walk_lt hg hk hv h11
        have ef : F9_1 v = n - k := by rw [hv]; exact (gfar_gd hF (by rw [← hv]; exact hv2) (by omega)).mpr (gpath_d hg hk)
        refine g_aload_n X 0 d_Md_walk_14 rfl rfl ?_
        refine g_get (C := R_Md) (T := T_Md) (N := 22) X 0 12 in_Md rfl rfl (by decide) t3_159 rfl rfl d_Md_walk_15 ?_
        refine g_aload_n X 0 d_Md_walk_18 rfl rfl ?_
        refine g_get (C := R_Md) (T := T_Md) (N := 22) X 0 11 in_Md rfl rfl (by decide) t3_158 rfl rfl d_Md_walk_19 ?_
        refine g_iload X 4 d_Md_walk_22 rfl ?_
        refine g_iastN X 3 0 [(mo, .inr (8, [.int tw, .int (nI K), .int (nI R), .ref qa, .ref qb, .ref qk, .ref qu, .ref qn, .ref qx, .ref qo, .ref qf, .int (nI (d + k)), .ref qr, .int (nI gm), .ref qg, .ref qv, .int (nI d2), .ref qs, .int (nI vv), .ref qc, .ref qm, .ref qw])), (qx, .inl (cZ, 2304, .inl (zf AB))), (qf, .inl (cI, 48, .inl (nf F9_1))), (qr, .inl (cI, 48, .inl (nf (updN R8 (d + k) v))))] rfl rfl (by omega) (by omega) rfl d_Md_walk_24 ?_
        refine g_aload_n X 0 d_Md_walk_25 rfl rfl ?_
        refine g_dup X d_Md_walk_26 rfl ?_
        refine g_get (C := R_Md) (T := T_Md) (N := 22) X 0 11 in_Md rfl rfl (by decide) t3_158 rfl rfl d_Md_walk_27 ?_
        refine g_iconst (v := nI 1) X d_Md_walk_30 rfl ?_
        refine g_iadd X (nI (d + k + 1)) d_Md_walk_31 (nI_add (d + k) 1) ?_
        refine g_put (C := R_Md) (T := T_Md) (N := 22) (ty := .int) X 0 11 [(mo, .inr (8, [.int tw, .int (nI K), .int (nI R), .ref qa, .ref qb, .ref qk, .ref qu, .ref qn, .ref qx, .ref qo, .ref qf, .int (nI (d + k + 1)), .ref qr, .int (nI gm), .ref qg, .ref qv, .int (nI d2), .ref qs, .int (nI vv), .ref qc, .ref qm, .ref qw])), (qx, .inl (cZ, 2304, .inl (zf AB))), (qf, .inl (cI, 48, .inl (nf F9_1))), (qr, .inl (cI, 48, .inl (nf (updN R8 (d + k) v))))] t_Md ty_Md nm_Md in_Md rfl rfl (by decide) t3_158 rfl rfl (by decide +kernel) rfl rfl (Nat.le_of_ble_eq_true rfl) rfl d_Md_walk_32 ?_
        refine g_iconst (v := -1) X d_Md_walk_35 rfl ?_
        refine g_topE (show (-1 : Int32) = nxI 48 from rfl) ?_
        refine g_istore X [(5, .int (nxI 48)), (0, .ref mo), (1, .int (nI x)), (2, .int (nI t)), (3, .int (bI false)), (4, .int (nI v))] d_Md_walk_36 (by decide) rfl ?_
        have L42 : ∀ (N42 : Nat) (j : Nat) (v5 : Nat), j < N42 → (j ≤ 48) → (nxP (fun z => tE 48 AB (pp k) z = true ∧ F9_1 z = F9_1 (pp k) - 1) j v5) → G p l e ({ frames := 1, cells := 0, slots := 0, locals := 23 } : Room) s m args below meth c 7 D A s.heap Q 0 0 [(mo, .inr (8, [.int tw, .int (nI K), .int (nI R), .ref qa, .ref qb, .ref qk, .ref qu, .ref qn, .ref qx, .ref qo, .ref qf, .int (nI (d + k + 1)), .ref qr, .int (nI gm), .ref qg, .ref qv, .int (nI d2), .ref qs, .int (nI vv), .ref qc, .ref qm, .ref qw])), (qx, .inl (cZ, 2304, .inl (zf AB))), (qf, .inl (cI, 48, .inl (nf F9_1))), (qr, .inl (cI, 48, .inl (nf (updN R8 (d + k) v))))] [(0, .ref mo), (1, .int (nI x)), (2, .int (nI t)), (3, .int (bI false)), (4, .int (nI v)), (5, .int (nxI v5)), (6, .int (dn j))] 42 [] := by
          intro N42
          induction N42 with
          | zero =>
            intro j v5 hN
            exact absurd hN (Nat.not_lt_zero _)
          | succ N42 ih42 =>
            intro j v5 hN42 hj hnx
            rcases Nat.eq_zero_or_pos j with q9 | q9
            · subst q9
              rw [dn_0]
              refine g_iload X 6 d_Md_walk_42 rfl ?_
              refine g_if_lt X 97 d_Md_walk_44 (by decide) (fun h44 => ?_) (fun h44 => absurd h44 (by decide))
              refine g_iload X 5 d_Md_walk_97 rfl ?_
              have e5 : v5 = pp (k + 1) := walk_next (tE_in AB) hg hF (by omega) (by omega) hnx hx
              have l5 : v5 < 48 := by rw [e5]; exact gpath_lt (tE_in AB) hx hg (by omega)
              refine g_topE (nxI_t l5) ?_
              refine g_istore X [(4, .int (nI v5)), (0, .ref mo), (1, .int (nI x)), (2, .int (nI t)), (3, .int (bI false)), (5, .int (nxI v5)), (6, .int (-1))] d_Md_walk_99 (by decide) rfl ?_
              refine g_goto X 8 d_Md_walk_101 (by decide) ?_
              refine g_lv [1, 2, 3, 4, 0] rfl ?_
              exact ih8 (k + 1) v5 (updN R8 (d + k) v) (by omega) (by omega) (e5) (l5) (ring_app hR.1 hR.2 hv)
            · obtain ⟨k9, rfl⟩ : ∃ k9, j = k9 + 1 := ⟨j - 1, by omega⟩
              rw [dn_s]
              refine g_iload X 6 d_Md_walk_42 rfl ?_
              refine n_if_lt X 97 d_Md_walk_44 (by decide) (by omega) (fun h44 => absurd h44 (by omega)) (fun h44 => ?_)
              refine g_aload_n X 0 d_Md_walk_47 rfl rfl ?_
              refine g_get (C := R_Md) (T := T_Md) (N := 22) X 0 8 in_Md rfl rfl (by decide) t3_155 rfl rfl d_Md_walk_48 ?_
              refine g_bipush (v := nI 48) X d_Md_walk_51 rfl ?_
              refine g_iload X 4 d_Md_walk_53 rfl ?_
              refine g_imul X (nI (48 * v)) d_Md_walk_55 (pk_mul 48 v) ?_
              refine g_iload X 6 d_Md_walk_56 rfl ?_
              refine g_iadd X (nI (48 * v + k9)) d_Md_walk_58 (nI_add (48 * v) k9) ?_
              refine g_zaldB X 1 2 rfl rfl (by omega) (by omega) d_Md_walk_59 ?_
              refine b_if_eq X 87 d_Md_walk_60 (by decide) (fun h60 => ?_) (fun h60 => ?_)
              · refine g_iload X 5 d_Md_walk_87 rfl ?_
                refine g_istore X [(5, .int (nxI v5)), (0, .ref mo), (1, .int (nI x)), (2, .int (nI t)), (3, .int (bI false)), (4, .int (nI v)), (6, .int (nI k9))] d_Md_walk_89 (by decide) rfl ?_
                refine g_iinc X (dn k9) [(6, .int (dn k9)), (5, .int (nxI v5)), (0, .ref mo), (1, .int (nI x)), (2, .int (nI t)), (3, .int (bI false)), (4, .int (nI v))] d_Md_walk_91 (k := 6) rfl (rfl) (by decide) rfl ?_
                refine g_goto X 42 d_Md_walk_94 (by decide) ?_
                refine g_lv [2, 3, 4, 5, 6, 1, 0] rfl ?_
                exact ih42 k9 v5 (by omega) (by omega) (by first | exact nx_miss hnx (fun z9 => by rw [tE_eq (by rw [← hv]; exact hv2) (by omega), ← hv, h60] at z9; exact absurd z9.1 (by decide)) | exact nx_miss hnx (fun z9 => h79 (by rw [← hv] at z9; exact z9.2)) | exact nx_hit (v := v5) (by omega) ⟨by rw [tE_eq (by rw [← hv]; exact hv2) (by omega), ← hv]; exact h60, by rw [← hv]; exact h79⟩)
              · have hb9 := (hF.2.1 k9 (by omega)).1
                refine g_aload_n X 0 d_Md_walk_63 rfl rfl ?_
                refine g_get (C := R_Md) (T := T_Md) (N := 22) X 0 10 in_Md rfl rfl (by decide) t3_157 rfl rfl d_Md_walk_64 ?_
                refine g_iload X 6 d_Md_walk_67 rfl ?_
                refine g_ialdN X 2 0 rfl rfl (by omega) (by omega) d_Md_walk_69 ?_
                refine g_aload_n X 0 d_Md_walk_70 rfl rfl ?_
                refine g_get (C := R_Md) (T := T_Md) (N := 22) X 0 10 in_Md rfl rfl (by decide) t3_157 rfl rfl d_Md_walk_71 ?_
                refine g_iload X 4 d_Md_walk_74 rfl ?_
                refine g_ialdN X 2 0 rfl rfl (by omega) (by omega) d_Md_walk_76 ?_
                refine g_iconst (v := nI 1) X d_Md_walk_77 rfl ?_
                refine g_isub X (nI ((F9_1 v) - 1)) d_Md_walk_78 (pk_sub (by omega)) ?_
                refine n_icmp_ne X 87 d_Md_walk_79 (by decide) (by omega) (by omega) (fun h79 => ?_) (fun h79 => ?_)
                · refine g_iload X 5 d_Md_walk_87 rfl ?_
                  refine g_istore X [(5, .int (nxI v5)), (0, .ref mo), (1, .int (nI x)), (2, .int (nI t)), (3, .int (bI false)), (4, .int (nI v)), (6, .int (nI k9))] d_Md_walk_89 (by decide) rfl ?_
                  refine g_iinc X (dn k9) [(6, .int (dn k9)), (5, .int (nxI v5)), (0, .ref mo), (1, .int (nI x)), (2, .int (nI t)), (3, .int (bI false)), (4, .int (nI v))] d_Md_walk_91 (k := 6) rfl (rfl) (by decide) rfl ?_
                  refine g_goto X 42 d_Md_walk_94 (by decide) ?_
                  refine g_lv [2, 3, 4, 5, 6, 1, 0] rfl ?_
                  exact ih42 k9 v5 (by omega) (by omega) (by first | exact nx_miss hnx (fun z9 => by rw [tE_eq (by rw [← hv]; exact hv2) (by omega), ← hv, h60] at z9; exact absurd z9.1 (by decide)) | exact nx_miss hnx (fun z9 => h79 (by rw [← hv] at z9; exact z9.2)) | exact nx_hit (v := v5) (by omega) ⟨by rw [tE_eq (by rw [← hv]; exact hv2) (by omega), ← hv]; exact h60, by rw [← hv]; exact h79⟩)
                · refine g_iload X 6 d_Md_walk_82 rfl ?_
                  refine g_goto X 89 d_Md_walk_84 (by decide) ?_
                  refine g_topE (nxI_t (by omega)).symm ?_
                  refine g_istore X [(5, .int (nxI k9)), (0, .ref mo), (1, .int (nI x)), (2, .int (nI t)), (3, .int (bI false)), (4, .int (nI v)), (6, .int (nI k9))] d_Md_walk_89 (by decide) rfl ?_
                  refine g_iinc X (dn k9) [(6, .int (dn k9)), (5, .int (nxI k9)), (0, .ref mo), (1, .int (nI x)), (2, .int (nI t)), (3, .int (bI false)), (4, .int (nI v))] d_Md_walk_91 (k := 6) rfl (rfl) (by decide) rfl ?_
                  refine g_goto X 42 d_Md_walk_94 (by decide) ?_
                  refine g_lv [2, 3, 4, 5, 6, 1, 0] rfl ?_
                  exact ih42 k9 k9 (by omega) (by omega) (by first | exact nx_miss hnx (fun z9 => by rw [tE_eq (by rw [← hv]; exact hv2) (by omega), ← hv, h60] at z9; exact absurd z9.1 (by decide)) | exact nx_miss hnx (fun z9 => h79 (by rw [← hv] at z9; exact z9.2)) | exact nx_hit (v := v5) (by omega) ⟨by rw [tE_eq (by rw [← hv]; exact hv2) (by omega), ← hv]; exact h60, by rw [← hv]; exact h79⟩)
        refine g_bipush (v := nI 47) X d_Md_walk_38 rfl ?_
        refine g_topE (show nI 47 = dn 48 from rfl) ?_
        refine g_istore X [(6, .int (dn 48)), (5, .int (nxI 48)), (0, .ref mo), (1, .int (nI x)), (2, .int (nI t)), (3, .int (bI false)), (4, .int (nI v))] d_Md_walk_40 (by decide) rfl ?_
        refine g_lv [2, 3, 4, 5, 6, 1, 0] rfl ?_
        exact L42 ((48) + 1) 48 48 (Nat.lt_succ_self _) (by omega) (nx_0)
  refine g_iload_n X 1 d_Md_walk_5 rfl rfl ?_
  refine g_istore X [(4, .int (nI x)), (0, .ref mo), (1, .int (nI x)), (2, .int (nI t)), (3, .int (bI false))] d_Md_walk_6 (by decide) rfl ?_
  refine g_ws [(mo, .inr (8, [.int tw, .int (nI K), .int (nI R), .ref qa, .ref qb, .ref qk, .ref qu, .ref qn, .ref qx, .ref qo, .ref qf, .int (nI d), .ref qr, .int (nI gm), .ref qg, .ref qv, .int (nI d2), .ref qs, .int (nI vv), .ref qc, .ref qm, .ref qw])), (qx, .inl (cZ, 2304, .inl (zf AB))), (qf, .inl (cI, 48, .inl (nf F9_1))), (qr, .inl (cI, 48, .inl (nf FR)))] [1, 2, 3, 0] rfl rfl ?_
  refine g_lv [1, 2, 3, 4, 0] rfl ?_
  exact L8 ((n - 0) + 1) 0 x FR (Nat.lt_succ_self _) (by omega) (hg.2.1.symm) (hx) (⟨fun j _ => rfl, fun j hj => absurd hj (Nat.not_lt_zero j)⟩)

set_option maxHeartbeats 4000000 in
set_option maxRecDepth 100000 in
theorem k_Md_walkW (mo : Nat) (tw : Int32) (K : Nat) (R : Nat) (qa : Nat) (qb : Nat) (qk : Nat) (qu : Nat) (qn : Nat) (qx : Nat) (qo : Nat) (qf : Nat) (d : Nat) (qr : Nat) (gm : Nat) (qg : Nat) (qv : Nat) (d2 : Nat) (qs : Nat) (vv : Nat) (qc : Nat) (qm : Nat) (qw : Nat) (AB : Nat → Bool) (FF : Nat → Nat) (FR : Nat → Nat) (x : Nat) (t : Nat) (n : Nat) (pp : Nat → Nat) (hx : x < 48) (ht : t < 48) (hg : gpath (tE 48 AB) t n x pp) (hn : d + n < 48) : CtV l y_Md_walk (Cond.code y_Md_walk c_Md_walk 7 none :: TB) ({ frames := 1, cells := 0, slots := 0, locals := 23 } : Room) D (tysv cI cJ cZ cQ) [.ref mo, .int (nI x), .int (nI t), .int (bI true)] [(mo, .inr (8, [.int tw, .int (nI K), .int (nI R), .ref qa, .ref qb, .ref qk, .ref qu, .ref qn, .ref qx, .ref qo, .ref qf, .int (nI d), .ref qr, .int (nI gm), .ref qg, .ref qv, .int (nI d2), .ref qs, .int (nI vv), .ref qc, .ref qm, .ref qw])), (qx, .inl (cZ, 2304, .inl (zf AB))), (qf, .inl (cI, 48, .inl (nf FF))), (qr, .inl (cI, 48, .inl (nf FR)))] 0 0 (fun (u : (Nat → Nat) × (Nat → Nat)) => (∀ j, j < d → u.2 j = FR j) ∧ (∀ j, j < n → u.2 (d + j) = pp j) ∧ u.2 (d + n) = t) (fun (u : (Nat → Nat) × (Nat → Nat)) => [(mo, .inr (8, [.int tw, .int (nI K), .int (nI R), .ref qa, .ref qb, .ref qk, .ref qu, .ref qn, .ref qx, .ref qo, .ref qf, .int (nI (d + n + 1)), .ref qr, .int (nI gm), .ref qg, .ref qv, .int (nI d2), .ref qs, .int (nI vv), .ref qc, .ref qm, .ref qw])), (qx, .inl (cZ, 2304, .inl (zf AB))), (qf, .inl (cI, 48, .inl (nf u.1))), (qr, .inl (cI, 48, .inl (nf u.2)))]) := by
  refine CtV.of c_Md_walk 7 none (by decide) rfl (Nat.le_of_ble_eq_true rfl) ?_
  intro p e s m args below meth c A Q hA9 hQ9 X hr9 hlk9 hin9
  refine g_aload_n X 0 d_Md_walk_0 rfl rfl ?_
  refine g_iload_n X 2 d_Md_walk_1 rfl rfl ?_
  refine g_callvV (n := 1) X [.int (nI t)] (k_Md_measure mo tw K R qa qb qk qu qn qx qo qf d qr gm qg qv d2 qs vv qc qm qw AB FF t (by omega)) t4_11 t4_13 ts_17 t1_9 t4_14 rfl rfl (by decide +kernel) ⟨by decide, by decide⟩ [0, 1, 2] [3] [(qr, .inl (cI, 48, .inl (nf FR)))] rfl rfl rfl rfl (by decide) 0 rfl rfl rfl rfl (Nat.le_of_ble_eq_true rfl) d_Md_walk_2 ⟨by decide, by decide⟩ (fun F9_1 hF => ?_)
  have L8 : ∀ (N8 : Nat) (k : Nat) (v : Nat) (R8 : Nat → Nat), (n - k) < N8 → (k ≤ n) → (v = pp k) → (v < 48) → ((∀ j, j < d → R8 j = FR j) ∧ ∀ j, j < k → R8 (d + j) = pp j) → G p l e ({ frames := 1, cells := 0, slots := 0, locals := 23 } : Room) s m args below meth c 7 D A s.heap Q 0 0 [(mo, .inr (8, [.int tw, .int (nI K), .int (nI R), .ref qa, .ref qb, .ref qk, .ref qu, .ref qn, .ref qx, .ref qo, .ref qf, .int (nI (d + k)), .ref qr, .int (nI gm), .ref qg, .ref qv, .int (nI d2), .ref qs, .int (nI vv), .ref qc, .ref qm, .ref qw])), (qx, .inl (cZ, 2304, .inl (zf AB))), (qf, .inl (cI, 48, .inl (nf F9_1))), (qr, .inl (cI, 48, .inl (nf R8)))] [(0, .ref mo), (1, .int (nI x)), (2, .int (nI t)), (3, .int (bI true)), (4, .int (nI v))] 8 [] := by
    intro N8
    induction N8 with
    | zero =>
      intro k v R8 hN
      exact absurd hN (Nat.not_lt_zero _)
    | succ N8 ih8 =>
      intro k v R8 hN8 hk hv hv2 hR
      refine g_iload X 4 d_Md_walk_8 rfl ?_
      refine g_iload_n X 2 d_Md_walk_10 rfl rfl ?_
      refine n_icmp_eq X 104 d_Md_walk_11 (by decide) (by omega) (by omega) (fun h11 => ?_) (fun h11 => ?_)
      · refine g_iload_n X 3 d_Md_walk_104 rfl rfl ?_
        refine b_if_eq X 128 d_Md_walk_105 (by decide) (fun h105 => absurd h105 (by decide)) (fun h105 => ?_)
        refine g_aload_n X 0 d_Md_walk_108 rfl rfl ?_
        refine g_get (C := R_Md) (T := T_Md) (N := 22) X 0 12 in_Md rfl rfl (by decide) t3_159 rfl rfl d_Md_walk_109 ?_
        refine g_aload_n X 0 d_Md_walk_112 rfl rfl ?_
        refine g_get (C := R_Md) (T := T_Md) (N := 22) X 0 11 in_Md rfl rfl (by decide) t3_158 rfl rfl d_Md_walk_113 ?_
        refine g_iload_n X 2 d_Md_walk_116 rfl rfl ?_
        refine g_iastN X 3 0 [(mo, .inr (8, [.int tw, .int (nI K), .int (nI R), .ref qa, .ref qb, .ref qk, .ref qu, .ref qn, .ref qx, .ref qo, .ref qf, .int (nI (d + k)), .ref qr, .int (nI gm), .ref qg, .ref qv, .int (nI d2), .ref qs, .int (nI vv), .ref qc, .ref qm, .ref qw])), (qx, .inl (cZ, 2304, .inl (zf AB))), (qf, .inl (cI, 48, .inl (nf F9_1))), (qr, .inl (cI, 48, .inl (nf (updN R8 (d + k) t))))] rfl rfl (by omega) (by omega) rfl d_Md_walk_117 ?_
        refine g_aload_n X 0 d_Md_walk_118 rfl rfl ?_
        refine g_dup X d_Md_walk_119 rfl ?_
        refine g_get (C := R_Md) (T := T_Md) (N := 22) X 0 11 in_Md rfl rfl (by decide) t3_158 rfl rfl d_Md_walk_120 ?_
        refine g_iconst (v := nI 1) X d_Md_walk_123 rfl ?_
        refine g_iadd X (nI (d + k + 1)) d_Md_walk_124 (nI_add (d + k) 1) ?_
        refine g_put (C := R_Md) (T := T_Md) (N := 22) (ty := .int) X 0 11 [(mo, .inr (8, [.int tw, .int (nI K), .int (nI R), .ref qa, .ref qb, .ref qk, .ref qu, .ref qn, .ref qx, .ref qo, .ref qf, .int (nI (d + k + 1)), .ref qr, .int (nI gm), .ref qg, .ref qv, .int (nI d2), .ref qs, .int (nI vv), .ref qc, .ref qm, .ref qw])), (qx, .inl (cZ, 2304, .inl (zf AB))), (qf, .inl (cI, 48, .inl (nf F9_1))), (qr, .inl (cI, 48, .inl (nf (updN R8 (d + k) t))))] t_Md ty_Md nm_Md in_Md rfl rfl (by decide) t3_158 rfl rfl (by decide +kernel) rfl rfl (Nat.le_of_ble_eq_true rfl) rfl d_Md_walk_125 ?_
        have ek : k = n := (gpath_end hg hk).mp (hv.symm.trans h11)
        subst ek
        exact g_vret X hA9 hQ9 hr9 hlk9 ⟨F9_1, updN R8 (d + k) t⟩ [0, 1, 2, 3] rfl rfl d_Md_walk_128 (by (try dsimp only); exact (⟨fun j hj => (updN_n (by omega)).trans (hR.1 j hj), fun j hj => (updN_n (by omega)).trans (hR.2 j hj), updN_s⟩))
      · have hkn : k < n := walk_lt hg hk hv h11
        have ef : F9_1 v = n - k := by rw [hv]; exact (gfar_gd hF (by rw [← hv]; exact hv2) (by omega)).mpr (gpath_d hg hk)
        refine g_aload_n X 0 d_Md_walk_14 rfl rfl ?_
        refine g_get (C := R_Md) (T := T_Md) (N := 22) X 0 12 in_Md rfl rfl (by decide) t3_159 rfl rfl d_Md_walk_15 ?_
        refine g_aload_n X 0 d_Md_walk_18 rfl rfl ?_
        refine g_get (C := R_Md) (T := T_Md) (N := 22) X 0 11 in_Md rfl rfl (by decide) t3_158 rfl rfl d_Md_walk_19 ?_
        refine g_iload X 4 d_Md_walk_22 rfl ?_
        refine g_iastN X 3 0 [(mo, .inr (8, [.int tw, .int (nI K), .int (nI R), .ref qa, .ref qb, .ref qk, .ref qu, .ref qn, .ref qx, .ref qo, .ref qf, .int (nI (d + k)), .ref qr, .int (nI gm), .ref qg, .ref qv, .int (nI d2), .ref qs, .int (nI vv), .ref qc, .ref qm, .ref qw])), (qx, .inl (cZ, 2304, .inl (zf AB))), (qf, .inl (cI, 48, .inl (nf F9_1))), (qr, .inl (cI, 48, .inl (nf (updN R8 (d + k) v))))] rfl rfl (by omega) (by omega) rfl d_Md_walk_24 ?_
        refine g_aload_n X 0 d_Md_walk_25 rfl rfl ?_
        refine g_dup X d_Md_walk_26 rfl ?_
        refine g_get (C := R_Md) (T := T_Md) (N := 22) X 0 11 in_Md rfl rfl (by decide) t3_158 rfl rfl d_Md_walk_27 ?_
        refine g_iconst (v := nI 1) X d_Md_walk_30 rfl ?_
        refine g_iadd X (nI (d + k + 1)) d_Md_walk_31 (nI_add (d + k) 1) ?_
        refine g_put (C := R_Md) (T := T_Md) (N := 22) (ty := .int) X 0 11 [(mo, .inr (8, [.int tw, .int (nI K), .int (nI R), .ref qa, .ref qb, .ref qk, .ref qu, .ref qn, .ref qx, .ref qo, .ref qf, .int (nI (d + k + 1)), .ref qr, .int (nI gm), .ref qg, .ref qv, .int (nI d2), .ref qs, .int (nI vv), .ref qc, .ref qm, .ref qw])), (qx, .inl (cZ, 2304, .inl (zf AB))), (qf, .inl (cI, 48, .inl (nf F9_1))), (qr, .inl (cI, 48, .inl (nf (updN R8 (d + k) v))))] t_Md ty_Md nm_Md in_Md rfl rfl (by decide) t3_158 rfl rfl (by decide +kernel) rfl rfl (Nat.le_of_ble_eq_true rfl) rfl d_Md_walk_32 ?_
        refine g_iconst (v := -1) X d_Md_walk_35 rfl ?_
        refine g_topE (show (-1 : Int32) = nxI 48 from rfl) ?_
        refine g_istore X [(5, .int (nxI 48)), (0, .ref mo), (1, .int (nI x)), (2, .int (nI t)), (3, .int (bI true)), (4, .int (nI v))] d_Md_walk_36 (by decide) rfl ?_
        have L42 : ∀ (N42 : Nat) (j : Nat) (v5 : Nat), j < N42 → (j ≤ 48) → (nxP (fun z => tE 48 AB (pp k) z = true ∧ F9_1 z = F9_1 (pp k) - 1) j v5) → G p l e ({ frames := 1, cells := 0, slots := 0, locals := 23 } : Room) s m args below meth c 7 D A s.heap Q 0 0 [(mo, .inr (8, [.int tw, .int (nI K), .int (nI R), .ref qa, .ref qb, .ref qk, .ref qu, .ref qn, .ref qx, .ref qo, .ref qf, .int (nI (d + k + 1)), .ref qr, .int (nI gm), .ref qg, .ref qv, .int (nI d2), .ref qs, .int (nI vv), .ref qc, .ref qm, .ref qw])), (qx, .inl (cZ, 2304, .inl (zf AB))), (qf, .inl (cI, 48, .inl (nf F9_1))), (qr, .inl (cI, 48, .inl (nf (updN R8 (d + k) v))))] [(0, .ref mo), (1, .int (nI x)), (2, .int (nI t)), (3, .int (bI true)), (4, .int (nI v)), (5, .int (nxI v5)), (6, .int (dn j))] 42 [] := by
          intro N42
          induction N42 with
          | zero =>
            intro j v5 hN
            exact absurd hN (Nat.not_lt_zero _)
          | succ N42 ih42 =>
            intro j v5 hN42 hj hnx
            rcases Nat.eq_zero_or_pos j with q9 | q9
            · subst q9
              rw [dn_0]
              refine g_iload X 6 d_Md_walk_42 rfl ?_
              refine g_if_lt X 97 d_Md_walk_44 (by decide) (fun h44 => ?_) (fun h44 => absurd h44 (by decide))
              refine g_iload X 5 d_Md_walk_97 rfl ?_
              have e5 : v5 = pp (k + 1) := walk_next (tE_in AB) hg hF (by omega) (by omega) hnx hx
              have l5 : v5 < 48 := by rw [e5]; exact gpath_lt (tE_in AB) hx hg (by omega)
              refine g_topE (nxI_t l5) ?_
              refine g_istore X [(4, .int (nI v5)), (0, .ref mo), (1, .int (nI x)), (2, .int (nI t)), (3, .int (bI true)), (5, .int (nxI v5)), (6, .int (-1))] d_Md_walk_99 (by decide) rfl ?_
              refine g_goto X 8 d_Md_walk_101 (by decide) ?_
              refine g_lv [1, 2, 3, 4, 0] rfl ?_
              exact ih8 (k + 1) v5 (updN R8 (d + k) v) (by omega) (by omega) (e5) (l5) (ring_app hR.1 hR.2 hv)
            · obtain ⟨k9, rfl⟩ : ∃ k9, j = k9 + 1 := ⟨j - 1, by omega⟩
              rw [dn_s]
              refine g_iload X 6 d_Md_walk_42 rfl ?_
              refine n_if_lt X 97 d_Md_walk_44 (by decide) (by omega) (fun h44 => absurd h44 (by omega)) (fun h44 => ?_)
              refine g_aload_n X 0 d_Md_walk_47 rfl rfl ?_
              refine g_get (C := R_Md) (T := T_Md) (N := 22) X 0 8 in_Md rfl rfl (by decide) t3_155 rfl rfl d_Md_walk_48 ?_
              refine g_bipush (v := nI 48) X d_Md_walk_51 rfl ?_
              refine g_iload X 4 d_Md_walk_53 rfl ?_
              refine g_imul X (nI (48 * v)) d_Md_walk_55 (pk_mul 48 v) ?_
              refine g_iload X 6 d_Md_walk_56 rfl ?_
              refine g_iadd X (nI (48 * v + k9)) d_Md_walk_58 (nI_add (48 * v) k9) ?_
              refine g_zaldB X 1 2 rfl rfl (by omega) (by omega) d_Md_walk_59 ?_
              refine b_if_eq X 87 d_Md_walk_60 (by decide) (fun h60 => ?_) (fun h60 => ?_)
              · refine g_iload X 5 d_Md_walk_87 rfl ?_
                refine g_istore X [(5, .int (nxI v5)), (0, .ref mo), (1, .int (nI x)), (2, .int (nI t)), (3, .int (bI true)), (4, .int (nI v)), (6, .int (nI k9))] d_Md_walk_89 (by decide) rfl ?_
                refine g_iinc X (dn k9) [(6, .int (dn k9)), (5, .int (nxI v5)), (0, .ref mo), (1, .int (nI x)), (2, .int (nI t)), (3, .int (bI true)), (4, .int (nI v))] d_Md_walk_91 (k := 6) rfl (rfl) (by decide) rfl ?_
                refine g_goto X 42 d_Md_walk_94 (by decide) ?_
                refine g_lv [2, 3, 4, 5, 6, 1, 0] rfl ?_
                exact ih42 k9 v5 (by omega) (by omega) (by first | exact nx_miss hnx (fun z9 => by rw [tE_eq (by rw [← hv]; exact hv2) (by omega), ← hv, h60] at z9; exact absurd z9.1 (by decide)) | exact nx_miss hnx (fun z9 => h79 (by rw [← hv] at z9; exact z9.2)) | exact nx_hit (v := v5) (by omega) ⟨by rw [tE_eq (by rw [← hv]; exact hv2) (by omega), ← hv]; exact h60, by rw [← hv]; exact h79⟩)
              · have hb9 := (hF.2.1 k9 (by omega)).1
                refine g_aload_n X 0 d_Md_walk_63 rfl rfl ?_
                refine g_get (C := R_Md) (T := T_Md) (N := 22) X 0 10 in_Md rfl rfl (by decide) t3_157 rfl rfl d_Md_walk_64 ?_
                refine g_iload X 6 d_Md_walk_67 rfl ?_
                refine g_ialdN X 2 0 rfl rfl (by omega) (by omega) d_Md_walk_69 ?_
                refine g_aload_n X 0 d_Md_walk_70 rfl rfl ?_
                refine g_get (C := R_Md) (T := T_Md) (N := 22) X 0 10 in_Md rfl rfl (by decide) t3_157 rfl rfl d_Md_walk_71 ?_
                refine g_iload X 4 d_Md_walk_74 rfl ?_
                refine g_ialdN X 2 0 rfl rfl (by omega) (by omega) d_Md_walk_76 ?_
                refine g_iconst (v := nI 1) X d_Md_walk_77 rfl ?_
                refine g_isub X (nI ((F9_1 v) - 1)) d_Md_walk_78 (pk_sub (by omega)) ?_
                refine n_icmp_ne X 87 d_Md_walk_79 (by decide) (by omega) (by omega) (fun h79 => ?_) (fun h79 => ?_)
                · refine g_iload X 5 d_Md_walk_87 rfl ?_
                  refine g_istore X [(5, .int (nxI v5)), (0, .ref mo), (1, .int (nI x)), (2, .int (nI t)), (3, .int (bI true)), (4, .int (nI v)), (6, .int (nI k9))] d_Md_walk_89 (by decide) rfl ?_
                  refine g_iinc X (dn k9) [(6, .int (dn k9)), (5, .int (nxI v5)), (0, .ref mo), (1, .int (nI x)), (2, .int (nI t)), (3, .int (bI true)), (4, .int (nI v))] d_Md_walk_91 (k := 6) rfl (rfl) (by decide) rfl ?_
                  refine g_goto X 42 d_Md_walk_94 (by decide) ?_
                  refine g_lv [2, 3, 4, 5, 6, 1, 0] rfl ?_
                  exact ih42 k9 v5 (by omega) (by omega) (by first | exact nx_miss hnx (fun z9 => by rw [tE_eq (by rw [← hv]; exact hv2) (by omega), ← hv, h60] at z9; exact absurd z9.1 (by decide)) | exact nx_miss hnx (fun z9 => h79 (by rw [← hv] at z9; exact z9.2)) | exact nx_hit (v := v5) (by omega) ⟨by rw [tE_eq (by rw [← hv]; exact hv2) (by omega), ← hv]; exact h60, by rw [← hv]; exact h79⟩)
                · refine g_iload X 6 d_Md_walk_82 rfl ?_
                  refine g_goto X 89 d_Md_walk_84 (by decide) ?_
                  refine g_topE (nxI_t (by omega)).symm ?_
                  refine g_istore X [(5, .int (nxI k9)), (0, .ref mo), (1, .int (nI x)), (2, .int (nI t)), (3, .int (bI true)), (4, .int (nI v)), (6, .int (nI k9))] d_Md_walk_89 (by decide) rfl ?_
                  refine g_iinc X (dn k9) [(6, .int (dn k9)), (5, .int (nxI k9)), (0, .ref mo), (1, .int (nI x)), (2, .int (nI t)), (3, .int (bI true)), (4, .int (nI v))] d_Md_walk_91 (k := 6) rfl (rfl) (by decide) rfl ?_
                  refine g_goto X 42 d_Md_walk_94 (by decide) ?_
                  refine g_lv [2, 3, 4, 5, 6, 1, 0] rfl ?_
                  exact ih42 k9 k9 (by omega) (by omega) (by first | exact nx_miss hnx (fun z9 => by rw [tE_eq (by rw [← hv]; exact hv2) (by omega), ← hv, h60] at z9; exact absurd z9.1 (by decide)) | exact nx_miss hnx (fun z9 => h79 (by rw [← hv] at z9; exact z9.2)) | exact nx_hit (v := v5) (by omega) ⟨by rw [tE_eq (by rw [← hv]; exact hv2) (by omega), ← hv]; exact h60, by rw [← hv]; exact h79⟩)
        refine g_bipush (v := nI 47) X d_Md_walk_38 rfl ?_
        refine g_topE (show nI 47 = dn 48 from rfl) ?_
        refine g_istore X [(6, .int (dn 48)), (5, .int (nxI 48)), (0, .ref mo), (1, .int (nI x)), (2, .int (nI t)), (3, .int (bI true)), (4, .int (nI v))] d_Md_walk_40 (by decide) rfl ?_
        refine g_lv [2, 3, 4, 5, 6, 1, 0] rfl ?_
        exact L42 ((48) + 1) 48 48 (Nat.lt_succ_self _) (by omega) (nx_0)
  refine g_iload_n X 1 d_Md_walk_5 rfl rfl ?_
  refine g_istore X [(4, .int (nI x)), (0, .ref mo), (1, .int (nI x)), (2, .int (nI t)), (3, .int (bI true))] d_Md_walk_6 (by decide) rfl ?_
  refine g_ws [(mo, .inr (8, [.int tw, .int (nI K), .int (nI R), .ref qa, .ref qb, .ref qk, .ref qu, .ref qn, .ref qx, .ref qo, .ref qf, .int (nI d), .ref qr, .int (nI gm), .ref qg, .ref qv, .int (nI d2), .ref qs, .int (nI vv), .ref qc, .ref qm, .ref qw])), (qx, .inl (cZ, 2304, .inl (zf AB))), (qf, .inl (cI, 48, .inl (nf F9_1))), (qr, .inl (cI, 48, .inl (nf FR)))] [1, 2, 3, 0] rfl rfl ?_
  refine g_lv [1, 2, 3, 4, 0] rfl ?_
  exact L8 ((n - 0) + 1) 0 x FR (Nat.lt_succ_self _) (by omega) (hg.2.1.symm) (hx) (⟨fun j _ => rfl, fun j hj => absurd hj (Nat.not_lt_zero j)⟩)
