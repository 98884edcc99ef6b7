variable {l : Launch} {D : va_G} {cI cJ cZ cQ : ClassId}
/-! versions: both sides -/
def verI (Kv : Nat) (n : Nat → Nat) (o : Nat → Nat → Bool) (gN : Nat → Int32) (gA gB : Nat → Int64) : Prop := (∀ k, k < Kv → gN k = nI (n k)) ∧ (∀ k, Kv ≤ k → k < 48 → gN k = -1) ∧ vvA (fun x y => o (n x) (n y)) Kv Kv 0 gA ∧ vvB (fun x y => o (n x) (n y)) Kv Kv 0 gB
def iV (vv : Nat) (FC FN : Nat → Nat) (OO : Nat → Bool) (fV : Nat → Option Nat) (va : Nat → Nat → Nat) (vN : Nat → Nat → Int32) (vA vB : Nat → Nat → Int64) : Prop :=
  (∀ k, k < 384 → FN k < 48) ∧ (∀ k, k < 8 → FC k ≤ 48) ∧ (∀ v, v < vv → fV v = some (va v 0)) ∧ (∀ v, vv ≤ v → v < 8 → fV v = none) ∧ ∀ v, v < vv → verI (FC v) (fun k => FN (48 * v + k)) (fun x y => OO (2304 * v + (48 * x + y))) (vN v) (vA v) (vB v)
theorem vvI_iff {ov : Nat → Nat → Bool} {K x y : Nat} : vvI ov K K 0 x y ↔ x < K ∧ y < K ∧ ov x y = true := by
  unfold vvI
  constructor
  · rintro ⟨h1, h2⟩; exact ⟨by omega, by omega, h2⟩
  · rintro ⟨h1, h2, h3⟩; exact ⟨by omega, h3⟩
theorem ver_A {FC FN : Nat → Nat} {OO : Nat → Bool} {v x : Nat} {gN : Nat → Int32} {gA gB : Nat → Int64} (h : verI (FC v) (fun k => FN (48 * v + k)) (fun x y => OO (2304 * v + (48 * x + y))) gN gA gB) (hx : x < 48) (hx2 : x < FC v) (z : Nat) : lb (gA x) z = unq FC FN OO v z (FN (48 * v + x)) := by
  rw [Bool.eq_iff_iff, h.2.2.1 x hx z, vvI_iff]
  simp only [unq, Bool.and_eq_true, decide_eq_true_eq, Nat.add_assoc]
  constructor
  · rintro ⟨-, h2, h3⟩; exact ⟨h2, h3⟩
  · rintro ⟨h2, h3⟩; exact ⟨hx2, h2, h3⟩
theorem ver_B {FC FN : Nat → Nat} {OO : Nat → Bool} {v x : Nat} {gN : Nat → Int32} {gA gB : Nat → Int64} (h : verI (FC v) (fun k => FN (48 * v + k)) (fun x y => OO (2304 * v + (48 * x + y))) gN gA gB) (hx : x < 48) (hx2 : x < FC v) (z : Nat) : lb (gB x) z = ovq FC FN OO v z (FN (48 * v + x)) := by
  rw [Bool.eq_iff_iff, h.2.2.2 x hx z, vvI_iff]
  simp only [ovq, Bool.and_eq_true, decide_eq_true_eq, Nat.add_assoc]
  constructor
  · rintro ⟨h1, -, h3⟩; exact ⟨h1, h3⟩
  · rintro ⟨h1, h3⟩; exact ⟨h1, hx2, h3⟩
theorem ver_0 {Kv : Nat} {n : Nat → Nat} {o : Nat → Nat → Bool} {gN : Nat → Int32} {gA gB : Nat → Int64} (h : verI Kv n o gN gA gB) {x : Nat} (hx : x < 48) (hx2 : Kv ≤ x) : gA x = 0 ∧ gB x = 0 := by
  constructor
  · refine lb_ext (fun j _ => ?_)
    rw [lb_0]
    cases hb : lb (gA x) j with
    | false => rfl
    | true => have := (vvI_iff.mp ((h.2.2.1 x hx j).mp hb)).1; omega
  · refine lb_ext (fun j _ => ?_)
    rw [lb_0]
    cases hb : lb (gB x) j with
    | false => rfl
    | true => have := (vvI_iff.mp ((h.2.2.2 x hx j).mp hb)).2.1; omega
theorem bool_ne_f {a b : Bool} (h : (a != b) = false) : a = b := by cases a <;> cases b <;> first | rfl | cases h
theorem df_eq {FC FN : Nat → Nat} {OO : Nat → Bool} {u v : Nat} {n1 n2 : Nat → Int32} {u1 u2 o1 o2 : Nat → Int64} (hFN : ∀ k, k < 384 → FN k < 48) (hFC : ∀ k, k < 8 → FC k ≤ 48) (hu : u < 8) (hv : v < 8)
    (h1 : verI (FC u) (fun k => FN (48 * u + k)) (fun x y => OO (2304 * u + (48 * x + y))) n1 u1 o1) (h2 : verI (FC v) (fun k => FN (48 * v + k)) (fun x y => OO (2304 * v + (48 * x + y))) n2 u2 o2) : ∀ x, x < 48 → dfB n1 n2 u1 u2 o1 o2 x = dfM FC FN OO u v x := by
  intro x hx
  have b1 := hFC u hu
  have b2 := hFC v hv
  have m1 := hFN (48 * u + x) (by omega)
  have m2 := hFN (48 * v + x) (by omega)
  have neg : ∀ k, k < 48 → ¬ nI k = -1 := fun k hk => nI_nm (by omega)
  rcases Nat.lt_or_ge x (FC u) with p1 | p1 <;> rcases Nat.lt_or_ge x (FC v) with p2 | p2
  · -- both there
    have eN : n1 x = n2 x ↔ FN (48 * u + x) = FN (48 * v + x) := by
      rw [h1.1 x p1, h2.1 x p2]
      exact nI_eq (a := FN (48 * u + x)) (Nat.lt_trans m1 (by decide)) (Nat.lt_trans m2 (by decide))
    have eA : u1 x = u2 x ↔ ∀ z, z < 48 → unq FC FN OO u z (FN (48 * u + x)) = unq FC FN OO v z (FN (48 * v + x)) := by
      constructor
      · intro q z hz
        rw [← ver_A h1 hx p1 z, ← ver_A h2 hx p2 z, q]
      · intro q
        refine lb_ext (fun j _ => ?_)
        rw [ver_A h1 hx p1 j, ver_A h2 hx p2 j]
        rcases Nat.lt_or_ge j 48 with z | z
        · exact q j z
        · rw [unq_f (by omega), unq_f (by omega)]
    have eB : o1 x = o2 x ↔ ∀ z, z < 48 → ovq FC FN OO u z (FN (48 * u + x)) = ovq FC FN OO v z (FN (48 * v + x)) := by
      constructor
      · intro q z hz
        rw [← ver_B h1 hx p1 z, ← ver_B h2 hx p2 z, q]
      · intro q
        refine lb_ext (fun j _ => ?_)
        rw [ver_B h1 hx p1 j, ver_B h2 hx p2 j]
        rcases Nat.lt_or_ge j 48 with z | z
        · exact q j z
        · rw [ovq_f (by omega), ovq_f (by omega)]
    have key : dfB n1 n2 u1 u2 o1 o2 x = false ↔ dfM FC FN OO u v x = false := by
      have e9 : dfM FC FN OO u v x = dmB FC FN OO u v x 48 := by simp [dfM, p1, p2]
      rw [e9]
      have l1 : dfB n1 n2 u1 u2 o1 o2 x = false ↔ n1 x = n2 x ∧ u1 x = u2 x ∧ o1 x = o2 x := by simp [dfB, hx]
      have l2 : dmB FC FN OO u v x 48 = false ↔ FN (48 * u + x) = FN (48 * v + x) ∧ ∀ z, z < 48 → dmZ FC FN OO u v (FN (48 * u + x)) (FN (48 * v + x)) z = false := by
        simp only [dmB, Bool.or_eq_false_iff, Bool.not_eq_false', decide_eq_true_eq]
        refine and_congr_right fun _ => ?_
        constructor
        · intro q z hz
          cases hb : dmZ FC FN OO u v (FN (48 * u + x)) (FN (48 * v + x)) z with
          | false => rfl
          | true =>
            rw [(anyB_iff 48).mpr ⟨z, hz, hb⟩] at q
            cases q
        · intro q
          cases hb : anyB (dmZ FC FN OO u v (FN (48 * u + x)) (FN (48 * v + x))) 48 with
          | false => rfl
          | true =>
            obtain ⟨z, hz, hz2⟩ := (anyB_iff 48).mp hb
            rw [q z hz] at hz2
            cases hz2
      rw [l1, l2, eN, eA, eB]
      constructor
      · rintro ⟨a, b, c⟩
        refine ⟨a, fun z hz => ?_⟩
        simp only [dmZ]
        rw [b z hz, c z hz]
        simp
      · rintro ⟨a, b⟩
        refine ⟨a, fun z hz => ?_, fun z hz => ?_⟩
        · have := b z hz
          simp only [dmZ, Bool.or_eq_false_iff] at this
          exact bool_ne_f this.2
        · have := b z hz
          simp only [dmZ, Bool.or_eq_false_iff] at this
          exact bool_ne_f this.1
    cases ha : dfB n1 n2 u1 u2 o1 o2 x with
    | false => exact (key.mp ha).symm
    | true =>
      cases hb : dfM FC FN OO u v x with
      | true => rfl
      | false => rw [key.mpr hb] at ha; cases ha
  · have e : ¬ n1 x = n2 x := by
      rw [h1.1 x p1, h2.2.1 x p2 hx]
      exact neg _ m1
    simp [dfB, dfM, hx, e, p1, Nat.not_lt.mpr p2]
  · have e : ¬ n1 x = n2 x := by
      rw [h1.2.1 x p1 hx, h2.1 x p2]
      exact fun q => neg _ m2 q.symm
    simp [dfB, dfM, hx, e, p2, Nat.not_lt.mpr p1]
  · have e1 := ver_0 h1 hx p1
    have e2 := ver_0 h2 hx p2
    have e3 : n1 x = n2 x := by rw [h1.2.1 x p1 hx, h2.2.1 x p2 hx]
    simp [dfB, dfM, hx, e1, e2, e3, Nat.not_lt.mpr p1, Nat.not_lt.mpr p2]
theorem df_self {FC FN : Nat → Nat} {OO : Nat → Bool} {u : Nat} : cnt (dfM FC FN OO u u) 48 = 0 := by
  refine cnt_all0 48 (fun x _ => ?_)
  have h : ∀ z, dmZ FC FN OO u u (FN (48 * u + x)) (FN (48 * u + x)) z = false := fun z => by simp [dmZ]
  have h2 : anyB (dmZ FC FN OO u u (FN (48 * u + x)) (FN (48 * u + x))) 48 = false := by
    cases hb : anyB (dmZ FC FN OO u u (FN (48 * u + x)) (FN (48 * u + x))) 48 with
    | false => rfl
    | true =>
      obtain ⟨z, _, hz2⟩ := (anyB_iff 48).mp hb
      rw [h z] at hz2
      cases hz2
  simp [dfM, dmB, h2]
theorem df_cnt {FC FN : Nat → Nat} {OO : Nat → Bool} {u v : Nat} {n1 n2 : Nat → Int32} {u1 u2 o1 o2 : Nat → Int64} (h : ∀ x, x < 48 → dfB n1 n2 u1 u2 o1 o2 x = dfM FC FN OO u v x) {n : Nat} (hn : n ≤ 48) : cnt (dfB n1 n2 u1 u2 o1 o2) n = cnt (dfM FC FN OO u v) n := cnt_congr n (fun j hj => h j (by omega))
/-- the k-th that differs, on both sides -/
theorem df_nth {FC FN : Nat → Nat} {OO : Nat → Bool} {u v : Nat} {n1 n2 : Nat → Int32} {u1 u2 o1 o2 : Nat → Int64} {k x y : Nat} (h : ∀ x, x < 48 → dfB n1 n2 u1 u2 o1 o2 x = dfM FC FN OO u v x) (hx : x < 48 ∧ dfB n1 n2 u1 u2 o1 o2 x = true ∧ cnt (dfB n1 n2 u1 u2 o1 o2) x = k) (hy : y < 48 ∧ dfM FC FN OO u v y = true ∧ cnt (dfM FC FN OO u v) y = k) : x = y := by
  refine cnt_inj (P := dfM FC FN OO u v) ?_ hy.2.1 ?_
  · rw [← h x hx.1]; exact hx.2.1
  · rw [hy.2.2, ← df_cnt h (by omega : x ≤ 48)]; exact hx.2.2
section VT
variable {cI cJ : ClassId}
def vcell (cI cJ : ClassId) (va : Nat → Nat → Nat) (vN : Nat → Nat → Int32) (vA vB : Nat → Nat → Int64) (v : Nat) : va_W :=
  [(va v 0, .inr (6, [.ref (va v 1), .ref (va v 3), .ref (va v 5)])), (va v 1, .inr (0, [.ref (va v 2)])), (va v 2, .inl (cI, 48, .inl (vN v))), (va v 3, .inr (1, [.ref (va v 4)])), (va v 4, .inl (cJ, 48, .inr (.inl (vA v)))), (va v 5, .inr (1, [.ref (va v 6)])), (va v 6, .inl (cJ, 48, .inr (.inl (vB v))))]
def vtl (cI cJ : ClassId) (va : Nat → Nat → Nat) (vN : Nat → Nat → Int32) (vA vB : Nat → Nat → Int64) : Nat → va_W
  | 0 => []
  | n + 1 => vtl cI cJ va vN vA vB n ++ vcell cI cJ va vN vA vB n
theorem vtl_len {va : Nat → Nat → Nat} {vN : Nat → Nat → Int32} {vA vB : Nat → Nat → Int64} : ∀ n, (vtl cI cJ va vN vA vB n).length = 7 * n
  | 0 => rfl
  | n + 1 => by
    show (vtl cI cJ va vN vA vB n ++ vcell cI cJ va vN vA vB n).length = 7 * (n + 1)
    rw [List.length_append, vtl_len n, show (vcell cI cJ va vN vA vB n).length = 7 from rfl]
    omega
theorem vtl_at {va : Nat → Nat → Nat} {vN : Nat → Nat → Int32} {vA vB : Nat → Nat → Int64} : ∀ (n v k : Nat), v < n → k < 7 → (vtl cI cJ va vN vA vB n)[7 * v + k]? = (vcell cI cJ va vN vA vB v)[k]?
  | 0, v, k, h, _ => absurd h (Nat.not_lt_zero v)
  | n + 1, v, k, h, hk => by
    show (vtl cI cJ va vN vA vB n ++ vcell cI cJ va vN vA vB n)[7 * v + k]? = _
    by_cases e : v = n
    · subst e
      rw [List.getElem?_append_right (by rw [vtl_len]; omega), vtl_len]
      congr 1
      omega
    · rw [List.getElem?_append_left (by rw [vtl_len]; omega)]
      exact vtl_at n v k (by omega) hk
theorem vtl_congr {va va' : Nat → Nat → Nat} {vN vN' : Nat → Nat → Int32} {vA vA' vB vB' : Nat → Nat → Int64} : ∀ n, (∀ v, v < n → va v = va' v ∧ vN v = vN' v ∧ vA v = vA' v ∧ vB v = vB' v) → vtl cI cJ va vN vA vB n = vtl cI cJ va' vN' vA' vB' n
  | 0, _ => rfl
  | n + 1, h => by
    show vtl cI cJ va vN vA vB n ++ vcell cI cJ va vN vA vB n = vtl cI cJ va' vN' vA' vB' n ++ vcell cI cJ va' vN' vA' vB' n
    obtain ⟨h1, h2, h3, h4⟩ := h n (by omega)
    rw [vtl_congr n (fun v hv => h v (by omega))]
    simp only [vcell, h1, h2, h3, h4]
def up1 {α : Type} (f : Nat → α) (k : Nat) (x : α) : Nat → α := fun v => if v = k then x else f v
theorem up1_s {α : Type} {f : Nat → α} {k : Nat} {x : α} : up1 f k x k = x := if_pos rfl
theorem up1_n {α : Type} {f : Nat → α} {k v : Nat} {x : α} (h : v ≠ k) : up1 f k x v = f v := if_neg h
def adr7 (hv vn yn vu yu vo yo : Nat) : Nat → Nat
  | 0 => hv
  | 1 => vn
  | 2 => yn
  | 3 => vu
  | 4 => yu
  | 5 => vo
  | _ => yo
theorem vtl_push {va : Nat → Nat → Nat} {vN : Nat → Nat → Int32} {vA vB : Nat → Nat → Int64} {vv hv vn yn vu yu vo yo : Nat} {gN : Nat → Int32} {gA gB : Nat → Int64} :
    vtl cI cJ va vN vA vB vv ++ [(hv, .inr (6, [.ref vn, .ref vu, .ref vo])), (vn, .inr (0, [.ref yn])), (yn, .inl (cI, 48, .inl gN)), (vu, .inr (1, [.ref yu])), (yu, .inl (cJ, 48, .inr (.inl gA))), (vo, .inr (1, [.ref yo])), (yo, .inl (cJ, 48, .inr (.inl gB)))]
      = vtl cI cJ (up1 va vv (adr7 hv vn yn vu yu vo yo)) (up1 vN vv gN) (up1 vA vv gA) (up1 vB vv gB) (vv + 1) := by
  show _ = vtl cI cJ (up1 va vv (adr7 hv vn yn vu yu vo yo)) (up1 vN vv gN) (up1 vA vv gA) (up1 vB vv gB) vv ++ vcell cI cJ (up1 va vv (adr7 hv vn yn vu yu vo yo)) (up1 vN vv gN) (up1 vA vv gA) (up1 vB vv gB) vv
  rw [vtl_congr (va := up1 va vv (adr7 hv vn yn vu yu vo yo)) (va' := va) (vN' := vN) (vA' := vA) (vB' := vB) vv (fun v hv => ⟨up1_n (by omega), up1_n (by omega), up1_n (by omega), up1_n (by omega)⟩)]
  simp only [vcell, up1_s]
  rfl
end VT
theorem iV_push {vv K hv vn yn vu yu vo yo : Nat} {FC FN M N9 : Nat → Nat} {OO OV O9 : Nat → Bool} {fV : Nat → Option Nat} {va : Nat → Nat → Nat} {vN : Nat → Nat → Int32} {vA vB : Nat → Nat → Int64} {fN gN : Nat → Int32} {fU gA gB : Nat → Int64} {nm : Nat → Nat} (hK : K ≤ 48) (hvv : vv < 8)
    (hnm : ∀ z, z < K → fN z = nI (nm z) ∧ nm z < 48) (hM : ∀ z, z < K → M z = nm z) (hU : ∀ x, x < 48 → ∀ y, y < 48 → OV (48 * x + y) = lb (fU x) y)
    (h : iV vv FC FN OO fV va vN vA vB) (g1 : ∀ k, k < K → gN k = fN k) (g2 : ∀ k, K ≤ k → k < 48 → gN k = -1) (g3 : vvA (fun x y => lb (fU (nm x)) (nm y)) K K 0 gA) (g4 : vvB (fun x y => lb (fU (nm x)) (nm y)) K K 0 gB)
    (n1 : (∀ k, k < 48 * vv → N9 k = FN k) ∧ ∀ c, c < K → N9 (48 * vv + c) = M c) (n2 : ∀ k, k < 384 → N9 k < 48) (n3 : (∀ k, k < 2304 * vv → O9 k = OO k) ∧ ∀ c, c < 2304 → O9 (2304 * vv + c) = OV c) :
    iV (vv + 1) (updN FC vv K) N9 O9 (va_up fV vv (some hv)) (up1 va vv (adr7 hv vn yn vu yu vo yo)) (up1 vN vv gN) (up1 vA vv gA) (up1 vB vv gB) := by
  have hup : ∀ v, va_up fV vv (some hv) v = if v = vv then some hv else fV v := fun v => by
    first | rfl | (simp only [va_up])
  refine ⟨n2, fun k hk => ?_, fun v hv9 => ?_, fun v h1 h2 => ?_, fun v hv9 => ?_⟩
  · by_cases e : k = vv
    · subst e; rw [updN_s]; exact hK
    · rw [updN_n e]; exact h.2.1 k hk
  · rw [hup]
    by_cases e : v = vv
    · subst e; rw [if_pos rfl, up1_s]; rfl
    · rw [if_neg e, up1_n e]; exact h.2.2.1 v (by omega)
  · rw [hup, if_neg (by omega)]
    exact h.2.2.2.1 v (by omega) h2
  · by_cases e : v = vv
    · subst e
      rw [updN_s, up1_s, up1_s, up1_s]
      have hn : ∀ k, k < K → N9 (48 * v + k) = nm k := fun k hk => by rw [n1.2 k hk, hM k hk]
      have ho : ∀ x, x < K → ∀ y, y < K → O9 (2304 * v + (48 * N9 (48 * v + x) + N9 (48 * v + y))) = lb (fU (nm x)) (nm y) := by
        intro x hx y hy
        have lx := (hnm x hx).2
        have ly := (hnm y hy).2
        rw [hn x hx, hn y hy, n3.2 _ (by omega)]
        exact hU _ lx _ ly
      refine ⟨fun k hk => ?_, g2, fun x hx y => ?_, fun x hx y => ?_⟩
      · rw [g1 k hk, (hnm k hk).1]
        exact congrArg nI (hn k hk).symm
      · rw [g3 x hx y, vvI_iff, vvI_iff]
        constructor
        · rintro ⟨a, b, c⟩; exact ⟨a, b, (ho x a y b).trans c⟩
        · rintro ⟨a, b, c⟩; exact ⟨a, b, (ho x a y b).symm.trans c⟩
      · rw [g4 x hx y, vvI_iff, vvI_iff]
        constructor
        · rintro ⟨a, b, c⟩; exact ⟨a, b, (ho y a x b).trans c⟩
        · rintro ⟨a, b, c⟩; exact ⟨a, b, (ho y a x b).symm.trans c⟩
    · have hlt : v < vv := by omega
      have h9 := h.2.2.2.2 v hlt
      rw [updN_n e, up1_n e, up1_n e, up1_n e]
      have lC := h.2.1 v (by omega)
      have hn : ∀ k, k < FC v → N9 (48 * v + k) = FN (48 * v + k) := fun k hk => n1.1 _ (by omega)
      have ho : ∀ x, x < FC v → ∀ y, y < FC v → O9 (2304 * v + (48 * N9 (48 * v + x) + N9 (48 * v + y))) = OO (2304 * v + (48 * FN (48 * v + x) + FN (48 * v + y))) := by
        intro x hx y hy
        have lx := h.1 (48 * v + x) (by omega)
        have ly := h.1 (48 * v + y) (by omega)
        rw [hn x hx, hn y hy]
        exact n3.1 _ (by omega)
      refine ⟨fun k hk => ?_, h9.2.1, fun x hx y => ?_, fun x hx y => ?_⟩
      · rw [h9.1 k hk]
        exact congrArg nI (hn k hk).symm
      · rw [h9.2.2.1 x hx y, vvI_iff, vvI_iff]
        constructor
        · rintro ⟨a, b, c⟩; exact ⟨a, b, (ho x a y b).trans c⟩
        · rintro ⟨a, b, c⟩; exact ⟨a, b, (ho x a y b).symm.trans c⟩
      · rw [h9.2.2.2 x hx y, vvI_iff, vvI_iff]
        constructor
        · rintro ⟨a, b, c⟩; exact ⟨a, b, (ho y a x b).trans c⟩
        · rintro ⟨a, b, c⟩; exact ⟨a, b, (ho y a x b).symm.trans c⟩
