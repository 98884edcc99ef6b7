variable {l : Launch} {D : va_G} {cI cJ cZ cQ : ClassId}
def nf (F : Nat → Nat) : Nat → Int32 := fun k => nI (F k)
def hf (F : Nat → Nat) : Nat → Int32 := fun k => hI (F k)
def updN (F : Nat → Nat) (j v : Nat) : Nat → Nat := fun k => if k = j then v else F k
theorem updN_s {F : Nat → Nat} {j v : Nat} : updN F j v j = v := by simp [updN]
theorem updN_n {F : Nat → Nat} {j v k : Nat} (h : k ≠ j) : updN F j v k = F k := by simp [updN, h]
theorem nf_upd (F : Nat → Nat) (j v : Nat) : upd (nf F) j (nI v) = nf (updN F j v) := by
  funext k
  by_cases h : k = j
  · subst h; rw [pk_us]; simp [nf, updN]
  · rw [pk_un h]; simp [nf, updN, h]
theorem hf_upd (F : Nat → Nat) (j v : Nat) : upd (hf F) j (hI v) = hf (updN F j v) := by
  funext k
  by_cases h : k = j
  · subst h; rw [pk_us]; simp [hf, updN]
  · rw [pk_un h]; simp [hf, updN, h]
section GN
variable {p : Program} {e : Env} {R : Room} {s : State} {m : MethodId} {args : Array Value} {below : List Frame} {meth : Method} {c : Code} {cells slots nL : Nat} {Q : State → Prop} {A : Nat → Prop} {H0 : Heap} {ws : va_W} {lv : List (Nat × Value)} {pc : Nat} {rest : List Value} {own : String} {cc : ByteArray} {tys : List (ClassId × FieldType)}
theorem g_ialdN (X : Cx p s m args c own cc nL D tys A H0) {a n j : Nat} (q0 t0 : Nat) {cA : ClassId} {F : Nat → Nat} (ha : ws[q0]? = some (a, .inl (cA, n, .inl (nf F)))) (ht : tys[t0]? = some (cA, .int)) (hj : j < n) (hn : n < 2 ^ 31) (hdg : decode cc pc = .ok (.iaload, 1)) (kk : G p l e R s m args below meth c nL D A H0 Q cells slots ws lv (pc + 1) (.int (nI (F j)) :: rest)) : G p l e R s m args below meth c nL D A H0 Q cells slots ws lv pc (.int (nI j) :: .ref a :: rest) := g_iald X q0 t0 ha ht hj hn hdg kk
theorem g_ialdH (X : Cx p s m args c own cc nL D tys A H0) {a n j : Nat} (q0 t0 : Nat) {cA : ClassId} {F : Nat → Nat} (ha : ws[q0]? = some (a, .inl (cA, n, .inl (hf F)))) (ht : tys[t0]? = some (cA, .int)) (hj : j < n) (hn : n < 2 ^ 31) (hdg : decode cc pc = .ok (.iaload, 1)) (kk : G p l e R s m args below meth c nL D A H0 Q cells slots ws lv (pc + 1) (.int (hI (F j)) :: rest)) : G p l e R s m args below meth c nL D A H0 Q cells slots ws lv pc (.int (nI j) :: .ref a :: rest) := g_iald X q0 t0 ha ht hj hn hdg kk
theorem g_iastN (X : Cx p s m args c own cc nL D tys A H0) {a n j v : Nat} (q0 t0 : Nat) {cA : ClassId} {F : Nat → Nat} (ws' : va_W) (ha : ws[q0]? = some (a, .inl (cA, n, .inl (nf F)))) (ht : tys[t0]? = some (cA, .int)) (hj : j < n) (hn : n < 2 ^ 31) (hw : ws.set q0 (a, .inl (cA, n, .inl (nf (updN F j v)))) = ws') (hdg : decode cc pc = .ok (.iastore, 1)) (kk : G p l e R s m args below meth c nL D A H0 Q cells slots ws' lv (pc + 1) rest) : G p l e R s m args below meth c nL D A H0 Q cells slots ws lv pc (.int (nI v) :: .int (nI j) :: .ref a :: rest) := g_iast X q0 t0 ws' ha ht hj hn (by rw [nf_upd]; exact hw) hdg kk
theorem g_iastH (X : Cx p s m args c own cc nL D tys A H0) {a n j v : Nat} (q0 t0 : Nat) {cA : ClassId} {F : Nat → Nat} (ws' : va_W) (ha : ws[q0]? = some (a, .inl (cA, n, .inl (hf F)))) (ht : tys[t0]? = some (cA, .int)) (hj : j < n) (hn : n < 2 ^ 31) (hw : ws.set q0 (a, .inl (cA, n, .inl (hf (updN F j v)))) = ws') (hdg : decode cc pc = .ok (.iastore, 1)) (kk : G p l e R s m args below meth c nL D A H0 Q cells slots ws' lv (pc + 1) rest) : G p l e R s m args below meth c nL D A H0 Q cells slots ws lv pc (.int (hI v) :: .int (nI j) :: .ref a :: rest) := g_iast X q0 t0 ws' ha ht hj hn (by rw [hf_upd]; exact hw) hdg kk
end GN
/-! joining by smaller numbers until nothing changes -/
def eqm (UN : Nat → Bool) (Fk : Nat → Nat) (r : Nat) : Bool := !UN r && decide (Fk r = 3)
def abm (UN : Nat → Bool) (Fk : Nat → Nat) (r : Nat) : Bool := !UN r && decide (Fk r < 3)
def mjI (a b : Nat → Nat) (eq : Nat → Bool) (R K : Nat) (M : Nat → Nat) : Prop := ∀ z, z < K → M z ≤ z ∧ ∀ f, jfix a b eq R f → f (M z) = f z
theorem mj_0 {a b : Nat → Nat} {eq : Nat → Bool} {R K : Nat} {M : Nat → Nat} (h : ∀ k, k < K → M k = k) : mjI a b eq R K M := by
  intro z hz
  rw [h z hz]
  exact ⟨Nat.le_refl z, fun _ _ => rfl⟩
theorem updN_iota {M : Nat → Nat} {i : Nat} (h : ∀ k, k < i → M k = k) : ∀ k, k < i + 1 → updN M i i k = k := by
  intro k hk
  by_cases e : k = i
  · subst e; exact updN_s
  · rw [updN_n e]; exact h k (by omega)
theorem lsum_upd {M : Nat → Nat} {j v : Nat} : ∀ K, j < K → lsum (updN M j v) K + M j = lsum M K + v
  | 0, h => absurd h (Nat.not_lt_zero _)
  | K + 1, h => by
    simp only [lsum]
    by_cases e : j = K
    · subst e
      rw [updN_s]
      have key : ∀ n, n ≤ j → lsum (updN M j v) n = lsum M n := by
        intro n
        induction n with
        | zero => intro _; rfl
        | succ n ih =>
          intro hn
          simp only [lsum]
          rw [ih (by omega), updN_n (by omega)]
      rw [key j (Nat.le_refl j)]
      omega
    · rw [updN_n (Ne.symm e)]
      have := lsum_upd (M := M) (j := j) (v := v) K (by omega)
      omega
/-- one joining: both ends take the smaller number -/
theorem mj_put {a b : Nat → Nat} {eq : Nat → Bool} {R K q v : Nat} {M : Nat → Nat} (h : mjI a b eq R K M) (hq : q < R) (he : eq q = true) (ha : a q < K) (hb : b q < K) (hv : v = M (a q) ∨ v = M (b q)) (l1 : v ≤ M (a q)) (l2 : v ≤ M (b q)) : mjI a b eq R K (updN (updN M (a q) v) (b q) v) := by
  have fv : ∀ f, jfix a b eq R f → f v = f (a q) ∧ f v = f (b q) := by
    intro f hf
    have e1 := (h _ ha).2 f hf
    have e2 := (h _ hb).2 f hf
    have e3 := hf q hq he
    rcases hv with e | e <;> rw [e]
    · exact ⟨e1, e1.trans e3⟩
    · exact ⟨e2.trans e3.symm, e2⟩
  intro z hz
  by_cases e : z = b q
  · subst e
    rw [updN_s]
    exact ⟨Nat.le_trans l2 (h _ hb).1, fun f hf => (fv f hf).2⟩
  · rw [updN_n e]
    by_cases e2 : z = a q
    · subst e2
      rw [updN_s]
      exact ⟨Nat.le_trans l1 (h _ ha).1, fun f hf => (fv f hf).1⟩
    · rw [updN_n e2]
      exact h z hz
theorem mj_less {M : Nat → Nat} {K i j v : Nat} (hi : i < K) (hj : j < K) (hne : ¬ M i = M j) (hv : v = min (M i) (M j)) : lsum (updN (updN M i v) j v) K < lsum M K := by
  have hij : i ≠ j := fun q => hne (by rw [q])
  have h1 := lsum_upd (M := M) (j := i) (v := v) K hi
  have h2 := lsum_upd (M := updN M i v) (j := j) (v := v) K hj
  rw [updN_n (Ne.symm hij)] at h2
  omega
theorem mj_end {a b : Nat → Nat} {eq : Nat → Bool} {R K : Nat} {M : Nat → Nat} (hr : ∀ r, r < R → a r < K ∧ b r < K) (h : mjI a b eq R K M) (hf : ∀ r, r < R → eq r = true → M (a r) = M (b r)) : ∀ z, z < K → M z = jnum a b eq R z := by
  have hok : jok a b eq R (fun z => if z < K then M z else z) := by
    refine ⟨fun r hr1 he => ?_, fun z => ?_⟩
    · show (if a r < K then M (a r) else a r) = (if b r < K then M (b r) else b r)
      rw [if_pos (hr r hr1).1, if_pos (hr r hr1).2]
      exact hf r hr1 he
    · show (if z < K then M z else z) ≤ z ∧ ∀ f, jfix a b eq R f → f (if z < K then M z else z) = f z
      by_cases q : z < K
      · rw [if_pos q]; exact h z q
      · rw [if_neg q]; exact ⟨Nat.le_refl z, fun _ _ => rfl⟩
  intro z hz
  have := jok_uniq hok (jnum_ok R) z
  rw [← this]
  exact (if_pos hz).symm
theorem eqm_f1 {UN : Nat → Bool} {Fk : Nat → Nat} {r : Nat} (h : UN r = true) : eqm UN Fk r = false := by simp [eqm, h]
theorem eqm_f2 {UN : Nat → Bool} {Fk : Nat → Nat} {r : Nat} (h : ¬ Fk r = 3) : eqm UN Fk r = false := by simp [eqm, h]
theorem eqm_t {UN : Nat → Bool} {Fk : Nat → Nat} {r : Nat} (h : UN r = false) (h2 : Fk r = 3) : eqm UN Fk r = true := by simp [eqm, h, h2]
theorem abm_f1 {UN : Nat → Bool} {Fk : Nat → Nat} {r : Nat} (h : UN r = true) : abm UN Fk r = false := by simp [abm, h]
theorem abm_f2 {UN : Nat → Bool} {Fk : Nat → Nat} {r : Nat} (h : 3 ≤ Fk r) : abm UN Fk r = false := by simp [abm]; intro _; omega
theorem abm_t {UN : Nat → Bool} {Fk : Nat → Nat} {r : Nat} (h : UN r = false) (h2 : Fk r < 3) : abm UN Fk r = true := by simp [abm, h, h2]
/-- what the round has found so far: nothing changed and all before q agree, or something became smaller -/
def mjR (a b : Nat → Nat) (eq : Nat → Bool) (K q : Nat) (M0 M : Nat → Nat) (mo : Bool) : Prop := (mo = false → M = M0 ∧ ∀ r, r < q → eq r = true → M (a r) = M (b r)) ∧ (mo = true → lsum M K < lsum M0 K)
theorem mjR_0 {a b : Nat → Nat} {eq : Nat → Bool} {K : Nat} {M : Nat → Nat} : mjR a b eq K 0 M M false := ⟨fun _ => ⟨rfl, fun r h => absurd h (Nat.not_lt_zero _)⟩, fun h => by cases h⟩
theorem mjR_skip {a b : Nat → Nat} {eq : Nat → Bool} {K q : Nat} {M0 M : Nat → Nat} {mo : Bool} (h : mjR a b eq K q M0 M mo) (hx : eq q = true → M (a q) = M (b q)) : mjR a b eq K (q + 1) M0 M mo := by
  refine ⟨fun e => ⟨(h.1 e).1, fun r hr he => ?_⟩, h.2⟩
  rcases Nat.lt_or_ge r q with z | z
  · exact (h.1 e).2 r z he
  · have e2 : r = q := by omega
    subst e2
    exact hx he
theorem mjR_put {a b : Nat → Nat} {eq : Nat → Bool} {K q : Nat} {M0 M M' : Nat → Nat} {mo : Bool} (h : mjR a b eq K q M0 M mo) (hl : lsum M' K < lsum M K) : mjR a b eq K (q + 1) M0 M' true := by
  refine ⟨fun e => (by cases e), fun _ => ?_⟩
  cases mo with
  | true => exact Nat.lt_trans hl (h.2 rfl)
  | false =>
    have := (h.1 rfl).1
    rw [this] at hl
    exact hl
theorem vF {eq : Bool} {P : Prop} (h : eq = false) : eq = true → P := fun q => by rw [h] at q; cases q
theorem mj_meas {b9 c9 : Bool} {x y N : Nat} (hb : b9 = true) (hN : (if b9 = true then x + 1 else 0) < N + 1) (h : c9 = true → y < x) : (if c9 = true then y + 1 else 0) < N := by
  rw [if_pos hb] at hN
  cases c9 with
  | false => simp; omega
  | true =>
    have := h rfl
    simp
    omega

set_option maxHeartbeats 4000000 in
set_option maxRecDepth 100000 in
theorem k_Md_thrown (mo : Nat) (tw : Int32) (K : Nat) (R : Nat) (qa : Nat) (qb : Nat) (qk : Nat) (qu : Nat) (qn : Nat) (qx : Nat) (qo : Nat) (qf : Nat) (d : Nat) (qr : Nat) (gm : Nat) (qg : Nat) (qv : Nat) (d2 : Nat) (qs : Nat) (vv : Nat) (qc : Nat) (qm : Nat) (qw : Nat)  : CtI l y_Md_thrown (Cond.code y_Md_thrown c_Md_thrown 1 (some .int) :: TB) ({ frames := 0, cells := 0, slots := 0, locals := 0 } : Room) D (tysv cI cJ cZ cQ) [.ref mo] [(mo, .inr (8, [.int tw, .int (nI K), .int (nI R), .ref qa, .ref qb, .ref qk, .ref qu, .ref qn, .ref qx, .ref qo, .ref qf, .int (nI d), .ref qr, .int (nI gm), .ref qg, .ref qv, .int (nI d2), .ref qs, .int (nI vv), .ref qc, .ref qm, .ref qw]))] 0 0 (fun (r : Int32) (_ : Unit) => r = tw) (fun (_ : Unit) => [(mo, .inr (8, [.int tw, .int (nI K), .int (nI R), .ref qa, .ref qb, .ref qk, .ref qu, .ref qn, .ref qx, .ref qo, .ref qf, .int (nI d), .ref qr, .int (nI gm), .ref qg, .ref qv, .int (nI d2), .ref qs, .int (nI vv), .ref qc, .ref qm, .ref qw]))]) := by
  refine CtI.of c_Md_thrown 1 (some .int) (by decide) rfl (Nat.le_of_ble_eq_true rfl) ?_
  intro p e s m args below meth c A Q hA9 hQ9 X hr9 hlk9 hin9
  refine g_aload_n X 0 d_Md_thrown_0 rfl rfl ?_
  refine g_get (C := R_Md) (T := T_Md) (N := 22) X 0 0 in_Md rfl rfl (by decide) t3_147 rfl rfl d_Md_thrown_1 ?_
  exact g_iret X hA9 hQ9 hr9 hlk9 () [0] rfl rfl d_Md_thrown_4 (rfl)

set_option maxHeartbeats 4000000 in
set_option maxRecDepth 100000 in
theorem k_Md_goes (mo : Nat) (tw : Int32) (K : Nat) (R : Nat) (qa : Nat) (qb : Nat) (qk : Nat) (qu : Nat) (qn : Nat) (qx : Nat) (qo : Nat) (qf : Nat) (d : Nat) (qr : Nat) (gm : Nat) (qg : Nat) (qv : Nat) (d2 : Nat) (qs : Nat) (vv : Nat) (qc : Nat) (qm : Nat) (qw : Nat)  : CtI l y_Md_goes (Cond.code y_Md_goes c_Md_goes 3 (some .boolean) :: TB) ({ frames := 0, cells := 0, slots := 0, locals := 0 } : Room) D (tysv cI cJ cZ cQ) [.ref mo, .int (bI true), .int (bI true)] [(mo, .inr (8, [.int tw, .int (nI K), .int (nI R), .ref qa, .ref qb, .ref qk, .ref qu, .ref qn, .ref qx, .ref qo, .ref qf, .int (nI d), .ref qr, .int (nI gm), .ref qg, .ref qv, .int (nI d2), .ref qs, .int (nI vv), .ref qc, .ref qm, .ref qw]))] 0 0 (fun (r : Int32) (_ : Unit) => r = bI true) (fun (_ : Unit) => [(mo, .inr (8, [.int (nI 0), .int (nI K), .int (nI R), .ref qa, .ref qb, .ref qk, .ref qu, .ref qn, .ref qx, .ref qo, .ref qf, .int (nI d), .ref qr, .int (nI gm), .ref qg, .ref qv, .int (nI d2), .ref qs, .int (nI vv), .ref qc, .ref qm, .ref qw]))]) := by
  refine CtI.of c_Md_goes 3 (some .boolean) (by decide) rfl (Nat.le_of_ble_eq_true rfl) ?_
  intro p e s m args below meth c A Q hA9 hQ9 X hr9 hlk9 hin9
  refine g_aload_n X 0 d_Md_goes_0 rfl rfl ?_
  refine g_iload_n X 1 d_Md_goes_1 rfl rfl ?_
  refine b_if_ne X 9 d_Md_goes_2 (by decide) (fun h2 => ?_) (fun h2 => absurd h2 (by decide))
  refine g_iload_n X 2 d_Md_goes_9 rfl rfl ?_
  refine b_if_ne X 17 d_Md_goes_10 (by decide) (fun h10 => ?_) (fun h10 => absurd h10 (by decide))
  refine g_iconst (v := nI 0) X d_Md_goes_17 rfl ?_
  refine g_put (C := R_Md) (T := T_Md) (N := 22) (ty := .int) X 0 0 [(mo, .inr (8, [.int (nI 0), .int (nI K), .int (nI R), .ref qa, .ref qb, .ref qk, .ref qu, .ref qn, .ref qx, .ref qo, .ref qf, .int (nI d), .ref qr, .int (nI gm), .ref qg, .ref qv, .int (nI d2), .ref qs, .int (nI vv), .ref qc, .ref qm, .ref qw]))] t_Md ty_Md nm_Md in_Md rfl rfl (by decide) t3_147 rfl rfl (by decide +kernel) rfl rfl (Nat.le_of_ble_eq_true rfl) rfl d_Md_goes_18 ?_
  refine g_aload_n X 0 d_Md_goes_21 rfl rfl ?_
  refine g_get (C := R_Md) (T := T_Md) (N := 22) X 0 0 in_Md rfl rfl (by decide) t3_147 rfl rfl d_Md_goes_22 ?_
  refine n_if_ne X 32 d_Md_goes_25 (by decide) (by omega) (fun h25 => absurd h25 (by decide)) (fun h25 => ?_)
  refine g_iconst (v := nI 1) X d_Md_goes_28 rfl ?_
  refine g_goto X 33 d_Md_goes_29 (by decide) ?_
  exact g_zret X hA9 hQ9 hr9 (by first | exact Or.inl rfl | exact Or.inr rfl) hlk9 () [0] rfl rfl d_Md_goes_33 (rfl)

set_option maxHeartbeats 4000000 in
set_option maxRecDepth 100000 in
theorem k_Md_goes1 (mo : Nat) (tw : Int32) (K : Nat) (R : Nat) (qa : Nat) (qb : Nat) (qk : Nat) (qu : Nat) (qn : Nat) (qx : Nat) (qo : Nat) (qf : Nat) (d : Nat) (qr : Nat) (gm : Nat) (qg : Nat) (qv : Nat) (d2 : Nat) (qs : Nat) (vv : Nat) (qc : Nat) (qm : Nat) (qw : Nat) (b9 : Bool)  : CtI l y_Md_goes (Cond.code y_Md_goes c_Md_goes 3 (some .boolean) :: TB) ({ frames := 0, cells := 0, slots := 0, locals := 0 } : Room) D (tysv cI cJ cZ cQ) [.ref mo, .int (bI false), .int (bI b9)] [(mo, .inr (8, [.int tw, .int (nI K), .int (nI R), .ref qa, .ref qb, .ref qk, .ref qu, .ref qn, .ref qx, .ref qo, .ref qf, .int (nI d), .ref qr, .int (nI gm), .ref qg, .ref qv, .int (nI d2), .ref qs, .int (nI vv), .ref qc, .ref qm, .ref qw]))] 0 0 (fun (r : Int32) (_ : Unit) => r = bI false) (fun (_ : Unit) => [(mo, .inr (8, [.int (nI 1), .int (nI K), .int (nI R), .ref qa, .ref qb, .ref qk, .ref qu, .ref qn, .ref qx, .ref qo, .ref qf, .int (nI d), .ref qr, .int (nI gm), .ref qg, .ref qv, .int (nI d2), .ref qs, .int (nI vv), .ref qc, .ref qm, .ref qw]))]) := by
  refine CtI.of c_Md_goes 3 (some .boolean) (by decide) rfl (Nat.le_of_ble_eq_true rfl) ?_
  intro p e s m args below meth c A Q hA9 hQ9 X hr9 hlk9 hin9
  refine g_aload_n X 0 d_Md_goes_0 rfl rfl ?_
  refine g_iload_n X 1 d_Md_goes_1 rfl rfl ?_
  refine b_if_ne X 9 d_Md_goes_2 (by decide) (fun h2 => absurd h2 (by decide)) (fun h2 => ?_)
  refine g_iconst (v := nI 1) X d_Md_goes_5 rfl ?_
  refine g_goto X 18 d_Md_goes_6 (by decide) ?_
  refine g_put (C := R_Md) (T := T_Md) (N := 22) (ty := .int) X 0 0 [(mo, .inr (8, [.int (nI 1), .int (nI K), .int (nI R), .ref qa, .ref qb, .ref qk, .ref qu, .ref qn, .ref qx, .ref qo, .ref qf, .int (nI d), .ref qr, .int (nI gm), .ref qg, .ref qv, .int (nI d2), .ref qs, .int (nI vv), .ref qc, .ref qm, .ref qw]))] t_Md ty_Md nm_Md in_Md rfl rfl (by decide) t3_147 rfl rfl (by decide +kernel) rfl rfl (Nat.le_of_ble_eq_true rfl) rfl d_Md_goes_18 ?_
  refine g_aload_n X 0 d_Md_goes_21 rfl rfl ?_
  refine g_get (C := R_Md) (T := T_Md) (N := 22) X 0 0 in_Md rfl rfl (by decide) t3_147 rfl rfl d_Md_goes_22 ?_
  refine n_if_ne X 32 d_Md_goes_25 (by decide) (by omega) (fun h25 => ?_) (fun h25 => absurd h25 (by decide))
  refine g_iconst (v := nI 0) X d_Md_goes_32 rfl ?_
  exact g_zret X hA9 hQ9 hr9 (by first | exact Or.inl rfl | exact Or.inr rfl) hlk9 () [0] rfl rfl d_Md_goes_33 (rfl)

set_option maxHeartbeats 4000000 in
set_option maxRecDepth 100000 in
theorem k_Md_goes2 (mo : Nat) (tw : Int32) (K : Nat) (R : Nat) (qa : Nat) (qb : Nat) (qk : Nat) (qu : Nat) (qn : Nat) (qx : Nat) (qo : Nat) (qf : Nat) (d : Nat) (qr : Nat) (gm : Nat) (qg : Nat) (qv : Nat) (d2 : Nat) (qs : Nat) (vv : Nat) (qc : Nat) (qm : Nat) (qw : Nat)  : CtI l y_Md_goes (Cond.code y_Md_goes c_Md_goes 3 (some .boolean) :: TB) ({ frames := 0, cells := 0, slots := 0, locals := 0 } : Room) D (tysv cI cJ cZ cQ) [.ref mo, .int (bI true), .int (bI false)] [(mo, .inr (8, [.int tw, .int (nI K), .int (nI R), .ref qa, .ref qb, .ref qk, .ref qu, .ref qn, .ref qx, .ref qo, .ref qf, .int (nI d), .ref qr, .int (nI gm), .ref qg, .ref qv, .int (nI d2), .ref qs, .int (nI vv), .ref qc, .ref qm, .ref qw]))] 0 0 (fun (r : Int32) (_ : Unit) => r = bI false) (fun (_ : Unit) => [(mo, .inr (8, [.int (nI 2), .int (nI K), .int (nI R), .ref qa, .ref qb, .ref qk, .ref qu, .ref qn, .ref qx, .ref qo, .ref qf, .int (nI d), .ref qr, .int (nI gm), .ref qg, .ref qv, .int (nI d2), .ref qs, .int (nI vv), .ref qc, .ref qm, .ref qw]))]) := by
  refine CtI.of c_Md_goes 3 (some .boolean) (by decide) rfl (Nat.le_of_ble_eq_true rfl) ?_
  intro p e s m args below meth c A Q hA9 hQ9 X hr9 hlk9 hin9
  refine g_aload_n X 0 d_Md_goes_0 rfl rfl ?_
  refine g_iload_n X 1 d_Md_goes_1 rfl rfl ?_
  refine b_if_ne X 9 d_Md_goes_2 (by decide) (fun h2 => ?_) (fun h2 => absurd h2 (by decide))
  refine g_iload_n X 2 d_Md_goes_9 rfl rfl ?_
  refine b_if_ne X 17 d_Md_goes_10 (by decide) (fun h10 => absurd h10 (by decide)) (fun h10 => ?_)
  refine g_iconst (v := nI 2) X d_Md_goes_13 rfl ?_
  refine g_goto X 18 d_Md_goes_14 (by decide) ?_
  refine g_put (C := R_Md) (T := T_Md) (N := 22) (ty := .int) X 0 0 [(mo, .inr (8, [.int (nI 2), .int (nI K), .int (nI R), .ref qa, .ref qb, .ref qk, .ref qu, .ref qn, .ref qx, .ref qo, .ref qf, .int (nI d), .ref qr, .int (nI gm), .ref qg, .ref qv, .int (nI d2), .ref qs, .int (nI vv), .ref qc, .ref qm, .ref qw]))] t_Md ty_Md nm_Md in_Md rfl rfl (by decide) t3_147 rfl rfl (by decide +kernel) rfl rfl (Nat.le_of_ble_eq_true rfl) rfl d_Md_goes_18 ?_
  refine g_aload_n X 0 d_Md_goes_21 rfl rfl ?_
  refine g_get (C := R_Md) (T := T_Md) (N := 22) X 0 0 in_Md rfl rfl (by decide) t3_147 rfl rfl d_Md_goes_22 ?_
  refine n_if_ne X 32 d_Md_goes_25 (by decide) (by omega) (fun h25 => ?_) (fun h25 => absurd h25 (by decide))
  refine g_iconst (v := nI 0) X d_Md_goes_32 rfl ?_
  exact g_zret X hA9 hQ9 hr9 (by first | exact Or.inl rfl | exact Or.inr rfl) hlk9 () [0] rfl rfl d_Md_goes_33 (rfl)

set_option maxHeartbeats 4000000 in
set_option maxRecDepth 100000 in
theorem k_Md_isContext (mo : Nat) (tw : Int32) (K : Nat) (R : Nat) (qa : Nat) (qb : Nat) (qk : Nat) (qu : Nat) (qn : Nat) (qx : Nat) (qo : Nat) (qf : Nat) (d : Nat) (qr : Nat) (gm : Nat) (qg : Nat) (qv : Nat) (d2 : Nat) (qs : Nat) (vv : Nat) (qc : Nat) (qm : Nat) (qw : Nat) (j : Nat) (hj : j < K) (hK : K ≤ 48) : CtI l y_Md_isContext (Cond.code y_Md_isContext c_Md_isContext 2 (some .boolean) :: TB) ({ frames := 0, cells := 0, slots := 0, locals := 0 } : Room) D (tysv cI cJ cZ cQ) [.ref mo, .int (nI j)] [(mo, .inr (8, [.int tw, .int (nI K), .int (nI R), .ref qa, .ref qb, .ref qk, .ref qu, .ref qn, .ref qx, .ref qo, .ref qf, .int (nI d), .ref qr, .int (nI gm), .ref qg, .ref qv, .int (nI d2), .ref qs, .int (nI vv), .ref qc, .ref qm, .ref qw]))] 0 0 (fun (r : Int32) (_ : Unit) => r = bI true) (fun (_ : Unit) => [(mo, .inr (8, [.int tw, .int (nI K), .int (nI R), .ref qa, .ref qb, .ref qk, .ref qu, .ref qn, .ref qx, .ref qo, .ref qf, .int (nI d), .ref qr, .int (nI gm), .ref qg, .ref qv, .int (nI d2), .ref qs, .int (nI vv), .ref qc, .ref qm, .ref qw]))]) := by
  refine CtI.of c_Md_isContext 2 (some .boolean) (by decide) rfl (Nat.le_of_ble_eq_true rfl) ?_
  intro p e s m args below meth c A Q hA9 hQ9 X hr9 hlk9 hin9
  refine g_iload_n X 1 d_Md_isContext_0 rfl rfl ?_
  refine n_if_lt X 16 d_Md_isContext_1 (by decide) (by omega) (fun h1 => absurd h1 (by omega)) (fun h1 => ?_)
  refine g_iload_n X 1 d_Md_isContext_4 rfl rfl ?_
  refine g_aload_n X 0 d_Md_isContext_5 rfl rfl ?_
  refine g_get (C := R_Md) (T := T_Md) (N := 22) X 0 1 in_Md rfl rfl (by decide) t3_148 rfl rfl d_Md_isContext_6 ?_
  refine n_icmp_ge X 16 d_Md_isContext_9 (by decide) (by omega) (by omega) (fun h9 => absurd h9 (by omega)) (fun h9 => ?_)
  refine g_iconst (v := nI 1) X d_Md_isContext_12 rfl ?_
  refine g_goto X 17 d_Md_isContext_13 (by decide) ?_
  exact g_zret X hA9 hQ9 hr9 (by first | exact Or.inl rfl | exact Or.inr rfl) hlk9 () [0] rfl rfl d_Md_isContext_17 (rfl)

set_option maxHeartbeats 4000000 in
set_option maxRecDepth 100000 in
theorem k_Md_isContextN (mo : Nat) (tw : Int32) (K : Nat) (R : Nat) (qa : Nat) (qb : Nat) (qk : Nat) (qu : Nat) (qn : Nat) (qx : Nat) (qo : Nat) (qf : Nat) (d : Nat) (qr : Nat) (gm : Nat) (qg : Nat) (qv : Nat) (d2 : Nat) (qs : Nat) (vv : Nat) (qc : Nat) (qm : Nat) (qw : Nat) (x : Int32) (hK : K ≤ 48) (hx : x < 0 ∨ nI K ≤ x) : CtI l y_Md_isContext (Cond.code y_Md_isContext c_Md_isContext 2 (some .boolean) :: TB) ({ frames := 0, cells := 0, slots := 0, locals := 0 } : Room) D (tysv cI cJ cZ cQ) [.ref mo, .int x] [(mo, .inr (8, [.int tw, .int (nI K), .int (nI R), .ref qa, .ref qb, .ref qk, .ref qu, .ref qn, .ref qx, .ref qo, .ref qf, .int (nI d), .ref qr, .int (nI gm), .ref qg, .ref qv, .int (nI d2), .ref qs, .int (nI vv), .ref qc, .ref qm, .ref qw]))] 0 0 (fun (r : Int32) (_ : Unit) => r = bI false) (fun (_ : Unit) => [(mo, .inr (8, [.int tw, .int (nI K), .int (nI R), .ref qa, .ref qb, .ref qk, .ref qu, .ref qn, .ref qx, .ref qo, .ref qf, .int (nI d), .ref qr, .int (nI gm), .ref qg, .ref qv, .int (nI d2), .ref qs, .int (nI vv), .ref qc, .ref qm, .ref qw]))]) := by
  refine CtI.of c_Md_isContext 2 (some .boolean) (by decide) rfl (Nat.le_of_ble_eq_true rfl) ?_
  intro p e s m args below meth c A Q hA9 hQ9 X hr9 hlk9 hin9
  refine g_iload_n X 1 d_Md_isContext_0 rfl rfl ?_
  refine g_if_lt X 16 d_Md_isContext_1 (by decide) (fun h1 => ?_) (fun h1 => ?_)
  · refine g_iconst (v := nI 0) X d_Md_isContext_16 rfl ?_
    exact g_zret X hA9 hQ9 hr9 (by first | exact Or.inl rfl | exact Or.inr rfl) hlk9 () [0] rfl rfl d_Md_isContext_17 (rfl)
  · refine g_iload_n X 1 d_Md_isContext_4 rfl rfl ?_
    refine g_aload_n X 0 d_Md_isContext_5 rfl rfl ?_
    refine g_get (C := R_Md) (T := T_Md) (N := 22) X 0 1 in_Md rfl rfl (by decide) t3_148 rfl rfl d_Md_isContext_6 ?_
    refine g_icmp_ge X 16 d_Md_isContext_9 (by decide) (fun h9 => ?_) (fun h9 => absurd h9 (not_not_intro (hx.resolve_left h1)))
    refine g_iconst (v := nI 0) X d_Md_isContext_16 rfl ?_
    exact g_zret X hA9 hQ9 hr9 (by first | exact Or.inl rfl | exact Or.inr rfl) hlk9 () [0] rfl rfl d_Md_isContext_17 (rfl)

set_option maxHeartbeats 4000000 in
set_option maxRecDepth 100000 in
theorem k_Md_join (mo : Nat) (tw : Int32) (K : Nat) (R : Nat) (qa : Nat) (qb : Nat) (qk : Nat) (qu : Nat) (qn : Nat) (qx : Nat) (qo : Nat) (qf : Nat) (d : Nat) (qr : Nat) (gm : Nat) (qg : Nat) (qv : Nat) (d2 : Nat) (qs : Nat) (vv : Nat) (qc : Nat) (qm : Nat) (qw : Nat) (Fa : Nat → Nat) (Fb : Nat → Nat) (Fk : Nat → Nat) (UN : Nat → Bool) (M : Nat → Nat) (hK : K ≤ 48) (hR : R ≤ 200) (hr : ∀ r, r < R → Fa r < K ∧ Fb r < K) (hk4 : ∀ r, r < R → Fk r ≤ 4) : CtV l y_Md_join (Cond.code y_Md_join c_Md_join 6 none :: TB) ({ frames := 0, cells := 0, slots := 0, locals := 0 } : Room) D (tysv cI cJ cZ cQ) [.ref mo] [(mo, .inr (8, [.int tw, .int (nI K), .int (nI R), .ref qa, .ref qb, .ref qk, .ref qu, .ref qn, .ref qx, .ref qo, .ref qf, .int (nI d), .ref qr, .int (nI gm), .ref qg, .ref qv, .int (nI d2), .ref qs, .int (nI vv), .ref qc, .ref qm, .ref qw])), (qa, .inl (cI, 200, .inl (nf Fa))), (qb, .inl (cI, 200, .inl (nf Fb))), (qk, .inl (cI, 200, .inl (nf Fk))), (qu, .inl (cZ, 200, .inl (zf UN))), (qn, .inl (cI, 48, .inl (nf M)))] 0 0 (fun (M9 : Nat → Nat) => ∀ z, z < K → M9 z = jnum Fa Fb (eqm UN Fk) R z) (fun (M9 : Nat → Nat) => [(mo, .inr (8, [.int tw, .int (nI K), .int (nI R), .ref qa, .ref qb, .ref qk, .ref qu, .ref qn, .ref qx, .ref qo, .ref qf, .int (nI d), .ref qr, .int (nI gm), .ref qg, .ref qv, .int (nI d2), .ref qs, .int (nI vv), .ref qc, .ref qm, .ref qw])), (qa, .inl (cI, 200, .inl (nf Fa))), (qb, .inl (cI, 200, .inl (nf Fb))), (qk, .inl (cI, 200, .inl (nf Fk))), (qu, .inl (cZ, 200, .inl (zf UN))), (qn, .inl (cI, 48, .inl (nf M9)))]) := by
  refine CtV.of c_Md_join 6 none (by decide) rfl (Nat.le_of_ble_eq_true rfl) ?_
  intro p e s m args below meth c A Q hA9 hQ9 X hr9 hlk9 hin9
  have L25 : ∀ (N25 : Nat) (b9 : Bool) (M9 : Nat → Nat), (if b9 = true then lsum M9 K + 1 else 0) < N25 → (mjI Fa Fb (eqm UN Fk) R K M9) → (b9 = false → ∀ r, r < R → (eqm UN Fk) r = true → M9 (Fa r) = M9 (Fb r)) → G p l e ({ frames := 0, cells := 0, slots := 0, locals := 0 } : Room) s m args below meth c 6 D A s.heap Q 0 0 [(mo, .inr (8, [.int tw, .int (nI K), .int (nI R), .ref qa, .ref qb, .ref qk, .ref qu, .ref qn, .ref qx, .ref qo, .ref qf, .int (nI d), .ref qr, .int (nI gm), .ref qg, .ref qv, .int (nI d2), .ref qs, .int (nI vv), .ref qc, .ref qm, .ref qw])), (qa, .inl (cI, 200, .inl (nf Fa))), (qb, .inl (cI, 200, .inl (nf Fb))), (qk, .inl (cI, 200, .inl (nf Fk))), (qu, .inl (cZ, 200, .inl (zf UN))), (qn, .inl (cI, 48, .inl (nf M9)))] [(0, .ref mo), (1, .int (bI b9))] 25 [] := by
    intro N25
    induction N25 with
    | zero =>
      intro b9 M9 hN
      exact absurd hN (Nat.not_lt_zero _)
    | succ N25 ih25 =>
      intro b9 M9 hN25 h1 h2
      refine g_iload_n X 1 d_Md_join_25 rfl rfl ?_
      refine b_if_eq X 142 d_Md_join_26 (by decide) (fun h26 => ?_) (fun h26 => ?_)
      · exact g_vret X hA9 hQ9 hr9 hlk9 M9 [0, 1, 2, 3, 4, 5] rfl rfl d_Md_join_142 (mj_end hr h1 (h2 h26))
      · refine g_iconst (v := nI 0) X d_Md_join_29 rfl ?_
        refine g_topE (show nI 0 = bI false from rfl) ?_
        refine g_istore_n X [(1, .int (bI false)), (0, .ref mo)] d_Md_join_30 rfl (by decide) rfl ?_
        have L33 : ∀ (N33 : Nat) (q : Nat) (c9 : Bool) (M8 : Nat → Nat), (R - q) < N33 → (q ≤ R) → (mjI Fa Fb (eqm UN Fk) R K M8) → (mjR Fa Fb (eqm UN Fk) K q M9 M8 c9) → G p l e ({ frames := 0, cells := 0, slots := 0, locals := 0 } : Room) s m args below meth c 6 D A s.heap Q 0 0 [(mo, .inr (8, [.int tw, .int (nI K), .int (nI R), .ref qa, .ref qb, .ref qk, .ref qu, .ref qn, .ref qx, .ref qo, .ref qf, .int (nI d), .ref qr, .int (nI gm), .ref qg, .ref qv, .int (nI d2), .ref qs, .int (nI vv), .ref qc, .ref qm, .ref qw])), (qa, .inl (cI, 200, .inl (nf Fa))), (qb, .inl (cI, 200, .inl (nf Fb))), (qk, .inl (cI, 200, .inl (nf Fk))), (qu, .inl (cZ, 200, .inl (zf UN))), (qn, .inl (cI, 48, .inl (nf M8)))] [(0, .ref mo), (1, .int (bI c9)), (2, .int (nI q))] 33 [] := by
          intro N33
          induction N33 with
          | zero =>
            intro q c9 M8 hN
            exact absurd hN (Nat.not_lt_zero _)
          | succ N33 ih33 =>
            intro q c9 M8 hN33 hq h3 h4
            refine g_iload_n X 2 d_Md_join_33 rfl rfl ?_
            refine g_aload_n X 0 d_Md_join_34 rfl rfl ?_
            refine g_get (C := R_Md) (T := T_Md) (N := 22) X 0 2 in_Md rfl rfl (by decide) t3_149 rfl rfl d_Md_join_35 ?_
            refine n_icmp_ge X 139 d_Md_join_38 (by decide) (by omega) (by omega) (fun h38 => ?_) (fun h38 => ?_)
            · refine g_goto X 25 d_Md_join_139 (by decide) ?_
              refine g_lv [0, 1] rfl ?_
              exact ih25 c9 M8 (mj_meas h26 hN25 h4.2) (h3) (fun q9 r hr1 he => (h4.1 q9).2 r (by omega) he)
            · have lk := hk4 q (by omega)
              have lq := hr q (by omega)
              have la := lq.1
              have lb9 := lq.2
              have m1 := (h3 _ la).1
              have m2 := (h3 _ lb9).1
              refine g_aload_n X 0 d_Md_join_41 rfl rfl ?_
              refine g_get (C := R_Md) (T := T_Md) (N := 22) X 0 7 in_Md rfl rfl (by decide) t3_154 rfl rfl d_Md_join_42 ?_
              refine g_aload_n X 0 d_Md_join_45 rfl rfl ?_
              refine g_get (C := R_Md) (T := T_Md) (N := 22) X 0 3 in_Md rfl rfl (by decide) t3_150 rfl rfl d_Md_join_46 ?_
              refine g_iload_n X 2 d_Md_join_49 rfl rfl ?_
              refine g_ialdN X 1 0 rfl rfl (by omega) (by omega) d_Md_join_50 ?_
              refine g_ialdN X 5 0 rfl rfl (by omega) (by omega) d_Md_join_51 ?_
              refine g_istore_n X [(3, .int (nI (M8 (Fa q)))), (0, .ref mo), (1, .int (bI c9)), (2, .int (nI q))] d_Md_join_52 rfl (by decide) rfl ?_
              refine g_aload_n X 0 d_Md_join_53 rfl rfl ?_
              refine g_get (C := R_Md) (T := T_Md) (N := 22) X 0 7 in_Md rfl rfl (by decide) t3_154 rfl rfl d_Md_join_54 ?_
              refine g_aload_n X 0 d_Md_join_57 rfl rfl ?_
              refine g_get (C := R_Md) (T := T_Md) (N := 22) X 0 4 in_Md rfl rfl (by decide) t3_151 rfl rfl d_Md_join_58 ?_
              refine g_iload_n X 2 d_Md_join_61 rfl rfl ?_
              refine g_ialdN X 2 0 rfl rfl (by omega) (by omega) d_Md_join_62 ?_
              refine g_ialdN X 5 0 rfl rfl (by omega) (by omega) d_Md_join_63 ?_
              refine g_istore X [(4, .int (nI (M8 (Fb q)))), (3, .int (nI (M8 (Fa q)))), (0, .ref mo), (1, .int (bI c9)), (2, .int (nI q))] d_Md_join_64 (by decide) rfl ?_
              refine g_aload_n X 0 d_Md_join_66 rfl rfl ?_
              refine g_get (C := R_Md) (T := T_Md) (N := 22) X 0 6 in_Md rfl rfl (by decide) t3_153 rfl rfl d_Md_join_67 ?_
              refine g_iload_n X 2 d_Md_join_70 rfl rfl ?_
              refine g_zaldB X 4 2 rfl rfl (by omega) (by omega) d_Md_join_71 ?_
              refine b_if_ne X 133 d_Md_join_72 (by decide) (fun h72 => ?_) (fun h72 => ?_)
              · refine g_iinc X (nI (q + 1)) [(2, .int (nI (q + 1))), (4, .int (nI (M8 (Fb q)))), (3, .int (nI (M8 (Fa q)))), (0, .ref mo), (1, .int (bI c9))] d_Md_join_133 (k := 4) rfl (nI_1 q) (by decide) rfl ?_
                refine g_goto X 33 d_Md_join_136 (by decide) ?_
                refine g_lv [3, 4, 0] rfl ?_
                exact ih33 (q + 1) c9 M8 (by omega) (by omega) (by first | exact h3 | exact mj_put h3 (by omega) (eqm_t h72 h82) la lb9 (Or.inl rfl) (by omega) (by omega) | exact mj_put h3 (by omega) (eqm_t h72 h82) la lb9 (Or.inr rfl) (by omega) (by omega)) (by first | exact mjR_skip h4 (vF (eqm_f1 h72)) | exact mjR_skip h4 (vF (eqm_f2 h82)) | exact mjR_skip h4 (fun _ => h88) | exact mjR_put h4 (mj_less la lb9 h88 (by omega)))
              · refine g_aload_n X 0 d_Md_join_75 rfl rfl ?_
                refine g_get (C := R_Md) (T := T_Md) (N := 22) X 0 5 in_Md rfl rfl (by decide) t3_152 rfl rfl d_Md_join_76 ?_
                refine g_iload_n X 2 d_Md_join_79 rfl rfl ?_
                refine g_ialdN X 3 0 rfl rfl (by omega) (by omega) d_Md_join_80 ?_
                refine g_iconst (v := nI 3) X d_Md_join_81 rfl ?_
                refine n_icmp_ne X 133 d_Md_join_82 (by decide) (by omega) (by omega) (fun h82 => ?_) (fun h82 => ?_)
                · refine g_iinc X (nI (q + 1)) [(2, .int (nI (q + 1))), (4, .int (nI (M8 (Fb q)))), (3, .int (nI (M8 (Fa q)))), (0, .ref mo), (1, .int (bI c9))] d_Md_join_133 (k := 4) rfl (nI_1 q) (by decide) rfl ?_
                  refine g_goto X 33 d_Md_join_136 (by decide) ?_
                  refine g_lv [3, 4, 0] rfl ?_
                  exact ih33 (q + 1) c9 M8 (by omega) (by omega) (by first | exact h3 | exact mj_put h3 (by omega) (eqm_t h72 h82) la lb9 (Or.inl rfl) (by omega) (by omega) | exact mj_put h3 (by omega) (eqm_t h72 h82) la lb9 (Or.inr rfl) (by omega) (by omega)) (by first | exact mjR_skip h4 (vF (eqm_f1 h72)) | exact mjR_skip h4 (vF (eqm_f2 h82)) | exact mjR_skip h4 (fun _ => h88) | exact mjR_put h4 (mj_less la lb9 h88 (by omega)))
                · refine g_iload_n X 3 d_Md_join_85 rfl rfl ?_
                  refine g_iload X 4 d_Md_join_86 rfl ?_
                  refine n_icmp_eq X 133 d_Md_join_88 (by decide) (by omega) (by omega) (fun h88 => ?_) (fun h88 => ?_)
                  · refine g_iinc X (nI (q + 1)) [(2, .int (nI (q + 1))), (4, .int (nI (M8 (Fb q)))), (3, .int (nI (M8 (Fa q)))), (0, .ref mo), (1, .int (bI c9))] d_Md_join_133 (k := 4) rfl (nI_1 q) (by decide) rfl ?_
                    refine g_goto X 33 d_Md_join_136 (by decide) ?_
                    refine g_lv [3, 4, 0] rfl ?_
                    exact ih33 (q + 1) c9 M8 (by omega) (by omega) (by first | exact h3 | exact mj_put h3 (by omega) (eqm_t h72 h82) la lb9 (Or.inl rfl) (by omega) (by omega) | exact mj_put h3 (by omega) (eqm_t h72 h82) la lb9 (Or.inr rfl) (by omega) (by omega)) (by first | exact mjR_skip h4 (vF (eqm_f1 h72)) | exact mjR_skip h4 (vF (eqm_f2 h82)) | exact mjR_skip h4 (fun _ => h88) | exact mjR_put h4 (mj_less la lb9 h88 (by omega)))
                  · refine g_iload_n X 3 d_Md_join_91 rfl rfl ?_
                    refine g_iload X 4 d_Md_join_92 rfl ?_
                    refine n_icmp_ge X 101 d_Md_join_94 (by decide) (by omega) (by omega) (fun h94 => ?_) (fun h94 => ?_)
                    · refine g_iload X 4 d_Md_join_101 rfl ?_
                      refine g_istore X [(5, .int (nI (M8 (Fb q)))), (4, .int (nI (M8 (Fb q)))), (3, .int (nI (M8 (Fa q)))), (0, .ref mo), (1, .int (bI c9)), (2, .int (nI q))] d_Md_join_103 (by decide) rfl ?_
                      refine g_aload_n X 0 d_Md_join_105 rfl rfl ?_
                      refine g_get (C := R_Md) (T := T_Md) (N := 22) X 0 7 in_Md rfl rfl (by decide) t3_154 rfl rfl d_Md_join_106 ?_
                      refine g_aload_n X 0 d_Md_join_109 rfl rfl ?_
                      refine g_get (C := R_Md) (T := T_Md) (N := 22) X 0 3 in_Md rfl rfl (by decide) t3_150 rfl rfl d_Md_join_110 ?_
                      refine g_iload_n X 2 d_Md_join_113 rfl rfl ?_
                      refine g_ialdN X 1 0 rfl rfl (by omega) (by omega) d_Md_join_114 ?_
                      refine g_iload X 5 d_Md_join_115 rfl ?_
                      refine g_iastN X 5 0 [(mo, .inr (8, [.int tw, .int (nI K), .int (nI R), .ref qa, .ref qb, .ref qk, .ref qu, .ref qn, .ref qx, .ref qo, .ref qf, .int (nI d), .ref qr, .int (nI gm), .ref qg, .ref qv, .int (nI d2), .ref qs, .int (nI vv), .ref qc, .ref qm, .ref qw])), (qa, .inl (cI, 200, .inl (nf Fa))), (qb, .inl (cI, 200, .inl (nf Fb))), (qk, .inl (cI, 200, .inl (nf Fk))), (qu, .inl (cZ, 200, .inl (zf UN))), (qn, .inl (cI, 48, .inl (nf (updN M8 (Fa q) (M8 (Fb q))))))] rfl rfl (by omega) (by omega) rfl d_Md_join_117 ?_
                      refine g_aload_n X 0 d_Md_join_118 rfl rfl ?_
                      refine g_get (C := R_Md) (T := T_Md) (N := 22) X 0 7 in_Md rfl rfl (by decide) t3_154 rfl rfl d_Md_join_119 ?_
                      refine g_aload_n X 0 d_Md_join_122 rfl rfl ?_
                      refine g_get (C := R_Md) (T := T_Md) (N := 22) X 0 4 in_Md rfl rfl (by decide) t3_151 rfl rfl d_Md_join_123 ?_
                      refine g_iload_n X 2 d_Md_join_126 rfl rfl ?_
                      refine g_ialdN X 2 0 rfl rfl (by omega) (by omega) d_Md_join_127 ?_
                      refine g_iload X 5 d_Md_join_128 rfl ?_
                      refine g_iastN X 5 0 [(mo, .inr (8, [.int tw, .int (nI K), .int (nI R), .ref qa, .ref qb, .ref qk, .ref qu, .ref qn, .ref qx, .ref qo, .ref qf, .int (nI d), .ref qr, .int (nI gm), .ref qg, .ref qv, .int (nI d2), .ref qs, .int (nI vv), .ref qc, .ref qm, .ref qw])), (qa, .inl (cI, 200, .inl (nf Fa))), (qb, .inl (cI, 200, .inl (nf Fb))), (qk, .inl (cI, 200, .inl (nf Fk))), (qu, .inl (cZ, 200, .inl (zf UN))), (qn, .inl (cI, 48, .inl (nf (updN (updN M8 (Fa q) (M8 (Fb q))) (Fb q) (M8 (Fb q))))))] rfl rfl (by omega) (by omega) rfl d_Md_join_130 ?_
                      refine g_iconst (v := nI 1) X d_Md_join_131 rfl ?_
                      refine g_topE (show nI 1 = bI true from rfl) ?_
                      refine g_istore_n X [(1, .int (bI true)), (5, .int (nI (M8 (Fb q)))), (4, .int (nI (M8 (Fb q)))), (3, .int (nI (M8 (Fa q)))), (0, .ref mo), (2, .int (nI q))] d_Md_join_132 rfl (by decide) rfl ?_
                      refine g_iinc X (nI (q + 1)) [(2, .int (nI (q + 1))), (1, .int (bI true)), (5, .int (nI (M8 (Fb q)))), (4, .int (nI (M8 (Fb q)))), (3, .int (nI (M8 (Fa q)))), (0, .ref mo)] d_Md_join_133 (k := 5) rfl (nI_1 q) (by decide) rfl ?_
                      refine g_goto X 33 d_Md_join_136 (by decide) ?_
                      refine g_lv [5, 1, 0] rfl ?_
                      exact ih33 (q + 1) true (updN (updN M8 (Fa q) (M8 (Fb q))) (Fb q) (M8 (Fb q))) (by omega) (by omega) (by first | exact h3 | exact mj_put h3 (by omega) (eqm_t h72 h82) la lb9 (Or.inl rfl) (by omega) (by omega) | exact mj_put h3 (by omega) (eqm_t h72 h82) la lb9 (Or.inr rfl) (by omega) (by omega)) (by first | exact mjR_skip h4 (vF (eqm_f1 h72)) | exact mjR_skip h4 (vF (eqm_f2 h82)) | exact mjR_skip h4 (fun _ => h88) | exact mjR_put h4 (mj_less la lb9 h88 (by omega)))
                    · refine g_iload_n X 3 d_Md_join_97 rfl rfl ?_
                      refine g_goto X 103 d_Md_join_98 (by decide) ?_
                      refine g_istore X [(5, .int (nI (M8 (Fa q)))), (4, .int (nI (M8 (Fb q)))), (3, .int (nI (M8 (Fa q)))), (0, .ref mo), (1, .int (bI c9)), (2, .int (nI q))] d_Md_join_103 (by decide) rfl ?_
                      refine g_aload_n X 0 d_Md_join_105 rfl rfl ?_
                      refine g_get (C := R_Md) (T := T_Md) (N := 22) X 0 7 in_Md rfl rfl (by decide) t3_154 rfl rfl d_Md_join_106 ?_
                      refine g_aload_n X 0 d_Md_join_109 rfl rfl ?_
                      refine g_get (C := R_Md) (T := T_Md) (N := 22) X 0 3 in_Md rfl rfl (by decide) t3_150 rfl rfl d_Md_join_110 ?_
                      refine g_iload_n X 2 d_Md_join_113 rfl rfl ?_
                      refine g_ialdN X 1 0 rfl rfl (by omega) (by omega) d_Md_join_114 ?_
                      refine g_iload X 5 d_Md_join_115 rfl ?_
                      refine g_iastN X 5 0 [(mo, .inr (8, [.int tw, .int (nI K), .int (nI R), .ref qa, .ref qb, .ref qk, .ref qu, .ref qn, .ref qx, .ref qo, .ref qf, .int (nI d), .ref qr, .int (nI gm), .ref qg, .ref qv, .int (nI d2), .ref qs, .int (nI vv), .ref qc, .ref qm, .ref qw])), (qa, .inl (cI, 200, .inl (nf Fa))), (qb, .inl (cI, 200, .inl (nf Fb))), (qk, .inl (cI, 200, .inl (nf Fk))), (qu, .inl (cZ, 200, .inl (zf UN))), (qn, .inl (cI, 48, .inl (nf (updN M8 (Fa q) (M8 (Fa q))))))] rfl rfl (by omega) (by omega) rfl d_Md_join_117 ?_
                      refine g_aload_n X 0 d_Md_join_118 rfl rfl ?_
                      refine g_get (C := R_Md) (T := T_Md) (N := 22) X 0 7 in_Md rfl rfl (by decide) t3_154 rfl rfl d_Md_join_119 ?_
                      refine g_aload_n X 0 d_Md_join_122 rfl rfl ?_
                      refine g_get (C := R_Md) (T := T_Md) (N := 22) X 0 4 in_Md rfl rfl (by decide) t3_151 rfl rfl d_Md_join_123 ?_
                      refine g_iload_n X 2 d_Md_join_126 rfl rfl ?_
                      refine g_ialdN X 2 0 rfl rfl (by omega) (by omega) d_Md_join_127 ?_
                      refine g_iload X 5 d_Md_join_128 rfl ?_
                      refine g_iastN X 5 0 [(mo, .inr (8, [.int tw, .int (nI K), .int (nI R), .ref qa, .ref qb, .ref qk, .ref qu, .ref qn, .ref qx, .ref qo, .ref qf, .int (nI d), .ref qr, .int (nI gm), .ref qg, .ref qv, .int (nI d2), .ref qs, .int (nI vv), .ref qc, .ref qm, .ref qw])), (qa, .inl (cI, 200, .inl (nf Fa))), (qb, .inl (cI, 200, .inl (nf Fb))), (qk, .inl (cI, 200, .inl (nf Fk))), (qu, .inl (cZ, 200, .inl (zf UN))), (qn, .inl (cI, 48, .inl (nf (updN (updN M8 (Fa q) (M8 (Fa q))) (Fb q) (M8 (Fa q))))))] rfl rfl (by omega) (by omega) rfl d_Md_join_130 ?_
                      refine g_iconst (v := nI 1) X d_Md_join_131 rfl ?_
                      refine g_topE (show nI 1 = bI true from rfl) ?_
                      refine g_istore_n X [(1, .int (bI true)), (5, .int (nI (M8 (Fa q)))), (4, .int (nI (M8 (Fb q)))), (3, .int (nI (M8 (Fa q)))), (0, .ref mo), (2, .int (nI q))] d_Md_join_132 rfl (by decide) rfl ?_
                      refine g_iinc X (nI (q + 1)) [(2, .int (nI (q + 1))), (1, .int (bI true)), (5, .int (nI (M8 (Fa q)))), (4, .int (nI (M8 (Fb q)))), (3, .int (nI (M8 (Fa q)))), (0, .ref mo)] d_Md_join_133 (k := 5) rfl (nI_1 q) (by decide) rfl ?_
                      refine g_goto X 33 d_Md_join_136 (by decide) ?_
                      refine g_lv [5, 1, 0] rfl ?_
                      exact ih33 (q + 1) true (updN (updN M8 (Fa q) (M8 (Fa q))) (Fb q) (M8 (Fa q))) (by omega) (by omega) (by first | exact h3 | exact mj_put h3 (by omega) (eqm_t h72 h82) la lb9 (Or.inl rfl) (by omega) (by omega) | exact mj_put h3 (by omega) (eqm_t h72 h82) la lb9 (Or.inr rfl) (by omega) (by omega)) (by first | exact mjR_skip h4 (vF (eqm_f1 h72)) | exact mjR_skip h4 (vF (eqm_f2 h82)) | exact mjR_skip h4 (fun _ => h88) | exact mjR_put h4 (mj_less la lb9 h88 (by omega)))
        refine g_iconst (v := nI 0) X d_Md_join_31 rfl ?_
        refine g_istore_n X [(2, .int (nI 0)), (1, .int (bI false)), (0, .ref mo)] d_Md_join_32 rfl (by decide) rfl ?_
        refine g_lv [2, 1, 0] rfl ?_
        exact L33 ((R - 0) + 1) 0 false M9 (Nat.lt_succ_self _) (by omega) (h1) (mjR_0)
  have L2 : ∀ (N2 : Nat) (i : Nat) (M9 : Nat → Nat), (K - i) < N2 → (i ≤ K) → (∀ k, k < i → M9 k = k) → G p l e ({ frames := 0, cells := 0, slots := 0, locals := 0 } : Room) s m args below meth c 6 D A s.heap Q 0 0 [(mo, .inr (8, [.int tw, .int (nI K), .int (nI R), .ref qa, .ref qb, .ref qk, .ref qu, .ref qn, .ref qx, .ref qo, .ref qf, .int (nI d), .ref qr, .int (nI gm), .ref qg, .ref qv, .int (nI d2), .ref qs, .int (nI vv), .ref qc, .ref qm, .ref qw])), (qa, .inl (cI, 200, .inl (nf Fa))), (qb, .inl (cI, 200, .inl (nf Fb))), (qk, .inl (cI, 200, .inl (nf Fk))), (qu, .inl (cZ, 200, .inl (zf UN))), (qn, .inl (cI, 48, .inl (nf M9)))] [(0, .ref mo), (1, .int (nI i))] 2 [] := by
    intro N2
    induction N2 with
    | zero =>
      intro i M9 hN
      exact absurd hN (Nat.not_lt_zero _)
    | succ N2 ih2 =>
      intro i M9 hN2 hi h1
      refine g_iload_n X 1 d_Md_join_2 rfl rfl ?_
      refine g_aload_n X 0 d_Md_join_3 rfl rfl ?_
      refine g_get (C := R_Md) (T := T_Md) (N := 22) X 0 1 in_Md rfl rfl (by decide) t3_148 rfl rfl d_Md_join_4 ?_
      refine n_icmp_ge X 23 d_Md_join_7 (by decide) (by omega) (by omega) (fun h7 => ?_) (fun h7 => ?_)
      · refine g_iconst (v := nI 1) X d_Md_join_23 rfl ?_
        refine g_topE (show nI 1 = bI true from rfl) ?_
        refine g_istore_n X [(1, .int (bI true)), (0, .ref mo)] d_Md_join_24 rfl (by decide) rfl ?_
        refine g_lv [1, 0] rfl ?_
        exact L25 ((if true = true then lsum M9 K + 1 else 0) + 1) true M9 (Nat.lt_succ_self _) (mj_0 (fun k hk => h1 k (by omega))) (fun q9 => by cases q9)
      · refine g_aload_n X 0 d_Md_join_10 rfl rfl ?_
        refine g_get (C := R_Md) (T := T_Md) (N := 22) X 0 7 in_Md rfl rfl (by decide) t3_154 rfl rfl d_Md_join_11 ?_
        refine g_iload_n X 1 d_Md_join_14 rfl rfl ?_
        refine g_iload_n X 1 d_Md_join_15 rfl rfl ?_
        refine g_iastN X 5 0 [(mo, .inr (8, [.int tw, .int (nI K), .int (nI R), .ref qa, .ref qb, .ref qk, .ref qu, .ref qn, .ref qx, .ref qo, .ref qf, .int (nI d), .ref qr, .int (nI gm), .ref qg, .ref qv, .int (nI d2), .ref qs, .int (nI vv), .ref qc, .ref qm, .ref qw])), (qa, .inl (cI, 200, .inl (nf Fa))), (qb, .inl (cI, 200, .inl (nf Fb))), (qk, .inl (cI, 200, .inl (nf Fk))), (qu, .inl (cZ, 200, .inl (zf UN))), (qn, .inl (cI, 48, .inl (nf (updN M9 i i))))] rfl rfl (by omega) (by omega) rfl d_Md_join_16 ?_
        refine g_iinc X (nI (i + 1)) [(1, .int (nI (i + 1))), (0, .ref mo)] d_Md_join_17 (k := 1) rfl (nI_1 i) (by decide) rfl ?_
        refine g_goto X 2 d_Md_join_20 (by decide) ?_
        refine g_lv [1, 0] rfl ?_
        exact ih2 (i + 1) (updN M9 i i) (by omega) (by omega) (updN_iota h1)
  refine g_iconst (v := nI 0) X d_Md_join_0 rfl ?_
  refine g_istore_n X [(1, .int (nI 0)), (0, .ref mo)] d_Md_join_1 rfl (by decide) rfl ?_
  refine g_lv [1, 0] rfl ?_
  exact L2 ((K - 0) + 1) 0 M (Nat.lt_succ_self _) (by omega) (fun j hj => absurd hj (Nat.not_lt_zero j))
