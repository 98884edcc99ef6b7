variable {l : Launch} {D : va_G} {cI cJ cZ cQ : ClassId}
def badI (K : Nat) (x : Int32) : Prop := x < 0 ∨ nI K ≤ x
theorem gt4 {z : Int32} (h1 : ¬ z < 0) (h : nI 5 ≤ z) : nI 4 < z := by
  obtain ⟨j, hj, rfl⟩ := nI_of h1
  exact (nI_ltI (by omega) hj).mpr (by have := (nI_leI (by omega) hj).mp h; omega)
/-- a link of a table -/
def lkT (OV : Nat → Bool) (K x y : Nat) : Bool := OV (48 * x + y) && !anyB (fun k => OV (48 * x + k) && OV (48 * k + y)) K
theorem lkT_0 {OV : Nat → Bool} {x y : Nat} : OV (48 * x + y) = (OV (48 * x + y) && !anyB (fun k => OV (48 * x + k) && OV (48 * k + y)) 0) := by simp [anyB]
theorem lkT_k {OV : Nat → Bool} {x y i : Nat} {b : Bool} (h : b = (OV (48 * x + y) && !anyB (fun k => OV (48 * x + k) && OV (48 * k + y)) i)) (hb : b = true) (hx : OV (48 * x + i) = false) : true = (OV (48 * x + y) && !anyB (fun k => OV (48 * x + k) && OV (48 * k + y)) (i + 1)) := by
  rw [hb] at h
  simp only [anyB, hx, Bool.false_and, Bool.or_false]
  exact h
theorem lkT_k2 {OV : Nat → Bool} {x y i : Nat} {b : Bool} (h : b = (OV (48 * x + y) && !anyB (fun k => OV (48 * x + k) && OV (48 * k + y)) i)) (hb : b = true) (hx : OV (48 * i + y) = false) : true = (OV (48 * x + y) && !anyB (fun k => OV (48 * x + k) && OV (48 * k + y)) (i + 1)) := by
  rw [hb] at h
  simp only [anyB, hx, Bool.and_false, Bool.or_false]
  exact h
theorem lkT_n {OV : Nat → Bool} {x y i : Nat} (h1 : OV (48 * x + i) = true) (h2 : OV (48 * i + y) = true) : false = (OV (48 * x + y) && !anyB (fun k => OV (48 * x + k) && OV (48 * k + y)) (i + 1)) := by
  simp [anyB, h1, h2]
theorem lkT_e {OV : Nat → Bool} {x y i K : Nat} {b : Bool} (hi : i ≤ K) (h : b = (OV (48 * x + y) && !anyB (fun k => OV (48 * x + k) && OV (48 * k + y)) i)) (hb : b = false) : b = lkT OV K x y := by
  rw [hb]
  rw [hb] at h
  unfold lkT
  cases hv : OV (48 * x + y) with
  | false => simp
  | true =>
    rw [hv, Bool.true_and] at h
    have h2 : anyB (fun k => OV (48 * x + k) && OV (48 * k + y)) i = true := by
      cases hq : anyB (fun k => OV (48 * x + k) && OV (48 * k + y)) i with
      | true => rfl
      | false => rw [hq] at h; cases h
    obtain ⟨k, hk, hp⟩ := (anyB_iff i).mp h2
    rw [(anyB_iff K).mpr ⟨k, by omega, hp⟩]
    rfl
def lkP (OV : Nat → Bool) (K p : Nat) : Bool := lkT OV K (p / 48) (p % 48)
theorem cntP_t {P : Nat → Bool} {i n : Nat} (h : P i = true) (h1 : n = cnt P i) : n + 1 = cnt P (i + 1) := by rw [cnt_t h, h1]
theorem cntP_f {P : Nat → Bool} {i n : Nat} (h : P i = false) (h1 : n = cnt P i) : n = cnt P (i + 1) := by rw [cnt_f h, h1]
/-! told to be contemporary -/
def ctm (UN : Nat → Bool) (Fk Fa Fb M : Nat → Nat) (x y r : Nat) : Bool := (!UN r && decide (Fk r = 4)) && ((decide (M (Fa r) = x) && decide (M (Fb r) = y)) || (decide (M (Fa r) = y) && decide (M (Fb r) = x)))
section CTM
variable {UN : Nat → Bool} {Fk Fa Fb M : Nat → Nat} {x y q : Nat} {b : Bool}
theorem cm_0 {d : Bool} {P : Nat → Bool} : d = (d || anyB P 0) := by simp [anyB]
theorem cm_b {d : Bool} {P : Nat → Bool} (h : b = (d || anyB P q)) (hb : b = true) : true = (d || anyB P (q + 1)) := by
  rw [hb] at h
  simp only [anyB]
  rw [← Bool.or_assoc, ← h]
  rfl
theorem cm_t {d : Bool} {P : Nat → Bool} (hp : P q = true) : true = (d || anyB P (q + 1)) := by simp [anyB, hp]
theorem cm_f {d : Bool} {P : Nat → Bool} (h : b = (d || anyB P q)) (hb : b = false) (hp : P q = false) : false = (d || anyB P (q + 1)) := by
  rw [hb] at h
  simp only [anyB, hp, Bool.or_false]
  exact h
theorem cmF0 (h : UN q = true) : ctm UN Fk Fa Fb M x y q = false := by simp [ctm, h]
theorem cmF1 (h : ¬ Fk q = 4) : ctm UN Fk Fa Fb M x y q = false := by simp [ctm, h]
theorem cmF2 (h1 : ¬ M (Fa q) = x) (h2 : ¬ M (Fa q) = y) : ctm UN Fk Fa Fb M x y q = false := by simp [ctm, h1, h2]
theorem cmF3 (h1 : ¬ M (Fa q) = x) (h2 : ¬ M (Fb q) = x) : ctm UN Fk Fa Fb M x y q = false := by simp [ctm, h1, h2]
theorem cmF4 (h1 : ¬ M (Fb q) = y) (h2 : ¬ M (Fa q) = y) : ctm UN Fk Fa Fb M x y q = false := by simp [ctm, h1, h2]
theorem cmF5 (h1 : ¬ M (Fb q) = y) (h2 : ¬ M (Fb q) = x) : ctm UN Fk Fa Fb M x y q = false := by simp [ctm, h1, h2]
theorem cmT1 (h : UN q = false) (h0 : Fk q = 4) (h1 : M (Fa q) = x) (h2 : M (Fb q) = y) : ctm UN Fk Fa Fb M x y q = true := by simp [ctm, h, h0, h1, h2]
theorem cmT2 (h : UN q = false) (h0 : Fk q = 4) (h1 : M (Fa q) = y) (h2 : M (Fb q) = x) : ctm UN Fk Fa Fb M x y q = true := by simp [ctm, h, h0, h1, h2]
end CTM
/-! the longest ways, by relaxing downwards -/
def lgI (E : Nat → Nat → Bool) (F : Nat → Nat) : Prop := ∀ x, x < 48 → ∃ z, gw E (F x) z x
def lgR (T : Nat → Bool) (q : Nat) (F0 F : Nat → Nat) (mo : Bool) : Prop := (mo = false → F = F0 ∧ ∀ k, k < q → T k = true → F (k / 48) + 1 ≤ F (k % 48)) ∧ (mo = true → lsum F0 48 < lsum F 48)
theorem lg_le {E : Nat → Nat → Bool} {F : Nat → Nat} (hE : gin E 48) (hac : ∀ z, ¬ gov E z z) (h : lgI E F) {x : Nat} (hx : x < 48) : F x < 48 := by
  obtain ⟨z, hz⟩ := h x hx
  rcases Nat.eq_zero_or_pos (F x) with e | e
  · omega
  · exact gw_short hE hac e hz
theorem lsum_b {F : Nat → Nat} {B : Nat} : ∀ n, (∀ i, i < n → F i ≤ B) → lsum F n ≤ n * B
  | 0, _ => by simp [lsum]
  | n + 1, h => by
    have h1 := lsum_b n (fun i hi => h i (by omega))
    have h2 := h n (by omega)
    rw [Nat.succ_mul]
    simp only [lsum]
    omega
theorem lg_sum {E : Nat → Nat → Bool} {F : Nat → Nat} (hE : gin E 48) (hac : ∀ z, ¬ gov E z z) (h : lgI E F) : lsum F 48 ≤ 48 * 47 := lsum_b 48 (fun i hi => Nat.le_of_lt_succ (lg_le hE hac h hi))
theorem lg_0 {E : Nat → Nat → Bool} {F : Nat → Nat} (h : ∀ k, k < 48 → F k = 0) : lgI E F := fun x hx => ⟨x, by rw [h x hx]; rfl⟩
theorem lgR_0 {T : Nat → Bool} {F : Nat → Nat} : lgR T 0 F F false := ⟨fun _ => ⟨rfl, fun k h => absurd h (Nat.not_lt_zero _)⟩, fun h => by cases h⟩
theorem lg_skip {T : Nat → Bool} {q : Nat} {F0 F : Nat → Nat} {mo : Bool} (h : lgR T q F0 F mo) (hx : T q = true → F (q / 48) + 1 ≤ F (q % 48)) : lgR T (q + 1) F0 F mo := by
  refine ⟨fun e => ⟨(h.1 e).1, fun r hr he => ?_⟩, h.2⟩
  rcases Nat.lt_or_ge r q with z | z
  · exact (h.1 e).2 r z he
  · have e2 : r = q := by omega
    subst e2
    exact hx he
theorem lg_putR {T : Nat → Bool} {q j v : Nat} {F0 F : Nat → Nat} {mo : Bool} (h : lgR T q F0 F mo) (hj : j < 48) (hv : F j < v) : lgR T (q + 1) F0 (updN F j v) true := by
  have hl := lsum_upd (M := F) (j := j) (v := v) 48 hj
  refine ⟨fun e => (by cases e), fun _ => ?_⟩
  cases mo with
  | true => have := h.2 rfl; omega
  | false =>
    have := (h.1 rfl).1
    rw [this] at hl hv ⊢
    omega
theorem lg_putI {T : Nat → Bool} {q : Nat} {F : Nat → Nat} (hq : q < 2304) (h : lgI (tE 48 T) F) (hT : T q = true) : lgI (tE 48 T) (updN F (q % 48) (F (q / 48) + 1)) := by
  intro x hx
  by_cases e : x = q % 48
  · subst e
    rw [updN_s]
    obtain ⟨z, hz⟩ := h (q / 48) (by omega)
    exact ⟨z, gw_add _ 1 _ _ _ hz (gw_one (by rw [tE_at (by decide) hq]; exact hT))⟩
  · rw [updN_n e]; exact h x hx
theorem lg_end {T : Nat → Bool} {F : Nat → Nat} (h : lgI (tE 48 T) F) (hx : ∀ k, k < 2304 → T k = true → F (k / 48) + 1 ≤ F (k % 48)) {t : Nat} (ht : t < 48) : glong (tE 48 T) t (F t) := by
  refine glong_far (N := 48) h (fun x y he => ?_) ht
  have hb := tE_in T x y he
  rw [tE_eq hb.1 hb.2] at he
  have := hx (48 * x + y) (by omega) he
  rw [show (48 * x + y) / 48 = x by omega, show (48 * x + y) % 48 = y by omega] at this
  exact this
theorem lg_meas {b9 c9 : Bool} {x y N : Nat} (hb : b9 = true) (hN : (if b9 = true then 2304 - x + 1 else 0) < N + 1) (hx : y ≤ 2256) (h : c9 = true → x < y) : (if c9 = true then 2304 - y + 1 else 0) < N := by
  rw [if_pos hb] at hN
  cases c9 with
  | false => simp; omega
  | true =>
    have := h rfl
    simp
    omega
theorem fillN_step {F : Nat → Nat} {i v : Nat} (h : ∀ k, k < i → F k = v) : ∀ k, k < i + 1 → updN F i v k = v := by
  intro k hk
  by_cases e : k = i
  · subst e; exact updN_s
  · rw [updN_n e]; exact h k (by omega)

set_option maxHeartbeats 4000000 in
set_option maxRecDepth 100000 in
theorem k_Md_relateB (mo : Nat) (tw : Int32) (K : Nat) (R : Nat) (qa : Nat) (qb : Nat) (qk : Nat) (qu : Nat) (qn : Nat) (qx : Nat) (qo : Nat) (qf : Nat) (d : Nat) (qr : Nat) (gm : Nat) (qg : Nat) (qv : Nat) (d2 : Nat) (qs : Nat) (vv : Nat) (qc : Nat) (qm : Nat) (qw : Nat) (x : Int32) (y : Int32) (z : Int32) (hK : K ≤ 48) (hR2 : R ≤ 200) (hB : badI K x ∨ ((∃ i, i < K ∧ x = nI i) ∧ badI K y) ∨ ((∃ i, i < K ∧ x = nI i) ∧ (∃ j, j < K ∧ y = nI j) ∧ badI 5 z)) : CtI l y_Md_relate (Cond.code y_Md_relate c_Md_relate 4 (some .int) :: TB) ({ frames := 1, cells := 0, slots := 0, locals := 22 } : Room) D (tysv cI cJ cZ cQ) [.ref mo, .int x, .int y, .int z] [(mo, .inr (8, [.int tw, .int (nI K), .int (nI R), .ref qa, .ref qb, .ref qk, .ref qu, .ref qn, .ref qx, .ref qo, .ref qf, .int (nI d), .ref qr, .int (nI gm), .ref qg, .ref qv, .int (nI d2), .ref qs, .int (nI vv), .ref qc, .ref qm, .ref qw]))] 0 0 (fun (r : Int32) (_ : Unit) => r = nI 0) (fun (_ : Unit) => [(mo, .inr (8, [.int (nI 1), .int (nI K), .int (nI R), .ref qa, .ref qb, .ref qk, .ref qu, .ref qn, .ref qx, .ref qo, .ref qf, .int (nI d), .ref qr, .int (nI gm), .ref qg, .ref qv, .int (nI d2), .ref qs, .int (nI vv), .ref qc, .ref qm, .ref qw]))]) := by
  refine CtI.of c_Md_relate 4 (some .int) (by decide) rfl (Nat.le_of_ble_eq_true rfl) ?_
  intro p e s m args below meth c A Q hA9 hQ9 X hr9 hlk9 hin9
  rcases hB with b1 | ⟨⟨i, hi, rfl⟩, b1⟩ | ⟨⟨i, hi, rfl⟩, ⟨j, hj, rfl⟩, b1⟩
  · have b2 := b1
    refine g_aload_n X 0 d_Md_relate_0 rfl rfl ?_
    refine g_aload_n X 0 d_Md_relate_1 rfl rfl ?_
    refine g_iload_n X 1 d_Md_relate_2 rfl rfl ?_
    refine g_calliV (n := 1) X [.int x] (k_Md_isContextN mo tw K R qa qb qk qu qn qx qo qf d qr gm qg qv d2 qs vv qc qm qw x (by omega) (b1)) t3_239 t4_1 ts_14 t1_9 t4_2 rfl rfl (by decide +kernel) ⟨by decide, by decide⟩ [0] [] [] rfl rfl rfl rfl (by decide) 0 rfl rfl rfl rfl (Nat.le_of_ble_eq_true rfl) d_Md_relate_3 ⟨by decide, by decide⟩ (fun r1 w9u1 hw1 => ?_)
    subst hw1
    refine b_if_eq X 30 d_Md_relate_6 (by decide) (fun h6 => ?_) (fun h6 => absurd h6 (by decide))
    refine g_iconst (v := nI 0) X d_Md_relate_30 rfl ?_
    refine g_aload_n X 0 d_Md_relate_31 rfl rfl ?_
    refine g_get (C := R_Md) (T := T_Md) (N := 22) X 0 2 in_Md rfl rfl (by decide) t3_149 rfl rfl d_Md_relate_32 ?_
    refine g_sipush (v := nI 200) X d_Md_relate_35 rfl ?_
    refine n_icmp_ge X 45 d_Md_relate_38 (by decide) (by omega) (by omega) (fun h38 => ?_) (fun h38 => ?_)
    · refine g_iconst (v := nI 0) X d_Md_relate_45 rfl ?_
      refine g_calliV (n := 2) X [.int (bI false), .int (bI false)] (k_Md_goes1 mo tw K R qa qb qk qu qn qx qo qf d qr gm qg qv d2 qs vv qc qm qw false ) t3_223 t3_225 ts_11 t1_9 t3_226 rfl rfl (by decide +kernel) ⟨by decide, by decide⟩ [0] [] [] rfl rfl rfl rfl (by decide) 0 rfl rfl rfl rfl (Nat.le_of_ble_eq_true rfl) d_Md_relate_46 ⟨by decide, by decide⟩ (fun r2 w9u2 hw2 => ?_)
      subst hw2
      refine b_if_ne X 54 d_Md_relate_49 (by decide) (fun h49 => absurd h49 (by decide)) (fun h49 => ?_)
      refine g_iconst (v := nI 0) X d_Md_relate_52 rfl ?_
      exact g_iret X hA9 hQ9 hr9 hlk9 () [0] rfl rfl d_Md_relate_53 (rfl)
    · refine g_iconst (v := nI 1) X d_Md_relate_41 rfl ?_
      refine g_goto X 46 d_Md_relate_42 (by decide) ?_
      refine g_calliV (n := 2) X [.int (bI false), .int (bI true)] (k_Md_goes1 mo tw K R qa qb qk qu qn qx qo qf d qr gm qg qv d2 qs vv qc qm qw true ) t3_223 t3_225 ts_11 t1_9 t3_226 rfl rfl (by decide +kernel) ⟨by decide, by decide⟩ [0] [] [] rfl rfl rfl rfl (by decide) 0 rfl rfl rfl rfl (Nat.le_of_ble_eq_true rfl) d_Md_relate_46 ⟨by decide, by decide⟩ (fun r3 w9u3 hw3 => ?_)
      subst hw3
      refine b_if_ne X 54 d_Md_relate_49 (by decide) (fun h49 => absurd h49 (by decide)) (fun h49 => ?_)
      refine g_iconst (v := nI 0) X d_Md_relate_52 rfl ?_
      exact g_iret X hA9 hQ9 hr9 hlk9 () [0] rfl rfl d_Md_relate_53 (rfl)
  · have b2 := b1
    refine g_aload_n X 0 d_Md_relate_0 rfl rfl ?_
    refine g_aload_n X 0 d_Md_relate_1 rfl rfl ?_
    refine g_iload_n X 1 d_Md_relate_2 rfl rfl ?_
    refine g_calliV (n := 1) X [.int (nI i)] (k_Md_isContext mo tw K R qa qb qk qu qn qx qo qf d qr gm qg qv d2 qs vv qc qm qw i (by omega) (by omega)) t3_239 t4_1 ts_14 t1_9 t4_2 rfl rfl (by decide +kernel) ⟨by decide, by decide⟩ [0] [] [] rfl rfl rfl rfl (by decide) 0 rfl rfl rfl rfl (Nat.le_of_ble_eq_true rfl) d_Md_relate_3 ⟨by decide, by decide⟩ (fun r4 w9u4 hw4 => ?_)
    subst hw4
    refine b_if_eq X 30 d_Md_relate_6 (by decide) (fun h6 => absurd h6 (by decide)) (fun h6 => ?_)
    refine g_aload_n X 0 d_Md_relate_9 rfl rfl ?_
    refine g_iload_n X 2 d_Md_relate_10 rfl rfl ?_
    refine g_calliV (n := 1) X [.int y] (k_Md_isContextN mo tw K R qa qb qk qu qn qx qo qf d qr gm qg qv d2 qs vv qc qm qw y (by omega) (b1)) t3_239 t4_1 ts_14 t1_9 t4_2 rfl rfl (by decide +kernel) ⟨by decide, by decide⟩ [0] [] [] rfl rfl rfl rfl (by decide) 0 rfl rfl rfl rfl (Nat.le_of_ble_eq_true rfl) d_Md_relate_11 ⟨by decide, by decide⟩ (fun r5 w9u5 hw5 => ?_)
    subst hw5
    refine b_if_eq X 30 d_Md_relate_14 (by decide) (fun h14 => ?_) (fun h14 => absurd h14 (by decide))
    refine g_iconst (v := nI 0) X d_Md_relate_30 rfl ?_
    refine g_aload_n X 0 d_Md_relate_31 rfl rfl ?_
    refine g_get (C := R_Md) (T := T_Md) (N := 22) X 0 2 in_Md rfl rfl (by decide) t3_149 rfl rfl d_Md_relate_32 ?_
    refine g_sipush (v := nI 200) X d_Md_relate_35 rfl ?_
    refine n_icmp_ge X 45 d_Md_relate_38 (by decide) (by omega) (by omega) (fun h38 => ?_) (fun h38 => ?_)
    · refine g_iconst (v := nI 0) X d_Md_relate_45 rfl ?_
      refine g_calliV (n := 2) X [.int (bI false), .int (bI false)] (k_Md_goes1 mo tw K R qa qb qk qu qn qx qo qf d qr gm qg qv d2 qs vv qc qm qw false ) t3_223 t3_225 ts_11 t1_9 t3_226 rfl rfl (by decide +kernel) ⟨by decide, by decide⟩ [0] [] [] rfl rfl rfl rfl (by decide) 0 rfl rfl rfl rfl (Nat.le_of_ble_eq_true rfl) d_Md_relate_46 ⟨by decide, by decide⟩ (fun r6 w9u6 hw6 => ?_)
      subst hw6
      refine b_if_ne X 54 d_Md_relate_49 (by decide) (fun h49 => absurd h49 (by decide)) (fun h49 => ?_)
      refine g_iconst (v := nI 0) X d_Md_relate_52 rfl ?_
      exact g_iret X hA9 hQ9 hr9 hlk9 () [0] rfl rfl d_Md_relate_53 (rfl)
    · refine g_iconst (v := nI 1) X d_Md_relate_41 rfl ?_
      refine g_goto X 46 d_Md_relate_42 (by decide) ?_
      refine g_calliV (n := 2) X [.int (bI false), .int (bI true)] (k_Md_goes1 mo tw K R qa qb qk qu qn qx qo qf d qr gm qg qv d2 qs vv qc qm qw true ) t3_223 t3_225 ts_11 t1_9 t3_226 rfl rfl (by decide +kernel) ⟨by decide, by decide⟩ [0] [] [] rfl rfl rfl rfl (by decide) 0 rfl rfl rfl rfl (Nat.le_of_ble_eq_true rfl) d_Md_relate_46 ⟨by decide, by decide⟩ (fun r7 w9u7 hw7 => ?_)
      subst hw7
      refine b_if_ne X 54 d_Md_relate_49 (by decide) (fun h49 => absurd h49 (by decide)) (fun h49 => ?_)
      refine g_iconst (v := nI 0) X d_Md_relate_52 rfl ?_
      exact g_iret X hA9 hQ9 hr9 hlk9 () [0] rfl rfl d_Md_relate_53 (rfl)
  · have b2 := b1
    refine g_aload_n X 0 d_Md_relate_0 rfl rfl ?_
    refine g_aload_n X 0 d_Md_relate_1 rfl rfl ?_
    refine g_iload_n X 1 d_Md_relate_2 rfl rfl ?_
    refine g_calliV (n := 1) X [.int (nI i)] (k_Md_isContext mo tw K R qa qb qk qu qn qx qo qf d qr gm qg qv d2 qs vv qc qm qw i (by omega) (by omega)) t3_239 t4_1 ts_14 t1_9 t4_2 rfl rfl (by decide +kernel) ⟨by decide, by decide⟩ [0] [] [] rfl rfl rfl rfl (by decide) 0 rfl rfl rfl rfl (Nat.le_of_ble_eq_true rfl) d_Md_relate_3 ⟨by decide, by decide⟩ (fun r8 w9u8 hw8 => ?_)
    subst hw8
    refine b_if_eq X 30 d_Md_relate_6 (by decide) (fun h6 => absurd h6 (by decide)) (fun h6 => ?_)
    refine g_aload_n X 0 d_Md_relate_9 rfl rfl ?_
    refine g_iload_n X 2 d_Md_relate_10 rfl rfl ?_
    refine g_calliV (n := 1) X [.int (nI j)] (k_Md_isContext mo tw K R qa qb qk qu qn qx qo qf d qr gm qg qv d2 qs vv qc qm qw j (by omega) (by omega)) t3_239 t4_1 ts_14 t1_9 t4_2 rfl rfl (by decide +kernel) ⟨by decide, by decide⟩ [0] [] [] rfl rfl rfl rfl (by decide) 0 rfl rfl rfl rfl (Nat.le_of_ble_eq_true rfl) d_Md_relate_11 ⟨by decide, by decide⟩ (fun r9 w9u9 hw9 => ?_)
    subst hw9
    refine b_if_eq X 30 d_Md_relate_14 (by decide) (fun h14 => absurd h14 (by decide)) (fun h14 => ?_)
    refine g_iload_n X 3 d_Md_relate_17 rfl rfl ?_
    refine g_if_lt X 30 d_Md_relate_18 (by decide) (fun h18 => ?_) (fun h18 => ?_)
    · refine g_iconst (v := nI 0) X d_Md_relate_30 rfl ?_
      refine g_aload_n X 0 d_Md_relate_31 rfl rfl ?_
      refine g_get (C := R_Md) (T := T_Md) (N := 22) X 0 2 in_Md rfl rfl (by decide) t3_149 rfl rfl d_Md_relate_32 ?_
      refine g_sipush (v := nI 200) X d_Md_relate_35 rfl ?_
      refine n_icmp_ge X 45 d_Md_relate_38 (by decide) (by omega) (by omega) (fun h38 => ?_) (fun h38 => ?_)
      · refine g_iconst (v := nI 0) X d_Md_relate_45 rfl ?_
        refine g_calliV (n := 2) X [.int (bI false), .int (bI false)] (k_Md_goes1 mo tw K R qa qb qk qu qn qx qo qf d qr gm qg qv d2 qs vv qc qm qw false ) t3_223 t3_225 ts_11 t1_9 t3_226 rfl rfl (by decide +kernel) ⟨by decide, by decide⟩ [0] [] [] rfl rfl rfl rfl (by decide) 0 rfl rfl rfl rfl (Nat.le_of_ble_eq_true rfl) d_Md_relate_46 ⟨by decide, by decide⟩ (fun r10 w9u10 hw10 => ?_)
        subst hw10
        refine b_if_ne X 54 d_Md_relate_49 (by decide) (fun h49 => absurd h49 (by decide)) (fun h49 => ?_)
        refine g_iconst (v := nI 0) X d_Md_relate_52 rfl ?_
        exact g_iret X hA9 hQ9 hr9 hlk9 () [0] rfl rfl d_Md_relate_53 (rfl)
      · refine g_iconst (v := nI 1) X d_Md_relate_41 rfl ?_
        refine g_goto X 46 d_Md_relate_42 (by decide) ?_
        refine g_calliV (n := 2) X [.int (bI false), .int (bI true)] (k_Md_goes1 mo tw K R qa qb qk qu qn qx qo qf d qr gm qg qv d2 qs vv qc qm qw true ) t3_223 t3_225 ts_11 t1_9 t3_226 rfl rfl (by decide +kernel) ⟨by decide, by decide⟩ [0] [] [] rfl rfl rfl rfl (by decide) 0 rfl rfl rfl rfl (Nat.le_of_ble_eq_true rfl) d_Md_relate_46 ⟨by decide, by decide⟩ (fun r11 w9u11 hw11 => ?_)
        subst hw11
        refine b_if_ne X 54 d_Md_relate_49 (by decide) (fun h49 => absurd h49 (by decide)) (fun h49 => ?_)
        refine g_iconst (v := nI 0) X d_Md_relate_52 rfl ?_
        exact g_iret X hA9 hQ9 hr9 hlk9 () [0] rfl rfl d_Md_relate_53 (rfl)
    · refine g_iload_n X 3 d_Md_relate_21 rfl rfl ?_
      refine g_iconst (v := nI 4) X d_Md_relate_22 rfl ?_
      refine g_icmp_gt X 30 d_Md_relate_23 (by decide) (fun h23 => ?_) (fun h23 => absurd h23 (by exact not_not_intro (gt4 h18 (b1.resolve_left h18))))
      refine g_iconst (v := nI 0) X d_Md_relate_30 rfl ?_
      refine g_aload_n X 0 d_Md_relate_31 rfl rfl ?_
      refine g_get (C := R_Md) (T := T_Md) (N := 22) X 0 2 in_Md rfl rfl (by decide) t3_149 rfl rfl d_Md_relate_32 ?_
      refine g_sipush (v := nI 200) X d_Md_relate_35 rfl ?_
      refine n_icmp_ge X 45 d_Md_relate_38 (by decide) (by omega) (by omega) (fun h38 => ?_) (fun h38 => ?_)
      · refine g_iconst (v := nI 0) X d_Md_relate_45 rfl ?_
        refine g_calliV (n := 2) X [.int (bI false), .int (bI false)] (k_Md_goes1 mo tw K R qa qb qk qu qn qx qo qf d qr gm qg qv d2 qs vv qc qm qw false ) t3_223 t3_225 ts_11 t1_9 t3_226 rfl rfl (by decide +kernel) ⟨by decide, by decide⟩ [0] [] [] rfl rfl rfl rfl (by decide) 0 rfl rfl rfl rfl (Nat.le_of_ble_eq_true rfl) d_Md_relate_46 ⟨by decide, by decide⟩ (fun r12 w9u12 hw12 => ?_)
        subst hw12
        refine b_if_ne X 54 d_Md_relate_49 (by decide) (fun h49 => absurd h49 (by decide)) (fun h49 => ?_)
        refine g_iconst (v := nI 0) X d_Md_relate_52 rfl ?_
        exact g_iret X hA9 hQ9 hr9 hlk9 () [0] rfl rfl d_Md_relate_53 (rfl)
      · refine g_iconst (v := nI 1) X d_Md_relate_41 rfl ?_
        refine g_goto X 46 d_Md_relate_42 (by decide) ?_
        refine g_calliV (n := 2) X [.int (bI false), .int (bI true)] (k_Md_goes1 mo tw K R qa qb qk qu qn qx qo qf d qr gm qg qv d2 qs vv qc qm qw true ) t3_223 t3_225 ts_11 t1_9 t3_226 rfl rfl (by decide +kernel) ⟨by decide, by decide⟩ [0] [] [] rfl rfl rfl rfl (by decide) 0 rfl rfl rfl rfl (Nat.le_of_ble_eq_true rfl) d_Md_relate_46 ⟨by decide, by decide⟩ (fun r13 w9u13 hw13 => ?_)
        subst hw13
        refine b_if_ne X 54 d_Md_relate_49 (by decide) (fun h49 => absurd h49 (by decide)) (fun h49 => ?_)
        refine g_iconst (v := nI 0) X d_Md_relate_52 rfl ?_
        exact g_iret X hA9 hQ9 hr9 hlk9 () [0] rfl rfl d_Md_relate_53 (rfl)

set_option maxHeartbeats 4000000 in
set_option maxRecDepth 100000 in
theorem k_Md_relateF (mo : Nat) (tw : Int32) (K : Nat) (R : Nat) (qa : Nat) (qb : Nat) (qk : Nat) (qu : Nat) (qn : Nat) (qx : Nat) (qo : Nat) (qf : Nat) (d : Nat) (qr : Nat) (gm : Nat) (qg : Nat) (qv : Nat) (d2 : Nat) (qs : Nat) (vv : Nat) (qc : Nat) (qm : Nat) (qw : Nat) (i : Nat) (j : Nat) (kd : Nat) (hK : K ≤ 48) (hR2 : R = 200) (hi : i < K) (hj : j < K) (hk : kd ≤ 4) : CtI l y_Md_relate (Cond.code y_Md_relate c_Md_relate 4 (some .int) :: TB) ({ frames := 1, cells := 0, slots := 0, locals := 22 } : Room) D (tysv cI cJ cZ cQ) [.ref mo, .int (nI i), .int (nI j), .int (nI kd)] [(mo, .inr (8, [.int tw, .int (nI K), .int (nI R), .ref qa, .ref qb, .ref qk, .ref qu, .ref qn, .ref qx, .ref qo, .ref qf, .int (nI d), .ref qr, .int (nI gm), .ref qg, .ref qv, .int (nI d2), .ref qs, .int (nI vv), .ref qc, .ref qm, .ref qw]))] 0 0 (fun (r : Int32) (_ : Unit) => r = nI 0) (fun (_ : Unit) => [(mo, .inr (8, [.int (nI 2), .int (nI K), .int (nI R), .ref qa, .ref qb, .ref qk, .ref qu, .ref qn, .ref qx, .ref qo, .ref qf, .int (nI d), .ref qr, .int (nI gm), .ref qg, .ref qv, .int (nI d2), .ref qs, .int (nI vv), .ref qc, .ref qm, .ref qw]))]) := by
  refine CtI.of c_Md_relate 4 (some .int) (by decide) rfl (Nat.le_of_ble_eq_true rfl) ?_
  intro p e s m args below meth c A Q hA9 hQ9 X hr9 hlk9 hin9
  refine g_aload_n X 0 d_Md_relate_0 rfl rfl ?_
  refine g_aload_n X 0 d_Md_relate_1 rfl rfl ?_
  refine g_iload_n X 1 d_Md_relate_2 rfl rfl ?_
  refine g_calliV (n := 1) X [.int (nI i)] (k_Md_isContext mo tw K R qa qb qk qu qn qx qo qf d qr gm qg qv d2 qs vv qc qm qw i (by omega) (by omega)) t3_239 t4_1 ts_14 t1_9 t4_2 rfl rfl (by decide +kernel) ⟨by decide, by decide⟩ [0] [] [] rfl rfl rfl rfl (by decide) 0 rfl rfl rfl rfl (Nat.le_of_ble_eq_true rfl) d_Md_relate_3 ⟨by decide, by decide⟩ (fun r1 w9u1 hw1 => ?_)
  subst hw1
  refine b_if_eq X 30 d_Md_relate_6 (by decide) (fun h6 => absurd h6 (by decide)) (fun h6 => ?_)
  refine g_aload_n X 0 d_Md_relate_9 rfl rfl ?_
  refine g_iload_n X 2 d_Md_relate_10 rfl rfl ?_
  refine g_calliV (n := 1) X [.int (nI j)] (k_Md_isContext mo tw K R qa qb qk qu qn qx qo qf d qr gm qg qv d2 qs vv qc qm qw j (by omega) (by omega)) t3_239 t4_1 ts_14 t1_9 t4_2 rfl rfl (by decide +kernel) ⟨by decide, by decide⟩ [0] [] [] rfl rfl rfl rfl (by decide) 0 rfl rfl rfl rfl (Nat.le_of_ble_eq_true rfl) d_Md_relate_11 ⟨by decide, by decide⟩ (fun r2 w9u2 hw2 => ?_)
  subst hw2
  refine b_if_eq X 30 d_Md_relate_14 (by decide) (fun h14 => absurd h14 (by decide)) (fun h14 => ?_)
  refine g_iload_n X 3 d_Md_relate_17 rfl rfl ?_
  refine n_if_lt X 30 d_Md_relate_18 (by decide) (by omega) (fun h18 => absurd h18 (by omega)) (fun h18 => ?_)
  refine g_iload_n X 3 d_Md_relate_21 rfl rfl ?_
  refine g_iconst (v := nI 4) X d_Md_relate_22 rfl ?_
  refine n_icmp_gt X 30 d_Md_relate_23 (by decide) (by omega) (by omega) (fun h23 => absurd h23 (by omega)) (fun h23 => ?_)
  refine g_iconst (v := nI 1) X d_Md_relate_26 rfl ?_
  refine g_goto X 31 d_Md_relate_27 (by decide) ?_
  refine g_aload_n X 0 d_Md_relate_31 rfl rfl ?_
  refine g_get (C := R_Md) (T := T_Md) (N := 22) X 0 2 in_Md rfl rfl (by decide) t3_149 rfl rfl d_Md_relate_32 ?_
  refine g_sipush (v := nI 200) X d_Md_relate_35 rfl ?_
  refine n_icmp_ge X 45 d_Md_relate_38 (by decide) (by omega) (by omega) (fun h38 => ?_) (fun h38 => absurd h38 (by omega))
  refine g_iconst (v := nI 0) X d_Md_relate_45 rfl ?_
  refine g_calliV (n := 2) X [.int (bI true), .int (bI false)] (k_Md_goes2 mo tw K R qa qb qk qu qn qx qo qf d qr gm qg qv d2 qs vv qc qm qw ) t3_223 t3_225 ts_11 t1_9 t3_226 rfl rfl (by decide +kernel) ⟨by decide, by decide⟩ [0] [] [] rfl rfl rfl rfl (by decide) 0 rfl rfl rfl rfl (Nat.le_of_ble_eq_true rfl) d_Md_relate_46 ⟨by decide, by decide⟩ (fun r3 w9u3 hw3 => ?_)
  subst hw3
  refine b_if_ne X 54 d_Md_relate_49 (by decide) (fun h49 => absurd h49 (by decide)) (fun h49 => ?_)
  refine g_iconst (v := nI 0) X d_Md_relate_52 rfl ?_
  exact g_iret X hA9 hQ9 hr9 hlk9 () [0] rfl rfl d_Md_relate_53 (rfl)

set_option maxHeartbeats 4000000 in
set_option maxRecDepth 100000 in
theorem k_Md_ring (mo : Nat) (tw : Int32) (K : Nat) (R : Nat) (qa : Nat) (qb : Nat) (qk : Nat) (qu : Nat) (qn : Nat) (qx : Nat) (qo : Nat) (qf : Nat) (d : Nat) (qr : Nat) (gm : Nat) (qg : Nat) (qv : Nat) (d2 : Nat) (qs : Nat) (vv : Nat) (qc : Nat) (qm : Nat) (qw : Nat) (FR : Nat → Nat) (k : Nat) (hk : k < d) (hd : d ≤ 48) : CtI l y_Md_ring (Cond.code y_Md_ring c_Md_ring 2 (some .int) :: TB) ({ frames := 1, cells := 0, slots := 0, locals := 22 } : Room) D (tysv cI cJ cZ cQ) [.ref mo, .int (nI k)] [(mo, .inr (8, [.int tw, .int (nI K), .int (nI R), .ref qa, .ref qb, .ref qk, .ref qu, .ref qn, .ref qx, .ref qo, .ref qf, .int (nI d), .ref qr, .int (nI gm), .ref qg, .ref qv, .int (nI d2), .ref qs, .int (nI vv), .ref qc, .ref qm, .ref qw])), (qr, .inl (cI, 48, .inl (nf FR)))] 0 0 (fun (r : Int32) (_ : Unit) => r = nI (FR k)) (fun (_ : Unit) => [(mo, .inr (8, [.int (nI 0), .int (nI K), .int (nI R), .ref qa, .ref qb, .ref qk, .ref qu, .ref qn, .ref qx, .ref qo, .ref qf, .int (nI d), .ref qr, .int (nI gm), .ref qg, .ref qv, .int (nI d2), .ref qs, .int (nI vv), .ref qc, .ref qm, .ref qw])), (qr, .inl (cI, 48, .inl (nf FR)))]) := by
  refine CtI.of c_Md_ring 2 (some .int) (by decide) rfl (Nat.le_of_ble_eq_true rfl) ?_
  intro p e s m args below meth c A Q hA9 hQ9 X hr9 hlk9 hin9
  refine g_aload_n X 0 d_Md_ring_0 rfl rfl ?_
  refine g_iload_n X 1 d_Md_ring_1 rfl rfl ?_
  refine n_if_lt X 9 d_Md_ring_2 (by decide) (by omega) (fun h2 => absurd h2 (by omega)) (fun h2 => ?_)
  refine g_iconst (v := nI 1) X d_Md_ring_5 rfl ?_
  refine g_goto X 10 d_Md_ring_6 (by decide) ?_
  refine g_iconst (v := nI 1) X d_Md_ring_10 rfl ?_
  refine g_calliV (n := 2) X [.int (bI true), .int (bI true)] (k_Md_goes mo tw K R qa qb qk qu qn qx qo qf d qr gm qg qv d2 qs vv qc qm qw ) t3_223 t3_225 ts_11 t1_9 t3_226 rfl rfl (by decide +kernel) ⟨by decide, by decide⟩ [0] [1] [(qr, .inl (cI, 48, .inl (nf FR)))] rfl rfl rfl rfl (by decide) 0 rfl rfl rfl rfl (Nat.le_of_ble_eq_true rfl) d_Md_ring_11 ⟨by decide, by decide⟩ (fun r1 w9u1 hw1 => ?_)
  subst hw1
  refine b_if_ne X 19 d_Md_ring_14 (by decide) (fun h14 => ?_) (fun h14 => absurd h14 (by decide))
  refine g_iload_n X 1 d_Md_ring_19 rfl rfl ?_
  refine g_aload_n X 0 d_Md_ring_20 rfl rfl ?_
  refine g_get (C := R_Md) (T := T_Md) (N := 22) X 1 11 in_Md rfl rfl (by decide) t3_158 rfl rfl d_Md_ring_21 ?_
  refine n_icmp_ge X 36 d_Md_ring_24 (by decide) (by omega) (by omega) (fun h24 => absurd h24 (by omega)) (fun h24 => ?_)
  refine g_aload_n X 0 d_Md_ring_27 rfl rfl ?_
  refine g_get (C := R_Md) (T := T_Md) (N := 22) X 1 12 in_Md rfl rfl (by decide) t3_159 rfl rfl d_Md_ring_28 ?_
  refine g_iload_n X 1 d_Md_ring_31 rfl rfl ?_
  refine g_ialdN X 0 0 rfl rfl (by omega) (by omega) d_Md_ring_32 ?_
  refine g_goto X 37 d_Md_ring_33 (by decide) ?_
  exact g_iret X hA9 hQ9 hr9 hlk9 () [1, 0] rfl rfl d_Md_ring_37 (rfl)

set_option maxHeartbeats 4000000 in
set_option maxRecDepth 100000 in
theorem k_Md_ringN (mo : Nat) (tw : Int32) (K : Nat) (R : Nat) (qa : Nat) (qb : Nat) (qk : Nat) (qu : Nat) (qn : Nat) (qx : Nat) (qo : Nat) (qf : Nat) (d : Nat) (qr : Nat) (gm : Nat) (qg : Nat) (qv : Nat) (d2 : Nat) (qs : Nat) (vv : Nat) (qc : Nat) (qm : Nat) (qw : Nat) (k : Nat) (hk : d ≤ k) (hk2 : k < 2 ^ 31) : CtI l y_Md_ring (Cond.code y_Md_ring c_Md_ring 2 (some .int) :: TB) ({ frames := 1, cells := 0, slots := 0, locals := 22 } : Room) D (tysv cI cJ cZ cQ) [.ref mo, .int (nI k)] [(mo, .inr (8, [.int tw, .int (nI K), .int (nI R), .ref qa, .ref qb, .ref qk, .ref qu, .ref qn, .ref qx, .ref qo, .ref qf, .int (nI d), .ref qr, .int (nI gm), .ref qg, .ref qv, .int (nI d2), .ref qs, .int (nI vv), .ref qc, .ref qm, .ref qw]))] 0 0 (fun (r : Int32) (_ : Unit) => r = -1) (fun (_ : Unit) => [(mo, .inr (8, [.int (nI 0), .int (nI K), .int (nI R), .ref qa, .ref qb, .ref qk, .ref qu, .ref qn, .ref qx, .ref qo, .ref qf, .int (nI d), .ref qr, .int (nI gm), .ref qg, .ref qv, .int (nI d2), .ref qs, .int (nI vv), .ref qc, .ref qm, .ref qw]))]) := by
  refine CtI.of c_Md_ring 2 (some .int) (by decide) rfl (Nat.le_of_ble_eq_true rfl) ?_
  intro p e s m args below meth c A Q hA9 hQ9 X hr9 hlk9 hin9
  refine g_aload_n X 0 d_Md_ring_0 rfl rfl ?_
  refine g_iload_n X 1 d_Md_ring_1 rfl rfl ?_
  refine n_if_lt X 9 d_Md_ring_2 (by decide) (by omega) (fun h2 => absurd h2 (by omega)) (fun h2 => ?_)
  refine g_iconst (v := nI 1) X d_Md_ring_5 rfl ?_
  refine g_goto X 10 d_Md_ring_6 (by decide) ?_
  refine g_iconst (v := nI 1) X d_Md_ring_10 rfl ?_
  refine g_calliV (n := 2) X [.int (bI true), .int (bI true)] (k_Md_goes mo tw K R qa qb qk qu qn qx qo qf d qr gm qg qv d2 qs vv qc qm qw ) t3_223 t3_225 ts_11 t1_9 t3_226 rfl rfl (by decide +kernel) ⟨by decide, by decide⟩ [0] [] [] rfl rfl rfl rfl (by decide) 0 rfl rfl rfl rfl (Nat.le_of_ble_eq_true rfl) d_Md_ring_11 ⟨by decide, by decide⟩ (fun r1 w9u1 hw1 => ?_)
  subst hw1
  refine b_if_ne X 19 d_Md_ring_14 (by decide) (fun h14 => ?_) (fun h14 => absurd h14 (by decide))
  refine g_iload_n X 1 d_Md_ring_19 rfl rfl ?_
  refine g_aload_n X 0 d_Md_ring_20 rfl rfl ?_
  refine g_get (C := R_Md) (T := T_Md) (N := 22) X 0 11 in_Md rfl rfl (by decide) t3_158 rfl rfl d_Md_ring_21 ?_
  refine n_icmp_ge X 36 d_Md_ring_24 (by decide) (by omega) (by omega) (fun h24 => ?_) (fun h24 => absurd h24 (by omega))
  refine g_iconst (v := -1) X d_Md_ring_36 rfl ?_
  exact g_iret X hA9 hQ9 hr9 hlk9 () [0] rfl rfl d_Md_ring_37 (rfl)

set_option maxHeartbeats 4000000 in
set_option maxRecDepth 100000 in
theorem k_Md_ringB (mo : Nat) (tw : Int32) (K : Nat) (R : Nat) (qa : Nat) (qb : Nat) (qk : Nat) (qu : Nat) (qn : Nat) (qx : Nat) (qo : Nat) (qf : Nat) (d : Nat) (qr : Nat) (gm : Nat) (qg : Nat) (qv : Nat) (d2 : Nat) (qs : Nat) (vv : Nat) (qc : Nat) (qm : Nat) (qw : Nat) (x : Int32) (hx : x < 0) : CtI l y_Md_ring (Cond.code y_Md_ring c_Md_ring 2 (some .int) :: TB) ({ frames := 1, cells := 0, slots := 0, locals := 22 } : Room) D (tysv cI cJ cZ cQ) [.ref mo, .int x] [(mo, .inr (8, [.int tw, .int (nI K), .int (nI R), .ref qa, .ref qb, .ref qk, .ref qu, .ref qn, .ref qx, .ref qo, .ref qf, .int (nI d), .ref qr, .int (nI gm), .ref qg, .ref qv, .int (nI d2), .ref qs, .int (nI vv), .ref qc, .ref qm, .ref qw]))] 0 0 (fun (r : Int32) (_ : Unit) => r = nI 0) (fun (_ : Unit) => [(mo, .inr (8, [.int (nI 1), .int (nI K), .int (nI R), .ref qa, .ref qb, .ref qk, .ref qu, .ref qn, .ref qx, .ref qo, .ref qf, .int (nI d), .ref qr, .int (nI gm), .ref qg, .ref qv, .int (nI d2), .ref qs, .int (nI vv), .ref qc, .ref qm, .ref qw]))]) := by
  refine CtI.of c_Md_ring 2 (some .int) (by decide) rfl (Nat.le_of_ble_eq_true rfl) ?_
  intro p e s m args below meth c A Q hA9 hQ9 X hr9 hlk9 hin9
  refine g_aload_n X 0 d_Md_ring_0 rfl rfl ?_
  refine g_iload_n X 1 d_Md_ring_1 rfl rfl ?_
  refine g_if_lt X 9 d_Md_ring_2 (by decide) (fun h2 => ?_) (fun h2 => absurd h2 (not_not_intro hx))
  refine g_iconst (v := nI 0) X d_Md_ring_9 rfl ?_
  refine g_iconst (v := nI 1) X d_Md_ring_10 rfl ?_
  refine g_calliV (n := 2) X [.int (bI false), .int (bI true)] (k_Md_goes1 mo tw K R qa qb qk qu qn qx qo qf d qr gm qg qv d2 qs vv qc qm qw true ) t3_223 t3_225 ts_11 t1_9 t3_226 rfl rfl (by decide +kernel) ⟨by decide, by decide⟩ [0] [] [] rfl rfl rfl rfl (by decide) 0 rfl rfl rfl rfl (Nat.le_of_ble_eq_true rfl) d_Md_ring_11 ⟨by decide, by decide⟩ (fun r1 w9u1 hw1 => ?_)
  subst hw1
  refine b_if_ne X 19 d_Md_ring_14 (by decide) (fun h14 => absurd h14 (by decide)) (fun h14 => ?_)
  refine g_iconst (v := nI 0) X d_Md_ring_17 rfl ?_
  exact g_iret X hA9 hQ9 hr9 hlk9 () [0] rfl rfl d_Md_ring_18 (rfl)

set_option maxHeartbeats 4000000 in
set_option maxRecDepth 100000 in
theorem k_Md_undo (mo : Nat) (tw : Int32) (K : Nat) (R : Nat) (qa : Nat) (qb : Nat) (qk : Nat) (qu : Nat) (qn : Nat) (qx : Nat) (qo : Nat) (qf : Nat) (d : Nat) (qr : Nat) (gm : Nat) (qg : Nat) (qv : Nat) (d2 : Nat) (qs : Nat) (vv : Nat) (qc : Nat) (qm : Nat) (qw : Nat) (Fa : Nat → Nat) (Fb : Nat → Nat) (Fk : Nat → Nat) (UN : Nat → Bool) (M : Nat → Nat) (AB : Nat → Bool) (OV : Nat → Bool) (j : Nat) (hK : K ≤ 48) (hR : R ≤ 200) (hr : ∀ r, r < R → Fa r < K ∧ Fb r < K) (hk4 : ∀ r, r < R → Fk r ≤ 4) (hj : j < R) : CtI l y_Md_undo (Cond.code y_Md_undo c_Md_undo 3 (some .boolean) :: TB) ({ frames := 2, cells := 0, slots := 0, locals := 48 } : Room) D (tysv cI cJ cZ cQ) [.ref mo, .int (nI j)] [(mo, .inr (8, [.int tw, .int (nI K), .int (nI R), .ref qa, .ref qb, .ref qk, .ref qu, .ref qn, .ref qx, .ref qo, .ref qf, .int (nI d), .ref qr, .int (nI gm), .ref qg, .ref qv, .int (nI d2), .ref qs, .int (nI vv), .ref qc, .ref qm, .ref qw])), (qa, .inl (cI, 200, .inl (nf Fa))), (qb, .inl (cI, 200, .inl (nf Fb))), (qk, .inl (cI, 200, .inl (nf Fk))), (qu, .inl (cZ, 200, .inl (zf UN))), (qn, .inl (cI, 48, .inl (nf M))), (qx, .inl (cZ, 2304, .inl (zf AB))), (qo, .inl (cZ, 2304, .inl (zf OV)))] 0 0 (fun (r : Int32) (u : (Nat → Nat) × (Nat → Bool) × (Nat → Bool)) => r = bI (!UN j) ∧ (∀ z, z < K → u.1 z = (jnum Fa Fb (eqm (updB UN j true) Fk) R) z) ∧ tbI u.2.1 (jst Fa Fb (jnum Fa Fb (eqm (updB UN j true) Fk) R) (abm (updB UN j true) Fk) R) ∧ tbI u.2.2 (gwar (jst Fa Fb (jnum Fa Fb (eqm (updB UN j true) Fk) R) (abm (updB UN j true) Fk) R) 48)) (fun (u : (Nat → Nat) × (Nat → Bool) × (Nat → Bool)) => [(mo, .inr (8, [.int (nI 0), .int (nI K), .int (nI R), .ref qa, .ref qb, .ref qk, .ref qu, .ref qn, .ref qx, .ref qo, .ref qf, .int (nI d), .ref qr, .int (nI gm), .ref qg, .ref qv, .int (nI d2), .ref qs, .int (nI vv), .ref qc, .ref qm, .ref qw])), (qa, .inl (cI, 200, .inl (nf Fa))), (qb, .inl (cI, 200, .inl (nf Fb))), (qk, .inl (cI, 200, .inl (nf Fk))), (qu, .inl (cZ, 200, .inl (zf (updB UN j true)))), (qn, .inl (cI, 48, .inl (nf u.1))), (qx, .inl (cZ, 2304, .inl (zf u.2.1))), (qo, .inl (cZ, 2304, .inl (zf u.2.2)))]) := by
  refine CtI.of c_Md_undo 3 (some .boolean) (by decide) rfl (Nat.le_of_ble_eq_true rfl) ?_
  intro p e s m args below meth c A Q hA9 hQ9 X hr9 hlk9 hin9
  refine g_aload_n X 0 d_Md_undo_0 rfl rfl ?_
  refine g_iload_n X 1 d_Md_undo_1 rfl rfl ?_
  refine n_if_lt X 17 d_Md_undo_2 (by decide) (by omega) (fun h2 => absurd h2 (by omega)) (fun h2 => ?_)
  refine g_iload_n X 1 d_Md_undo_5 rfl rfl ?_
  refine g_aload_n X 0 d_Md_undo_6 rfl rfl ?_
  refine g_get (C := R_Md) (T := T_Md) (N := 22) X 0 2 in_Md rfl rfl (by decide) t3_149 rfl rfl d_Md_undo_7 ?_
  refine n_icmp_ge X 17 d_Md_undo_10 (by decide) (by omega) (by omega) (fun h10 => absurd h10 (by omega)) (fun h10 => ?_)
  refine g_iconst (v := nI 1) X d_Md_undo_13 rfl ?_
  refine g_goto X 18 d_Md_undo_14 (by decide) ?_
  refine g_iconst (v := nI 1) X d_Md_undo_18 rfl ?_
  refine g_calliV (n := 2) X [.int (bI true), .int (bI true)] (k_Md_goes mo tw K R qa qb qk qu qn qx qo qf d qr gm qg qv d2 qs vv qc qm qw ) t3_223 t3_225 ts_11 t1_9 t3_226 rfl rfl (by decide +kernel) ⟨by decide, by decide⟩ [0] [1, 2, 3, 4, 5, 6, 7] [(qa, .inl (cI, 200, .inl (nf Fa))), (qb, .inl (cI, 200, .inl (nf Fb))), (qk, .inl (cI, 200, .inl (nf Fk))), (qu, .inl (cZ, 200, .inl (zf UN))), (qn, .inl (cI, 48, .inl (nf M))), (qx, .inl (cZ, 2304, .inl (zf AB))), (qo, .inl (cZ, 2304, .inl (zf OV)))] rfl rfl rfl rfl (by decide) 0 rfl rfl rfl rfl (Nat.le_of_ble_eq_true rfl) d_Md_undo_19 ⟨by decide, by decide⟩ (fun r1 w9u1 hw1 => ?_)
  subst hw1
  refine b_if_ne X 27 d_Md_undo_22 (by decide) (fun h22 => ?_) (fun h22 => absurd h22 (by decide))
  refine g_aload_n X 0 d_Md_undo_27 rfl rfl ?_
  refine g_get (C := R_Md) (T := T_Md) (N := 22) X 7 6 in_Md rfl rfl (by decide) t3_153 rfl rfl d_Md_undo_28 ?_
  refine g_iload_n X 1 d_Md_undo_31 rfl rfl ?_
  refine g_zaldB X 3 2 rfl rfl (by omega) (by omega) d_Md_undo_32 ?_
  refine g_istore_n X [(2, .int (bI (UN j))), (0, .ref mo), (1, .int (nI j))] d_Md_undo_33 rfl (by decide) rfl ?_
  refine g_aload_n X 0 d_Md_undo_34 rfl rfl ?_
  refine g_get (C := R_Md) (T := T_Md) (N := 22) X 7 6 in_Md rfl rfl (by decide) t3_153 rfl rfl d_Md_undo_35 ?_
  refine g_iload_n X 1 d_Md_undo_38 rfl rfl ?_
  refine g_iconst (v := nI 1) X d_Md_undo_39 rfl ?_
  refine g_topE (show nI 1 = bI true from rfl) ?_
  refine g_zastB X 3 2 [(qa, .inl (cI, 200, .inl (nf Fa))), (qb, .inl (cI, 200, .inl (nf Fb))), (qk, .inl (cI, 200, .inl (nf Fk))), (qu, .inl (cZ, 200, .inl (zf (updB UN j true)))), (qn, .inl (cI, 48, .inl (nf M))), (qx, .inl (cZ, 2304, .inl (zf AB))), (qo, .inl (cZ, 2304, .inl (zf OV))), (mo, .inr (8, [.int (nI 0), .int (nI K), .int (nI R), .ref qa, .ref qb, .ref qk, .ref qu, .ref qn, .ref qx, .ref qo, .ref qf, .int (nI d), .ref qr, .int (nI gm), .ref qg, .ref qv, .int (nI d2), .ref qs, .int (nI vv), .ref qc, .ref qm, .ref qw]))] rfl rfl (by omega) (by omega) rfl d_Md_undo_40 ?_
  refine g_aload_n X 0 d_Md_undo_41 rfl rfl ?_
  refine g_callvV (n := 0) X [] (k_Md_renew mo (nI 0) K R qa qb qk qu qn qx qo qf d qr gm qg qv d2 qs vv qc qm qw Fa Fb Fk (updB UN j true) M AB OV (by omega) (by omega) (hr) (hk4)) t3_227 t3_229 ts_12 t1_9 t3_230 rfl rfl (by decide +kernel) ⟨by decide, by decide⟩ [7, 0, 1, 2, 3, 4, 5, 6] [] [] rfl rfl rfl rfl (by decide) 0 rfl rfl rfl rfl (Nat.le_of_ble_eq_true rfl) d_Md_undo_42 ⟨by decide, by decide⟩ (fun ⟨M9_2, AB9_2, OV9_2⟩ hrn => ?_)
  refine g_iload_n X 2 d_Md_undo_45 rfl rfl ?_
  refine b_if_ne X 53 d_Md_undo_46 (by decide) (fun h46 => ?_) (fun h46 => ?_)
  · refine g_iconst (v := nI 0) X d_Md_undo_53 rfl ?_
    exact g_zret X hA9 hQ9 hr9 (by first | exact Or.inl rfl | exact Or.inr rfl) hlk9 ⟨M9_2, AB9_2, OV9_2⟩ [0, 1, 2, 3, 4, 5, 6, 7] rfl rfl d_Md_undo_54 (by (try dsimp only); exact (⟨by rw [h46]; rfl, hrn⟩))
  · refine g_iconst (v := nI 1) X d_Md_undo_49 rfl ?_
    refine g_goto X 54 d_Md_undo_50 (by decide) ?_
    exact g_zret X hA9 hQ9 hr9 (by first | exact Or.inl rfl | exact Or.inr rfl) hlk9 ⟨M9_2, AB9_2, OV9_2⟩ [0, 1, 2, 3, 4, 5, 6, 7] rfl rfl d_Md_undo_54 (by (try dsimp only); exact (⟨by rw [h46]; rfl, hrn⟩))

set_option maxHeartbeats 4000000 in
set_option maxRecDepth 100000 in
theorem k_Md_undoB (mo : Nat) (tw : Int32) (K : Nat) (R : Nat) (qa : Nat) (qb : Nat) (qk : Nat) (qu : Nat) (qn : Nat) (qx : Nat) (qo : Nat) (qf : Nat) (d : Nat) (qr : Nat) (gm : Nat) (qg : Nat) (qv : Nat) (d2 : Nat) (qs : Nat) (vv : Nat) (qc : Nat) (qm : Nat) (qw : Nat) (x : Int32) (hR2 : R ≤ 200) (hx : badI R x) : CtI l y_Md_undo (Cond.code y_Md_undo c_Md_undo 3 (some .boolean) :: TB) ({ frames := 1, cells := 0, slots := 0, locals := 22 } : Room) D (tysv cI cJ cZ cQ) [.ref mo, .int x] [(mo, .inr (8, [.int tw, .int (nI K), .int (nI R), .ref qa, .ref qb, .ref qk, .ref qu, .ref qn, .ref qx, .ref qo, .ref qf, .int (nI d), .ref qr, .int (nI gm), .ref qg, .ref qv, .int (nI d2), .ref qs, .int (nI vv), .ref qc, .ref qm, .ref qw]))] 0 0 (fun (r : Int32) (_ : Unit) => r = bI false) (fun (_ : Unit) => [(mo, .inr (8, [.int (nI 1), .int (nI K), .int (nI R), .ref qa, .ref qb, .ref qk, .ref qu, .ref qn, .ref qx, .ref qo, .ref qf, .int (nI d), .ref qr, .int (nI gm), .ref qg, .ref qv, .int (nI d2), .ref qs, .int (nI vv), .ref qc, .ref qm, .ref qw]))]) := by
  refine CtI.of c_Md_undo 3 (some .boolean) (by decide) rfl (Nat.le_of_ble_eq_true rfl) ?_
  intro p e s m args below meth c A Q hA9 hQ9 X hr9 hlk9 hin9
  refine g_aload_n X 0 d_Md_undo_0 rfl rfl ?_
  refine g_iload_n X 1 d_Md_undo_1 rfl rfl ?_
  refine g_if_lt X 17 d_Md_undo_2 (by decide) (fun h2 => ?_) (fun h2 => ?_)
  · refine g_iconst (v := nI 0) X d_Md_undo_17 rfl ?_
    refine g_iconst (v := nI 1) X d_Md_undo_18 rfl ?_
    refine g_calliV (n := 2) X [.int (bI false), .int (bI true)] (k_Md_goes1 mo tw K R qa qb qk qu qn qx qo qf d qr gm qg qv d2 qs vv qc qm qw true ) t3_223 t3_225 ts_11 t1_9 t3_226 rfl rfl (by decide +kernel) ⟨by decide, by decide⟩ [0] [] [] rfl rfl rfl rfl (by decide) 0 rfl rfl rfl rfl (Nat.le_of_ble_eq_true rfl) d_Md_undo_19 ⟨by decide, by decide⟩ (fun r1 w9u1 hw1 => ?_)
    subst hw1
    refine b_if_ne X 27 d_Md_undo_22 (by decide) (fun h22 => absurd h22 (by decide)) (fun h22 => ?_)
    refine g_iconst (v := nI 0) X d_Md_undo_25 rfl ?_
    exact g_zret X hA9 hQ9 hr9 (by first | exact Or.inl rfl | exact Or.inr rfl) hlk9 () [0] rfl rfl d_Md_undo_26 (rfl)
  · refine g_iload_n X 1 d_Md_undo_5 rfl rfl ?_
    refine g_aload_n X 0 d_Md_undo_6 rfl rfl ?_
    refine g_get (C := R_Md) (T := T_Md) (N := 22) X 0 2 in_Md rfl rfl (by decide) t3_149 rfl rfl d_Md_undo_7 ?_
    refine g_icmp_ge X 17 d_Md_undo_10 (by decide) (fun h10 => ?_) (fun h10 => absurd h10 (not_not_intro (hx.resolve_left h2)))
    refine g_iconst (v := nI 0) X d_Md_undo_17 rfl ?_
    refine g_iconst (v := nI 1) X d_Md_undo_18 rfl ?_
    refine g_calliV (n := 2) X [.int (bI false), .int (bI true)] (k_Md_goes1 mo tw K R qa qb qk qu qn qx qo qf d qr gm qg qv d2 qs vv qc qm qw true ) t3_223 t3_225 ts_11 t1_9 t3_226 rfl rfl (by decide +kernel) ⟨by decide, by decide⟩ [0] [] [] rfl rfl rfl rfl (by decide) 0 rfl rfl rfl rfl (Nat.le_of_ble_eq_true rfl) d_Md_undo_19 ⟨by decide, by decide⟩ (fun r2 w9u2 hw2 => ?_)
    subst hw2
    refine b_if_ne X 27 d_Md_undo_22 (by decide) (fun h22 => absurd h22 (by decide)) (fun h22 => ?_)
    refine g_iconst (v := nI 0) X d_Md_undo_25 rfl ?_
    exact g_zret X hA9 hQ9 hr9 (by first | exact Or.inl rfl | exact Or.inr rfl) hlk9 () [0] rfl rfl d_Md_undo_26 (rfl)

set_option maxHeartbeats 4000000 in
set_option maxRecDepth 100000 in
theorem k_Md_orderB (mo : Nat) (tw : Int32) (K : Nat) (R : Nat) (qa : Nat) (qb : Nat) (qk : Nat) (qu : Nat) (qn : Nat) (qx : Nat) (qo : Nat) (qf : Nat) (d : Nat) (qr : Nat) (gm : Nat) (qg : Nat) (qv : Nat) (d2 : Nat) (qs : Nat) (vv : Nat) (qc : Nat) (qm : Nat) (qw : Nat) (x : Int32) (y : Int32) (hK : K ≤ 48) (hB : badI K x ∨ ((∃ i, i < K ∧ x = nI i) ∧ badI K y)) : CtI l y_Md_order (Cond.code y_Md_order c_Md_order 3 (some .int) :: TB) ({ frames := 1, cells := 0, slots := 0, locals := 22 } : Room) D (tysv cI cJ cZ cQ) [.ref mo, .int x, .int y] [(mo, .inr (8, [.int tw, .int (nI K), .int (nI R), .ref qa, .ref qb, .ref qk, .ref qu, .ref qn, .ref qx, .ref qo, .ref qf, .int (nI d), .ref qr, .int (nI gm), .ref qg, .ref qv, .int (nI d2), .ref qs, .int (nI vv), .ref qc, .ref qm, .ref qw]))] 0 0 (fun (r : Int32) (_ : Unit) => r = nI 0) (fun (_ : Unit) => [(mo, .inr (8, [.int (nI 1), .int (nI K), .int (nI R), .ref qa, .ref qb, .ref qk, .ref qu, .ref qn, .ref qx, .ref qo, .ref qf, .int (nI d), .ref qr, .int (nI gm), .ref qg, .ref qv, .int (nI d2), .ref qs, .int (nI vv), .ref qc, .ref qm, .ref qw]))]) := by
  refine CtI.of c_Md_order 3 (some .int) (by decide) rfl (Nat.le_of_ble_eq_true rfl) ?_
  intro p e s m args below meth c A Q hA9 hQ9 X hr9 hlk9 hin9
  rcases hB with b1 | ⟨⟨i, hi, rfl⟩, b1⟩
  · have b2 := b1
    refine g_aload_n X 0 d_Md_order_0 rfl rfl ?_
    refine g_aload_n X 0 d_Md_order_1 rfl rfl ?_
    refine g_iload_n X 1 d_Md_order_2 rfl rfl ?_
    refine g_calliV (n := 1) X [.int x] (k_Md_isContextN mo tw K R qa qb qk qu qn qx qo qf d qr gm qg qv d2 qs vv qc qm qw x (by omega) (b1)) t3_239 t4_1 ts_14 t1_9 t4_2 rfl rfl (by decide +kernel) ⟨by decide, by decide⟩ [0] [] [] rfl rfl rfl rfl (by decide) 0 rfl rfl rfl rfl (Nat.le_of_ble_eq_true rfl) d_Md_order_3 ⟨by decide, by decide⟩ (fun r1 w9u1 hw1 => ?_)
    subst hw1
    refine b_if_eq X 21 d_Md_order_6 (by decide) (fun h6 => ?_) (fun h6 => absurd h6 (by decide))
    refine g_iconst (v := nI 0) X d_Md_order_21 rfl ?_
    refine g_iconst (v := nI 1) X d_Md_order_22 rfl ?_
    refine g_calliV (n := 2) X [.int (bI false), .int (bI true)] (k_Md_goes1 mo tw K R qa qb qk qu qn qx qo qf d qr gm qg qv d2 qs vv qc qm qw true ) t3_223 t3_225 ts_11 t1_9 t3_226 rfl rfl (by decide +kernel) ⟨by decide, by decide⟩ [0] [] [] rfl rfl rfl rfl (by decide) 0 rfl rfl rfl rfl (Nat.le_of_ble_eq_true rfl) d_Md_order_23 ⟨by decide, by decide⟩ (fun r2 w9u2 hw2 => ?_)
    subst hw2
    refine b_if_ne X 31 d_Md_order_26 (by decide) (fun h26 => absurd h26 (by decide)) (fun h26 => ?_)
    refine g_iconst (v := nI 0) X d_Md_order_29 rfl ?_
    exact g_iret X hA9 hQ9 hr9 hlk9 () [0] rfl rfl d_Md_order_30 (rfl)
  · have b2 := b1
    refine g_aload_n X 0 d_Md_order_0 rfl rfl ?_
    refine g_aload_n X 0 d_Md_order_1 rfl rfl ?_
    refine g_iload_n X 1 d_Md_order_2 rfl rfl ?_
    refine g_calliV (n := 1) X [.int (nI i)] (k_Md_isContext mo tw K R qa qb qk qu qn qx qo qf d qr gm qg qv d2 qs vv qc qm qw i (by omega) (by omega)) t3_239 t4_1 ts_14 t1_9 t4_2 rfl rfl (by decide +kernel) ⟨by decide, by decide⟩ [0] [] [] rfl rfl rfl rfl (by decide) 0 rfl rfl rfl rfl (Nat.le_of_ble_eq_true rfl) d_Md_order_3 ⟨by decide, by decide⟩ (fun r3 w9u3 hw3 => ?_)
    subst hw3
    refine b_if_eq X 21 d_Md_order_6 (by decide) (fun h6 => absurd h6 (by decide)) (fun h6 => ?_)
    refine g_aload_n X 0 d_Md_order_9 rfl rfl ?_
    refine g_iload_n X 2 d_Md_order_10 rfl rfl ?_
    refine g_calliV (n := 1) X [.int y] (k_Md_isContextN mo tw K R qa qb qk qu qn qx qo qf d qr gm qg qv d2 qs vv qc qm qw y (by omega) (b1)) t3_239 t4_1 ts_14 t1_9 t4_2 rfl rfl (by decide +kernel) ⟨by decide, by decide⟩ [0] [] [] rfl rfl rfl rfl (by decide) 0 rfl rfl rfl rfl (Nat.le_of_ble_eq_true rfl) d_Md_order_11 ⟨by decide, by decide⟩ (fun r4 w9u4 hw4 => ?_)
    subst hw4
    refine b_if_eq X 21 d_Md_order_14 (by decide) (fun h14 => ?_) (fun h14 => absurd h14 (by decide))
    refine g_iconst (v := nI 0) X d_Md_order_21 rfl ?_
    refine g_iconst (v := nI 1) X d_Md_order_22 rfl ?_
    refine g_calliV (n := 2) X [.int (bI false), .int (bI true)] (k_Md_goes1 mo tw K R qa qb qk qu qn qx qo qf d qr gm qg qv d2 qs vv qc qm qw true ) t3_223 t3_225 ts_11 t1_9 t3_226 rfl rfl (by decide +kernel) ⟨by decide, by decide⟩ [0] [] [] rfl rfl rfl rfl (by decide) 0 rfl rfl rfl rfl (Nat.le_of_ble_eq_true rfl) d_Md_order_23 ⟨by decide, by decide⟩ (fun r5 w9u5 hw5 => ?_)
    subst hw5
    refine b_if_ne X 31 d_Md_order_26 (by decide) (fun h26 => absurd h26 (by decide)) (fun h26 => ?_)
    refine g_iconst (v := nI 0) X d_Md_order_29 rfl ?_
    exact g_iret X hA9 hQ9 hr9 hlk9 () [0] rfl rfl d_Md_order_30 (rfl)

set_option maxHeartbeats 4000000 in
set_option maxRecDepth 100000 in
theorem k_Md_contemporaryB (mo : Nat) (tw : Int32) (K : Nat) (R : Nat) (qa : Nat) (qb : Nat) (qk : Nat) (qu : Nat) (qn : Nat) (qx : Nat) (qo : Nat) (qf : Nat) (d : Nat) (qr : Nat) (gm : Nat) (qg : Nat) (qv : Nat) (d2 : Nat) (qs : Nat) (vv : Nat) (qc : Nat) (qm : Nat) (qw : Nat) (x : Int32) (y : Int32) (hK : K ≤ 48) (hB : badI K x ∨ ((∃ i, i < K ∧ x = nI i) ∧ badI K y)) : CtI l y_Md_contemporary (Cond.code y_Md_contemporary c_Md_contemporary 9 (some .boolean) :: TB) ({ frames := 1, cells := 0, slots := 0, locals := 22 } : Room) D (tysv cI cJ cZ cQ) [.ref mo, .int x, .int y] [(mo, .inr (8, [.int tw, .int (nI K), .int (nI R), .ref qa, .ref qb, .ref qk, .ref qu, .ref qn, .ref qx, .ref qo, .ref qf, .int (nI d), .ref qr, .int (nI gm), .ref qg, .ref qv, .int (nI d2), .ref qs, .int (nI vv), .ref qc, .ref qm, .ref qw]))] 0 0 (fun (r : Int32) (_ : Unit) => r = bI false) (fun (_ : Unit) => [(mo, .inr (8, [.int (nI 1), .int (nI K), .int (nI R), .ref qa, .ref qb, .ref qk, .ref qu, .ref qn, .ref qx, .ref qo, .ref qf, .int (nI d), .ref qr, .int (nI gm), .ref qg, .ref qv, .int (nI d2), .ref qs, .int (nI vv), .ref qc, .ref qm, .ref qw]))]) := by
  refine CtI.of c_Md_contemporary 9 (some .boolean) (by decide) rfl (Nat.le_of_ble_eq_true rfl) ?_
  intro p e s m args below meth c A Q hA9 hQ9 X hr9 hlk9 hin9
  rcases hB with b1 | ⟨⟨i, hi, rfl⟩, b1⟩
  · have b2 := b1
    refine g_aload_n X 0 d_Md_contemporary_0 rfl rfl ?_
    refine g_aload_n X 0 d_Md_contemporary_1 rfl rfl ?_
    refine g_iload_n X 1 d_Md_contemporary_2 rfl rfl ?_
    refine g_calliV (n := 1) X [.int x] (k_Md_isContextN mo tw K R qa qb qk qu qn qx qo qf d qr gm qg qv d2 qs vv qc qm qw x (by omega) (b1)) t3_239 t4_1 ts_14 t1_9 t4_2 rfl rfl (by decide +kernel) ⟨by decide, by decide⟩ [0] [] [] rfl rfl rfl rfl (by decide) 0 rfl rfl rfl rfl (Nat.le_of_ble_eq_true rfl) d_Md_contemporary_3 ⟨by decide, by decide⟩ (fun r1 w9u1 hw1 => ?_)
    subst hw1
    refine b_if_eq X 21 d_Md_contemporary_6 (by decide) (fun h6 => ?_) (fun h6 => absurd h6 (by decide))
    refine g_iconst (v := nI 0) X d_Md_contemporary_21 rfl ?_
    refine g_iconst (v := nI 1) X d_Md_contemporary_22 rfl ?_
    refine g_calliV (n := 2) X [.int (bI false), .int (bI true)] (k_Md_goes1 mo tw K R qa qb qk qu qn qx qo qf d qr gm qg qv d2 qs vv qc qm qw true ) t3_223 t3_225 ts_11 t1_9 t3_226 rfl rfl (by decide +kernel) ⟨by decide, by decide⟩ [0] [] [] rfl rfl rfl rfl (by decide) 0 rfl rfl rfl rfl (Nat.le_of_ble_eq_true rfl) d_Md_contemporary_23 ⟨by decide, by decide⟩ (fun r2 w9u2 hw2 => ?_)
    subst hw2
    refine b_if_ne X 31 d_Md_contemporary_26 (by decide) (fun h26 => absurd h26 (by decide)) (fun h26 => ?_)
    refine g_iconst (v := nI 0) X d_Md_contemporary_29 rfl ?_
    exact g_zret X hA9 hQ9 hr9 (by first | exact Or.inl rfl | exact Or.inr rfl) hlk9 () [0] rfl rfl d_Md_contemporary_30 (rfl)
  · have b2 := b1
    refine g_aload_n X 0 d_Md_contemporary_0 rfl rfl ?_
    refine g_aload_n X 0 d_Md_contemporary_1 rfl rfl ?_
    refine g_iload_n X 1 d_Md_contemporary_2 rfl rfl ?_
    refine g_calliV (n := 1) X [.int (nI i)] (k_Md_isContext mo tw K R qa qb qk qu qn qx qo qf d qr gm qg qv d2 qs vv qc qm qw i (by omega) (by omega)) t3_239 t4_1 ts_14 t1_9 t4_2 rfl rfl (by decide +kernel) ⟨by decide, by decide⟩ [0] [] [] rfl rfl rfl rfl (by decide) 0 rfl rfl rfl rfl (Nat.le_of_ble_eq_true rfl) d_Md_contemporary_3 ⟨by decide, by decide⟩ (fun r3 w9u3 hw3 => ?_)
    subst hw3
    refine b_if_eq X 21 d_Md_contemporary_6 (by decide) (fun h6 => absurd h6 (by decide)) (fun h6 => ?_)
    refine g_aload_n X 0 d_Md_contemporary_9 rfl rfl ?_
    refine g_iload_n X 2 d_Md_contemporary_10 rfl rfl ?_
    refine g_calliV (n := 1) X [.int y] (k_Md_isContextN mo tw K R qa qb qk qu qn qx qo qf d qr gm qg qv d2 qs vv qc qm qw y (by omega) (b1)) t3_239 t4_1 ts_14 t1_9 t4_2 rfl rfl (by decide +kernel) ⟨by decide, by decide⟩ [0] [] [] rfl rfl rfl rfl (by decide) 0 rfl rfl rfl rfl (Nat.le_of_ble_eq_true rfl) d_Md_contemporary_11 ⟨by decide, by decide⟩ (fun r4 w9u4 hw4 => ?_)
    subst hw4
    refine b_if_eq X 21 d_Md_contemporary_14 (by decide) (fun h14 => ?_) (fun h14 => absurd h14 (by decide))
    refine g_iconst (v := nI 0) X d_Md_contemporary_21 rfl ?_
    refine g_iconst (v := nI 1) X d_Md_contemporary_22 rfl ?_
    refine g_calliV (n := 2) X [.int (bI false), .int (bI true)] (k_Md_goes1 mo tw K R qa qb qk qu qn qx qo qf d qr gm qg qv d2 qs vv qc qm qw true ) t3_223 t3_225 ts_11 t1_9 t3_226 rfl rfl (by decide +kernel) ⟨by decide, by decide⟩ [0] [] [] rfl rfl rfl rfl (by decide) 0 rfl rfl rfl rfl (Nat.le_of_ble_eq_true rfl) d_Md_contemporary_23 ⟨by decide, by decide⟩ (fun r5 w9u5 hw5 => ?_)
    subst hw5
    refine b_if_ne X 31 d_Md_contemporary_26 (by decide) (fun h26 => absurd h26 (by decide)) (fun h26 => ?_)
    refine g_iconst (v := nI 0) X d_Md_contemporary_29 rfl ?_
    exact g_zret X hA9 hQ9 hr9 (by first | exact Or.inl rfl | exact Or.inr rfl) hlk9 () [0] rfl rfl d_Md_contemporary_30 (rfl)

set_option maxHeartbeats 4000000 in
set_option maxRecDepth 100000 in
theorem k_Md_order (mo : Nat) (tw : Int32) (K : Nat) (R : Nat) (qa : Nat) (qb : Nat) (qk : Nat) (qu : Nat) (qn : Nat) (qx : Nat) (qo : Nat) (qf : Nat) (d : Nat) (qr : Nat) (gm : Nat) (qg : Nat) (qv : Nat) (d2 : Nat) (qs : Nat) (vv : Nat) (qc : Nat) (qm : Nat) (qw : Nat) (M : Nat → Nat) (OV : Nat → Bool) (i : Nat) (j : Nat) (hK : K ≤ 48) (hi : i < K) (hj : j < K) (l1 : M i < 48) (l2 : M j < 48) : CtI l y_Md_order (Cond.code y_Md_order c_Md_order 3 (some .int) :: TB) ({ frames := 1, cells := 0, slots := 0, locals := 22 } : Room) D (tysv cI cJ cZ cQ) [.ref mo, .int (nI i), .int (nI j)] [(mo, .inr (8, [.int tw, .int (nI K), .int (nI R), .ref qa, .ref qb, .ref qk, .ref qu, .ref qn, .ref qx, .ref qo, .ref qf, .int (nI d), .ref qr, .int (nI gm), .ref qg, .ref qv, .int (nI d2), .ref qs, .int (nI vv), .ref qc, .ref qm, .ref qw])), (qn, .inl (cI, 48, .inl (nf M))), (qo, .inl (cZ, 2304, .inl (zf OV)))] 0 0 (fun (r : Int32) (_ : Unit) => r = (if OV (48 * M i + M j) = true then 1 else if OV (48 * M j + M i) = true then -1 else 0)) (fun (_ : Unit) => [(mo, .inr (8, [.int (nI 0), .int (nI K), .int (nI R), .ref qa, .ref qb, .ref qk, .ref qu, .ref qn, .ref qx, .ref qo, .ref qf, .int (nI d), .ref qr, .int (nI gm), .ref qg, .ref qv, .int (nI d2), .ref qs, .int (nI vv), .ref qc, .ref qm, .ref qw])), (qn, .inl (cI, 48, .inl (nf M))), (qo, .inl (cZ, 2304, .inl (zf OV)))]) := by
  refine CtI.of c_Md_order 3 (some .int) (by decide) rfl (Nat.le_of_ble_eq_true rfl) ?_
  intro p e s m args below meth c A Q hA9 hQ9 X hr9 hlk9 hin9
  refine g_aload_n X 0 d_Md_order_0 rfl rfl ?_
  refine g_aload_n X 0 d_Md_order_1 rfl rfl ?_
  refine g_iload_n X 1 d_Md_order_2 rfl rfl ?_
  refine g_calliV (n := 1) X [.int (nI i)] (k_Md_isContext mo tw K R qa qb qk qu qn qx qo qf d qr gm qg qv d2 qs vv qc qm qw i (by omega) (by omega)) t3_239 t4_1 ts_14 t1_9 t4_2 rfl rfl (by decide +kernel) ⟨by decide, by decide⟩ [0] [1, 2] [(qn, .inl (cI, 48, .inl (nf M))), (qo, .inl (cZ, 2304, .inl (zf OV)))] rfl rfl rfl rfl (by decide) 0 rfl rfl rfl rfl (Nat.le_of_ble_eq_true rfl) d_Md_order_3 ⟨by decide, by decide⟩ (fun r1 w9u1 hw1 => ?_)
  subst hw1
  refine b_if_eq X 21 d_Md_order_6 (by decide) (fun h6 => absurd h6 (by decide)) (fun h6 => ?_)
  refine g_aload_n X 0 d_Md_order_9 rfl rfl ?_
  refine g_iload_n X 2 d_Md_order_10 rfl rfl ?_
  refine g_calliV (n := 1) X [.int (nI j)] (k_Md_isContext mo tw K R qa qb qk qu qn qx qo qf d qr gm qg qv d2 qs vv qc qm qw j (by omega) (by omega)) t3_239 t4_1 ts_14 t1_9 t4_2 rfl rfl (by decide +kernel) ⟨by decide, by decide⟩ [2] [0, 1] [(qn, .inl (cI, 48, .inl (nf M))), (qo, .inl (cZ, 2304, .inl (zf OV)))] rfl rfl rfl rfl (by decide) 0 rfl rfl rfl rfl (Nat.le_of_ble_eq_true rfl) d_Md_order_11 ⟨by decide, by decide⟩ (fun r2 w9u2 hw2 => ?_)
  subst hw2
  refine b_if_eq X 21 d_Md_order_14 (by decide) (fun h14 => absurd h14 (by decide)) (fun h14 => ?_)
  refine g_iconst (v := nI 1) X d_Md_order_17 rfl ?_
  refine g_goto X 22 d_Md_order_18 (by decide) ?_
  refine g_iconst (v := nI 1) X d_Md_order_22 rfl ?_
  refine g_calliV (n := 2) X [.int (bI true), .int (bI true)] (k_Md_goes mo tw K R qa qb qk qu qn qx qo qf d qr gm qg qv d2 qs vv qc qm qw ) t3_223 t3_225 ts_11 t1_9 t3_226 rfl rfl (by decide +kernel) ⟨by decide, by decide⟩ [2] [0, 1] [(qn, .inl (cI, 48, .inl (nf M))), (qo, .inl (cZ, 2304, .inl (zf OV)))] rfl rfl rfl rfl (by decide) 0 rfl rfl rfl rfl (Nat.le_of_ble_eq_true rfl) d_Md_order_23 ⟨by decide, by decide⟩ (fun r3 w9u3 hw3 => ?_)
  subst hw3
  refine b_if_ne X 31 d_Md_order_26 (by decide) (fun h26 => ?_) (fun h26 => absurd h26 (by decide))
  refine g_aload_n X 0 d_Md_order_31 rfl rfl ?_
  refine g_get (C := R_Md) (T := T_Md) (N := 22) X 2 9 in_Md rfl rfl (by decide) t3_156 rfl rfl d_Md_order_32 ?_
  refine g_bipush (v := nI 48) X d_Md_order_35 rfl ?_
  refine g_aload_n X 0 d_Md_order_37 rfl rfl ?_
  refine g_get (C := R_Md) (T := T_Md) (N := 22) X 2 7 in_Md rfl rfl (by decide) t3_154 rfl rfl d_Md_order_38 ?_
  refine g_iload_n X 1 d_Md_order_41 rfl rfl ?_
  refine g_ialdN X 0 0 rfl rfl (by omega) (by omega) d_Md_order_42 ?_
  refine g_imul X (nI (48 * (M i))) d_Md_order_43 (pk_mul 48 (M i)) ?_
  refine g_aload_n X 0 d_Md_order_44 rfl rfl ?_
  refine g_get (C := R_Md) (T := T_Md) (N := 22) X 2 7 in_Md rfl rfl (by decide) t3_154 rfl rfl d_Md_order_45 ?_
  refine g_iload_n X 2 d_Md_order_48 rfl rfl ?_
  refine g_ialdN X 0 0 rfl rfl (by omega) (by omega) d_Md_order_49 ?_
  refine g_iadd X (nI (48 * (M i) + M j)) d_Md_order_50 (nI_add (48 * (M i)) (M j)) ?_
  refine g_zaldB X 1 2 rfl rfl (by omega) (by omega) d_Md_order_51 ?_
  refine b_if_eq X 59 d_Md_order_52 (by decide) (fun h52 => ?_) (fun h52 => ?_)
  · refine g_aload_n X 0 d_Md_order_59 rfl rfl ?_
    refine g_get (C := R_Md) (T := T_Md) (N := 22) X 2 9 in_Md rfl rfl (by decide) t3_156 rfl rfl d_Md_order_60 ?_
    refine g_bipush (v := nI 48) X d_Md_order_63 rfl ?_
    refine g_aload_n X 0 d_Md_order_65 rfl rfl ?_
    refine g_get (C := R_Md) (T := T_Md) (N := 22) X 2 7 in_Md rfl rfl (by decide) t3_154 rfl rfl d_Md_order_66 ?_
    refine g_iload_n X 2 d_Md_order_69 rfl rfl ?_
    refine g_ialdN X 0 0 rfl rfl (by omega) (by omega) d_Md_order_70 ?_
    refine g_imul X (nI (48 * (M j))) d_Md_order_71 (pk_mul 48 (M j)) ?_
    refine g_aload_n X 0 d_Md_order_72 rfl rfl ?_
    refine g_get (C := R_Md) (T := T_Md) (N := 22) X 2 7 in_Md rfl rfl (by decide) t3_154 rfl rfl d_Md_order_73 ?_
    refine g_iload_n X 1 d_Md_order_76 rfl rfl ?_
    refine g_ialdN X 0 0 rfl rfl (by omega) (by omega) d_Md_order_77 ?_
    refine g_iadd X (nI (48 * (M j) + M i)) d_Md_order_78 (nI_add (48 * (M j)) (M i)) ?_
    refine g_zaldB X 1 2 rfl rfl (by omega) (by omega) d_Md_order_79 ?_
    refine b_if_eq X 87 d_Md_order_80 (by decide) (fun h80 => ?_) (fun h80 => ?_)
    · refine g_iconst (v := nI 0) X d_Md_order_87 rfl ?_
      exact g_iret X hA9 hQ9 hr9 hlk9 () [2, 0, 1] rfl rfl d_Md_order_88 (by first | (rw [if_pos h52]; rfl) | (rw [if_neg (by rw [h52]; decide), if_pos h80]) | (rw [if_neg (by rw [h52]; decide), if_neg (by rw [h80]; decide)]; rfl))
    · refine g_iconst (v := -1) X d_Md_order_83 rfl ?_
      refine g_goto X 88 d_Md_order_84 (by decide) ?_
      exact g_iret X hA9 hQ9 hr9 hlk9 () [2, 0, 1] rfl rfl d_Md_order_88 (by first | (rw [if_pos h52]; rfl) | (rw [if_neg (by rw [h52]; decide), if_pos h80]) | (rw [if_neg (by rw [h52]; decide), if_neg (by rw [h80]; decide)]; rfl))
  · refine g_iconst (v := nI 1) X d_Md_order_55 rfl ?_
    refine g_goto X 88 d_Md_order_56 (by decide) ?_
    exact g_iret X hA9 hQ9 hr9 hlk9 () [2, 0, 1] rfl rfl d_Md_order_88 (by first | (rw [if_pos h52]; rfl) | (rw [if_neg (by rw [h52]; decide), if_pos h80]) | (rw [if_neg (by rw [h52]; decide), if_neg (by rw [h80]; decide)]; rfl))

set_option maxHeartbeats 4000000 in
set_option maxRecDepth 100000 in
theorem k_Md_isLink (mo : Nat) (tw : Int32) (K : Nat) (R : Nat) (qa : Nat) (qb : Nat) (qk : Nat) (qu : Nat) (qn : Nat) (qx : Nat) (qo : Nat) (qf : Nat) (d : Nat) (qr : Nat) (gm : Nat) (qg : Nat) (qv : Nat) (d2 : Nat) (qs : Nat) (vv : Nat) (qc : Nat) (qm : Nat) (qw : Nat) (OV : Nat → Bool) (x : Nat) (y : Nat) (hx : x < 48) (hy : y < 48) (hK : K ≤ 48) : CtI l y_Md_isLink (Cond.code y_Md_isLink c_Md_isLink 5 (some .boolean) :: TB) ({ frames := 0, cells := 0, slots := 0, locals := 0 } : Room) D (tysv cI cJ cZ cQ) [.ref mo, .int (nI x), .int (nI y)] [(mo, .inr (8, [.int tw, .int (nI K), .int (nI R), .ref qa, .ref qb, .ref qk, .ref qu, .ref qn, .ref qx, .ref qo, .ref qf, .int (nI d), .ref qr, .int (nI gm), .ref qg, .ref qv, .int (nI d2), .ref qs, .int (nI vv), .ref qc, .ref qm, .ref qw])), (qo, .inl (cZ, 2304, .inl (zf OV)))] 0 0 (fun (r : Int32) (_ : Unit) => r = bI (lkT OV K x y)) (fun (_ : Unit) => [(mo, .inr (8, [.int tw, .int (nI K), .int (nI R), .ref qa, .ref qb, .ref qk, .ref qu, .ref qn, .ref qx, .ref qo, .ref qf, .int (nI d), .ref qr, .int (nI gm), .ref qg, .ref qv, .int (nI d2), .ref qs, .int (nI vv), .ref qc, .ref qm, .ref qw])), (qo, .inl (cZ, 2304, .inl (zf OV)))]) := by
  refine CtI.of c_Md_isLink 5 (some .boolean) (by decide) rfl (Nat.le_of_ble_eq_true rfl) ?_
  intro p e s m args below meth c A Q hA9 hQ9 X hr9 hlk9 hin9
  refine g_aload_n X 0 d_Md_isLink_0 rfl rfl ?_
  refine g_get (C := R_Md) (T := T_Md) (N := 22) X 0 9 in_Md rfl rfl (by decide) t3_156 rfl rfl d_Md_isLink_1 ?_
  refine g_bipush (v := nI 48) X d_Md_isLink_4 rfl ?_
  refine g_iload_n X 1 d_Md_isLink_6 rfl rfl ?_
  refine g_imul X (nI (48 * x)) d_Md_isLink_7 (pk_mul 48 x) ?_
  refine g_iload_n X 2 d_Md_isLink_8 rfl rfl ?_
  refine g_iadd X (nI (48 * x + y)) d_Md_isLink_9 (nI_add (48 * x) y) ?_
  refine g_zaldB X 1 2 rfl rfl (by omega) (by omega) d_Md_isLink_10 ?_
  refine g_istore_n X [(3, .int (bI (OV (48 * x + y)))), (0, .ref mo), (1, .int (nI x)), (2, .int (nI y))] d_Md_isLink_11 rfl (by decide) rfl ?_
  have L15 : ∀ (N15 : Nat) (i : Nat) (b9 : Bool), (K - i) < N15 → (i ≤ K) → (b9 = (OV (48 * x + y) && !anyB (fun k => OV (48 * x + k) && OV (48 * k + y)) i)) → G p l e ({ frames := 0, cells := 0, slots := 0, locals := 0 } : Room) s m args below meth c 5 D A s.heap Q 0 0 [(mo, .inr (8, [.int tw, .int (nI K), .int (nI R), .ref qa, .ref qb, .ref qk, .ref qu, .ref qn, .ref qx, .ref qo, .ref qf, .int (nI d), .ref qr, .int (nI gm), .ref qg, .ref qv, .int (nI d2), .ref qs, .int (nI vv), .ref qc, .ref qm, .ref qw])), (qo, .inl (cZ, 2304, .inl (zf OV)))] [(0, .ref mo), (1, .int (nI x)), (2, .int (nI y)), (3, .int (bI b9)), (4, .int (nI i))] 15 [] := by
    intro N15
    induction N15 with
    | zero =>
      intro i b9 hN
      exact absurd hN (Nat.not_lt_zero _)
    | succ N15 ih15 =>
      intro i b9 hN15 hi h1
      refine g_iload X 4 d_Md_isLink_15 rfl ?_
      refine g_aload_n X 0 d_Md_isLink_17 rfl rfl ?_
      refine g_get (C := R_Md) (T := T_Md) (N := 22) X 0 1 in_Md rfl rfl (by decide) t3_148 rfl rfl d_Md_isLink_18 ?_
      refine n_icmp_ge X 70 d_Md_isLink_21 (by decide) (by omega) (by omega) (fun h21 => ?_) (fun h21 => ?_)
      · refine g_iload_n X 3 d_Md_isLink_70 rfl rfl ?_
        exact g_zret X hA9 hQ9 hr9 (bI_01 _) hlk9 () [0, 1] rfl rfl d_Md_isLink_71 (by first | (have e9 : i = K := (by omega); subst e9; rw [h1]; rfl) | rw [lkT_e hi h1 h25])
      · refine g_iload_n X 3 d_Md_isLink_24 rfl rfl ?_
        refine b_if_eq X 70 d_Md_isLink_25 (by decide) (fun h25 => ?_) (fun h25 => ?_)
        · refine g_iload_n X 3 d_Md_isLink_70 rfl rfl ?_
          exact g_zret X hA9 hQ9 hr9 (bI_01 _) hlk9 () [0, 1] rfl rfl d_Md_isLink_71 (by first | (have e9 : i = K := (by omega); subst e9; rw [h1]; rfl) | rw [lkT_e hi h1 h25])
        · refine g_aload_n X 0 d_Md_isLink_28 rfl rfl ?_
          refine g_get (C := R_Md) (T := T_Md) (N := 22) X 0 9 in_Md rfl rfl (by decide) t3_156 rfl rfl d_Md_isLink_29 ?_
          refine g_bipush (v := nI 48) X d_Md_isLink_32 rfl ?_
          refine g_iload_n X 1 d_Md_isLink_34 rfl rfl ?_
          refine g_imul X (nI (48 * x)) d_Md_isLink_35 (pk_mul 48 x) ?_
          refine g_iload X 4 d_Md_isLink_36 rfl ?_
          refine g_iadd X (nI (48 * x + i)) d_Md_isLink_38 (nI_add (48 * x) i) ?_
          refine g_zaldB X 1 2 rfl rfl (by omega) (by omega) d_Md_isLink_39 ?_
          refine b_if_eq X 58 d_Md_isLink_40 (by decide) (fun h40 => ?_) (fun h40 => ?_)
          · refine g_iconst (v := nI 1) X d_Md_isLink_58 rfl ?_
            refine g_goto X 63 d_Md_isLink_59 (by decide) ?_
            refine g_topE (show nI 1 = bI true from rfl) ?_
            refine g_istore_n X [(3, .int (bI true)), (0, .ref mo), (1, .int (nI x)), (2, .int (nI y)), (4, .int (nI i))] d_Md_isLink_63 rfl (by decide) rfl ?_
            refine g_iinc X (nI (i + 1)) [(4, .int (nI (i + 1))), (3, .int (bI true)), (0, .ref mo), (1, .int (nI x)), (2, .int (nI y))] d_Md_isLink_64 (k := 4) rfl (nI_1 i) (by decide) rfl ?_
            refine g_goto X 15 d_Md_isLink_67 (by decide) ?_
            refine g_lv [2, 3, 4, 1, 0] rfl ?_
            exact ih15 (i + 1) true (by omega) (by omega) (by first | exact lkT_k h1 h25 h40 | exact lkT_k2 h1 h25 h55 | exact lkT_n h40 h55)
          · refine g_aload_n X 0 d_Md_isLink_43 rfl rfl ?_
            refine g_get (C := R_Md) (T := T_Md) (N := 22) X 0 9 in_Md rfl rfl (by decide) t3_156 rfl rfl d_Md_isLink_44 ?_
            refine g_bipush (v := nI 48) X d_Md_isLink_47 rfl ?_
            refine g_iload X 4 d_Md_isLink_49 rfl ?_
            refine g_imul X (nI (48 * i)) d_Md_isLink_51 (pk_mul 48 i) ?_
            refine g_iload_n X 2 d_Md_isLink_52 rfl rfl ?_
            refine g_iadd X (nI (48 * i + y)) d_Md_isLink_53 (nI_add (48 * i) y) ?_
            refine g_zaldB X 1 2 rfl rfl (by omega) (by omega) d_Md_isLink_54 ?_
            refine b_if_ne X 62 d_Md_isLink_55 (by decide) (fun h55 => ?_) (fun h55 => ?_)
            · refine g_iconst (v := nI 0) X d_Md_isLink_62 rfl ?_
              refine g_topE (show nI 0 = bI false from rfl) ?_
              refine g_istore_n X [(3, .int (bI false)), (0, .ref mo), (1, .int (nI x)), (2, .int (nI y)), (4, .int (nI i))] d_Md_isLink_63 rfl (by decide) rfl ?_
              refine g_iinc X (nI (i + 1)) [(4, .int (nI (i + 1))), (3, .int (bI false)), (0, .ref mo), (1, .int (nI x)), (2, .int (nI y))] d_Md_isLink_64 (k := 4) rfl (nI_1 i) (by decide) rfl ?_
              refine g_goto X 15 d_Md_isLink_67 (by decide) ?_
              refine g_lv [2, 3, 4, 1, 0] rfl ?_
              exact ih15 (i + 1) false (by omega) (by omega) (by first | exact lkT_k h1 h25 h40 | exact lkT_k2 h1 h25 h55 | exact lkT_n h40 h55)
            · refine g_iconst (v := nI 1) X d_Md_isLink_58 rfl ?_
              refine g_goto X 63 d_Md_isLink_59 (by decide) ?_
              refine g_topE (show nI 1 = bI true from rfl) ?_
              refine g_istore_n X [(3, .int (bI true)), (0, .ref mo), (1, .int (nI x)), (2, .int (nI y)), (4, .int (nI i))] d_Md_isLink_63 rfl (by decide) rfl ?_
              refine g_iinc X (nI (i + 1)) [(4, .int (nI (i + 1))), (3, .int (bI true)), (0, .ref mo), (1, .int (nI x)), (2, .int (nI y))] d_Md_isLink_64 (k := 4) rfl (nI_1 i) (by decide) rfl ?_
              refine g_goto X 15 d_Md_isLink_67 (by decide) ?_
              refine g_lv [2, 3, 4, 1, 0] rfl ?_
              exact ih15 (i + 1) true (by omega) (by omega) (by first | exact lkT_k h1 h25 h40 | exact lkT_k2 h1 h25 h55 | exact lkT_n h40 h55)
  refine g_iconst (v := nI 0) X d_Md_isLink_12 rfl ?_
  refine g_istore X [(4, .int (nI 0)), (3, .int (bI (OV (48 * x + y)))), (0, .ref mo), (1, .int (nI x)), (2, .int (nI y))] d_Md_isLink_13 (by decide) rfl ?_
  refine g_lv [2, 3, 4, 1, 0] rfl ?_
  exact L15 ((K - 0) + 1) 0 (OV (48 * x + y)) (Nat.lt_succ_self _) (by omega) (lkT_0)

set_option maxHeartbeats 4000000 in
set_option maxRecDepth 100000 in
theorem k_Md_allLinks (mo : Nat) (tw : Int32) (K : Nat) (R : Nat) (qa : Nat) (qb : Nat) (qk : Nat) (qu : Nat) (qn : Nat) (qx : Nat) (qo : Nat) (qf : Nat) (d : Nat) (qr : Nat) (gm : Nat) (qg : Nat) (qv : Nat) (d2 : Nat) (qs : Nat) (vv : Nat) (qc : Nat) (qm : Nat) (qw : Nat) (OV : Nat → Bool) (hK : K ≤ 48) : CtI l y_Md_allLinks (Cond.code y_Md_allLinks c_Md_allLinks 3 (some .int) :: TB) ({ frames := 1, cells := 0, slots := 0, locals := 24 } : Room) D (tysv cI cJ cZ cQ) [.ref mo] [(mo, .inr (8, [.int tw, .int (nI K), .int (nI R), .ref qa, .ref qb, .ref qk, .ref qu, .ref qn, .ref qx, .ref qo, .ref qf, .int (nI d), .ref qr, .int (nI gm), .ref qg, .ref qv, .int (nI d2), .ref qs, .int (nI vv), .ref qc, .ref qm, .ref qw])), (qo, .inl (cZ, 2304, .inl (zf OV)))] 0 0 (fun (r : Int32) (_ : Unit) => r = nI (cnt (lkP OV K) 2304)) (fun (_ : Unit) => [(mo, .inr (8, [.int tw, .int (nI K), .int (nI R), .ref qa, .ref qb, .ref qk, .ref qu, .ref qn, .ref qx, .ref qo, .ref qf, .int (nI d), .ref qr, .int (nI gm), .ref qg, .ref qv, .int (nI d2), .ref qs, .int (nI vv), .ref qc, .ref qm, .ref qw])), (qo, .inl (cZ, 2304, .inl (zf OV)))]) := by
  refine CtI.of c_Md_allLinks 3 (some .int) (by decide) rfl (Nat.le_of_ble_eq_true rfl) ?_
  intro p e s m args below meth c A Q hA9 hQ9 X hr9 hlk9 hin9
  have L4 : ∀ (N4 : Nat) (i : Nat) (n : Nat), (2304 - i) < N4 → (i ≤ 2304) → (n = cnt (lkP OV K) i) → G p l e ({ frames := 1, cells := 0, slots := 0, locals := 24 } : Room) s m args below meth c 3 D A s.heap Q 0 0 [(mo, .inr (8, [.int tw, .int (nI K), .int (nI R), .ref qa, .ref qb, .ref qk, .ref qu, .ref qn, .ref qx, .ref qo, .ref qf, .int (nI d), .ref qr, .int (nI gm), .ref qg, .ref qv, .int (nI d2), .ref qs, .int (nI vv), .ref qc, .ref qm, .ref qw])), (qo, .inl (cZ, 2304, .inl (zf OV)))] [(0, .ref mo), (1, .int (nI n)), (2, .int (nI i))] 4 [] := by
    intro N4
    induction N4 with
    | zero =>
      intro i n hN
      exact absurd hN (Nat.not_lt_zero _)
    | succ N4 ih4 =>
      intro i n hN4 hi h1
      have hle := cnt_le (lkP OV K) i
      refine g_iload_n X 2 d_Md_allLinks_4 rfl rfl ?_
      refine g_sipush (v := nI 2304) X d_Md_allLinks_5 rfl ?_
      refine n_icmp_ge X 40 d_Md_allLinks_8 (by decide) (by omega) (by omega) (fun h8 => ?_) (fun h8 => ?_)
      · refine g_iload_n X 1 d_Md_allLinks_40 rfl rfl ?_
        exact g_iret X hA9 hQ9 hr9 hlk9 () [0, 1] rfl rfl d_Md_allLinks_41 (by have e9 : i = 2304 := (by omega); subst e9; rw [h1])
      · refine g_aload_n X 0 d_Md_allLinks_11 rfl rfl ?_
        refine g_iload_n X 2 d_Md_allLinks_12 rfl rfl ?_
        refine g_bipush (v := nI 48) X d_Md_allLinks_13 rfl ?_
        refine g_idiv X (nI (i / 48)) d_Md_allLinks_15 (nI_ne0 (by omega) (by omega)) (pk_div (by omega) (by omega) (by omega)) ?_
        refine g_iload_n X 2 d_Md_allLinks_16 rfl rfl ?_
        refine g_bipush (v := nI 48) X d_Md_allLinks_17 rfl ?_
        refine g_irem X (nI (i % 48)) d_Md_allLinks_19 (nI_ne0 (by omega) (by omega)) (pk_rem (by omega) (by omega) (by omega)) ?_
        refine g_calliV (n := 2) X [.int (nI (i / 48)), .int (nI (i % 48))] (k_Md_isLink mo tw K R qa qb qk qu qn qx qo qf d qr gm qg qv d2 qs vv qc qm qw OV (i / 48) (i % 48) (by omega) (by omega) (by omega)) t4_35 t4_37 ts_19 t1_9 t4_38 rfl rfl (by decide +kernel) ⟨by decide, by decide⟩ [0, 1] [] [] rfl rfl rfl rfl (by decide) 0 rfl rfl rfl rfl (Nat.le_of_ble_eq_true rfl) d_Md_allLinks_20 ⟨by decide, by decide⟩ (fun r1 w9u1 hw1 => ?_)
        subst hw1
        refine b_if_eq X 32 d_Md_allLinks_23 (by decide) (fun h23 => ?_) (fun h23 => ?_)
        · refine g_iload_n X 1 d_Md_allLinks_32 rfl rfl ?_
          refine g_istore_n X [(1, .int (nI n)), (0, .ref mo), (2, .int (nI i))] d_Md_allLinks_33 rfl (by decide) rfl ?_
          refine g_iinc X (nI (i + 1)) [(2, .int (nI (i + 1))), (1, .int (nI n)), (0, .ref mo)] d_Md_allLinks_34 (k := 2) rfl (nI_1 i) (by decide) rfl ?_
          refine g_goto X 4 d_Md_allLinks_37 (by decide) ?_
          refine g_lv [2, 1, 0] rfl ?_
          exact ih4 (i + 1) n (by omega) (by omega) (by first | exact cntP_t h23 h1 | exact cntP_f h23 h1)
        · refine g_iload_n X 1 d_Md_allLinks_26 rfl rfl ?_
          refine g_iconst (v := nI 1) X d_Md_allLinks_27 rfl ?_
          refine g_iadd X (nI (n + 1)) d_Md_allLinks_28 (nI_add n 1) ?_
          refine g_goto X 33 d_Md_allLinks_29 (by decide) ?_
          refine g_istore_n X [(1, .int (nI (n + 1))), (0, .ref mo), (2, .int (nI i))] d_Md_allLinks_33 rfl (by decide) rfl ?_
          refine g_iinc X (nI (i + 1)) [(2, .int (nI (i + 1))), (1, .int (nI (n + 1))), (0, .ref mo)] d_Md_allLinks_34 (k := 2) rfl (nI_1 i) (by decide) rfl ?_
          refine g_goto X 4 d_Md_allLinks_37 (by decide) ?_
          refine g_lv [2, 1, 0] rfl ?_
          exact ih4 (i + 1) (n + 1) (by omega) (by omega) (by first | exact cntP_t h23 h1 | exact cntP_f h23 h1)
  refine g_iconst (v := nI 0) X d_Md_allLinks_0 rfl ?_
  refine g_istore_n X [(1, .int (nI 0)), (0, .ref mo)] d_Md_allLinks_1 rfl (by decide) rfl ?_
  refine g_iconst (v := nI 0) X d_Md_allLinks_2 rfl ?_
  refine g_istore_n X [(2, .int (nI 0)), (1, .int (nI 0)), (0, .ref mo)] d_Md_allLinks_3 rfl (by decide) rfl ?_
  refine g_lv [2, 1, 0] rfl ?_
  exact L4 ((2304 - 0) + 1) 0 0 (Nat.lt_succ_self _) (by omega) (rfl)

set_option maxHeartbeats 4000000 in
set_option maxRecDepth 100000 in
theorem k_Md_links (mo : Nat) (tw : Int32) (K : Nat) (R : Nat) (qa : Nat) (qb : Nat) (qk : Nat) (qu : Nat) (qn : Nat) (qx : Nat) (qo : Nat) (qf : Nat) (d : Nat) (qr : Nat) (gm : Nat) (qg : Nat) (qv : Nat) (d2 : Nat) (qs : Nat) (vv : Nat) (qc : Nat) (qm : Nat) (qw : Nat) (OV : Nat → Bool) (hK : K ≤ 48) : CtI l y_Md_links (Cond.code y_Md_links c_Md_links 1 (some .int) :: TB) ({ frames := 2, cells := 0, slots := 0, locals := 46 } : Room) D (tysv cI cJ cZ cQ) [.ref mo] [(mo, .inr (8, [.int tw, .int (nI K), .int (nI R), .ref qa, .ref qb, .ref qk, .ref qu, .ref qn, .ref qx, .ref qo, .ref qf, .int (nI d), .ref qr, .int (nI gm), .ref qg, .ref qv, .int (nI d2), .ref qs, .int (nI vv), .ref qc, .ref qm, .ref qw])), (qo, .inl (cZ, 2304, .inl (zf OV)))] 0 0 (fun (r : Int32) (_ : Unit) => r = nI (cnt (lkP OV K) 2304)) (fun (_ : Unit) => [(mo, .inr (8, [.int (nI 0), .int (nI K), .int (nI R), .ref qa, .ref qb, .ref qk, .ref qu, .ref qn, .ref qx, .ref qo, .ref qf, .int (nI d), .ref qr, .int (nI gm), .ref qg, .ref qv, .int (nI d2), .ref qs, .int (nI vv), .ref qc, .ref qm, .ref qw])), (qo, .inl (cZ, 2304, .inl (zf OV)))]) := by
  refine CtI.of c_Md_links 1 (some .int) (by decide) rfl (Nat.le_of_ble_eq_true rfl) ?_
  intro p e s m args below meth c A Q hA9 hQ9 X hr9 hlk9 hin9
  refine g_aload_n X 0 d_Md_links_0 rfl rfl ?_
  refine g_iconst (v := nI 0) X d_Md_links_1 rfl ?_
  refine g_put (C := R_Md) (T := T_Md) (N := 22) (ty := .int) X 0 0 [(mo, .inr (8, [.int (nI 0), .int (nI K), .int (nI R), .ref qa, .ref qb, .ref qk, .ref qu, .ref qn, .ref qx, .ref qo, .ref qf, .int (nI d), .ref qr, .int (nI gm), .ref qg, .ref qv, .int (nI d2), .ref qs, .int (nI vv), .ref qc, .ref qm, .ref qw])), (qo, .inl (cZ, 2304, .inl (zf OV)))] t_Md ty_Md nm_Md in_Md rfl rfl (by decide) t3_147 rfl rfl (by decide +kernel) rfl rfl (Nat.le_of_ble_eq_true rfl) rfl d_Md_links_2 ?_
  refine g_aload_n X 0 d_Md_links_5 rfl rfl ?_
  refine g_calliV (n := 0) X [] (k_Md_allLinks mo (nI 0) K R qa qb qk qu qn qx qo qf d qr gm qg qv d2 qs vv qc qm qw OV (by omega)) t4_31 t4_33 ts_18 t1_9 t4_34 rfl rfl (by decide +kernel) ⟨by decide, by decide⟩ [0, 1] [] [] rfl rfl rfl rfl (by decide) 0 rfl rfl rfl rfl (Nat.le_of_ble_eq_true rfl) d_Md_links_6 ⟨by decide, by decide⟩ (fun r1 w9u1 hw1 => ?_)
  subst hw1
  exact g_iret X hA9 hQ9 hr9 hlk9 () [0, 1] rfl rfl d_Md_links_9 (rfl)

set_option maxHeartbeats 4000000 in
set_option maxRecDepth 100000 in
theorem k_Md_equal (mo : Nat) (tw : Int32) (K : Nat) (R : Nat) (qa : Nat) (qb : Nat) (qk : Nat) (qu : Nat) (qn : Nat) (qx : Nat) (qo : Nat) (qf : Nat) (d : Nat) (qr : Nat) (gm : Nat) (qg : Nat) (qv : Nat) (d2 : Nat) (qs : Nat) (vv : Nat) (qc : Nat) (qm : Nat) (qw : Nat) (M : Nat → Nat) (i : Nat) (hK : K ≤ 48) (hi : i < K) : CtI l y_Md_equal (Cond.code y_Md_equal c_Md_equal 2 (some .int) :: TB) ({ frames := 1, cells := 0, slots := 0, locals := 22 } : Room) D (tysv cI cJ cZ cQ) [.ref mo, .int (nI i)] [(mo, .inr (8, [.int tw, .int (nI K), .int (nI R), .ref qa, .ref qb, .ref qk, .ref qu, .ref qn, .ref qx, .ref qo, .ref qf, .int (nI d), .ref qr, .int (nI gm), .ref qg, .ref qv, .int (nI d2), .ref qs, .int (nI vv), .ref qc, .ref qm, .ref qw])), (qn, .inl (cI, 48, .inl (nf M)))] 0 0 (fun (r : Int32) (_ : Unit) => r = nI (M i)) (fun (_ : Unit) => [(mo, .inr (8, [.int (nI 0), .int (nI K), .int (nI R), .ref qa, .ref qb, .ref qk, .ref qu, .ref qn, .ref qx, .ref qo, .ref qf, .int (nI d), .ref qr, .int (nI gm), .ref qg, .ref qv, .int (nI d2), .ref qs, .int (nI vv), .ref qc, .ref qm, .ref qw])), (qn, .inl (cI, 48, .inl (nf M)))]) := by
  refine CtI.of c_Md_equal 2 (some .int) (by decide) rfl (Nat.le_of_ble_eq_true rfl) ?_
  intro p e s m args below meth c A Q hA9 hQ9 X hr9 hlk9 hin9
  refine g_aload_n X 0 d_Md_equal_0 rfl rfl ?_
  refine g_aload_n X 0 d_Md_equal_1 rfl rfl ?_
  refine g_iload_n X 1 d_Md_equal_2 rfl rfl ?_
  refine g_calliV (n := 1) X [.int (nI i)] (k_Md_isContext mo tw K R qa qb qk qu qn qx qo qf d qr gm qg qv d2 qs vv qc qm qw i (by omega) (by omega)) t3_239 t4_1 ts_14 t1_9 t4_2 rfl rfl (by decide +kernel) ⟨by decide, by decide⟩ [0] [1] [(qn, .inl (cI, 48, .inl (nf M)))] rfl rfl rfl rfl (by decide) 0 rfl rfl rfl rfl (Nat.le_of_ble_eq_true rfl) d_Md_equal_3 ⟨by decide, by decide⟩ (fun r1 w9u1 hw1 => ?_)
  subst hw1
  refine g_iconst (v := nI 1) X d_Md_equal_6 rfl ?_
  refine g_calliV (n := 2) X [.int (bI true), .int (bI true)] (k_Md_goes mo tw K R qa qb qk qu qn qx qo qf d qr gm qg qv d2 qs vv qc qm qw ) t3_223 t3_225 ts_11 t1_9 t3_226 rfl rfl (by decide +kernel) ⟨by decide, by decide⟩ [1] [0] [(qn, .inl (cI, 48, .inl (nf M)))] rfl rfl rfl rfl (by decide) 0 rfl rfl rfl rfl (Nat.le_of_ble_eq_true rfl) d_Md_equal_7 ⟨by decide, by decide⟩ (fun r2 w9u2 hw2 => ?_)
  subst hw2
  refine b_if_eq X 22 d_Md_equal_10 (by decide) (fun h10 => absurd h10 (by decide)) (fun h10 => ?_)
  refine g_aload_n X 0 d_Md_equal_13 rfl rfl ?_
  refine g_get (C := R_Md) (T := T_Md) (N := 22) X 1 7 in_Md rfl rfl (by decide) t3_154 rfl rfl d_Md_equal_14 ?_
  refine g_iload_n X 1 d_Md_equal_17 rfl rfl ?_
  refine g_ialdN X 0 0 rfl rfl (by omega) (by omega) d_Md_equal_18 ?_
  refine g_goto X 23 d_Md_equal_19 (by decide) ?_
  exact g_iret X hA9 hQ9 hr9 hlk9 () [1, 0] rfl rfl d_Md_equal_23 (rfl)

set_option maxHeartbeats 4000000 in
set_option maxRecDepth 100000 in
theorem k_Md_equalB (mo : Nat) (tw : Int32) (K : Nat) (R : Nat) (qa : Nat) (qb : Nat) (qk : Nat) (qu : Nat) (qn : Nat) (qx : Nat) (qo : Nat) (qf : Nat) (d : Nat) (qr : Nat) (gm : Nat) (qg : Nat) (qv : Nat) (d2 : Nat) (qs : Nat) (vv : Nat) (qc : Nat) (qm : Nat) (qw : Nat) (x : Int32) (hK : K ≤ 48) (hx : badI K x) : CtI l y_Md_equal (Cond.code y_Md_equal c_Md_equal 2 (some .int) :: TB) ({ frames := 1, cells := 0, slots := 0, locals := 22 } : Room) D (tysv cI cJ cZ cQ) [.ref mo, .int x] [(mo, .inr (8, [.int tw, .int (nI K), .int (nI R), .ref qa, .ref qb, .ref qk, .ref qu, .ref qn, .ref qx, .ref qo, .ref qf, .int (nI d), .ref qr, .int (nI gm), .ref qg, .ref qv, .int (nI d2), .ref qs, .int (nI vv), .ref qc, .ref qm, .ref qw]))] 0 0 (fun (r : Int32) (_ : Unit) => r = nI 0) (fun (_ : Unit) => [(mo, .inr (8, [.int (nI 1), .int (nI K), .int (nI R), .ref qa, .ref qb, .ref qk, .ref qu, .ref qn, .ref qx, .ref qo, .ref qf, .int (nI d), .ref qr, .int (nI gm), .ref qg, .ref qv, .int (nI d2), .ref qs, .int (nI vv), .ref qc, .ref qm, .ref qw]))]) := by
  refine CtI.of c_Md_equal 2 (some .int) (by decide) rfl (Nat.le_of_ble_eq_true rfl) ?_
  intro p e s m args below meth c A Q hA9 hQ9 X hr9 hlk9 hin9
  refine g_aload_n X 0 d_Md_equal_0 rfl rfl ?_
  refine g_aload_n X 0 d_Md_equal_1 rfl rfl ?_
  refine g_iload_n X 1 d_Md_equal_2 rfl rfl ?_
  refine g_calliV (n := 1) X [.int x] (k_Md_isContextN mo tw K R qa qb qk qu qn qx qo qf d qr gm qg qv d2 qs vv qc qm qw x (by omega) (hx)) t3_239 t4_1 ts_14 t1_9 t4_2 rfl rfl (by decide +kernel) ⟨by decide, by decide⟩ [0] [] [] rfl rfl rfl rfl (by decide) 0 rfl rfl rfl rfl (Nat.le_of_ble_eq_true rfl) d_Md_equal_3 ⟨by decide, by decide⟩ (fun r1 w9u1 hw1 => ?_)
  subst hw1
  refine g_iconst (v := nI 1) X d_Md_equal_6 rfl ?_
  refine g_calliV (n := 2) X [.int (bI false), .int (bI true)] (k_Md_goes1 mo tw K R qa qb qk qu qn qx qo qf d qr gm qg qv d2 qs vv qc qm qw true ) t3_223 t3_225 ts_11 t1_9 t3_226 rfl rfl (by decide +kernel) ⟨by decide, by decide⟩ [0] [] [] rfl rfl rfl rfl (by decide) 0 rfl rfl rfl rfl (Nat.le_of_ble_eq_true rfl) d_Md_equal_7 ⟨by decide, by decide⟩ (fun r2 w9u2 hw2 => ?_)
  subst hw2
  refine b_if_eq X 22 d_Md_equal_10 (by decide) (fun h10 => ?_) (fun h10 => absurd h10 (by decide))
  refine g_iconst (v := nI 0) X d_Md_equal_22 rfl ?_
  exact g_iret X hA9 hQ9 hr9 hlk9 () [0] rfl rfl d_Md_equal_23 (rfl)

set_option maxHeartbeats 4000000 in
set_option maxRecDepth 100000 in
theorem k_Md_contemporary (mo : Nat) (tw : Int32) (K : Nat) (R : Nat) (qa : Nat) (qb : Nat) (qk : Nat) (qu : Nat) (qn : Nat) (qx : Nat) (qo : Nat) (qf : Nat) (d : Nat) (qr : Nat) (gm : Nat) (qg : Nat) (qv : Nat) (d2 : Nat) (qs : Nat) (vv : Nat) (qc : Nat) (qm : Nat) (qw : Nat) (Fa : Nat → Nat) (Fb : Nat → Nat) (Fk : Nat → Nat) (UN : Nat → Bool) (M : Nat → Nat) (i : Nat) (j : Nat) (hR2 : R ≤ 200) (hr : ∀ r, r < R → Fa r < K ∧ Fb r < K) (hk4 : ∀ r, r < R → Fk r ≤ 4) (hM : ∀ z, z < K → M z < 48) (hK : K ≤ 48) (hi : i < K) (hj : j < K) (l1 : M i < 48) (l2 : M j < 48) : CtI l y_Md_contemporary (Cond.code y_Md_contemporary c_Md_contemporary 9 (some .boolean) :: TB) ({ frames := 1, cells := 0, slots := 0, locals := 22 } : Room) D (tysv cI cJ cZ cQ) [.ref mo, .int (nI i), .int (nI j)] [(mo, .inr (8, [.int tw, .int (nI K), .int (nI R), .ref qa, .ref qb, .ref qk, .ref qu, .ref qn, .ref qx, .ref qo, .ref qf, .int (nI d), .ref qr, .int (nI gm), .ref qg, .ref qv, .int (nI d2), .ref qs, .int (nI vv), .ref qc, .ref qm, .ref qw])), (qa, .inl (cI, 200, .inl (nf Fa))), (qb, .inl (cI, 200, .inl (nf Fb))), (qk, .inl (cI, 200, .inl (nf Fk))), (qu, .inl (cZ, 200, .inl (zf UN))), (qn, .inl (cI, 48, .inl (nf M)))] 0 0 (fun (r : Int32) (_ : Unit) => r = bI (decide (M i = M j) || anyB (ctm UN Fk Fa Fb M (M i) (M j)) R)) (fun (_ : Unit) => [(mo, .inr (8, [.int (nI 0), .int (nI K), .int (nI R), .ref qa, .ref qb, .ref qk, .ref qu, .ref qn, .ref qx, .ref qo, .ref qf, .int (nI d), .ref qr, .int (nI gm), .ref qg, .ref qv, .int (nI d2), .ref qs, .int (nI vv), .ref qc, .ref qm, .ref qw])), (qa, .inl (cI, 200, .inl (nf Fa))), (qb, .inl (cI, 200, .inl (nf Fb))), (qk, .inl (cI, 200, .inl (nf Fk))), (qu, .inl (cZ, 200, .inl (zf UN))), (qn, .inl (cI, 48, .inl (nf M)))]) := by
  refine CtI.of c_Md_contemporary 9 (some .boolean) (by decide) rfl (Nat.le_of_ble_eq_true rfl) ?_
  intro p e s m args below meth c A Q hA9 hQ9 X hr9 hlk9 hin9
  refine g_aload_n X 0 d_Md_contemporary_0 rfl rfl ?_
  refine g_aload_n X 0 d_Md_contemporary_1 rfl rfl ?_
  refine g_iload_n X 1 d_Md_contemporary_2 rfl rfl ?_
  refine g_calliV (n := 1) X [.int (nI i)] (k_Md_isContext mo tw K R qa qb qk qu qn qx qo qf d qr gm qg qv d2 qs vv qc qm qw i (by omega) (by omega)) t3_239 t4_1 ts_14 t1_9 t4_2 rfl rfl (by decide +kernel) ⟨by decide, by decide⟩ [0] [1, 2, 3, 4, 5] [(qa, .inl (cI, 200, .inl (nf Fa))), (qb, .inl (cI, 200, .inl (nf Fb))), (qk, .inl (cI, 200, .inl (nf Fk))), (qu, .inl (cZ, 200, .inl (zf UN))), (qn, .inl (cI, 48, .inl (nf M)))] rfl rfl rfl rfl (by decide) 0 rfl rfl rfl rfl (Nat.le_of_ble_eq_true rfl) d_Md_contemporary_3 ⟨by decide, by decide⟩ (fun r1 w9u1 hw1 => ?_)
  subst hw1
  refine b_if_eq X 21 d_Md_contemporary_6 (by decide) (fun h6 => absurd h6 (by decide)) (fun h6 => ?_)
  refine g_aload_n X 0 d_Md_contemporary_9 rfl rfl ?_
  refine g_iload_n X 2 d_Md_contemporary_10 rfl rfl ?_
  refine g_calliV (n := 1) X [.int (nI j)] (k_Md_isContext mo tw K R qa qb qk qu qn qx qo qf d qr gm qg qv d2 qs vv qc qm qw j (by omega) (by omega)) t3_239 t4_1 ts_14 t1_9 t4_2 rfl rfl (by decide +kernel) ⟨by decide, by decide⟩ [5] [0, 1, 2, 3, 4] [(qa, .inl (cI, 200, .inl (nf Fa))), (qb, .inl (cI, 200, .inl (nf Fb))), (qk, .inl (cI, 200, .inl (nf Fk))), (qu, .inl (cZ, 200, .inl (zf UN))), (qn, .inl (cI, 48, .inl (nf M)))] rfl rfl rfl rfl (by decide) 0 rfl rfl rfl rfl (Nat.le_of_ble_eq_true rfl) d_Md_contemporary_11 ⟨by decide, by decide⟩ (fun r2 w9u2 hw2 => ?_)
  subst hw2
  refine b_if_eq X 21 d_Md_contemporary_14 (by decide) (fun h14 => absurd h14 (by decide)) (fun h14 => ?_)
  refine g_iconst (v := nI 1) X d_Md_contemporary_17 rfl ?_
  refine g_goto X 22 d_Md_contemporary_18 (by decide) ?_
  refine g_iconst (v := nI 1) X d_Md_contemporary_22 rfl ?_
  refine g_calliV (n := 2) X [.int (bI true), .int (bI true)] (k_Md_goes mo tw K R qa qb qk qu qn qx qo qf d qr gm qg qv d2 qs vv qc qm qw ) t3_223 t3_225 ts_11 t1_9 t3_226 rfl rfl (by decide +kernel) ⟨by decide, by decide⟩ [5] [0, 1, 2, 3, 4] [(qa, .inl (cI, 200, .inl (nf Fa))), (qb, .inl (cI, 200, .inl (nf Fb))), (qk, .inl (cI, 200, .inl (nf Fk))), (qu, .inl (cZ, 200, .inl (zf UN))), (qn, .inl (cI, 48, .inl (nf M)))] rfl rfl rfl rfl (by decide) 0 rfl rfl rfl rfl (Nat.le_of_ble_eq_true rfl) d_Md_contemporary_23 ⟨by decide, by decide⟩ (fun r3 w9u3 hw3 => ?_)
  subst hw3
  refine b_if_ne X 31 d_Md_contemporary_26 (by decide) (fun h26 => ?_) (fun h26 => absurd h26 (by decide))
  refine g_aload_n X 0 d_Md_contemporary_31 rfl rfl ?_
  refine g_get (C := R_Md) (T := T_Md) (N := 22) X 5 7 in_Md rfl rfl (by decide) t3_154 rfl rfl d_Md_contemporary_32 ?_
  refine g_iload_n X 1 d_Md_contemporary_35 rfl rfl ?_
  refine g_ialdN X 4 0 rfl rfl (by omega) (by omega) d_Md_contemporary_36 ?_
  refine g_istore_n X [(3, .int (nI (M i))), (0, .ref mo), (1, .int (nI i)), (2, .int (nI j))] d_Md_contemporary_37 rfl (by decide) rfl ?_
  refine g_aload_n X 0 d_Md_contemporary_38 rfl rfl ?_
  refine g_get (C := R_Md) (T := T_Md) (N := 22) X 5 7 in_Md rfl rfl (by decide) t3_154 rfl rfl d_Md_contemporary_39 ?_
  refine g_iload_n X 2 d_Md_contemporary_42 rfl rfl ?_
  refine g_ialdN X 4 0 rfl rfl (by omega) (by omega) d_Md_contemporary_43 ?_
  refine g_istore X [(4, .int (nI (M j))), (3, .int (nI (M i))), (0, .ref mo), (1, .int (nI i)), (2, .int (nI j))] d_Md_contemporary_44 (by decide) rfl ?_
  refine g_iload_n X 3 d_Md_contemporary_46 rfl rfl ?_
  refine g_iload X 4 d_Md_contemporary_47 rfl ?_
  refine n_icmp_ne X 56 d_Md_contemporary_49 (by decide) (by omega) (by omega) (fun h49 => ?_) (fun h49 => ?_)
  · refine g_iconst (v := nI 0) X d_Md_contemporary_56 rfl ?_
    refine g_topE (show nI 0 = bI (decide (M i = M j)) from by rw [decide_eq_false h49]; rfl) ?_
    refine g_istore X [(5, .int (bI (decide (M i = M j)))), (4, .int (nI (M j))), (3, .int (nI (M i))), (0, .ref mo), (1, .int (nI i)), (2, .int (nI j))] d_Md_contemporary_57 (by decide) rfl ?_
    have L62 : ∀ (N62 : Nat) (q : Nat) (b9 : Bool), (R - q) < N62 → (q ≤ R) → (b9 = (decide (M i = M j) || anyB (ctm UN Fk Fa Fb M (M i) (M j)) q)) → G p l e ({ frames := 1, cells := 0, slots := 0, locals := 22 } : Room) s m args below meth c 9 D A s.heap Q 0 0 [(mo, .inr (8, [.int (nI 0), .int (nI K), .int (nI R), .ref qa, .ref qb, .ref qk, .ref qu, .ref qn, .ref qx, .ref qo, .ref qf, .int (nI d), .ref qr, .int (nI gm), .ref qg, .ref qv, .int (nI d2), .ref qs, .int (nI vv), .ref qc, .ref qm, .ref qw])), (qa, .inl (cI, 200, .inl (nf Fa))), (qb, .inl (cI, 200, .inl (nf Fb))), (qk, .inl (cI, 200, .inl (nf Fk))), (qu, .inl (cZ, 200, .inl (zf UN))), (qn, .inl (cI, 48, .inl (nf M)))] [(0, .ref mo), (1, .int (nI i)), (2, .int (nI j)), (3, .int (nI (M i))), (4, .int (nI (M j))), (5, .int (bI b9)), (6, .int (nI q))] 62 [] := by
      intro N62
      induction N62 with
      | zero =>
        intro q b9 hN
        exact absurd hN (Nat.not_lt_zero _)
      | succ N62 ih62 =>
        intro q b9 hN62 hq h1
        refine g_iload X 6 d_Md_contemporary_62 rfl ?_
        refine g_aload_n X 0 d_Md_contemporary_64 rfl rfl ?_
        refine g_get (C := R_Md) (T := T_Md) (N := 22) X 0 2 in_Md rfl rfl (by decide) t3_149 rfl rfl d_Md_contemporary_65 ?_
        refine n_icmp_ge X 164 d_Md_contemporary_68 (by decide) (by omega) (by omega) (fun h68 => ?_) (fun h68 => ?_)
        · refine g_iload X 5 d_Md_contemporary_164 rfl ?_
          exact g_zret X hA9 hQ9 hr9 (bI_01 _) hlk9 () [0, 1, 2, 3, 4, 5] rfl rfl d_Md_contemporary_166 (by have e9 : q = R := (by omega); subst e9; rw [h1])
        · have lk := hk4 q (by omega)
          have lq := hr q (by omega)
          have m1 := hM _ lq.1
          have m2 := hM _ lq.2
          refine g_aload_n X 0 d_Md_contemporary_71 rfl rfl ?_
          refine g_get (C := R_Md) (T := T_Md) (N := 22) X 0 7 in_Md rfl rfl (by decide) t3_154 rfl rfl d_Md_contemporary_72 ?_
          refine g_aload_n X 0 d_Md_contemporary_75 rfl rfl ?_
          refine g_get (C := R_Md) (T := T_Md) (N := 22) X 0 3 in_Md rfl rfl (by decide) t3_150 rfl rfl d_Md_contemporary_76 ?_
          refine g_iload X 6 d_Md_contemporary_79 rfl ?_
          refine g_ialdN X 1 0 rfl rfl (by omega) (by omega) d_Md_contemporary_81 ?_
          refine g_ialdN X 5 0 rfl rfl (by omega) (by omega) d_Md_contemporary_82 ?_
          refine g_istore X [(7, .int (nI (M (Fa q)))), (0, .ref mo), (1, .int (nI i)), (2, .int (nI j)), (3, .int (nI (M i))), (4, .int (nI (M j))), (5, .int (bI b9)), (6, .int (nI q))] d_Md_contemporary_83 (by decide) rfl ?_
          refine g_aload_n X 0 d_Md_contemporary_85 rfl rfl ?_
          refine g_get (C := R_Md) (T := T_Md) (N := 22) X 0 7 in_Md rfl rfl (by decide) t3_154 rfl rfl d_Md_contemporary_86 ?_
          refine g_aload_n X 0 d_Md_contemporary_89 rfl rfl ?_
          refine g_get (C := R_Md) (T := T_Md) (N := 22) X 0 4 in_Md rfl rfl (by decide) t3_151 rfl rfl d_Md_contemporary_90 ?_
          refine g_iload X 6 d_Md_contemporary_93 rfl ?_
          refine g_ialdN X 2 0 rfl rfl (by omega) (by omega) d_Md_contemporary_95 ?_
          refine g_ialdN X 5 0 rfl rfl (by omega) (by omega) d_Md_contemporary_96 ?_
          refine g_istore X [(8, .int (nI (M (Fb q)))), (7, .int (nI (M (Fa q)))), (0, .ref mo), (1, .int (nI i)), (2, .int (nI j)), (3, .int (nI (M i))), (4, .int (nI (M j))), (5, .int (bI b9)), (6, .int (nI q))] d_Md_contemporary_97 (by decide) rfl ?_
          refine g_iload X 5 d_Md_contemporary_99 rfl ?_
          refine b_if_ne X 151 d_Md_contemporary_101 (by decide) (fun h101 => ?_) (fun h101 => ?_)
          · refine g_iconst (v := nI 1) X d_Md_contemporary_151 rfl ?_
            refine g_goto X 156 d_Md_contemporary_152 (by decide) ?_
            refine g_topE (show nI 1 = bI true from rfl) ?_
            refine g_istore X [(5, .int (bI true)), (8, .int (nI (M (Fb q)))), (7, .int (nI (M (Fa q)))), (0, .ref mo), (1, .int (nI i)), (2, .int (nI j)), (3, .int (nI (M i))), (4, .int (nI (M j))), (6, .int (nI q))] d_Md_contemporary_156 (by decide) rfl ?_
            refine g_iinc X (nI (q + 1)) [(6, .int (nI (q + 1))), (5, .int (bI true)), (8, .int (nI (M (Fb q)))), (7, .int (nI (M (Fa q)))), (0, .ref mo), (1, .int (nI i)), (2, .int (nI j)), (3, .int (nI (M i))), (4, .int (nI (M j)))] d_Md_contemporary_158 (k := 8) rfl (nI_1 q) (by decide) rfl ?_
            refine g_goto X 62 d_Md_contemporary_161 (by decide) ?_
            refine g_lv [4, 5, 6, 7, 8, 1, 0] rfl ?_
            exact ih62 (q + 1) true (by omega) (by omega) (by first | exact cm_b h1 h101 | exact cm_t (cmT1 h111 h122 h128 h135) | exact cm_t (cmT2 h111 h122 h142 h148) | exact cm_f h1 h101 (cmF0 h111) | exact cm_f h1 h101 (cmF1 h122) | exact cm_f h1 h101 (cmF2 h128 h142) | exact cm_f h1 h101 (cmF3 h128 h148) | exact cm_f h1 h101 (cmF4 h135 h142) | exact cm_f h1 h101 (cmF5 h135 h148))
          · refine g_aload_n X 0 d_Md_contemporary_104 rfl rfl ?_
            refine g_get (C := R_Md) (T := T_Md) (N := 22) X 0 6 in_Md rfl rfl (by decide) t3_153 rfl rfl d_Md_contemporary_105 ?_
            refine g_iload X 6 d_Md_contemporary_108 rfl ?_
            refine g_zaldB X 4 2 rfl rfl (by omega) (by omega) d_Md_contemporary_110 ?_
            refine b_if_ne X 155 d_Md_contemporary_111 (by decide) (fun h111 => ?_) (fun h111 => ?_)
            · refine g_iconst (v := nI 0) X d_Md_contemporary_155 rfl ?_
              refine g_topE (show nI 0 = bI false from rfl) ?_
              refine g_istore X [(5, .int (bI false)), (8, .int (nI (M (Fb q)))), (7, .int (nI (M (Fa q)))), (0, .ref mo), (1, .int (nI i)), (2, .int (nI j)), (3, .int (nI (M i))), (4, .int (nI (M j))), (6, .int (nI q))] d_Md_contemporary_156 (by decide) rfl ?_
              refine g_iinc X (nI (q + 1)) [(6, .int (nI (q + 1))), (5, .int (bI false)), (8, .int (nI (M (Fb q)))), (7, .int (nI (M (Fa q)))), (0, .ref mo), (1, .int (nI i)), (2, .int (nI j)), (3, .int (nI (M i))), (4, .int (nI (M j)))] d_Md_contemporary_158 (k := 8) rfl (nI_1 q) (by decide) rfl ?_
              refine g_goto X 62 d_Md_contemporary_161 (by decide) ?_
              refine g_lv [4, 5, 6, 7, 8, 1, 0] rfl ?_
              exact ih62 (q + 1) false (by omega) (by omega) (by first | exact cm_b h1 h101 | exact cm_t (cmT1 h111 h122 h128 h135) | exact cm_t (cmT2 h111 h122 h142 h148) | exact cm_f h1 h101 (cmF0 h111) | exact cm_f h1 h101 (cmF1 h122) | exact cm_f h1 h101 (cmF2 h128 h142) | exact cm_f h1 h101 (cmF3 h128 h148) | exact cm_f h1 h101 (cmF4 h135 h142) | exact cm_f h1 h101 (cmF5 h135 h148))
            · refine g_aload_n X 0 d_Md_contemporary_114 rfl rfl ?_
              refine g_get (C := R_Md) (T := T_Md) (N := 22) X 0 5 in_Md rfl rfl (by decide) t3_152 rfl rfl d_Md_contemporary_115 ?_
              refine g_iload X 6 d_Md_contemporary_118 rfl ?_
              refine g_ialdN X 3 0 rfl rfl (by omega) (by omega) d_Md_contemporary_120 ?_
              refine g_iconst (v := nI 4) X d_Md_contemporary_121 rfl ?_
              refine n_icmp_ne X 155 d_Md_contemporary_122 (by decide) (by omega) (by omega) (fun h122 => ?_) (fun h122 => ?_)
              · refine g_iconst (v := nI 0) X d_Md_contemporary_155 rfl ?_
                refine g_topE (show nI 0 = bI false from rfl) ?_
                refine g_istore X [(5, .int (bI false)), (8, .int (nI (M (Fb q)))), (7, .int (nI (M (Fa q)))), (0, .ref mo), (1, .int (nI i)), (2, .int (nI j)), (3, .int (nI (M i))), (4, .int (nI (M j))), (6, .int (nI q))] d_Md_contemporary_156 (by decide) rfl ?_
                refine g_iinc X (nI (q + 1)) [(6, .int (nI (q + 1))), (5, .int (bI false)), (8, .int (nI (M (Fb q)))), (7, .int (nI (M (Fa q)))), (0, .ref mo), (1, .int (nI i)), (2, .int (nI j)), (3, .int (nI (M i))), (4, .int (nI (M j)))] d_Md_contemporary_158 (k := 8) rfl (nI_1 q) (by decide) rfl ?_
                refine g_goto X 62 d_Md_contemporary_161 (by decide) ?_
                refine g_lv [4, 5, 6, 7, 8, 1, 0] rfl ?_
                exact ih62 (q + 1) false (by omega) (by omega) (by first | exact cm_b h1 h101 | exact cm_t (cmT1 h111 h122 h128 h135) | exact cm_t (cmT2 h111 h122 h142 h148) | exact cm_f h1 h101 (cmF0 h111) | exact cm_f h1 h101 (cmF1 h122) | exact cm_f h1 h101 (cmF2 h128 h142) | exact cm_f h1 h101 (cmF3 h128 h148) | exact cm_f h1 h101 (cmF4 h135 h142) | exact cm_f h1 h101 (cmF5 h135 h148))
              · refine g_iload X 7 d_Md_contemporary_125 rfl ?_
                refine g_iload_n X 3 d_Md_contemporary_127 rfl rfl ?_
                refine n_icmp_ne X 138 d_Md_contemporary_128 (by decide) (by omega) (by omega) (fun h128 => ?_) (fun h128 => ?_)
                · refine g_iload X 7 d_Md_contemporary_138 rfl ?_
                  refine g_iload X 4 d_Md_contemporary_140 rfl ?_
                  refine n_icmp_ne X 155 d_Md_contemporary_142 (by decide) (by omega) (by omega) (fun h142 => ?_) (fun h142 => ?_)
                  · refine g_iconst (v := nI 0) X d_Md_contemporary_155 rfl ?_
                    refine g_topE (show nI 0 = bI false from rfl) ?_
                    refine g_istore X [(5, .int (bI false)), (8, .int (nI (M (Fb q)))), (7, .int (nI (M (Fa q)))), (0, .ref mo), (1, .int (nI i)), (2, .int (nI j)), (3, .int (nI (M i))), (4, .int (nI (M j))), (6, .int (nI q))] d_Md_contemporary_156 (by decide) rfl ?_
                    refine g_iinc X (nI (q + 1)) [(6, .int (nI (q + 1))), (5, .int (bI false)), (8, .int (nI (M (Fb q)))), (7, .int (nI (M (Fa q)))), (0, .ref mo), (1, .int (nI i)), (2, .int (nI j)), (3, .int (nI (M i))), (4, .int (nI (M j)))] d_Md_contemporary_158 (k := 8) rfl (nI_1 q) (by decide) rfl ?_
                    refine g_goto X 62 d_Md_contemporary_161 (by decide) ?_
                    refine g_lv [4, 5, 6, 7, 8, 1, 0] rfl ?_
                    exact ih62 (q + 1) false (by omega) (by omega) (by first | exact cm_b h1 h101 | exact cm_t (cmT1 h111 h122 h128 h135) | exact cm_t (cmT2 h111 h122 h142 h148) | exact cm_f h1 h101 (cmF0 h111) | exact cm_f h1 h101 (cmF1 h122) | exact cm_f h1 h101 (cmF2 h128 h142) | exact cm_f h1 h101 (cmF3 h128 h148) | exact cm_f h1 h101 (cmF4 h135 h142) | exact cm_f h1 h101 (cmF5 h135 h148))
                  · refine g_iload X 8 d_Md_contemporary_145 rfl ?_
                    refine g_iload_n X 3 d_Md_contemporary_147 rfl rfl ?_
                    refine n_icmp_ne X 155 d_Md_contemporary_148 (by decide) (by omega) (by omega) (fun h148 => ?_) (fun h148 => ?_)
                    · refine g_iconst (v := nI 0) X d_Md_contemporary_155 rfl ?_
                      refine g_topE (show nI 0 = bI false from rfl) ?_
                      refine g_istore X [(5, .int (bI false)), (8, .int (nI (M (Fb q)))), (7, .int (nI (M (Fa q)))), (0, .ref mo), (1, .int (nI i)), (2, .int (nI j)), (3, .int (nI (M i))), (4, .int (nI (M j))), (6, .int (nI q))] d_Md_contemporary_156 (by decide) rfl ?_
                      refine g_iinc X (nI (q + 1)) [(6, .int (nI (q + 1))), (5, .int (bI false)), (8, .int (nI (M (Fb q)))), (7, .int (nI (M (Fa q)))), (0, .ref mo), (1, .int (nI i)), (2, .int (nI j)), (3, .int (nI (M i))), (4, .int (nI (M j)))] d_Md_contemporary_158 (k := 8) rfl (nI_1 q) (by decide) rfl ?_
                      refine g_goto X 62 d_Md_contemporary_161 (by decide) ?_
                      refine g_lv [4, 5, 6, 7, 8, 1, 0] rfl ?_
                      exact ih62 (q + 1) false (by omega) (by omega) (by first | exact cm_b h1 h101 | exact cm_t (cmT1 h111 h122 h128 h135) | exact cm_t (cmT2 h111 h122 h142 h148) | exact cm_f h1 h101 (cmF0 h111) | exact cm_f h1 h101 (cmF1 h122) | exact cm_f h1 h101 (cmF2 h128 h142) | exact cm_f h1 h101 (cmF3 h128 h148) | exact cm_f h1 h101 (cmF4 h135 h142) | exact cm_f h1 h101 (cmF5 h135 h148))
                    · refine g_iconst (v := nI 1) X d_Md_contemporary_151 rfl ?_
                      refine g_goto X 156 d_Md_contemporary_152 (by decide) ?_
                      refine g_topE (show nI 1 = bI true from rfl) ?_
                      refine g_istore X [(5, .int (bI true)), (8, .int (nI (M (Fb q)))), (7, .int (nI (M (Fa q)))), (0, .ref mo), (1, .int (nI i)), (2, .int (nI j)), (3, .int (nI (M i))), (4, .int (nI (M j))), (6, .int (nI q))] d_Md_contemporary_156 (by decide) rfl ?_
                      refine g_iinc X (nI (q + 1)) [(6, .int (nI (q + 1))), (5, .int (bI true)), (8, .int (nI (M (Fb q)))), (7, .int (nI (M (Fa q)))), (0, .ref mo), (1, .int (nI i)), (2, .int (nI j)), (3, .int (nI (M i))), (4, .int (nI (M j)))] d_Md_contemporary_158 (k := 8) rfl (nI_1 q) (by decide) rfl ?_
                      refine g_goto X 62 d_Md_contemporary_161 (by decide) ?_
                      refine g_lv [4, 5, 6, 7, 8, 1, 0] rfl ?_
                      exact ih62 (q + 1) true (by omega) (by omega) (by first | exact cm_b h1 h101 | exact cm_t (cmT1 h111 h122 h128 h135) | exact cm_t (cmT2 h111 h122 h142 h148) | exact cm_f h1 h101 (cmF0 h111) | exact cm_f h1 h101 (cmF1 h122) | exact cm_f h1 h101 (cmF2 h128 h142) | exact cm_f h1 h101 (cmF3 h128 h148) | exact cm_f h1 h101 (cmF4 h135 h142) | exact cm_f h1 h101 (cmF5 h135 h148))
                · refine g_iload X 8 d_Md_contemporary_131 rfl ?_
                  refine g_iload X 4 d_Md_contemporary_133 rfl ?_
                  refine n_icmp_eq X 151 d_Md_contemporary_135 (by decide) (by omega) (by omega) (fun h135 => ?_) (fun h135 => ?_)
                  · refine g_iconst (v := nI 1) X d_Md_contemporary_151 rfl ?_
                    refine g_goto X 156 d_Md_contemporary_152 (by decide) ?_
                    refine g_topE (show nI 1 = bI true from rfl) ?_
                    refine g_istore X [(5, .int (bI true)), (8, .int (nI (M (Fb q)))), (7, .int (nI (M (Fa q)))), (0, .ref mo), (1, .int (nI i)), (2, .int (nI j)), (3, .int (nI (M i))), (4, .int (nI (M j))), (6, .int (nI q))] d_Md_contemporary_156 (by decide) rfl ?_
                    refine g_iinc X (nI (q + 1)) [(6, .int (nI (q + 1))), (5, .int (bI true)), (8, .int (nI (M (Fb q)))), (7, .int (nI (M (Fa q)))), (0, .ref mo), (1, .int (nI i)), (2, .int (nI j)), (3, .int (nI (M i))), (4, .int (nI (M j)))] d_Md_contemporary_158 (k := 8) rfl (nI_1 q) (by decide) rfl ?_
                    refine g_goto X 62 d_Md_contemporary_161 (by decide) ?_
                    refine g_lv [4, 5, 6, 7, 8, 1, 0] rfl ?_
                    exact ih62 (q + 1) true (by omega) (by omega) (by first | exact cm_b h1 h101 | exact cm_t (cmT1 h111 h122 h128 h135) | exact cm_t (cmT2 h111 h122 h142 h148) | exact cm_f h1 h101 (cmF0 h111) | exact cm_f h1 h101 (cmF1 h122) | exact cm_f h1 h101 (cmF2 h128 h142) | exact cm_f h1 h101 (cmF3 h128 h148) | exact cm_f h1 h101 (cmF4 h135 h142) | exact cm_f h1 h101 (cmF5 h135 h148))
                  · refine g_iload X 7 d_Md_contemporary_138 rfl ?_
                    refine g_iload X 4 d_Md_contemporary_140 rfl ?_
                    refine n_icmp_ne X 155 d_Md_contemporary_142 (by decide) (by omega) (by omega) (fun h142 => ?_) (fun h142 => ?_)
                    · refine g_iconst (v := nI 0) X d_Md_contemporary_155 rfl ?_
                      refine g_topE (show nI 0 = bI false from rfl) ?_
                      refine g_istore X [(5, .int (bI false)), (8, .int (nI (M (Fb q)))), (7, .int (nI (M (Fa q)))), (0, .ref mo), (1, .int (nI i)), (2, .int (nI j)), (3, .int (nI (M i))), (4, .int (nI (M j))), (6, .int (nI q))] d_Md_contemporary_156 (by decide) rfl ?_
                      refine g_iinc X (nI (q + 1)) [(6, .int (nI (q + 1))), (5, .int (bI false)), (8, .int (nI (M (Fb q)))), (7, .int (nI (M (Fa q)))), (0, .ref mo), (1, .int (nI i)), (2, .int (nI j)), (3, .int (nI (M i))), (4, .int (nI (M j)))] d_Md_contemporary_158 (k := 8) rfl (nI_1 q) (by decide) rfl ?_
                      refine g_goto X 62 d_Md_contemporary_161 (by decide) ?_
                      refine g_lv [4, 5, 6, 7, 8, 1, 0] rfl ?_
                      exact ih62 (q + 1) false (by omega) (by omega) (by first | exact cm_b h1 h101 | exact cm_t (cmT1 h111 h122 h128 h135) | exact cm_t (cmT2 h111 h122 h142 h148) | exact cm_f h1 h101 (cmF0 h111) | exact cm_f h1 h101 (cmF1 h122) | exact cm_f h1 h101 (cmF2 h128 h142) | exact cm_f h1 h101 (cmF3 h128 h148) | exact cm_f h1 h101 (cmF4 h135 h142) | exact cm_f h1 h101 (cmF5 h135 h148))
                    · refine g_iload X 8 d_Md_contemporary_145 rfl ?_
                      refine g_iload_n X 3 d_Md_contemporary_147 rfl rfl ?_
                      refine n_icmp_ne X 155 d_Md_contemporary_148 (by decide) (by omega) (by omega) (fun h148 => ?_) (fun h148 => ?_)
                      · refine g_iconst (v := nI 0) X d_Md_contemporary_155 rfl ?_
                        refine g_topE (show nI 0 = bI false from rfl) ?_
                        refine g_istore X [(5, .int (bI false)), (8, .int (nI (M (Fb q)))), (7, .int (nI (M (Fa q)))), (0, .ref mo), (1, .int (nI i)), (2, .int (nI j)), (3, .int (nI (M i))), (4, .int (nI (M j))), (6, .int (nI q))] d_Md_contemporary_156 (by decide) rfl ?_
                        refine g_iinc X (nI (q + 1)) [(6, .int (nI (q + 1))), (5, .int (bI false)), (8, .int (nI (M (Fb q)))), (7, .int (nI (M (Fa q)))), (0, .ref mo), (1, .int (nI i)), (2, .int (nI j)), (3, .int (nI (M i))), (4, .int (nI (M j)))] d_Md_contemporary_158 (k := 8) rfl (nI_1 q) (by decide) rfl ?_
                        refine g_goto X 62 d_Md_contemporary_161 (by decide) ?_
                        refine g_lv [4, 5, 6, 7, 8, 1, 0] rfl ?_
                        exact ih62 (q + 1) false (by omega) (by omega) (by first | exact cm_b h1 h101 | exact cm_t (cmT1 h111 h122 h128 h135) | exact cm_t (cmT2 h111 h122 h142 h148) | exact cm_f h1 h101 (cmF0 h111) | exact cm_f h1 h101 (cmF1 h122) | exact cm_f h1 h101 (cmF2 h128 h142) | exact cm_f h1 h101 (cmF3 h128 h148) | exact cm_f h1 h101 (cmF4 h135 h142) | exact cm_f h1 h101 (cmF5 h135 h148))
                      · refine g_iconst (v := nI 1) X d_Md_contemporary_151 rfl ?_
                        refine g_goto X 156 d_Md_contemporary_152 (by decide) ?_
                        refine g_topE (show nI 1 = bI true from rfl) ?_
                        refine g_istore X [(5, .int (bI true)), (8, .int (nI (M (Fb q)))), (7, .int (nI (M (Fa q)))), (0, .ref mo), (1, .int (nI i)), (2, .int (nI j)), (3, .int (nI (M i))), (4, .int (nI (M j))), (6, .int (nI q))] d_Md_contemporary_156 (by decide) rfl ?_
                        refine g_iinc X (nI (q + 1)) [(6, .int (nI (q + 1))), (5, .int (bI true)), (8, .int (nI (M (Fb q)))), (7, .int (nI (M (Fa q)))), (0, .ref mo), (1, .int (nI i)), (2, .int (nI j)), (3, .int (nI (M i))), (4, .int (nI (M j)))] d_Md_contemporary_158 (k := 8) rfl (nI_1 q) (by decide) rfl ?_
                        refine g_goto X 62 d_Md_contemporary_161 (by decide) ?_
                        refine g_lv [4, 5, 6, 7, 8, 1, 0] rfl ?_
                        exact ih62 (q + 1) true (by omega) (by omega) (by first | exact cm_b h1 h101 | exact cm_t (cmT1 h111 h122 h128 h135) | exact cm_t (cmT2 h111 h122 h142 h148) | exact cm_f h1 h101 (cmF0 h111) | exact cm_f h1 h101 (cmF1 h122) | exact cm_f h1 h101 (cmF2 h128 h142) | exact cm_f h1 h101 (cmF3 h128 h148) | exact cm_f h1 h101 (cmF4 h135 h142) | exact cm_f h1 h101 (cmF5 h135 h148))
    refine g_iconst (v := nI 0) X d_Md_contemporary_59 rfl ?_
    refine g_istore X [(6, .int (nI 0)), (5, .int (bI (decide (M i = M j)))), (4, .int (nI (M j))), (3, .int (nI (M i))), (0, .ref mo), (1, .int (nI i)), (2, .int (nI j))] d_Md_contemporary_60 (by decide) rfl ?_
    refine g_ws [(mo, .inr (8, [.int (nI 0), .int (nI K), .int (nI R), .ref qa, .ref qb, .ref qk, .ref qu, .ref qn, .ref qx, .ref qo, .ref qf, .int (nI d), .ref qr, .int (nI gm), .ref qg, .ref qv, .int (nI d2), .ref qs, .int (nI vv), .ref qc, .ref qm, .ref qw])), (qa, .inl (cI, 200, .inl (nf Fa))), (qb, .inl (cI, 200, .inl (nf Fb))), (qk, .inl (cI, 200, .inl (nf Fk))), (qu, .inl (cZ, 200, .inl (zf UN))), (qn, .inl (cI, 48, .inl (nf M)))] [5, 0, 1, 2, 3, 4] rfl rfl ?_
    refine g_lv [4, 5, 6, 3, 2, 1, 0] rfl ?_
    exact L62 ((R - 0) + 1) 0 (decide (M i = M j)) (Nat.lt_succ_self _) (by omega) (cm_0)
  · refine g_iconst (v := nI 1) X d_Md_contemporary_52 rfl ?_
    refine g_goto X 57 d_Md_contemporary_53 (by decide) ?_
    refine g_topE (show nI 1 = bI (decide (M i = M j)) from by rw [decide_eq_true h49]; rfl) ?_
    refine g_istore X [(5, .int (bI (decide (M i = M j)))), (4, .int (nI (M j))), (3, .int (nI (M i))), (0, .ref mo), (1, .int (nI i)), (2, .int (nI j))] d_Md_contemporary_57 (by decide) rfl ?_
    have L62 : ∀ (N62 : Nat) (q : Nat) (b9 : Bool), (R - q) < N62 → (q ≤ R) → (b9 = (decide (M i = M j) || anyB (ctm UN Fk Fa Fb M (M i) (M j)) q)) → G p l e ({ frames := 1, cells := 0, slots := 0, locals := 22 } : Room) s m args below meth c 9 D A s.heap Q 0 0 [(mo, .inr (8, [.int (nI 0), .int (nI K), .int (nI R), .ref qa, .ref qb, .ref qk, .ref qu, .ref qn, .ref qx, .ref qo, .ref qf, .int (nI d), .ref qr, .int (nI gm), .ref qg, .ref qv, .int (nI d2), .ref qs, .int (nI vv), .ref qc, .ref qm, .ref qw])), (qa, .inl (cI, 200, .inl (nf Fa))), (qb, .inl (cI, 200, .inl (nf Fb))), (qk, .inl (cI, 200, .inl (nf Fk))), (qu, .inl (cZ, 200, .inl (zf UN))), (qn, .inl (cI, 48, .inl (nf M)))] [(0, .ref mo), (1, .int (nI i)), (2, .int (nI j)), (3, .int (nI (M i))), (4, .int (nI (M j))), (5, .int (bI b9)), (6, .int (nI q))] 62 [] := by
      intro N62
      induction N62 with
      | zero =>
        intro q b9 hN
        exact absurd hN (Nat.not_lt_zero _)
      | succ N62 ih62 =>
        intro q b9 hN62 hq h1
        refine g_iload X 6 d_Md_contemporary_62 rfl ?_
        refine g_aload_n X 0 d_Md_contemporary_64 rfl rfl ?_
        refine g_get (C := R_Md) (T := T_Md) (N := 22) X 0 2 in_Md rfl rfl (by decide) t3_149 rfl rfl d_Md_contemporary_65 ?_
        refine n_icmp_ge X 164 d_Md_contemporary_68 (by decide) (by omega) (by omega) (fun h68 => ?_) (fun h68 => ?_)
        · refine g_iload X 5 d_Md_contemporary_164 rfl ?_
          exact g_zret X hA9 hQ9 hr9 (bI_01 _) hlk9 () [0, 1, 2, 3, 4, 5] rfl rfl d_Md_contemporary_166 (by have e9 : q = R := (by omega); subst e9; rw [h1])
        · have lk := hk4 q (by omega)
          have lq := hr q (by omega)
          have m1 := hM _ lq.1
          have m2 := hM _ lq.2
          refine g_aload_n X 0 d_Md_contemporary_71 rfl rfl ?_
          refine g_get (C := R_Md) (T := T_Md) (N := 22) X 0 7 in_Md rfl rfl (by decide) t3_154 rfl rfl d_Md_contemporary_72 ?_
          refine g_aload_n X 0 d_Md_contemporary_75 rfl rfl ?_
          refine g_get (C := R_Md) (T := T_Md) (N := 22) X 0 3 in_Md rfl rfl (by decide) t3_150 rfl rfl d_Md_contemporary_76 ?_
          refine g_iload X 6 d_Md_contemporary_79 rfl ?_
          refine g_ialdN X 1 0 rfl rfl (by omega) (by omega) d_Md_contemporary_81 ?_
          refine g_ialdN X 5 0 rfl rfl (by omega) (by omega) d_Md_contemporary_82 ?_
          refine g_istore X [(7, .int (nI (M (Fa q)))), (0, .ref mo), (1, .int (nI i)), (2, .int (nI j)), (3, .int (nI (M i))), (4, .int (nI (M j))), (5, .int (bI b9)), (6, .int (nI q))] d_Md_contemporary_83 (by decide) rfl ?_
          refine g_aload_n X 0 d_Md_contemporary_85 rfl rfl ?_
          refine g_get (C := R_Md) (T := T_Md) (N := 22) X 0 7 in_Md rfl rfl (by decide) t3_154 rfl rfl d_Md_contemporary_86 ?_
          refine g_aload_n X 0 d_Md_contemporary_89 rfl rfl ?_
          refine g_get (C := R_Md) (T := T_Md) (N := 22) X 0 4 in_Md rfl rfl (by decide) t3_151 rfl rfl d_Md_contemporary_90 ?_
          refine g_iload X 6 d_Md_contemporary_93 rfl ?_
          refine g_ialdN X 2 0 rfl rfl (by omega) (by omega) d_Md_contemporary_95 ?_
          refine g_ialdN X 5 0 rfl rfl (by omega) (by omega) d_Md_contemporary_96 ?_
          refine g_istore X [(8, .int (nI (M (Fb q)))), (7, .int (nI (M (Fa q)))), (0, .ref mo), (1, .int (nI i)), (2, .int (nI j)), (3, .int (nI (M i))), (4, .int (nI (M j))), (5, .int (bI b9)), (6, .int (nI q))] d_Md_contemporary_97 (by decide) rfl ?_
          refine g_iload X 5 d_Md_contemporary_99 rfl ?_
          refine b_if_ne X 151 d_Md_contemporary_101 (by decide) (fun h101 => ?_) (fun h101 => ?_)
          · refine g_iconst (v := nI 1) X d_Md_contemporary_151 rfl ?_
            refine g_goto X 156 d_Md_contemporary_152 (by decide) ?_
            refine g_topE (show nI 1 = bI true from rfl) ?_
            refine g_istore X [(5, .int (bI true)), (8, .int (nI (M (Fb q)))), (7, .int (nI (M (Fa q)))), (0, .ref mo), (1, .int (nI i)), (2, .int (nI j)), (3, .int (nI (M i))), (4, .int (nI (M j))), (6, .int (nI q))] d_Md_contemporary_156 (by decide) rfl ?_
            refine g_iinc X (nI (q + 1)) [(6, .int (nI (q + 1))), (5, .int (bI true)), (8, .int (nI (M (Fb q)))), (7, .int (nI (M (Fa q)))), (0, .ref mo), (1, .int (nI i)), (2, .int (nI j)), (3, .int (nI (M i))), (4, .int (nI (M j)))] d_Md_contemporary_158 (k := 8) rfl (nI_1 q) (by decide) rfl ?_
            refine g_goto X 62 d_Md_contemporary_161 (by decide) ?_
            refine g_lv [4, 5, 6, 7, 8, 1, 0] rfl ?_
            exact ih62 (q + 1) true (by omega) (by omega) (by first | exact cm_b h1 h101 | exact cm_t (cmT1 h111 h122 h128 h135) | exact cm_t (cmT2 h111 h122 h142 h148) | exact cm_f h1 h101 (cmF0 h111) | exact cm_f h1 h101 (cmF1 h122) | exact cm_f h1 h101 (cmF2 h128 h142) | exact cm_f h1 h101 (cmF3 h128 h148) | exact cm_f h1 h101 (cmF4 h135 h142) | exact cm_f h1 h101 (cmF5 h135 h148))
          · refine g_aload_n X 0 d_Md_contemporary_104 rfl rfl ?_
            refine g_get (C := R_Md) (T := T_Md) (N := 22) X 0 6 in_Md rfl rfl (by decide) t3_153 rfl rfl d_Md_contemporary_105 ?_
            refine g_iload X 6 d_Md_contemporary_108 rfl ?_
            refine g_zaldB X 4 2 rfl rfl (by omega) (by omega) d_Md_contemporary_110 ?_
            refine b_if_ne X 155 d_Md_contemporary_111 (by decide) (fun h111 => ?_) (fun h111 => ?_)
            · refine g_iconst (v := nI 0) X d_Md_contemporary_155 rfl ?_
              refine g_topE (show nI 0 = bI false from rfl) ?_
              refine g_istore X [(5, .int (bI false)), (8, .int (nI (M (Fb q)))), (7, .int (nI (M (Fa q)))), (0, .ref mo), (1, .int (nI i)), (2, .int (nI j)), (3, .int (nI (M i))), (4, .int (nI (M j))), (6, .int (nI q))] d_Md_contemporary_156 (by decide) rfl ?_
              refine g_iinc X (nI (q + 1)) [(6, .int (nI (q + 1))), (5, .int (bI false)), (8, .int (nI (M (Fb q)))), (7, .int (nI (M (Fa q)))), (0, .ref mo), (1, .int (nI i)), (2, .int (nI j)), (3, .int (nI (M i))), (4, .int (nI (M j)))] d_Md_contemporary_158 (k := 8) rfl (nI_1 q) (by decide) rfl ?_
              refine g_goto X 62 d_Md_contemporary_161 (by decide) ?_
              refine g_lv [4, 5, 6, 7, 8, 1, 0] rfl ?_
              exact ih62 (q + 1) false (by omega) (by omega) (by first | exact cm_b h1 h101 | exact cm_t (cmT1 h111 h122 h128 h135) | exact cm_t (cmT2 h111 h122 h142 h148) | exact cm_f h1 h101 (cmF0 h111) | exact cm_f h1 h101 (cmF1 h122) | exact cm_f h1 h101 (cmF2 h128 h142) | exact cm_f h1 h101 (cmF3 h128 h148) | exact cm_f h1 h101 (cmF4 h135 h142) | exact cm_f h1 h101 (cmF5 h135 h148))
            · refine g_aload_n X 0 d_Md_contemporary_114 rfl rfl ?_
              refine g_get (C := R_Md) (T := T_Md) (N := 22) X 0 5 in_Md rfl rfl (by decide) t3_152 rfl rfl d_Md_contemporary_115 ?_
              refine g_iload X 6 d_Md_contemporary_118 rfl ?_
              refine g_ialdN X 3 0 rfl rfl (by omega) (by omega) d_Md_contemporary_120 ?_
              refine g_iconst (v := nI 4) X d_Md_contemporary_121 rfl ?_
              refine n_icmp_ne X 155 d_Md_contemporary_122 (by decide) (by omega) (by omega) (fun h122 => ?_) (fun h122 => ?_)
              · refine g_iconst (v := nI 0) X d_Md_contemporary_155 rfl ?_
                refine g_topE (show nI 0 = bI false from rfl) ?_
                refine g_istore X [(5, .int (bI false)), (8, .int (nI (M (Fb q)))), (7, .int (nI (M (Fa q)))), (0, .ref mo), (1, .int (nI i)), (2, .int (nI j)), (3, .int (nI (M i))), (4, .int (nI (M j))), (6, .int (nI q))] d_Md_contemporary_156 (by decide) rfl ?_
                refine g_iinc X (nI (q + 1)) [(6, .int (nI (q + 1))), (5, .int (bI false)), (8, .int (nI (M (Fb q)))), (7, .int (nI (M (Fa q)))), (0, .ref mo), (1, .int (nI i)), (2, .int (nI j)), (3, .int (nI (M i))), (4, .int (nI (M j)))] d_Md_contemporary_158 (k := 8) rfl (nI_1 q) (by decide) rfl ?_
                refine g_goto X 62 d_Md_contemporary_161 (by decide) ?_
                refine g_lv [4, 5, 6, 7, 8, 1, 0] rfl ?_
                exact ih62 (q + 1) false (by omega) (by omega) (by first | exact cm_b h1 h101 | exact cm_t (cmT1 h111 h122 h128 h135) | exact cm_t (cmT2 h111 h122 h142 h148) | exact cm_f h1 h101 (cmF0 h111) | exact cm_f h1 h101 (cmF1 h122) | exact cm_f h1 h101 (cmF2 h128 h142) | exact cm_f h1 h101 (cmF3 h128 h148) | exact cm_f h1 h101 (cmF4 h135 h142) | exact cm_f h1 h101 (cmF5 h135 h148))
              · refine g_iload X 7 d_Md_contemporary_125 rfl ?_
                refine g_iload_n X 3 d_Md_contemporary_127 rfl rfl ?_
                refine n_icmp_ne X 138 d_Md_contemporary_128 (by decide) (by omega) (by omega) (fun h128 => ?_) (fun h128 => ?_)
                · refine g_iload X 7 d_Md_contemporary_138 rfl ?_
                  refine g_iload X 4 d_Md_contemporary_140 rfl ?_
                  refine n_icmp_ne X 155 d_Md_contemporary_142 (by decide) (by omega) (by omega) (fun h142 => ?_) (fun h142 => ?_)
                  · refine g_iconst (v := nI 0) X d_Md_contemporary_155 rfl ?_
                    refine g_topE (show nI 0 = bI false from rfl) ?_
                    refine g_istore X [(5, .int (bI false)), (8, .int (nI (M (Fb q)))), (7, .int (nI (M (Fa q)))), (0, .ref mo), (1, .int (nI i)), (2, .int (nI j)), (3, .int (nI (M i))), (4, .int (nI (M j))), (6, .int (nI q))] d_Md_contemporary_156 (by decide) rfl ?_
                    refine g_iinc X (nI (q + 1)) [(6, .int (nI (q + 1))), (5, .int (bI false)), (8, .int (nI (M (Fb q)))), (7, .int (nI (M (Fa q)))), (0, .ref mo), (1, .int (nI i)), (2, .int (nI j)), (3, .int (nI (M i))), (4, .int (nI (M j)))] d_Md_contemporary_158 (k := 8) rfl (nI_1 q) (by decide) rfl ?_
                    refine g_goto X 62 d_Md_contemporary_161 (by decide) ?_
                    refine g_lv [4, 5, 6, 7, 8, 1, 0] rfl ?_
                    exact ih62 (q + 1) false (by omega) (by omega) (by first | exact cm_b h1 h101 | exact cm_t (cmT1 h111 h122 h128 h135) | exact cm_t (cmT2 h111 h122 h142 h148) | exact cm_f h1 h101 (cmF0 h111) | exact cm_f h1 h101 (cmF1 h122) | exact cm_f h1 h101 (cmF2 h128 h142) | exact cm_f h1 h101 (cmF3 h128 h148) | exact cm_f h1 h101 (cmF4 h135 h142) | exact cm_f h1 h101 (cmF5 h135 h148))
                  · refine g_iload X 8 d_Md_contemporary_145 rfl ?_
                    refine g_iload_n X 3 d_Md_contemporary_147 rfl rfl ?_
                    refine n_icmp_ne X 155 d_Md_contemporary_148 (by decide) (by omega) (by omega) (fun h148 => ?_) (fun h148 => ?_)
                    · refine g_iconst (v := nI 0) X d_Md_contemporary_155 rfl ?_
                      refine g_topE (show nI 0 = bI false from rfl) ?_
                      refine g_istore X [(5, .int (bI false)), (8, .int (nI (M (Fb q)))), (7, .int (nI (M (Fa q)))), (0, .ref mo), (1, .int (nI i)), (2, .int (nI j)), (3, .int (nI (M i))), (4, .int (nI (M j))), (6, .int (nI q))] d_Md_contemporary_156 (by decide) rfl ?_
                      refine g_iinc X (nI (q + 1)) [(6, .int (nI (q + 1))), (5, .int (bI false)), (8, .int (nI (M (Fb q)))), (7, .int (nI (M (Fa q)))), (0, .ref mo), (1, .int (nI i)), (2, .int (nI j)), (3, .int (nI (M i))), (4, .int (nI (M j)))] d_Md_contemporary_158 (k := 8) rfl (nI_1 q) (by decide) rfl ?_
                      refine g_goto X 62 d_Md_contemporary_161 (by decide) ?_
                      refine g_lv [4, 5, 6, 7, 8, 1, 0] rfl ?_
                      exact ih62 (q + 1) false (by omega) (by omega) (by first | exact cm_b h1 h101 | exact cm_t (cmT1 h111 h122 h128 h135) | exact cm_t (cmT2 h111 h122 h142 h148) | exact cm_f h1 h101 (cmF0 h111) | exact cm_f h1 h101 (cmF1 h122) | exact cm_f h1 h101 (cmF2 h128 h142) | exact cm_f h1 h101 (cmF3 h128 h148) | exact cm_f h1 h101 (cmF4 h135 h142) | exact cm_f h1 h101 (cmF5 h135 h148))
                    · refine g_iconst (v := nI 1) X d_Md_contemporary_151 rfl ?_
                      refine g_goto X 156 d_Md_contemporary_152 (by decide) ?_
                      refine g_topE (show nI 1 = bI true from rfl) ?_
                      refine g_istore X [(5, .int (bI true)), (8, .int (nI (M (Fb q)))), (7, .int (nI (M (Fa q)))), (0, .ref mo), (1, .int (nI i)), (2, .int (nI j)), (3, .int (nI (M i))), (4, .int (nI (M j))), (6, .int (nI q))] d_Md_contemporary_156 (by decide) rfl ?_
                      refine g_iinc X (nI (q + 1)) [(6, .int (nI (q + 1))), (5, .int (bI true)), (8, .int (nI (M (Fb q)))), (7, .int (nI (M (Fa q)))), (0, .ref mo), (1, .int (nI i)), (2, .int (nI j)), (3, .int (nI (M i))), (4, .int (nI (M j)))] d_Md_contemporary_158 (k := 8) rfl (nI_1 q) (by decide) rfl ?_
                      refine g_goto X 62 d_Md_contemporary_161 (by decide) ?_
                      refine g_lv [4, 5, 6, 7, 8, 1, 0] rfl ?_
                      exact ih62 (q + 1) true (by omega) (by omega) (by first | exact cm_b h1 h101 | exact cm_t (cmT1 h111 h122 h128 h135) | exact cm_t (cmT2 h111 h122 h142 h148) | exact cm_f h1 h101 (cmF0 h111) | exact cm_f h1 h101 (cmF1 h122) | exact cm_f h1 h101 (cmF2 h128 h142) | exact cm_f h1 h101 (cmF3 h128 h148) | exact cm_f h1 h101 (cmF4 h135 h142) | exact cm_f h1 h101 (cmF5 h135 h148))
                · refine g_iload X 8 d_Md_contemporary_131 rfl ?_
                  refine g_iload X 4 d_Md_contemporary_133 rfl ?_
                  refine n_icmp_eq X 151 d_Md_contemporary_135 (by decide) (by omega) (by omega) (fun h135 => ?_) (fun h135 => ?_)
                  · refine g_iconst (v := nI 1) X d_Md_contemporary_151 rfl ?_
                    refine g_goto X 156 d_Md_contemporary_152 (by decide) ?_
                    refine g_topE (show nI 1 = bI true from rfl) ?_
                    refine g_istore X [(5, .int (bI true)), (8, .int (nI (M (Fb q)))), (7, .int (nI (M (Fa q)))), (0, .ref mo), (1, .int (nI i)), (2, .int (nI j)), (3, .int (nI (M i))), (4, .int (nI (M j))), (6, .int (nI q))] d_Md_contemporary_156 (by decide) rfl ?_
                    refine g_iinc X (nI (q + 1)) [(6, .int (nI (q + 1))), (5, .int (bI true)), (8, .int (nI (M (Fb q)))), (7, .int (nI (M (Fa q)))), (0, .ref mo), (1, .int (nI i)), (2, .int (nI j)), (3, .int (nI (M i))), (4, .int (nI (M j)))] d_Md_contemporary_158 (k := 8) rfl (nI_1 q) (by decide) rfl ?_
                    refine g_goto X 62 d_Md_contemporary_161 (by decide) ?_
                    refine g_lv [4, 5, 6, 7, 8, 1, 0] rfl ?_
                    exact ih62 (q + 1) true (by omega) (by omega) (by first | exact cm_b h1 h101 | exact cm_t (cmT1 h111 h122 h128 h135) | exact cm_t (cmT2 h111 h122 h142 h148) | exact cm_f h1 h101 (cmF0 h111) | exact cm_f h1 h101 (cmF1 h122) | exact cm_f h1 h101 (cmF2 h128 h142) | exact cm_f h1 h101 (cmF3 h128 h148) | exact cm_f h1 h101 (cmF4 h135 h142) | exact cm_f h1 h101 (cmF5 h135 h148))
                  · refine g_iload X 7 d_Md_contemporary_138 rfl ?_
                    refine g_iload X 4 d_Md_contemporary_140 rfl ?_
                    refine n_icmp_ne X 155 d_Md_contemporary_142 (by decide) (by omega) (by omega) (fun h142 => ?_) (fun h142 => ?_)
                    · refine g_iconst (v := nI 0) X d_Md_contemporary_155 rfl ?_
                      refine g_topE (show nI 0 = bI false from rfl) ?_
                      refine g_istore X [(5, .int (bI false)), (8, .int (nI (M (Fb q)))), (7, .int (nI (M (Fa q)))), (0, .ref mo), (1, .int (nI i)), (2, .int (nI j)), (3, .int (nI (M i))), (4, .int (nI (M j))), (6, .int (nI q))] d_Md_contemporary_156 (by decide) rfl ?_
                      refine g_iinc X (nI (q + 1)) [(6, .int (nI (q + 1))), (5, .int (bI false)), (8, .int (nI (M (Fb q)))), (7, .int (nI (M (Fa q)))), (0, .ref mo), (1, .int (nI i)), (2, .int (nI j)), (3, .int (nI (M i))), (4, .int (nI (M j)))] d_Md_contemporary_158 (k := 8) rfl (nI_1 q) (by decide) rfl ?_
                      refine g_goto X 62 d_Md_contemporary_161 (by decide) ?_
                      refine g_lv [4, 5, 6, 7, 8, 1, 0] rfl ?_
                      exact ih62 (q + 1) false (by omega) (by omega) (by first | exact cm_b h1 h101 | exact cm_t (cmT1 h111 h122 h128 h135) | exact cm_t (cmT2 h111 h122 h142 h148) | exact cm_f h1 h101 (cmF0 h111) | exact cm_f h1 h101 (cmF1 h122) | exact cm_f h1 h101 (cmF2 h128 h142) | exact cm_f h1 h101 (cmF3 h128 h148) | exact cm_f h1 h101 (cmF4 h135 h142) | exact cm_f h1 h101 (cmF5 h135 h148))
                    · refine g_iload X 8 d_Md_contemporary_145 rfl ?_
                      refine g_iload_n X 3 d_Md_contemporary_147 rfl rfl ?_
                      refine n_icmp_ne X 155 d_Md_contemporary_148 (by decide) (by omega) (by omega) (fun h148 => ?_) (fun h148 => ?_)
                      · refine g_iconst (v := nI 0) X d_Md_contemporary_155 rfl ?_
                        refine g_topE (show nI 0 = bI false from rfl) ?_
                        refine g_istore X [(5, .int (bI false)), (8, .int (nI (M (Fb q)))), (7, .int (nI (M (Fa q)))), (0, .ref mo), (1, .int (nI i)), (2, .int (nI j)), (3, .int (nI (M i))), (4, .int (nI (M j))), (6, .int (nI q))] d_Md_contemporary_156 (by decide) rfl ?_
                        refine g_iinc X (nI (q + 1)) [(6, .int (nI (q + 1))), (5, .int (bI false)), (8, .int (nI (M (Fb q)))), (7, .int (nI (M (Fa q)))), (0, .ref mo), (1, .int (nI i)), (2, .int (nI j)), (3, .int (nI (M i))), (4, .int (nI (M j)))] d_Md_contemporary_158 (k := 8) rfl (nI_1 q) (by decide) rfl ?_
                        refine g_goto X 62 d_Md_contemporary_161 (by decide) ?_
                        refine g_lv [4, 5, 6, 7, 8, 1, 0] rfl ?_
                        exact ih62 (q + 1) false (by omega) (by omega) (by first | exact cm_b h1 h101 | exact cm_t (cmT1 h111 h122 h128 h135) | exact cm_t (cmT2 h111 h122 h142 h148) | exact cm_f h1 h101 (cmF0 h111) | exact cm_f h1 h101 (cmF1 h122) | exact cm_f h1 h101 (cmF2 h128 h142) | exact cm_f h1 h101 (cmF3 h128 h148) | exact cm_f h1 h101 (cmF4 h135 h142) | exact cm_f h1 h101 (cmF5 h135 h148))
                      · refine g_iconst (v := nI 1) X d_Md_contemporary_151 rfl ?_
                        refine g_goto X 156 d_Md_contemporary_152 (by decide) ?_
                        refine g_topE (show nI 1 = bI true from rfl) ?_
                        refine g_istore X [(5, .int (bI true)), (8, .int (nI (M (Fb q)))), (7, .int (nI (M (Fa q)))), (0, .ref mo), (1, .int (nI i)), (2, .int (nI j)), (3, .int (nI (M i))), (4, .int (nI (M j))), (6, .int (nI q))] d_Md_contemporary_156 (by decide) rfl ?_
                        refine g_iinc X (nI (q + 1)) [(6, .int (nI (q + 1))), (5, .int (bI true)), (8, .int (nI (M (Fb q)))), (7, .int (nI (M (Fa q)))), (0, .ref mo), (1, .int (nI i)), (2, .int (nI j)), (3, .int (nI (M i))), (4, .int (nI (M j)))] d_Md_contemporary_158 (k := 8) rfl (nI_1 q) (by decide) rfl ?_
                        refine g_goto X 62 d_Md_contemporary_161 (by decide) ?_
                        refine g_lv [4, 5, 6, 7, 8, 1, 0] rfl ?_
                        exact ih62 (q + 1) true (by omega) (by omega) (by first | exact cm_b h1 h101 | exact cm_t (cmT1 h111 h122 h128 h135) | exact cm_t (cmT2 h111 h122 h142 h148) | exact cm_f h1 h101 (cmF0 h111) | exact cm_f h1 h101 (cmF1 h122) | exact cm_f h1 h101 (cmF2 h128 h142) | exact cm_f h1 h101 (cmF3 h128 h148) | exact cm_f h1 h101 (cmF4 h135 h142) | exact cm_f h1 h101 (cmF5 h135 h148))
    refine g_iconst (v := nI 0) X d_Md_contemporary_59 rfl ?_
    refine g_istore X [(6, .int (nI 0)), (5, .int (bI (decide (M i = M j)))), (4, .int (nI (M j))), (3, .int (nI (M i))), (0, .ref mo), (1, .int (nI i)), (2, .int (nI j))] d_Md_contemporary_60 (by decide) rfl ?_
    refine g_ws [(mo, .inr (8, [.int (nI 0), .int (nI K), .int (nI R), .ref qa, .ref qb, .ref qk, .ref qu, .ref qn, .ref qx, .ref qo, .ref qf, .int (nI d), .ref qr, .int (nI gm), .ref qg, .ref qv, .int (nI d2), .ref qs, .int (nI vv), .ref qc, .ref qm, .ref qw])), (qa, .inl (cI, 200, .inl (nf Fa))), (qb, .inl (cI, 200, .inl (nf Fb))), (qk, .inl (cI, 200, .inl (nf Fk))), (qu, .inl (cZ, 200, .inl (zf UN))), (qn, .inl (cI, 48, .inl (nf M)))] [5, 0, 1, 2, 3, 4] rfl rfl ?_
    refine g_lv [4, 5, 6, 3, 2, 1, 0] rfl ?_
    exact L62 ((R - 0) + 1) 0 (decide (M i = M j)) (Nat.lt_succ_self _) (by omega) (cm_0)

set_option maxHeartbeats 4000000 in
set_option maxRecDepth 100000 in
theorem k_Md_longest (mo : Nat) (tw : Int32) (K : Nat) (R : Nat) (qa : Nat) (qb : Nat) (qk : Nat) (qu : Nat) (qn : Nat) (qx : Nat) (qo : Nat) (qf : Nat) (d : Nat) (qr : Nat) (gm : Nat) (qg : Nat) (qv : Nat) (d2 : Nat) (qs : Nat) (vv : Nat) (qc : Nat) (qm : Nat) (qw : Nat) (M : Nat → Nat) (AB : Nat → Bool) (FF : Nat → Nat) (i : Nat) (hK : K ≤ 48) (hi : i < K) (l1 : M i < 48) (hac : ∀ z, ¬ gov (tE 48 AB) z z) : CtI l y_Md_longest (Cond.code y_Md_longest c_Md_longest 4 (some .int) :: TB) ({ frames := 1, cells := 0, slots := 0, locals := 22 } : Room) D (tysv cI cJ cZ cQ) [.ref mo, .int (nI i)] [(mo, .inr (8, [.int tw, .int (nI K), .int (nI R), .ref qa, .ref qb, .ref qk, .ref qu, .ref qn, .ref qx, .ref qo, .ref qf, .int (nI d), .ref qr, .int (nI gm), .ref qg, .ref qv, .int (nI d2), .ref qs, .int (nI vv), .ref qc, .ref qm, .ref qw])), (qn, .inl (cI, 48, .inl (nf M))), (qx, .inl (cZ, 2304, .inl (zf AB))), (qf, .inl (cI, 48, .inl (nf FF)))] 0 0 (fun (r : Int32) (u : (Nat → Nat) × Nat) => r = nI u.2 ∧ glong (tE 48 AB) (M i) u.2) (fun (u : (Nat → Nat) × Nat) => [(mo, .inr (8, [.int (nI 0), .int (nI K), .int (nI R), .ref qa, .ref qb, .ref qk, .ref qu, .ref qn, .ref qx, .ref qo, .ref qf, .int (nI d), .ref qr, .int (nI gm), .ref qg, .ref qv, .int (nI d2), .ref qs, .int (nI vv), .ref qc, .ref qm, .ref qw])), (qn, .inl (cI, 48, .inl (nf M))), (qx, .inl (cZ, 2304, .inl (zf AB))), (qf, .inl (cI, 48, .inl (nf u.1)))]) := by
  refine CtI.of c_Md_longest 4 (some .int) (by decide) rfl (Nat.le_of_ble_eq_true rfl) ?_
  intro p e s m args below meth c A Q hA9 hQ9 X hr9 hlk9 hin9
  refine g_aload_n X 0 d_Md_longest_0 rfl rfl ?_
  refine g_aload_n X 0 d_Md_longest_1 rfl rfl ?_
  refine g_iload_n X 1 d_Md_longest_2 rfl rfl ?_
  refine g_calliV (n := 1) X [.int (nI i)] (k_Md_isContext mo tw K R qa qb qk qu qn qx qo qf d qr gm qg qv d2 qs vv qc qm qw i (by omega) (by omega)) t3_239 t4_1 ts_14 t1_9 t4_2 rfl rfl (by decide +kernel) ⟨by decide, by decide⟩ [0] [1, 2, 3] [(qn, .inl (cI, 48, .inl (nf M))), (qx, .inl (cZ, 2304, .inl (zf AB))), (qf, .inl (cI, 48, .inl (nf FF)))] rfl rfl rfl rfl (by decide) 0 rfl rfl rfl rfl (Nat.le_of_ble_eq_true rfl) d_Md_longest_3 ⟨by decide, by decide⟩ (fun r1 w9u1 hw1 => ?_)
  subst hw1
  refine g_iconst (v := nI 1) X d_Md_longest_6 rfl ?_
  refine g_calliV (n := 2) X [.int (bI true), .int (bI true)] (k_Md_goes mo tw K R qa qb qk qu qn qx qo qf d qr gm qg qv d2 qs vv qc qm qw ) t3_223 t3_225 ts_11 t1_9 t3_226 rfl rfl (by decide +kernel) ⟨by decide, by decide⟩ [3] [0, 1, 2] [(qn, .inl (cI, 48, .inl (nf M))), (qx, .inl (cZ, 2304, .inl (zf AB))), (qf, .inl (cI, 48, .inl (nf FF)))] rfl rfl rfl rfl (by decide) 0 rfl rfl rfl rfl (Nat.le_of_ble_eq_true rfl) d_Md_longest_7 ⟨by decide, by decide⟩ (fun r2 w9u2 hw2 => ?_)
  subst hw2
  refine b_if_ne X 15 d_Md_longest_10 (by decide) (fun h10 => ?_) (fun h10 => absurd h10 (by decide))
  have L38 : ∀ (N38 : Nat) (b9 : Bool) (F9 : Nat → Nat), (if b9 = true then 2304 - lsum F9 48 + 1 else 0) < N38 → (lgI (tE 48 AB) F9) → (b9 = false → ∀ k, k < 2304 → AB k = true → F9 (k / 48) + 1 ≤ F9 (k % 48)) → G p l e ({ frames := 1, cells := 0, slots := 0, locals := 22 } : Room) s m args below meth c 4 D A s.heap Q 0 0 [(mo, .inr (8, [.int (nI 0), .int (nI K), .int (nI R), .ref qa, .ref qb, .ref qk, .ref qu, .ref qn, .ref qx, .ref qo, .ref qf, .int (nI d), .ref qr, .int (nI gm), .ref qg, .ref qv, .int (nI d2), .ref qs, .int (nI vv), .ref qc, .ref qm, .ref qw])), (qn, .inl (cI, 48, .inl (nf M))), (qx, .inl (cZ, 2304, .inl (zf AB))), (qf, .inl (cI, 48, .inl (nf F9)))] [(0, .ref mo), (1, .int (nI i)), (2, .int (bI b9))] 38 [] := by
    intro N38
    induction N38 with
    | zero =>
      intro b9 F9 hN
      exact absurd hN (Nat.not_lt_zero _)
    | succ N38 ih38 =>
      intro b9 F9 hN38 h1 h2
      refine g_iload_n X 2 d_Md_longest_38 rfl rfl ?_
      refine b_if_eq X 116 d_Md_longest_39 (by decide) (fun h39 => ?_) (fun h39 => ?_)
      · refine g_aload_n X 0 d_Md_longest_116 rfl rfl ?_
        refine g_get (C := R_Md) (T := T_Md) (N := 22) X 0 10 in_Md rfl rfl (by decide) t3_157 rfl rfl d_Md_longest_117 ?_
        refine g_aload_n X 0 d_Md_longest_120 rfl rfl ?_
        refine g_get (C := R_Md) (T := T_Md) (N := 22) X 0 7 in_Md rfl rfl (by decide) t3_154 rfl rfl d_Md_longest_121 ?_
        refine g_iload_n X 1 d_Md_longest_124 rfl rfl ?_
        refine g_ialdN X 1 0 rfl rfl (by omega) (by omega) d_Md_longest_125 ?_
        refine g_ialdN X 3 0 rfl rfl (by omega) (by omega) d_Md_longest_126 ?_
        exact g_iret X hA9 hQ9 hr9 hlk9 ⟨F9, F9 (M i)⟩ [0, 1, 2, 3] rfl rfl d_Md_longest_127 (by (try dsimp only); exact (⟨rfl, lg_end h1 (h2 h39) l1⟩))
      · refine g_iconst (v := nI 0) X d_Md_longest_42 rfl ?_
        refine g_topE (show nI 0 = bI false from rfl) ?_
        refine g_istore_n X [(2, .int (bI false)), (0, .ref mo), (1, .int (nI i))] d_Md_longest_43 rfl (by decide) rfl ?_
        have L46 : ∀ (N46 : Nat) (q : Nat) (c9 : Bool) (F8 : Nat → Nat), (2304 - q) < N46 → (q ≤ 2304) → (lgI (tE 48 AB) F8) → (lgR AB q F9 F8 c9) → G p l e ({ frames := 1, cells := 0, slots := 0, locals := 22 } : Room) s m args below meth c 4 D A s.heap Q 0 0 [(mo, .inr (8, [.int (nI 0), .int (nI K), .int (nI R), .ref qa, .ref qb, .ref qk, .ref qu, .ref qn, .ref qx, .ref qo, .ref qf, .int (nI d), .ref qr, .int (nI gm), .ref qg, .ref qv, .int (nI d2), .ref qs, .int (nI vv), .ref qc, .ref qm, .ref qw])), (qn, .inl (cI, 48, .inl (nf M))), (qx, .inl (cZ, 2304, .inl (zf AB))), (qf, .inl (cI, 48, .inl (nf F8)))] [(0, .ref mo), (1, .int (nI i)), (2, .int (bI c9)), (3, .int (nI q))] 46 [] := by
          intro N46
          induction N46 with
          | zero =>
            intro q c9 F8 hN
            exact absurd hN (Nat.not_lt_zero _)
          | succ N46 ih46 =>
            intro q c9 F8 hN46 hq h3 h4
            refine g_iload_n X 3 d_Md_longest_46 rfl rfl ?_
            refine g_sipush (v := nI 2304) X d_Md_longest_47 rfl ?_
            refine n_icmp_ge X 113 d_Md_longest_50 (by decide) (by omega) (by omega) (fun h50 => ?_) (fun h50 => ?_)
            · refine g_goto X 38 d_Md_longest_113 (by decide) ?_
              refine g_lv [0, 1, 2] rfl ?_
              exact ih38 c9 F8 (lg_meas h39 hN38 (lg_sum (tE_in AB) hac h3) h4.2) (h3) (fun q9 k hk he => (h4.1 q9).2 k (by omega) he)
            · have hq1 : q / 48 < 48 := by omega
              have hq2 : q % 48 < 48 := by omega
              have hb1 := lg_le (tE_in AB) hac h3 hq1
              have hb2 := lg_le (tE_in AB) hac h3 hq2
              refine g_aload_n X 0 d_Md_longest_53 rfl rfl ?_
              refine g_get (C := R_Md) (T := T_Md) (N := 22) X 0 8 in_Md rfl rfl (by decide) t3_155 rfl rfl d_Md_longest_54 ?_
              refine g_iload_n X 3 d_Md_longest_57 rfl rfl ?_
              refine g_zaldB X 2 2 rfl rfl (by omega) (by omega) d_Md_longest_58 ?_
              refine b_if_eq X 107 d_Md_longest_59 (by decide) (fun h59 => ?_) (fun h59 => ?_)
              · refine g_iinc X (nI (q + 1)) [(3, .int (nI (q + 1))), (0, .ref mo), (1, .int (nI i)), (2, .int (bI c9))] d_Md_longest_107 (k := 3) rfl (nI_1 q) (by decide) rfl ?_
                refine g_goto X 46 d_Md_longest_110 (by decide) ?_
                refine g_lv [1, 2, 3, 0] rfl ?_
                exact ih46 (q + 1) c9 F8 (by omega) (by omega) (by first | exact h3 | exact lg_putI (by omega) h3 h59) (by first | exact lg_skip h4 (vF h59) | exact lg_skip h4 (fun _ => h82) | exact lg_putR h4 hq2 h82)
              · refine g_aload_n X 0 d_Md_longest_62 rfl rfl ?_
                refine g_get (C := R_Md) (T := T_Md) (N := 22) X 0 10 in_Md rfl rfl (by decide) t3_157 rfl rfl d_Md_longest_63 ?_
                refine g_iload_n X 3 d_Md_longest_66 rfl rfl ?_
                refine g_bipush (v := nI 48) X d_Md_longest_67 rfl ?_
                refine g_irem X (nI (q % 48)) d_Md_longest_69 (nI_ne0 (by omega) (by omega)) (pk_rem (by omega) (by omega) (by omega)) ?_
                refine g_ialdN X 3 0 rfl rfl (by omega) (by omega) d_Md_longest_70 ?_
                refine g_aload_n X 0 d_Md_longest_71 rfl rfl ?_
                refine g_get (C := R_Md) (T := T_Md) (N := 22) X 0 10 in_Md rfl rfl (by decide) t3_157 rfl rfl d_Md_longest_72 ?_
                refine g_iload_n X 3 d_Md_longest_75 rfl rfl ?_
                refine g_bipush (v := nI 48) X d_Md_longest_76 rfl ?_
                refine g_idiv X (nI (q / 48)) d_Md_longest_78 (nI_ne0 (by omega) (by omega)) (pk_div (by omega) (by omega) (by omega)) ?_
                refine g_ialdN X 3 0 rfl rfl (by omega) (by omega) d_Md_longest_79 ?_
                refine g_iconst (v := nI 1) X d_Md_longest_80 rfl ?_
                refine g_iadd X (nI (F8 (q / 48) + 1)) d_Md_longest_81 (nI_add (F8 (q / 48)) 1) ?_
                refine n_icmp_ge X 107 d_Md_longest_82 (by decide) (by omega) (by omega) (fun h82 => ?_) (fun h82 => ?_)
                · refine g_iinc X (nI (q + 1)) [(3, .int (nI (q + 1))), (0, .ref mo), (1, .int (nI i)), (2, .int (bI c9))] d_Md_longest_107 (k := 3) rfl (nI_1 q) (by decide) rfl ?_
                  refine g_goto X 46 d_Md_longest_110 (by decide) ?_
                  refine g_lv [1, 2, 3, 0] rfl ?_
                  exact ih46 (q + 1) c9 F8 (by omega) (by omega) (by first | exact h3 | exact lg_putI (by omega) h3 h59) (by first | exact lg_skip h4 (vF h59) | exact lg_skip h4 (fun _ => h82) | exact lg_putR h4 hq2 h82)
                · refine g_aload_n X 0 d_Md_longest_85 rfl rfl ?_
                  refine g_get (C := R_Md) (T := T_Md) (N := 22) X 0 10 in_Md rfl rfl (by decide) t3_157 rfl rfl d_Md_longest_86 ?_
                  refine g_iload_n X 3 d_Md_longest_89 rfl rfl ?_
                  refine g_bipush (v := nI 48) X d_Md_longest_90 rfl ?_
                  refine g_irem X (nI (q % 48)) d_Md_longest_92 (nI_ne0 (by omega) (by omega)) (pk_rem (by omega) (by omega) (by omega)) ?_
                  refine g_aload_n X 0 d_Md_longest_93 rfl rfl ?_
                  refine g_get (C := R_Md) (T := T_Md) (N := 22) X 0 10 in_Md rfl rfl (by decide) t3_157 rfl rfl d_Md_longest_94 ?_
                  refine g_iload_n X 3 d_Md_longest_97 rfl rfl ?_
                  refine g_bipush (v := nI 48) X d_Md_longest_98 rfl ?_
                  refine g_idiv X (nI (q / 48)) d_Md_longest_100 (nI_ne0 (by omega) (by omega)) (pk_div (by omega) (by omega) (by omega)) ?_
                  refine g_ialdN X 3 0 rfl rfl (by omega) (by omega) d_Md_longest_101 ?_
                  refine g_iconst (v := nI 1) X d_Md_longest_102 rfl ?_
                  refine g_iadd X (nI (F8 (q / 48) + 1)) d_Md_longest_103 (nI_add (F8 (q / 48)) 1) ?_
                  refine g_iastN X 3 0 [(mo, .inr (8, [.int (nI 0), .int (nI K), .int (nI R), .ref qa, .ref qb, .ref qk, .ref qu, .ref qn, .ref qx, .ref qo, .ref qf, .int (nI d), .ref qr, .int (nI gm), .ref qg, .ref qv, .int (nI d2), .ref qs, .int (nI vv), .ref qc, .ref qm, .ref qw])), (qn, .inl (cI, 48, .inl (nf M))), (qx, .inl (cZ, 2304, .inl (zf AB))), (qf, .inl (cI, 48, .inl (nf (updN F8 (q % 48) (F8 (q / 48) + 1)))))] rfl rfl (by omega) (by omega) rfl d_Md_longest_104 ?_
                  refine g_iconst (v := nI 1) X d_Md_longest_105 rfl ?_
                  refine g_topE (show nI 1 = bI true from rfl) ?_
                  refine g_istore_n X [(2, .int (bI true)), (0, .ref mo), (1, .int (nI i)), (3, .int (nI q))] d_Md_longest_106 rfl (by decide) rfl ?_
                  refine g_iinc X (nI (q + 1)) [(3, .int (nI (q + 1))), (2, .int (bI true)), (0, .ref mo), (1, .int (nI i))] d_Md_longest_107 (k := 3) rfl (nI_1 q) (by decide) rfl ?_
                  refine g_goto X 46 d_Md_longest_110 (by decide) ?_
                  refine g_lv [2, 3, 1, 0] rfl ?_
                  exact ih46 (q + 1) true (updN F8 (q % 48) (F8 (q / 48) + 1)) (by omega) (by omega) (by first | exact h3 | exact lg_putI (by omega) h3 h59) (by first | exact lg_skip h4 (vF h59) | exact lg_skip h4 (fun _ => h82) | exact lg_putR h4 hq2 h82)
        refine g_iconst (v := nI 0) X d_Md_longest_44 rfl ?_
        refine g_istore_n X [(3, .int (nI 0)), (2, .int (bI false)), (0, .ref mo), (1, .int (nI i))] d_Md_longest_45 rfl (by decide) rfl ?_
        refine g_lv [2, 3, 1, 0] rfl ?_
        exact L46 ((2304 - 0) + 1) 0 false F9 (Nat.lt_succ_self _) (by omega) (h1) (lgR_0)
  have L17 : ∀ (N17 : Nat) (j : Nat) (F9 : Nat → Nat), (48 - j) < N17 → (j ≤ 48) → (∀ k, k < j → F9 k = 0) → G p l e ({ frames := 1, cells := 0, slots := 0, locals := 22 } : Room) s m args below meth c 4 D A s.heap Q 0 0 [(mo, .inr (8, [.int (nI 0), .int (nI K), .int (nI R), .ref qa, .ref qb, .ref qk, .ref qu, .ref qn, .ref qx, .ref qo, .ref qf, .int (nI d), .ref qr, .int (nI gm), .ref qg, .ref qv, .int (nI d2), .ref qs, .int (nI vv), .ref qc, .ref qm, .ref qw])), (qn, .inl (cI, 48, .inl (nf M))), (qx, .inl (cZ, 2304, .inl (zf AB))), (qf, .inl (cI, 48, .inl (nf F9)))] [(0, .ref mo), (1, .int (nI i)), (2, .int (nI j))] 17 [] := by
    intro N17
    induction N17 with
    | zero =>
      intro j F9 hN
      exact absurd hN (Nat.not_lt_zero _)
    | succ N17 ih17 =>
      intro j F9 hN17 hj h1
      refine g_iload_n X 2 d_Md_longest_17 rfl rfl ?_
      refine g_bipush (v := nI 48) X d_Md_longest_18 rfl ?_
      refine n_icmp_ge X 36 d_Md_longest_20 (by decide) (by omega) (by omega) (fun h20 => ?_) (fun h20 => ?_)
      · refine g_iconst (v := nI 1) X d_Md_longest_36 rfl ?_
        refine g_topE (show nI 1 = bI true from rfl) ?_
        refine g_istore_n X [(2, .int (bI true)), (0, .ref mo), (1, .int (nI i))] d_Md_longest_37 rfl (by decide) rfl ?_
        refine g_lv [1, 2, 0] rfl ?_
        exact L38 ((if true = true then 2304 - lsum F9 48 + 1 else 0) + 1) true F9 (Nat.lt_succ_self _) (lg_0 (fun k hk => h1 k (by omega))) (fun q9 => by cases q9)
      · refine g_aload_n X 0 d_Md_longest_23 rfl rfl ?_
        refine g_get (C := R_Md) (T := T_Md) (N := 22) X 0 10 in_Md rfl rfl (by decide) t3_157 rfl rfl d_Md_longest_24 ?_
        refine g_iload_n X 2 d_Md_longest_27 rfl rfl ?_
        refine g_iconst (v := nI 0) X d_Md_longest_28 rfl ?_
        refine g_iastN X 3 0 [(mo, .inr (8, [.int (nI 0), .int (nI K), .int (nI R), .ref qa, .ref qb, .ref qk, .ref qu, .ref qn, .ref qx, .ref qo, .ref qf, .int (nI d), .ref qr, .int (nI gm), .ref qg, .ref qv, .int (nI d2), .ref qs, .int (nI vv), .ref qc, .ref qm, .ref qw])), (qn, .inl (cI, 48, .inl (nf M))), (qx, .inl (cZ, 2304, .inl (zf AB))), (qf, .inl (cI, 48, .inl (nf (updN F9 j 0))))] rfl rfl (by omega) (by omega) rfl d_Md_longest_29 ?_
        refine g_iinc X (nI (j + 1)) [(2, .int (nI (j + 1))), (0, .ref mo), (1, .int (nI i))] d_Md_longest_30 (k := 2) rfl (nI_1 j) (by decide) rfl ?_
        refine g_goto X 17 d_Md_longest_33 (by decide) ?_
        refine g_lv [1, 2, 0] rfl ?_
        exact ih17 (j + 1) (updN F9 j 0) (by omega) (by omega) (fillN_step h1)
  refine g_iconst (v := nI 0) X d_Md_longest_15 rfl ?_
  refine g_istore_n X [(2, .int (nI 0)), (0, .ref mo), (1, .int (nI i))] d_Md_longest_16 rfl (by decide) rfl ?_
  refine g_ws [(mo, .inr (8, [.int (nI 0), .int (nI K), .int (nI R), .ref qa, .ref qb, .ref qk, .ref qu, .ref qn, .ref qx, .ref qo, .ref qf, .int (nI d), .ref qr, .int (nI gm), .ref qg, .ref qv, .int (nI d2), .ref qs, .int (nI vv), .ref qc, .ref qm, .ref qw])), (qn, .inl (cI, 48, .inl (nf M))), (qx, .inl (cZ, 2304, .inl (zf AB))), (qf, .inl (cI, 48, .inl (nf FF)))] [3, 0, 1, 2] rfl rfl ?_
  refine g_lv [1, 2, 0] rfl ?_
  exact L17 ((48 - 0) + 1) 0 FF (Nat.lt_succ_self _) (by omega) (fun j hj => absurd hj (Nat.not_lt_zero j))

set_option maxHeartbeats 4000000 in
set_option maxRecDepth 100000 in
theorem k_Md_longestB (mo : Nat) (tw : Int32) (K : Nat) (R : Nat) (qa : Nat) (qb : Nat) (qk : Nat) (qu : Nat) (qn : Nat) (qx : Nat) (qo : Nat) (qf : Nat) (d : Nat) (qr : Nat) (gm : Nat) (qg : Nat) (qv : Nat) (d2 : Nat) (qs : Nat) (vv : Nat) (qc : Nat) (qm : Nat) (qw : Nat) (x : Int32) (hK : K ≤ 48) (hx : badI K x) : CtI l y_Md_longest (Cond.code y_Md_longest c_Md_longest 4 (some .int) :: TB) ({ frames := 1, cells := 0, slots := 0, locals := 22 } : Room) D (tysv cI cJ cZ cQ) [.ref mo, .int x] [(mo, .inr (8, [.int tw, .int (nI K), .int (nI R), .ref qa, .ref qb, .ref qk, .ref qu, .ref qn, .ref qx, .ref qo, .ref qf, .int (nI d), .ref qr, .int (nI gm), .ref qg, .ref qv, .int (nI d2), .ref qs, .int (nI vv), .ref qc, .ref qm, .ref qw]))] 0 0 (fun (r : Int32) (_ : Unit) => r = nI 0) (fun (_ : Unit) => [(mo, .inr (8, [.int (nI 1), .int (nI K), .int (nI R), .ref qa, .ref qb, .ref qk, .ref qu, .ref qn, .ref qx, .ref qo, .ref qf, .int (nI d), .ref qr, .int (nI gm), .ref qg, .ref qv, .int (nI d2), .ref qs, .int (nI vv), .ref qc, .ref qm, .ref qw]))]) := by
  refine CtI.of c_Md_longest 4 (some .int) (by decide) rfl (Nat.le_of_ble_eq_true rfl) ?_
  intro p e s m args below meth c A Q hA9 hQ9 X hr9 hlk9 hin9
  refine g_aload_n X 0 d_Md_longest_0 rfl rfl ?_
  refine g_aload_n X 0 d_Md_longest_1 rfl rfl ?_
  refine g_iload_n X 1 d_Md_longest_2 rfl rfl ?_
  refine g_calliV (n := 1) X [.int x] (k_Md_isContextN mo tw K R qa qb qk qu qn qx qo qf d qr gm qg qv d2 qs vv qc qm qw x (by omega) (hx)) t3_239 t4_1 ts_14 t1_9 t4_2 rfl rfl (by decide +kernel) ⟨by decide, by decide⟩ [0] [] [] rfl rfl rfl rfl (by decide) 0 rfl rfl rfl rfl (Nat.le_of_ble_eq_true rfl) d_Md_longest_3 ⟨by decide, by decide⟩ (fun r1 w9u1 hw1 => ?_)
  subst hw1
  refine g_iconst (v := nI 1) X d_Md_longest_6 rfl ?_
  refine g_calliV (n := 2) X [.int (bI false), .int (bI true)] (k_Md_goes1 mo tw K R qa qb qk qu qn qx qo qf d qr gm qg qv d2 qs vv qc qm qw true ) t3_223 t3_225 ts_11 t1_9 t3_226 rfl rfl (by decide +kernel) ⟨by decide, by decide⟩ [0] [] [] rfl rfl rfl rfl (by decide) 0 rfl rfl rfl rfl (Nat.le_of_ble_eq_true rfl) d_Md_longest_7 ⟨by decide, by decide⟩ (fun r2 w9u2 hw2 => ?_)
  subst hw2
  refine b_if_ne X 15 d_Md_longest_10 (by decide) (fun h10 => absurd h10 (by decide)) (fun h10 => ?_)
  refine g_iconst (v := nI 0) X d_Md_longest_13 rfl ?_
  exact g_iret X hA9 hQ9 hr9 hlk9 () [0] rfl rfl d_Md_longest_14 (rfl)

set_option maxHeartbeats 4000000 in
set_option maxRecDepth 100000 in
theorem k_Md_group (mo : Nat) (tw : Int32) (K : Nat) (R : Nat) (qa : Nat) (qb : Nat) (qk : Nat) (qu : Nat) (qn : Nat) (qx : Nat) (qo : Nat) (qf : Nat) (d : Nat) (qr : Nat) (gm : Nat) (qg : Nat) (qv : Nat) (d2 : Nat) (qs : Nat) (vv : Nat) (qc : Nat) (qm : Nat) (qw : Nat) (hg : gm < 12) : CtI l y_Md_group (Cond.code y_Md_group c_Md_group 1 (some .int) :: TB) ({ frames := 1, cells := 0, slots := 0, locals := 22 } : Room) D (tysv cI cJ cZ cQ) [.ref mo] [(mo, .inr (8, [.int tw, .int (nI K), .int (nI R), .ref qa, .ref qb, .ref qk, .ref qu, .ref qn, .ref qx, .ref qo, .ref qf, .int (nI d), .ref qr, .int (nI gm), .ref qg, .ref qv, .int (nI d2), .ref qs, .int (nI vv), .ref qc, .ref qm, .ref qw]))] 0 0 (fun (r : Int32) (_ : Unit) => r = nI gm) (fun (_ : Unit) => [(mo, .inr (8, [.int (nI 0), .int (nI K), .int (nI R), .ref qa, .ref qb, .ref qk, .ref qu, .ref qn, .ref qx, .ref qo, .ref qf, .int (nI d), .ref qr, .int (nI (gm + 1)), .ref qg, .ref qv, .int (nI d2), .ref qs, .int (nI vv), .ref qc, .ref qm, .ref qw]))]) := by
  refine CtI.of c_Md_group 1 (some .int) (by decide) rfl (Nat.le_of_ble_eq_true rfl) ?_
  intro p e s m args below meth c A Q hA9 hQ9 X hr9 hlk9 hin9
  refine g_aload_n X 0 d_Md_group_0 rfl rfl ?_
  refine g_aload_n X 0 d_Md_group_1 rfl rfl ?_
  refine g_get (C := R_Md) (T := T_Md) (N := 22) X 0 13 in_Md rfl rfl (by decide) t3_160 rfl rfl d_Md_group_2 ?_
  refine g_bipush (v := nI 12) X d_Md_group_5 rfl ?_
  refine n_icmp_ge X 14 d_Md_group_7 (by decide) (by omega) (by omega) (fun h7 => absurd h7 (by omega)) (fun h7 => ?_)
  refine g_iconst (v := nI 1) X d_Md_group_10 rfl ?_
  refine g_goto X 15 d_Md_group_11 (by decide) ?_
  refine g_iconst (v := nI 1) X d_Md_group_15 rfl ?_
  refine g_calliV (n := 2) X [.int (bI true), .int (bI true)] (k_Md_goes mo tw K R qa qb qk qu qn qx qo qf d qr gm qg qv d2 qs vv qc qm qw ) t3_223 t3_225 ts_11 t1_9 t3_226 rfl rfl (by decide +kernel) ⟨by decide, by decide⟩ [0] [] [] rfl rfl rfl rfl (by decide) 0 rfl rfl rfl rfl (Nat.le_of_ble_eq_true rfl) d_Md_group_16 ⟨by decide, by decide⟩ (fun r1 w9u1 hw1 => ?_)
  subst hw1
  refine b_if_ne X 24 d_Md_group_19 (by decide) (fun h19 => ?_) (fun h19 => absurd h19 (by decide))
  refine g_aload_n X 0 d_Md_group_24 rfl rfl ?_
  refine g_dup X d_Md_group_25 rfl ?_
  refine g_get (C := R_Md) (T := T_Md) (N := 22) X 0 13 in_Md rfl rfl (by decide) t3_160 rfl rfl d_Md_group_26 ?_
  refine g_iconst (v := nI 1) X d_Md_group_29 rfl ?_
  refine g_iadd X (nI (gm + 1)) d_Md_group_30 (nI_add gm 1) ?_
  refine g_put (C := R_Md) (T := T_Md) (N := 22) (ty := .int) X 0 13 [(mo, .inr (8, [.int (nI 0), .int (nI K), .int (nI R), .ref qa, .ref qb, .ref qk, .ref qu, .ref qn, .ref qx, .ref qo, .ref qf, .int (nI d), .ref qr, .int (nI (gm + 1)), .ref qg, .ref qv, .int (nI d2), .ref qs, .int (nI vv), .ref qc, .ref qm, .ref qw]))] t_Md ty_Md nm_Md in_Md rfl rfl (by decide) t3_160 rfl rfl (by decide +kernel) rfl rfl (Nat.le_of_ble_eq_true rfl) rfl d_Md_group_31 ?_
  refine g_aload_n X 0 d_Md_group_34 rfl rfl ?_
  refine g_get (C := R_Md) (T := T_Md) (N := 22) X 0 13 in_Md rfl rfl (by decide) t3_160 rfl rfl d_Md_group_35 ?_
  refine g_iconst (v := nI 1) X d_Md_group_38 rfl ?_
  refine g_isub X (nI ((gm + 1) - 1)) d_Md_group_39 (pk_sub (by omega)) ?_
  exact g_iret X hA9 hQ9 hr9 hlk9 () [0] rfl rfl d_Md_group_40 (by rw [Nat.add_sub_cancel])

set_option maxHeartbeats 4000000 in
set_option maxRecDepth 100000 in
theorem k_Md_groupN (mo : Nat) (tw : Int32) (K : Nat) (R : Nat) (qa : Nat) (qb : Nat) (qk : Nat) (qu : Nat) (qn : Nat) (qx : Nat) (qo : Nat) (qf : Nat) (d : Nat) (qr : Nat) (gm : Nat) (qg : Nat) (qv : Nat) (d2 : Nat) (qs : Nat) (vv : Nat) (qc : Nat) (qm : Nat) (qw : Nat) (hg : gm = 12) : CtI l y_Md_group (Cond.code y_Md_group c_Md_group 1 (some .int) :: TB) ({ frames := 1, cells := 0, slots := 0, locals := 22 } : Room) D (tysv cI cJ cZ cQ) [.ref mo] [(mo, .inr (8, [.int tw, .int (nI K), .int (nI R), .ref qa, .ref qb, .ref qk, .ref qu, .ref qn, .ref qx, .ref qo, .ref qf, .int (nI d), .ref qr, .int (nI gm), .ref qg, .ref qv, .int (nI d2), .ref qs, .int (nI vv), .ref qc, .ref qm, .ref qw]))] 0 0 (fun (r : Int32) (_ : Unit) => r = nI 0) (fun (_ : Unit) => [(mo, .inr (8, [.int (nI 1), .int (nI K), .int (nI R), .ref qa, .ref qb, .ref qk, .ref qu, .ref qn, .ref qx, .ref qo, .ref qf, .int (nI d), .ref qr, .int (nI gm), .ref qg, .ref qv, .int (nI d2), .ref qs, .int (nI vv), .ref qc, .ref qm, .ref qw]))]) := by
  refine CtI.of c_Md_group 1 (some .int) (by decide) rfl (Nat.le_of_ble_eq_true rfl) ?_
  intro p e s m args below meth c A Q hA9 hQ9 X hr9 hlk9 hin9
  refine g_aload_n X 0 d_Md_group_0 rfl rfl ?_
  refine g_aload_n X 0 d_Md_group_1 rfl rfl ?_
  refine g_get (C := R_Md) (T := T_Md) (N := 22) X 0 13 in_Md rfl rfl (by decide) t3_160 rfl rfl d_Md_group_2 ?_
  refine g_bipush (v := nI 12) X d_Md_group_5 rfl ?_
  refine n_icmp_ge X 14 d_Md_group_7 (by decide) (by omega) (by omega) (fun h7 => ?_) (fun h7 => absurd h7 (by omega))
  refine g_iconst (v := nI 0) X d_Md_group_14 rfl ?_
  refine g_iconst (v := nI 1) X d_Md_group_15 rfl ?_
  refine g_calliV (n := 2) X [.int (bI false), .int (bI true)] (k_Md_goes1 mo tw K R qa qb qk qu qn qx qo qf d qr gm qg qv d2 qs vv qc qm qw true ) t3_223 t3_225 ts_11 t1_9 t3_226 rfl rfl (by decide +kernel) ⟨by decide, by decide⟩ [0] [] [] rfl rfl rfl rfl (by decide) 0 rfl rfl rfl rfl (Nat.le_of_ble_eq_true rfl) d_Md_group_16 ⟨by decide, by decide⟩ (fun r1 w9u1 hw1 => ?_)
  subst hw1
  refine b_if_ne X 24 d_Md_group_19 (by decide) (fun h19 => absurd h19 (by decide)) (fun h19 => ?_)
  refine g_iconst (v := nI 0) X d_Md_group_22 rfl ?_
  exact g_iret X hA9 hQ9 hr9 hlk9 () [0] rfl rfl d_Md_group_23 (rfl)
