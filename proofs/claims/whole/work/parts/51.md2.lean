variable {l : Launch} {D : va_G} {cI cJ cZ cQ : ClassId}
/-! tables of 48 times 48 Bools -/
def tbI (T : Nat → Bool) (E : Nat → Nat → Bool) : Prop := ∀ x, x < 48 → ∀ y, y < 48 → T (48 * x + y) = E x y
theorem fillB_step {T : Nat → Bool} {i : Nat} {b : Bool} (h : ∀ k, k < i → T k = b) : ∀ k, k < i + 1 → updB T i b k = b := by
  intro k hk
  by_cases e : k = i
  · subst e; exact updB_s
  · rw [updB_n e]; exact h k (by omega)
theorem copyB_step {T U : Nat → Bool} {i : Nat} (h : ∀ k, k < i → T k = U k) : ∀ k, k < i + 1 → updB T i (U i) k = U k := by
  intro k hk
  by_cases e : k = i
  · subst e; exact updB_s
  · rw [updB_n e]; exact h k (by omega)
theorem tb_0 {a b num : Nat → Nat} {ab : Nat → Bool} {T : Nat → Bool} (h : ∀ k, k < 2304 → T k = false) : tbI T (jst a b num ab 0) := by
  intro x hx y hy
  rw [h _ (by omega)]
  rfl
theorem tb_keep {a b num : Nat → Nat} {ab : Nat → Bool} {T : Nat → Bool} {q : Nat} (h : tbI T (jst a b num ab q)) (hk : ab q = false) : tbI T (jst a b num ab (q + 1)) := by
  intro x hx y hy
  rw [h x hx y hy]
  simp [jst, hk]
theorem tb_put {a b num M : Nat → Nat} {ab : Nat → Bool} {T : Nat → Bool} {q : Nat} (ha : M (a q) = num (a q)) (hb : M (b q) = num (b q)) (l1 : num (a q) < 48) (l2 : num (b q) < 48) (h : tbI T (jst a b num ab q)) (hk : ab q = true) : tbI (updB T (48 * M (a q) + M (b q)) true) (jst a b num ab (q + 1)) := by
  intro x hx y hy
  rw [ha, hb]
  by_cases e : 48 * x + y = 48 * num (a q) + num (b q)
  · rw [e, updB_s]
    have e1 : x = num (a q) := by omega
    have e2 : y = num (b q) := by omega
    simp [jst, hk, e1, e2]
  · rw [updB_n e, h x hx y hy]
    have : ¬ (num (a q) = x ∧ num (b q) = y) := by
      rintro ⟨rfl, rfl⟩
      exact e rfl
    simp only [jst, hk, Bool.true_and]
    by_cases g1 : num (a q) = x
    · have g2 : ¬ num (b q) = y := fun z => this ⟨g1, z⟩
      simp [g2]
    · simp [g1]
/-- the closing of a table, stage z, rows before i done, in row i the places before j -/
def wsI (E : Nat → Nat → Bool) (z i j : Nat) (T : Nat → Bool) : Prop := ∀ x, x < 48 → ∀ y, y < 48 → T (48 * x + y) = if x < i ∨ (x = i ∧ y < j) then gwar E (z + 1) x y else gwar E z x y
theorem ws_0 {E : Nat → Nat → Bool} {T : Nat → Bool} (h : tbI T E) : wsI E 0 0 0 T := by
  intro x hx y hy
  rw [h x hx y hy, if_neg (by omega)]
  rfl
theorem ws_copy {E : Nat → Nat → Bool} {T U : Nat → Bool} (h : tbI U E) (hc : ∀ k, k < 2304 → T k = U k) : wsI E 0 0 0 T := ws_0 (fun x hx y hy => by rw [hc _ (by omega)]; exact h x hx y hy)
theorem gwar_in {E : Nat → Nat → Bool} {K z x y : Nat} (hE : gin E K) (h : gwar E z x y = true) : x < K ∧ y < K := gov_lt hE (gwar_gov z x y h)
theorem ws_stage {E : Nat → Nat → Bool} {K z i : Nat} {T : Nat → Bool} (hE : gin E K) (h : wsI E z i 0 T) (hi : K ≤ i) : wsI E (z + 1) 0 0 T := by
  intro x hx y hy
  rw [h x hx y hy, if_neg (show ¬ (x < 0 ∨ (x = 0 ∧ y < 0)) by omega)]
  by_cases q : x < i
  · rw [if_pos (Or.inl q)]
  · rw [if_neg (by omega)]
    have f1 : gwar E z x y = false := by
      cases hb : gwar E z x y with
      | false => rfl
      | true => have := (gwar_in hE hb).1; omega
    have f2 : gwar E (z + 1) x y = false := by
      cases hb : gwar E (z + 1) x y with
      | false => rfl
      | true => have := (gwar_in hE hb).1; omega
    rw [f1, f2]
theorem ws_row1 {E : Nat → Nat → Bool} {K z i j : Nat} {T : Nat → Bool} (hE : gin E K) (h : wsI E z i j T) (hj : K ≤ j) : wsI E z (i + 1) 0 T := by
  intro x hx y hy
  rw [h x hx y hy]
  by_cases q : x < i ∨ (x = i ∧ y < j)
  · rw [if_pos q, if_pos (by omega)]
  · rw [if_neg q]
    by_cases q2 : x < i + 1 ∨ (x = i + 1 ∧ y < 0)
    · rw [if_pos q2]
      have f1 : gwar E z x y = false := by
        cases hb : gwar E z x y with
        | false => rfl
        | true => have := (gwar_in hE hb).2; omega
      have f2 : gwar E (z + 1) x y = false := by
        cases hb : gwar E (z + 1) x y with
        | false => rfl
        | true => have := (gwar_in hE hb).2; omega
      rw [f1, f2]
    · rw [if_neg q2]
theorem ws_az {E : Nat → Nat → Bool} {z i j : Nat} {T : Nat → Bool} (h : wsI E z i j T) (hi : i < 48) (hz : z < 48) : T (48 * i + z) = gwar E z i z := by
  rw [h i hi z hz]
  by_cases q : i < i ∨ (i = i ∧ z < j)
  · rw [if_pos q]
    rw [Bool.eq_iff_iff]
    exact ⟨gwar_col, gwar_mono⟩
  · rw [if_neg q]
theorem ws_zj {E : Nat → Nat → Bool} {z i j k : Nat} {T : Nat → Bool} (h : wsI E z i j T) (hz : z < 48) (hk : k < 48) : T (48 * z + k) = gwar E z z k := by
  rw [h z hz k hk]
  by_cases q : z < i ∨ (z = i ∧ k < j)
  · rw [if_pos q]
    rw [Bool.eq_iff_iff]
    exact ⟨gwar_row, gwar_mono⟩
  · rw [if_neg q]
theorem ws_row2 {E : Nat → Nat → Bool} {z i j : Nat} {T : Nat → Bool} (h : wsI E z i j T) (hi : i < 48) (hz : z < 48) (hb : T (48 * i + z) = false) : wsI E z (i + 1) 0 T := by
  have hf := ws_az h hi hz
  rw [hb] at hf
  intro x hx y hy
  rw [h x hx y hy]
  by_cases q : x < i ∨ (x = i ∧ y < j)
  · rw [if_pos q, if_pos (by omega)]
  · rw [if_neg q]
    by_cases q2 : x < i + 1 ∨ (x = i + 1 ∧ y < 0)
    · rw [if_pos q2]
      have e : x = i := by omega
      subst e
      simp [gwar, ← hf]
    · rw [if_neg q2]
theorem ws_put {E : Nat → Nat → Bool} {z i j : Nat} {T : Nat → Bool} {b : Bool} (h : wsI E z i j T) (hi : i < 48) (hj : j < 48) (hz : z < 48) (hb : T (48 * i + z) = true) (e : b = (T (48 * i + j) || T (48 * z + j))) : wsI E z i (j + 1) (updB T (48 * i + j) b) := by
  have hf := ws_az h hi hz
  rw [hb] at hf
  have hg := ws_zj h hz hj
  have hij := h i hi j hj
  rw [if_neg (by omega)] at hij
  intro x hx y hy
  by_cases q : 48 * x + y = 48 * i + j
  · have e1 : x = i := by omega
    have e2 : y = j := by omega
    subst e1
    subst e2
    rw [updB_s, if_pos (by omega), e, hij, hg]
    simp [gwar, ← hf]
  · rw [updB_n q, h x hx y hy]
    by_cases q2 : x < i ∨ (x = i ∧ y < j)
    · rw [if_pos q2, if_pos (by omega)]
    · rw [if_neg q2, if_neg (by omega)]
theorem ws_end {E : Nat → Nat → Bool} {K z : Nat} {T : Nat → Bool} (hE : gin E K) (hK : K ≤ 48) (h : wsI E z 0 0 T) (hz : z = K) : tbI T (gwar E 48) := by
  subst hz
  intro x hx y hy
  rw [h x hx y hy, if_neg (by omega)]
  have := gwar_far hE (48 - z) x y
  rw [show z + (48 - z) = 48 by omega] at this
  exact this.symm

set_option maxHeartbeats 4000000 in
set_option maxRecDepth 100000 in
theorem k_Md_renew (mo : Nat) (tw : Int32) (K : Nat) (R : Nat) (qa : Nat) (qb : Nat) (qk : Nat) (qu : Nat) (qn : Nat) (qx : Nat) (qo : Nat) (qf : Nat) (d : Nat) (qr : Nat) (gm : Nat) (qg : Nat) (qv : Nat) (d2 : Nat) (qs : Nat) (vv : Nat) (qc : Nat) (qm : Nat) (qw : Nat) (Fa : Nat → Nat) (Fb : Nat → Nat) (Fk : Nat → Nat) (UN : Nat → Bool) (M : Nat → Nat) (AB : Nat → Bool) (OV : Nat → Bool) (hK : K ≤ 48) (hR : R ≤ 200) (hr : ∀ r, r < R → Fa r < K ∧ Fb r < K) (hk4 : ∀ r, r < R → Fk r ≤ 4) : CtV l y_Md_renew (Cond.code y_Md_renew c_Md_renew 4 none :: TB) ({ frames := 1, cells := 0, slots := 0, locals := 25 } : Room) D (tysv cI cJ cZ cQ) [.ref mo] [(mo, .inr (8, [.int tw, .int (nI K), .int (nI R), .ref qa, .ref qb, .ref qk, .ref qu, .ref qn, .ref qx, .ref qo, .ref qf, .int (nI d), .ref qr, .int (nI gm), .ref qg, .ref qv, .int (nI d2), .ref qs, .int (nI vv), .ref qc, .ref qm, .ref qw])), (qa, .inl (cI, 200, .inl (nf Fa))), (qb, .inl (cI, 200, .inl (nf Fb))), (qk, .inl (cI, 200, .inl (nf Fk))), (qu, .inl (cZ, 200, .inl (zf UN))), (qn, .inl (cI, 48, .inl (nf M))), (qx, .inl (cZ, 2304, .inl (zf AB))), (qo, .inl (cZ, 2304, .inl (zf OV)))] 0 0 (fun (u : (Nat → Nat) × (Nat → Bool) × (Nat → Bool)) => (∀ z, z < K → u.1 z = (jnum Fa Fb (eqm UN Fk) R) z) ∧ tbI u.2.1 (jst Fa Fb (jnum Fa Fb (eqm UN Fk) R) (abm UN Fk) R) ∧ tbI u.2.2 (gwar (jst Fa Fb (jnum Fa Fb (eqm UN Fk) R) (abm UN Fk) R) 48)) (fun (u : (Nat → Nat) × (Nat → Bool) × (Nat → Bool)) => [(mo, .inr (8, [.int tw, .int (nI K), .int (nI R), .ref qa, .ref qb, .ref qk, .ref qu, .ref qn, .ref qx, .ref qo, .ref qf, .int (nI d), .ref qr, .int (nI gm), .ref qg, .ref qv, .int (nI d2), .ref qs, .int (nI vv), .ref qc, .ref qm, .ref qw])), (qa, .inl (cI, 200, .inl (nf Fa))), (qb, .inl (cI, 200, .inl (nf Fb))), (qk, .inl (cI, 200, .inl (nf Fk))), (qu, .inl (cZ, 200, .inl (zf UN))), (qn, .inl (cI, 48, .inl (nf u.1))), (qx, .inl (cZ, 2304, .inl (zf u.2.1))), (qo, .inl (cZ, 2304, .inl (zf u.2.2)))]) := by
  refine CtV.of c_Md_renew 4 none (by decide) rfl (Nat.le_of_ble_eq_true rfl) ?_
  intro p e s m args below meth c A Q hA9 hQ9 X hr9 hlk9 hin9
  have hgin : gin (jst Fa Fb (jnum Fa Fb (eqm UN Fk) R) (abm UN Fk) R) K := jst_in (Nat.le_refl K) (fun c9 => jnum_le R c9) hr
  refine g_aload_n X 0 d_Md_renew_0 rfl rfl ?_
  refine g_callvV (n := 0) X [] (k_Md_join mo tw K R qa qb qk qu qn qx qo qf d qr gm qg qv d2 qs vv qc qm qw Fa Fb Fk UN M (by omega) (by omega) (hr) (hk4)) t3_231 t3_233 ts_13 t1_9 t3_234 rfl rfl (by decide +kernel) ⟨by decide, by decide⟩ [0, 1, 2, 3, 4, 5] [6, 7] [(qx, .inl (cZ, 2304, .inl (zf AB))), (qo, .inl (cZ, 2304, .inl (zf OV)))] rfl rfl rfl rfl (by decide) 0 rfl rfl rfl rfl (Nat.le_of_ble_eq_true rfl) d_Md_renew_1 ⟨by decide, by decide⟩ (fun M9_1 hj9 => ?_)
  have L122 : ∀ (N122 : Nat) (z : Nat) (AB9 : Nat → Bool) (OV9 : Nat → Bool), (K - z) < N122 → (z ≤ K) → (tbI AB9 (jst Fa Fb (jnum Fa Fb (eqm UN Fk) R) (abm UN Fk) R)) → (wsI (jst Fa Fb (jnum Fa Fb (eqm UN Fk) R) (abm UN Fk) R) z 0 0 OV9) → G p l e ({ frames := 1, cells := 0, slots := 0, locals := 25 } : Room) s m args below meth c 4 D A s.heap Q 0 0 [(mo, .inr (8, [.int tw, .int (nI K), .int (nI R), .ref qa, .ref qb, .ref qk, .ref qu, .ref qn, .ref qx, .ref qo, .ref qf, .int (nI d), .ref qr, .int (nI gm), .ref qg, .ref qv, .int (nI d2), .ref qs, .int (nI vv), .ref qc, .ref qm, .ref qw])), (qa, .inl (cI, 200, .inl (nf Fa))), (qb, .inl (cI, 200, .inl (nf Fb))), (qk, .inl (cI, 200, .inl (nf Fk))), (qu, .inl (cZ, 200, .inl (zf UN))), (qn, .inl (cI, 48, .inl (nf M9_1))), (qx, .inl (cZ, 2304, .inl (zf AB9))), (qo, .inl (cZ, 2304, .inl (zf OV9)))] [(0, .ref mo), (1, .int (nI z))] 122 [] := by
    intro N122
    induction N122 with
    | zero =>
      intro z AB9 OV9 hN
      exact absurd hN (Nat.not_lt_zero _)
    | succ N122 ih122 =>
      intro z AB9 OV9 hN122 hz hA h1
      refine g_iload_n X 1 d_Md_renew_122 rfl rfl ?_
      refine g_aload_n X 0 d_Md_renew_123 rfl rfl ?_
      refine g_get (C := R_Md) (T := T_Md) (N := 22) X 0 1 in_Md rfl rfl (by decide) t3_148 rfl rfl d_Md_renew_124 ?_
      refine n_icmp_ge X 226 d_Md_renew_127 (by decide) (by omega) (by omega) (fun h127 => ?_) (fun h127 => ?_)
      · exact g_vret X hA9 hQ9 hr9 hlk9 ⟨M9_1, AB9, OV9⟩ [0, 1, 2, 3, 4, 5, 6, 7] rfl rfl d_Md_renew_226 (by (try dsimp only); exact (⟨hj9, hA, ws_end hgin hK h1 (by omega)⟩))
      · have L132 : ∀ (N132 : Nat) (i : Nat) (OV8 : Nat → Bool), (K - i) < N132 → (i ≤ K) → (wsI (jst Fa Fb (jnum Fa Fb (eqm UN Fk) R) (abm UN Fk) R) z i 0 OV8) → G p l e ({ frames := 1, cells := 0, slots := 0, locals := 25 } : Room) s m args below meth c 4 D A s.heap Q 0 0 [(mo, .inr (8, [.int tw, .int (nI K), .int (nI R), .ref qa, .ref qb, .ref qk, .ref qu, .ref qn, .ref qx, .ref qo, .ref qf, .int (nI d), .ref qr, .int (nI gm), .ref qg, .ref qv, .int (nI d2), .ref qs, .int (nI vv), .ref qc, .ref qm, .ref qw])), (qa, .inl (cI, 200, .inl (nf Fa))), (qb, .inl (cI, 200, .inl (nf Fb))), (qk, .inl (cI, 200, .inl (nf Fk))), (qu, .inl (cZ, 200, .inl (zf UN))), (qn, .inl (cI, 48, .inl (nf M9_1))), (qx, .inl (cZ, 2304, .inl (zf AB9))), (qo, .inl (cZ, 2304, .inl (zf OV8)))] [(0, .ref mo), (1, .int (nI z)), (2, .int (nI i))] 132 [] := by
          intro N132
          induction N132 with
          | zero =>
            intro i OV8 hN
            exact absurd hN (Nat.not_lt_zero _)
          | succ N132 ih132 =>
            intro i OV8 hN132 hi h2
            refine g_iload_n X 2 d_Md_renew_132 rfl rfl ?_
            refine g_aload_n X 0 d_Md_renew_133 rfl rfl ?_
            refine g_get (C := R_Md) (T := T_Md) (N := 22) X 0 1 in_Md rfl rfl (by decide) t3_148 rfl rfl d_Md_renew_134 ?_
            refine n_icmp_ge X 220 d_Md_renew_137 (by decide) (by omega) (by omega) (fun h137 => ?_) (fun h137 => ?_)
            · refine g_iinc X (nI (z + 1)) [(1, .int (nI (z + 1))), (0, .ref mo), (2, .int (nI i))] d_Md_renew_220 (k := 1) rfl (nI_1 z) (by decide) rfl ?_
              refine g_goto X 122 d_Md_renew_223 (by decide) ?_
              refine g_lv [1, 0] rfl ?_
              exact ih122 (z + 1) AB9 OV8 (by omega) (by omega) (hA) (ws_stage hgin h2 (by omega))
            · have L142 : ∀ (N142 : Nat) (j : Nat) (OV7 : Nat → Bool), (K - j) < N142 → (j ≤ K) → (wsI (jst Fa Fb (jnum Fa Fb (eqm UN Fk) R) (abm UN Fk) R) z i j OV7) → G p l e ({ frames := 1, cells := 0, slots := 0, locals := 25 } : Room) s m args below meth c 4 D A s.heap Q 0 0 [(mo, .inr (8, [.int tw, .int (nI K), .int (nI R), .ref qa, .ref qb, .ref qk, .ref qu, .ref qn, .ref qx, .ref qo, .ref qf, .int (nI d), .ref qr, .int (nI gm), .ref qg, .ref qv, .int (nI d2), .ref qs, .int (nI vv), .ref qc, .ref qm, .ref qw])), (qa, .inl (cI, 200, .inl (nf Fa))), (qb, .inl (cI, 200, .inl (nf Fb))), (qk, .inl (cI, 200, .inl (nf Fk))), (qu, .inl (cZ, 200, .inl (zf UN))), (qn, .inl (cI, 48, .inl (nf M9_1))), (qx, .inl (cZ, 2304, .inl (zf AB9))), (qo, .inl (cZ, 2304, .inl (zf OV7)))] [(0, .ref mo), (1, .int (nI z)), (2, .int (nI i)), (3, .int (nI j))] 142 [] := by
                intro N142
                induction N142 with
                | zero =>
                  intro j OV7 hN
                  exact absurd hN (Nat.not_lt_zero _)
                | succ N142 ih142 =>
                  intro j OV7 hN142 hj h3
                  refine g_iload_n X 3 d_Md_renew_142 rfl rfl ?_
                  refine g_aload_n X 0 d_Md_renew_143 rfl rfl ?_
                  refine g_get (C := R_Md) (T := T_Md) (N := 22) X 0 1 in_Md rfl rfl (by decide) t3_148 rfl rfl d_Md_renew_144 ?_
                  refine n_icmp_ge X 214 d_Md_renew_147 (by decide) (by omega) (by omega) (fun h147 => ?_) (fun h147 => ?_)
                  · refine g_iinc X (nI (i + 1)) [(2, .int (nI (i + 1))), (0, .ref mo), (1, .int (nI z)), (3, .int (nI j))] d_Md_renew_214 (k := 2) rfl (nI_1 i) (by decide) rfl ?_
                    refine g_goto X 132 d_Md_renew_217 (by decide) ?_
                    refine g_lv [1, 2, 0] rfl ?_
                    exact ih132 (i + 1) OV7 (by omega) (by omega) (by first | exact ws_row1 hgin h3 (by omega) | exact ws_row2 h3 (by omega) (by omega) h161)
                  · refine g_aload_n X 0 d_Md_renew_150 rfl rfl ?_
                    refine g_get (C := R_Md) (T := T_Md) (N := 22) X 0 9 in_Md rfl rfl (by decide) t3_156 rfl rfl d_Md_renew_151 ?_
                    refine g_bipush (v := nI 48) X d_Md_renew_154 rfl ?_
                    refine g_iload_n X 2 d_Md_renew_156 rfl rfl ?_
                    refine g_imul X (nI (48 * i)) d_Md_renew_157 (pk_mul 48 i) ?_
                    refine g_iload_n X 1 d_Md_renew_158 rfl rfl ?_
                    refine g_iadd X (nI (48 * i + z)) d_Md_renew_159 (nI_add (48 * i) z) ?_
                    refine g_zaldB X 7 2 rfl rfl (by omega) (by omega) d_Md_renew_160 ?_
                    refine b_if_eq X 214 d_Md_renew_161 (by decide) (fun h161 => ?_) (fun h161 => ?_)
                    · refine g_iinc X (nI (i + 1)) [(2, .int (nI (i + 1))), (0, .ref mo), (1, .int (nI z)), (3, .int (nI j))] d_Md_renew_214 (k := 2) rfl (nI_1 i) (by decide) rfl ?_
                      refine g_goto X 132 d_Md_renew_217 (by decide) ?_
                      refine g_lv [1, 2, 0] rfl ?_
                      exact ih132 (i + 1) OV7 (by omega) (by omega) (by first | exact ws_row1 hgin h3 (by omega) | exact ws_row2 h3 (by omega) (by omega) h161)
                    · refine g_aload_n X 0 d_Md_renew_164 rfl rfl ?_
                      refine g_get (C := R_Md) (T := T_Md) (N := 22) X 0 9 in_Md rfl rfl (by decide) t3_156 rfl rfl d_Md_renew_165 ?_
                      refine g_bipush (v := nI 48) X d_Md_renew_168 rfl ?_
                      refine g_iload_n X 2 d_Md_renew_170 rfl rfl ?_
                      refine g_imul X (nI (48 * i)) d_Md_renew_171 (pk_mul 48 i) ?_
                      refine g_iload_n X 3 d_Md_renew_172 rfl rfl ?_
                      refine g_iadd X (nI (48 * i + j)) d_Md_renew_173 (nI_add (48 * i) j) ?_
                      refine g_aload_n X 0 d_Md_renew_174 rfl rfl ?_
                      refine g_get (C := R_Md) (T := T_Md) (N := 22) X 0 9 in_Md rfl rfl (by decide) t3_156 rfl rfl d_Md_renew_175 ?_
                      refine g_bipush (v := nI 48) X d_Md_renew_178 rfl ?_
                      refine g_iload_n X 2 d_Md_renew_180 rfl rfl ?_
                      refine g_imul X (nI (48 * i)) d_Md_renew_181 (pk_mul 48 i) ?_
                      refine g_iload_n X 3 d_Md_renew_182 rfl rfl ?_
                      refine g_iadd X (nI (48 * i + j)) d_Md_renew_183 (nI_add (48 * i) j) ?_
                      refine g_zaldB X 7 2 rfl rfl (by omega) (by omega) d_Md_renew_184 ?_
                      refine b_if_ne X 202 d_Md_renew_185 (by decide) (fun h185 => ?_) (fun h185 => ?_)
                      · refine g_iconst (v := nI 1) X d_Md_renew_202 rfl ?_
                        refine g_goto X 207 d_Md_renew_203 (by decide) ?_
                        refine g_topE (show nI 1 = bI true from rfl) ?_
                        refine g_zastB X 7 2 [(mo, .inr (8, [.int tw, .int (nI K), .int (nI R), .ref qa, .ref qb, .ref qk, .ref qu, .ref qn, .ref qx, .ref qo, .ref qf, .int (nI d), .ref qr, .int (nI gm), .ref qg, .ref qv, .int (nI d2), .ref qs, .int (nI vv), .ref qc, .ref qm, .ref qw])), (qa, .inl (cI, 200, .inl (nf Fa))), (qb, .inl (cI, 200, .inl (nf Fb))), (qk, .inl (cI, 200, .inl (nf Fk))), (qu, .inl (cZ, 200, .inl (zf UN))), (qn, .inl (cI, 48, .inl (nf M9_1))), (qx, .inl (cZ, 2304, .inl (zf AB9))), (qo, .inl (cZ, 2304, .inl (zf (updB OV7 (48 * i + j) true))))] rfl rfl (by omega) (by omega) rfl d_Md_renew_207 ?_
                        refine g_iinc X (nI (j + 1)) [(3, .int (nI (j + 1))), (0, .ref mo), (1, .int (nI z)), (2, .int (nI i))] d_Md_renew_208 (k := 3) rfl (nI_1 j) (by decide) rfl ?_
                        refine g_goto X 142 d_Md_renew_211 (by decide) ?_
                        refine g_lv [1, 2, 3, 0] rfl ?_
                        exact ih142 (j + 1) (updB OV7 (48 * i + j) true) (by omega) (by omega) (by first | exact ws_put h3 (by omega) (by omega) (by omega) h161 (by rw [h185]; rfl) | exact ws_put h3 (by omega) (by omega) (by omega) h161 (by rw [h185, h199]; rfl))
                      · refine g_aload_n X 0 d_Md_renew_188 rfl rfl ?_
                        refine g_get (C := R_Md) (T := T_Md) (N := 22) X 0 9 in_Md rfl rfl (by decide) t3_156 rfl rfl d_Md_renew_189 ?_
                        refine g_bipush (v := nI 48) X d_Md_renew_192 rfl ?_
                        refine g_iload_n X 1 d_Md_renew_194 rfl rfl ?_
                        refine g_imul X (nI (48 * z)) d_Md_renew_195 (pk_mul 48 z) ?_
                        refine g_iload_n X 3 d_Md_renew_196 rfl rfl ?_
                        refine g_iadd X (nI (48 * z + j)) d_Md_renew_197 (nI_add (48 * z) j) ?_
                        refine g_zaldB X 7 2 rfl rfl (by omega) (by omega) d_Md_renew_198 ?_
                        refine b_if_eq X 206 d_Md_renew_199 (by decide) (fun h199 => ?_) (fun h199 => ?_)
                        · refine g_iconst (v := nI 0) X d_Md_renew_206 rfl ?_
                          refine g_topE (show nI 0 = bI false from rfl) ?_
                          refine g_zastB X 7 2 [(mo, .inr (8, [.int tw, .int (nI K), .int (nI R), .ref qa, .ref qb, .ref qk, .ref qu, .ref qn, .ref qx, .ref qo, .ref qf, .int (nI d), .ref qr, .int (nI gm), .ref qg, .ref qv, .int (nI d2), .ref qs, .int (nI vv), .ref qc, .ref qm, .ref qw])), (qa, .inl (cI, 200, .inl (nf Fa))), (qb, .inl (cI, 200, .inl (nf Fb))), (qk, .inl (cI, 200, .inl (nf Fk))), (qu, .inl (cZ, 200, .inl (zf UN))), (qn, .inl (cI, 48, .inl (nf M9_1))), (qx, .inl (cZ, 2304, .inl (zf AB9))), (qo, .inl (cZ, 2304, .inl (zf (updB OV7 (48 * i + j) false))))] rfl rfl (by omega) (by omega) rfl d_Md_renew_207 ?_
                          refine g_iinc X (nI (j + 1)) [(3, .int (nI (j + 1))), (0, .ref mo), (1, .int (nI z)), (2, .int (nI i))] d_Md_renew_208 (k := 3) rfl (nI_1 j) (by decide) rfl ?_
                          refine g_goto X 142 d_Md_renew_211 (by decide) ?_
                          refine g_lv [1, 2, 3, 0] rfl ?_
                          exact ih142 (j + 1) (updB OV7 (48 * i + j) false) (by omega) (by omega) (by first | exact ws_put h3 (by omega) (by omega) (by omega) h161 (by rw [h185]; rfl) | exact ws_put h3 (by omega) (by omega) (by omega) h161 (by rw [h185, h199]; rfl))
                        · refine g_iconst (v := nI 1) X d_Md_renew_202 rfl ?_
                          refine g_goto X 207 d_Md_renew_203 (by decide) ?_
                          refine g_topE (show nI 1 = bI true from rfl) ?_
                          refine g_zastB X 7 2 [(mo, .inr (8, [.int tw, .int (nI K), .int (nI R), .ref qa, .ref qb, .ref qk, .ref qu, .ref qn, .ref qx, .ref qo, .ref qf, .int (nI d), .ref qr, .int (nI gm), .ref qg, .ref qv, .int (nI d2), .ref qs, .int (nI vv), .ref qc, .ref qm, .ref qw])), (qa, .inl (cI, 200, .inl (nf Fa))), (qb, .inl (cI, 200, .inl (nf Fb))), (qk, .inl (cI, 200, .inl (nf Fk))), (qu, .inl (cZ, 200, .inl (zf UN))), (qn, .inl (cI, 48, .inl (nf M9_1))), (qx, .inl (cZ, 2304, .inl (zf AB9))), (qo, .inl (cZ, 2304, .inl (zf (updB OV7 (48 * i + j) true))))] rfl rfl (by omega) (by omega) rfl d_Md_renew_207 ?_
                          refine g_iinc X (nI (j + 1)) [(3, .int (nI (j + 1))), (0, .ref mo), (1, .int (nI z)), (2, .int (nI i))] d_Md_renew_208 (k := 3) rfl (nI_1 j) (by decide) rfl ?_
                          refine g_goto X 142 d_Md_renew_211 (by decide) ?_
                          refine g_lv [1, 2, 3, 0] rfl ?_
                          exact ih142 (j + 1) (updB OV7 (48 * i + j) true) (by omega) (by omega) (by first | exact ws_put h3 (by omega) (by omega) (by omega) h161 (by rw [h185]; rfl) | exact ws_put h3 (by omega) (by omega) (by omega) h161 (by rw [h185, h199]; rfl))
              refine g_iconst (v := nI 0) X d_Md_renew_140 rfl ?_
              refine g_istore_n X [(3, .int (nI 0)), (0, .ref mo), (1, .int (nI z)), (2, .int (nI i))] d_Md_renew_141 rfl (by decide) rfl ?_
              refine g_lv [1, 2, 3, 0] rfl ?_
              exact L142 ((K - 0) + 1) 0 OV8 (Nat.lt_succ_self _) (by omega) (h2)
        refine g_iconst (v := nI 0) X d_Md_renew_130 rfl ?_
        refine g_istore_n X [(2, .int (nI 0)), (0, .ref mo), (1, .int (nI z))] d_Md_renew_131 rfl (by decide) rfl ?_
        refine g_lv [1, 2, 0] rfl ?_
        exact L132 ((K - 0) + 1) 0 OV9 (Nat.lt_succ_self _) (by omega) (h1)
  have L95 : ∀ (N95 : Nat) (i : Nat) (AB9 : Nat → Bool) (OV9 : Nat → Bool), (2304 - i) < N95 → (i ≤ 2304) → (tbI AB9 (jst Fa Fb (jnum Fa Fb (eqm UN Fk) R) (abm UN Fk) R)) → (∀ k, k < i → OV9 k = AB9 k) → G p l e ({ frames := 1, cells := 0, slots := 0, locals := 25 } : Room) s m args below meth c 4 D A s.heap Q 0 0 [(mo, .inr (8, [.int tw, .int (nI K), .int (nI R), .ref qa, .ref qb, .ref qk, .ref qu, .ref qn, .ref qx, .ref qo, .ref qf, .int (nI d), .ref qr, .int (nI gm), .ref qg, .ref qv, .int (nI d2), .ref qs, .int (nI vv), .ref qc, .ref qm, .ref qw])), (qa, .inl (cI, 200, .inl (nf Fa))), (qb, .inl (cI, 200, .inl (nf Fb))), (qk, .inl (cI, 200, .inl (nf Fk))), (qu, .inl (cZ, 200, .inl (zf UN))), (qn, .inl (cI, 48, .inl (nf M9_1))), (qx, .inl (cZ, 2304, .inl (zf AB9))), (qo, .inl (cZ, 2304, .inl (zf OV9)))] [(0, .ref mo), (1, .int (nI i))] 95 [] := by
    intro N95
    induction N95 with
    | zero =>
      intro i AB9 OV9 hN
      exact absurd hN (Nat.not_lt_zero _)
    | succ N95 ih95 =>
      intro i AB9 OV9 hN95 hi hA h1
      refine g_iload_n X 1 d_Md_renew_95 rfl rfl ?_
      refine g_sipush (v := nI 2304) X d_Md_renew_96 rfl ?_
      refine n_icmp_ge X 120 d_Md_renew_99 (by decide) (by omega) (by omega) (fun h99 => ?_) (fun h99 => ?_)
      · refine g_iconst (v := nI 0) X d_Md_renew_120 rfl ?_
        refine g_istore_n X [(1, .int (nI 0)), (0, .ref mo)] d_Md_renew_121 rfl (by decide) rfl ?_
        refine g_lv [1, 0] rfl ?_
        exact L122 ((K - 0) + 1) 0 AB9 OV9 (Nat.lt_succ_self _) (by omega) (hA) (ws_copy hA (fun k hk => h1 k (by omega)))
      · refine g_aload_n X 0 d_Md_renew_102 rfl rfl ?_
        refine g_get (C := R_Md) (T := T_Md) (N := 22) X 0 9 in_Md rfl rfl (by decide) t3_156 rfl rfl d_Md_renew_103 ?_
        refine g_iload_n X 1 d_Md_renew_106 rfl rfl ?_
        refine g_aload_n X 0 d_Md_renew_107 rfl rfl ?_
        refine g_get (C := R_Md) (T := T_Md) (N := 22) X 0 8 in_Md rfl rfl (by decide) t3_155 rfl rfl d_Md_renew_108 ?_
        refine g_iload_n X 1 d_Md_renew_111 rfl rfl ?_
        refine g_zaldB X 6 2 rfl rfl (by omega) (by omega) d_Md_renew_112 ?_
        refine g_zastB X 7 2 [(mo, .inr (8, [.int tw, .int (nI K), .int (nI R), .ref qa, .ref qb, .ref qk, .ref qu, .ref qn, .ref qx, .ref qo, .ref qf, .int (nI d), .ref qr, .int (nI gm), .ref qg, .ref qv, .int (nI d2), .ref qs, .int (nI vv), .ref qc, .ref qm, .ref qw])), (qa, .inl (cI, 200, .inl (nf Fa))), (qb, .inl (cI, 200, .inl (nf Fb))), (qk, .inl (cI, 200, .inl (nf Fk))), (qu, .inl (cZ, 200, .inl (zf UN))), (qn, .inl (cI, 48, .inl (nf M9_1))), (qx, .inl (cZ, 2304, .inl (zf AB9))), (qo, .inl (cZ, 2304, .inl (zf (updB OV9 i (AB9 i)))))] rfl rfl (by omega) (by omega) rfl d_Md_renew_113 ?_
        refine g_iinc X (nI (i + 1)) [(1, .int (nI (i + 1))), (0, .ref mo)] d_Md_renew_114 (k := 1) rfl (nI_1 i) (by decide) rfl ?_
        refine g_goto X 95 d_Md_renew_117 (by decide) ?_
        refine g_lv [1, 0] rfl ?_
        exact ih95 (i + 1) AB9 (updB OV9 i (AB9 i)) (by omega) (by omega) (hA) (copyB_step h1)
  have L28 : ∀ (N28 : Nat) (q : Nat) (AB9 : Nat → Bool), (R - q) < N28 → (q ≤ R) → (tbI AB9 (jst Fa Fb (jnum Fa Fb (eqm UN Fk) R) (abm UN Fk) q)) → G p l e ({ frames := 1, cells := 0, slots := 0, locals := 25 } : Room) s m args below meth c 4 D A s.heap Q 0 0 [(mo, .inr (8, [.int tw, .int (nI K), .int (nI R), .ref qa, .ref qb, .ref qk, .ref qu, .ref qn, .ref qx, .ref qo, .ref qf, .int (nI d), .ref qr, .int (nI gm), .ref qg, .ref qv, .int (nI d2), .ref qs, .int (nI vv), .ref qc, .ref qm, .ref qw])), (qa, .inl (cI, 200, .inl (nf Fa))), (qb, .inl (cI, 200, .inl (nf Fb))), (qk, .inl (cI, 200, .inl (nf Fk))), (qu, .inl (cZ, 200, .inl (zf UN))), (qn, .inl (cI, 48, .inl (nf M9_1))), (qx, .inl (cZ, 2304, .inl (zf AB9))), (qo, .inl (cZ, 2304, .inl (zf OV)))] [(0, .ref mo), (1, .int (nI q))] 28 [] := by
    intro N28
    induction N28 with
    | zero =>
      intro q AB9 hN
      exact absurd hN (Nat.not_lt_zero _)
    | succ N28 ih28 =>
      intro q AB9 hN28 hq h1
      refine g_iload_n X 1 d_Md_renew_28 rfl rfl ?_
      refine g_aload_n X 0 d_Md_renew_29 rfl rfl ?_
      refine g_get (C := R_Md) (T := T_Md) (N := 22) X 0 2 in_Md rfl rfl (by decide) t3_149 rfl rfl d_Md_renew_30 ?_
      refine n_icmp_ge X 93 d_Md_renew_33 (by decide) (by omega) (by omega) (fun h33 => ?_) (fun h33 => ?_)
      · have e9 : q = R := by omega
        subst e9
        refine g_iconst (v := nI 0) X d_Md_renew_93 rfl ?_
        refine g_istore_n X [(1, .int (nI 0)), (0, .ref mo)] d_Md_renew_94 rfl (by decide) rfl ?_
        refine g_lv [1, 0] rfl ?_
        exact L95 ((2304 - 0) + 1) 0 AB9 OV (Nat.lt_succ_self _) (by omega) (h1) (fun j hj => absurd hj (Nat.not_lt_zero j))
      · refine g_aload_n X 0 d_Md_renew_36 rfl rfl ?_
        refine g_get (C := R_Md) (T := T_Md) (N := 22) X 0 6 in_Md rfl rfl (by decide) t3_153 rfl rfl d_Md_renew_37 ?_
        refine g_iload_n X 1 d_Md_renew_40 rfl rfl ?_
        refine g_zaldB X 4 2 rfl rfl (by omega) (by omega) d_Md_renew_41 ?_
        refine b_if_ne X 87 d_Md_renew_42 (by decide) (fun h42 => ?_) (fun h42 => ?_)
        · refine g_iinc X (nI (q + 1)) [(1, .int (nI (q + 1))), (0, .ref mo)] d_Md_renew_87 (k := 1) rfl (nI_1 q) (by decide) rfl ?_
          refine g_goto X 28 d_Md_renew_90 (by decide) ?_
          refine g_lv [1, 0] rfl ?_
          exact ih28 (q + 1) AB9 (by omega) (by omega) (by first | exact tb_keep h1 (abm_f1 h42) | exact tb_keep h1 (abm_f2 h52) | exact tb_put e1 e2 (by omega) (by omega) h1 (abm_t h42 h52))
        · have lk := hk4 q (by omega)
          refine g_aload_n X 0 d_Md_renew_45 rfl rfl ?_
          refine g_get (C := R_Md) (T := T_Md) (N := 22) X 0 5 in_Md rfl rfl (by decide) t3_152 rfl rfl d_Md_renew_46 ?_
          refine g_iload_n X 1 d_Md_renew_49 rfl rfl ?_
          refine g_ialdN X 3 0 rfl rfl (by omega) (by omega) d_Md_renew_50 ?_
          refine g_iconst (v := nI 3) X d_Md_renew_51 rfl ?_
          refine n_icmp_ge X 87 d_Md_renew_52 (by decide) (by omega) (by omega) (fun h52 => ?_) (fun h52 => ?_)
          · refine g_iinc X (nI (q + 1)) [(1, .int (nI (q + 1))), (0, .ref mo)] d_Md_renew_87 (k := 1) rfl (nI_1 q) (by decide) rfl ?_
            refine g_goto X 28 d_Md_renew_90 (by decide) ?_
            refine g_lv [1, 0] rfl ?_
            exact ih28 (q + 1) AB9 (by omega) (by omega) (by first | exact tb_keep h1 (abm_f1 h42) | exact tb_keep h1 (abm_f2 h52) | exact tb_put e1 e2 (by omega) (by omega) h1 (abm_t h42 h52))
          · have lq := hr q (by omega)
            have la := lq.1
            have lb9 := lq.2
            have n1 : (jnum Fa Fb (eqm UN Fk) R) (Fa q) < K := jnum_lt la
            have n2 : (jnum Fa Fb (eqm UN Fk) R) (Fb q) < K := jnum_lt lb9
            have e1 := hj9 _ la
            have e2 := hj9 _ lb9
            refine g_aload_n X 0 d_Md_renew_55 rfl rfl ?_
            refine g_get (C := R_Md) (T := T_Md) (N := 22) X 0 8 in_Md rfl rfl (by decide) t3_155 rfl rfl d_Md_renew_56 ?_
            refine g_bipush (v := nI 48) X d_Md_renew_59 rfl ?_
            refine g_aload_n X 0 d_Md_renew_61 rfl rfl ?_
            refine g_get (C := R_Md) (T := T_Md) (N := 22) X 0 7 in_Md rfl rfl (by decide) t3_154 rfl rfl d_Md_renew_62 ?_
            refine g_aload_n X 0 d_Md_renew_65 rfl rfl ?_
            refine g_get (C := R_Md) (T := T_Md) (N := 22) X 0 3 in_Md rfl rfl (by decide) t3_150 rfl rfl d_Md_renew_66 ?_
            refine g_iload_n X 1 d_Md_renew_69 rfl rfl ?_
            refine g_ialdN X 1 0 rfl rfl (by omega) (by omega) d_Md_renew_70 ?_
            refine g_ialdN X 5 0 rfl rfl (by omega) (by omega) d_Md_renew_71 ?_
            refine g_imul X (nI (48 * (M9_1 (Fa q)))) d_Md_renew_72 (pk_mul 48 (M9_1 (Fa q))) ?_
            refine g_aload_n X 0 d_Md_renew_73 rfl rfl ?_
            refine g_get (C := R_Md) (T := T_Md) (N := 22) X 0 7 in_Md rfl rfl (by decide) t3_154 rfl rfl d_Md_renew_74 ?_
            refine g_aload_n X 0 d_Md_renew_77 rfl rfl ?_
            refine g_get (C := R_Md) (T := T_Md) (N := 22) X 0 4 in_Md rfl rfl (by decide) t3_151 rfl rfl d_Md_renew_78 ?_
            refine g_iload_n X 1 d_Md_renew_81 rfl rfl ?_
            refine g_ialdN X 2 0 rfl rfl (by omega) (by omega) d_Md_renew_82 ?_
            refine g_ialdN X 5 0 rfl rfl (by omega) (by omega) d_Md_renew_83 ?_
            refine g_iadd X (nI (48 * (M9_1 (Fa q)) + M9_1 (Fb q))) d_Md_renew_84 (nI_add (48 * (M9_1 (Fa q))) (M9_1 (Fb q))) ?_
            refine g_iconst (v := nI 1) X d_Md_renew_85 rfl ?_
            refine g_topE (show nI 1 = bI true from rfl) ?_
            refine g_zastB X 6 2 [(mo, .inr (8, [.int tw, .int (nI K), .int (nI R), .ref qa, .ref qb, .ref qk, .ref qu, .ref qn, .ref qx, .ref qo, .ref qf, .int (nI d), .ref qr, .int (nI gm), .ref qg, .ref qv, .int (nI d2), .ref qs, .int (nI vv), .ref qc, .ref qm, .ref qw])), (qa, .inl (cI, 200, .inl (nf Fa))), (qb, .inl (cI, 200, .inl (nf Fb))), (qk, .inl (cI, 200, .inl (nf Fk))), (qu, .inl (cZ, 200, .inl (zf UN))), (qn, .inl (cI, 48, .inl (nf M9_1))), (qx, .inl (cZ, 2304, .inl (zf (updB AB9 (48 * (M9_1 (Fa q)) + M9_1 (Fb q)) true)))), (qo, .inl (cZ, 2304, .inl (zf OV)))] rfl rfl (by omega) (by omega) rfl d_Md_renew_86 ?_
            refine g_iinc X (nI (q + 1)) [(1, .int (nI (q + 1))), (0, .ref mo)] d_Md_renew_87 (k := 1) rfl (nI_1 q) (by decide) rfl ?_
            refine g_goto X 28 d_Md_renew_90 (by decide) ?_
            refine g_lv [1, 0] rfl ?_
            exact ih28 (q + 1) (updB AB9 (48 * (M9_1 (Fa q)) + M9_1 (Fb q)) true) (by omega) (by omega) (by first | exact tb_keep h1 (abm_f1 h42) | exact tb_keep h1 (abm_f2 h52) | exact tb_put e1 e2 (by omega) (by omega) h1 (abm_t h42 h52))
  have L6 : ∀ (N6 : Nat) (i : Nat) (AB9 : Nat → Bool), (2304 - i) < N6 → (i ≤ 2304) → (∀ k, k < i → AB9 k = false) → G p l e ({ frames := 1, cells := 0, slots := 0, locals := 25 } : Room) s m args below meth c 4 D A s.heap Q 0 0 [(mo, .inr (8, [.int tw, .int (nI K), .int (nI R), .ref qa, .ref qb, .ref qk, .ref qu, .ref qn, .ref qx, .ref qo, .ref qf, .int (nI d), .ref qr, .int (nI gm), .ref qg, .ref qv, .int (nI d2), .ref qs, .int (nI vv), .ref qc, .ref qm, .ref qw])), (qa, .inl (cI, 200, .inl (nf Fa))), (qb, .inl (cI, 200, .inl (nf Fb))), (qk, .inl (cI, 200, .inl (nf Fk))), (qu, .inl (cZ, 200, .inl (zf UN))), (qn, .inl (cI, 48, .inl (nf M9_1))), (qx, .inl (cZ, 2304, .inl (zf AB9))), (qo, .inl (cZ, 2304, .inl (zf OV)))] [(0, .ref mo), (1, .int (nI i))] 6 [] := by
    intro N6
    induction N6 with
    | zero =>
      intro i AB9 hN
      exact absurd hN (Nat.not_lt_zero _)
    | succ N6 ih6 =>
      intro i AB9 hN6 hi h1
      refine g_iload_n X 1 d_Md_renew_6 rfl rfl ?_
      refine g_sipush (v := nI 2304) X d_Md_renew_7 rfl ?_
      refine n_icmp_ge X 26 d_Md_renew_10 (by decide) (by omega) (by omega) (fun h10 => ?_) (fun h10 => ?_)
      · refine g_iconst (v := nI 0) X d_Md_renew_26 rfl ?_
        refine g_istore_n X [(1, .int (nI 0)), (0, .ref mo)] d_Md_renew_27 rfl (by decide) rfl ?_
        refine g_lv [1, 0] rfl ?_
        exact L28 ((R - 0) + 1) 0 AB9 (Nat.lt_succ_self _) (by omega) (tb_0 (fun k hk => h1 k (by omega)))
      · refine g_aload_n X 0 d_Md_renew_13 rfl rfl ?_
        refine g_get (C := R_Md) (T := T_Md) (N := 22) X 0 8 in_Md rfl rfl (by decide) t3_155 rfl rfl d_Md_renew_14 ?_
        refine g_iload_n X 1 d_Md_renew_17 rfl rfl ?_
        refine g_iconst (v := nI 0) X d_Md_renew_18 rfl ?_
        refine g_topE (show nI 0 = bI false from rfl) ?_
        refine g_zastB X 6 2 [(mo, .inr (8, [.int tw, .int (nI K), .int (nI R), .ref qa, .ref qb, .ref qk, .ref qu, .ref qn, .ref qx, .ref qo, .ref qf, .int (nI d), .ref qr, .int (nI gm), .ref qg, .ref qv, .int (nI d2), .ref qs, .int (nI vv), .ref qc, .ref qm, .ref qw])), (qa, .inl (cI, 200, .inl (nf Fa))), (qb, .inl (cI, 200, .inl (nf Fb))), (qk, .inl (cI, 200, .inl (nf Fk))), (qu, .inl (cZ, 200, .inl (zf UN))), (qn, .inl (cI, 48, .inl (nf M9_1))), (qx, .inl (cZ, 2304, .inl (zf (updB AB9 i false)))), (qo, .inl (cZ, 2304, .inl (zf OV)))] rfl rfl (by omega) (by omega) rfl d_Md_renew_19 ?_
        refine g_iinc X (nI (i + 1)) [(1, .int (nI (i + 1))), (0, .ref mo)] d_Md_renew_20 (k := 1) rfl (nI_1 i) (by decide) rfl ?_
        refine g_goto X 6 d_Md_renew_23 (by decide) ?_
        refine g_lv [1, 0] rfl ?_
        exact ih6 (i + 1) (updB AB9 i false) (by omega) (by omega) (fillB_step h1)
  refine g_iconst (v := nI 0) X d_Md_renew_4 rfl ?_
  refine g_istore_n X [(1, .int (nI 0)), (0, .ref mo)] d_Md_renew_5 rfl (by decide) rfl ?_
  refine g_ws [(mo, .inr (8, [.int tw, .int (nI K), .int (nI R), .ref qa, .ref qb, .ref qk, .ref qu, .ref qn, .ref qx, .ref qo, .ref qf, .int (nI d), .ref qr, .int (nI gm), .ref qg, .ref qv, .int (nI d2), .ref qs, .int (nI vv), .ref qc, .ref qm, .ref qw])), (qa, .inl (cI, 200, .inl (nf Fa))), (qb, .inl (cI, 200, .inl (nf Fb))), (qk, .inl (cI, 200, .inl (nf Fk))), (qu, .inl (cZ, 200, .inl (zf UN))), (qn, .inl (cI, 48, .inl (nf M9_1))), (qx, .inl (cZ, 2304, .inl (zf AB))), (qo, .inl (cZ, 2304, .inl (zf OV)))] [2, 3, 4, 5, 6, 7, 0, 1] rfl rfl ?_
  refine g_lv [1, 0] rfl ?_
  exact L6 ((2304 - 0) + 1) 0 AB (Nat.lt_succ_self _) (by omega) (fun j hj => absurd hj (Nat.not_lt_zero j))

set_option maxHeartbeats 4000000 in
set_option maxRecDepth 100000 in
theorem k_Md_context (mo : Nat) (tw : Int32) (K : Nat) (R : Nat) (qa : Nat) (qb : Nat) (qk : Nat) (qu : Nat) (qn : Nat) (qx : Nat) (qo : Nat) (qf : Nat) (d : Nat) (qr : Nat) (gm : Nat) (qg : Nat) (qv : Nat) (d2 : Nat) (qs : Nat) (vv : Nat) (qc : Nat) (qm : Nat) (qw : Nat) (Fa : Nat → Nat) (Fb : Nat → Nat) (Fk : Nat → Nat) (UN : Nat → Bool) (M : Nat → Nat) (AB : Nat → Bool) (OV : Nat → Bool) (hK : K < 48) (hR : R ≤ 200) (hr : ∀ r, r < R → Fa r < K ∧ Fb r < K) (hk4 : ∀ r, r < R → Fk r ≤ 4) : CtI l y_Md_context (Cond.code y_Md_context c_Md_context 1 (some .int) :: TB) ({ frames := 2, cells := 0, slots := 0, locals := 48 } : Room) D (tysv cI cJ cZ cQ) [.ref mo] [(mo, .inr (8, [.int tw, .int (nI K), .int (nI R), .ref qa, .ref qb, .ref qk, .ref qu, .ref qn, .ref qx, .ref qo, .ref qf, .int (nI d), .ref qr, .int (nI gm), .ref qg, .ref qv, .int (nI d2), .ref qs, .int (nI vv), .ref qc, .ref qm, .ref qw])), (qa, .inl (cI, 200, .inl (nf Fa))), (qb, .inl (cI, 200, .inl (nf Fb))), (qk, .inl (cI, 200, .inl (nf Fk))), (qu, .inl (cZ, 200, .inl (zf UN))), (qn, .inl (cI, 48, .inl (nf M))), (qx, .inl (cZ, 2304, .inl (zf AB))), (qo, .inl (cZ, 2304, .inl (zf OV)))] 0 0 (fun (r : Int32) (u : (Nat → Nat) × (Nat → Bool) × (Nat → Bool)) => r = nI K ∧ (∀ z, z < K + 1 → u.1 z = (jnum Fa Fb (eqm UN Fk) R) z) ∧ tbI u.2.1 (jst Fa Fb (jnum Fa Fb (eqm UN Fk) R) (abm UN Fk) R) ∧ tbI u.2.2 (gwar (jst Fa Fb (jnum Fa Fb (eqm UN Fk) R) (abm UN Fk) R) 48)) (fun (u : (Nat → Nat) × (Nat → Bool) × (Nat → Bool)) => [(mo, .inr (8, [.int (nI 0), .int (nI (K + 1)), .int (nI R), .ref qa, .ref qb, .ref qk, .ref qu, .ref qn, .ref qx, .ref qo, .ref qf, .int (nI d), .ref qr, .int (nI gm), .ref qg, .ref qv, .int (nI d2), .ref qs, .int (nI vv), .ref qc, .ref qm, .ref qw])), (qa, .inl (cI, 200, .inl (nf Fa))), (qb, .inl (cI, 200, .inl (nf Fb))), (qk, .inl (cI, 200, .inl (nf Fk))), (qu, .inl (cZ, 200, .inl (zf UN))), (qn, .inl (cI, 48, .inl (nf u.1))), (qx, .inl (cZ, 2304, .inl (zf u.2.1))), (qo, .inl (cZ, 2304, .inl (zf u.2.2)))]) := by
  refine CtI.of c_Md_context 1 (some .int) (by decide) rfl (Nat.le_of_ble_eq_true rfl) ?_
  intro p e s m args below meth c A Q hA9 hQ9 X hr9 hlk9 hin9
  refine g_aload_n X 0 d_Md_context_0 rfl rfl ?_
  refine g_aload_n X 0 d_Md_context_1 rfl rfl ?_
  refine g_get (C := R_Md) (T := T_Md) (N := 22) X 0 1 in_Md rfl rfl (by decide) t3_148 rfl rfl d_Md_context_2 ?_
  refine g_bipush (v := nI 48) X d_Md_context_5 rfl ?_
  refine n_icmp_ge X 14 d_Md_context_7 (by decide) (by omega) (by omega) (fun h7 => absurd h7 (by omega)) (fun h7 => ?_)
  refine g_iconst (v := nI 1) X d_Md_context_10 rfl ?_
  refine g_goto X 15 d_Md_context_11 (by decide) ?_
  refine g_iconst (v := nI 1) X d_Md_context_15 rfl ?_
  refine g_calliV (n := 2) X [.int (bI true), .int (bI true)] (k_Md_goes mo tw K R qa qb qk qu qn qx qo qf d qr gm qg qv d2 qs vv qc qm qw ) t3_223 t3_225 ts_11 t1_9 t3_226 rfl rfl (by decide +kernel) ⟨by decide, by decide⟩ [0] [1, 2, 3, 4, 5, 6, 7] [(qa, .inl (cI, 200, .inl (nf Fa))), (qb, .inl (cI, 200, .inl (nf Fb))), (qk, .inl (cI, 200, .inl (nf Fk))), (qu, .inl (cZ, 200, .inl (zf UN))), (qn, .inl (cI, 48, .inl (nf M))), (qx, .inl (cZ, 2304, .inl (zf AB))), (qo, .inl (cZ, 2304, .inl (zf OV)))] rfl rfl rfl rfl (by decide) 0 rfl rfl rfl rfl (Nat.le_of_ble_eq_true rfl) d_Md_context_16 ⟨by decide, by decide⟩ (fun r1 w9u1 hw1 => ?_)
  subst hw1
  refine b_if_ne X 24 d_Md_context_19 (by decide) (fun h19 => ?_) (fun h19 => absurd h19 (by decide))
  refine g_aload_n X 0 d_Md_context_24 rfl rfl ?_
  refine g_dup X d_Md_context_25 rfl ?_
  refine g_get (C := R_Md) (T := T_Md) (N := 22) X 7 1 in_Md rfl rfl (by decide) t3_148 rfl rfl d_Md_context_26 ?_
  refine g_iconst (v := nI 1) X d_Md_context_29 rfl ?_
  refine g_iadd X (nI (K + 1)) d_Md_context_30 (nI_add K 1) ?_
  refine g_put (C := R_Md) (T := T_Md) (N := 22) (ty := .int) X 7 1 [(qa, .inl (cI, 200, .inl (nf Fa))), (qb, .inl (cI, 200, .inl (nf Fb))), (qk, .inl (cI, 200, .inl (nf Fk))), (qu, .inl (cZ, 200, .inl (zf UN))), (qn, .inl (cI, 48, .inl (nf M))), (qx, .inl (cZ, 2304, .inl (zf AB))), (qo, .inl (cZ, 2304, .inl (zf OV))), (mo, .inr (8, [.int (nI 0), .int (nI (K + 1)), .int (nI R), .ref qa, .ref qb, .ref qk, .ref qu, .ref qn, .ref qx, .ref qo, .ref qf, .int (nI d), .ref qr, .int (nI gm), .ref qg, .ref qv, .int (nI d2), .ref qs, .int (nI vv), .ref qc, .ref qm, .ref qw]))] t_Md ty_Md nm_Md in_Md rfl rfl (by decide) t3_148 rfl rfl (by decide +kernel) rfl rfl (Nat.le_of_ble_eq_true rfl) rfl d_Md_context_31 ?_
  refine g_aload_n X 0 d_Md_context_34 rfl rfl ?_
  refine g_callvV (n := 0) X [] (k_Md_renew mo (nI 0) (K + 1) R qa qb qk qu qn qx qo qf d qr gm qg qv d2 qs vv qc qm qw Fa Fb Fk UN M AB OV (by omega) (by omega) (fun r h => ⟨Nat.lt_succ_of_lt (hr r h).1, Nat.lt_succ_of_lt (hr r h).2⟩) (hk4)) t3_227 t3_229 ts_12 t1_9 t3_230 rfl rfl (by decide +kernel) ⟨by decide, by decide⟩ [7, 0, 1, 2, 3, 4, 5, 6] [] [] rfl rfl rfl rfl (by decide) 0 rfl rfl rfl rfl (Nat.le_of_ble_eq_true rfl) d_Md_context_35 ⟨by decide, by decide⟩ (fun ⟨M9_2, AB9_2, OV9_2⟩ hrn => ?_)
  refine g_aload_n X 0 d_Md_context_38 rfl rfl ?_
  refine g_get (C := R_Md) (T := T_Md) (N := 22) X 0 1 in_Md rfl rfl (by decide) t3_148 rfl rfl d_Md_context_39 ?_
  refine g_iconst (v := nI 1) X d_Md_context_42 rfl ?_
  refine g_isub X (nI ((K + 1) - 1)) d_Md_context_43 (pk_sub (by omega)) ?_
  exact g_iret X hA9 hQ9 hr9 hlk9 ⟨M9_2, AB9_2, OV9_2⟩ [0, 1, 2, 3, 4, 5, 6, 7] rfl rfl d_Md_context_44 (by (try dsimp only); exact (⟨by rw [Nat.add_sub_cancel], hrn⟩))

set_option maxHeartbeats 4000000 in
set_option maxRecDepth 100000 in
theorem k_Md_contextN (mo : Nat) (tw : Int32) (K : Nat) (R : Nat) (qa : Nat) (qb : Nat) (qk : Nat) (qu : Nat) (qn : Nat) (qx : Nat) (qo : Nat) (qf : Nat) (d : Nat) (qr : Nat) (gm : Nat) (qg : Nat) (qv : Nat) (d2 : Nat) (qs : Nat) (vv : Nat) (qc : Nat) (qm : Nat) (qw : Nat) (hK : 48 ≤ K) (hK2 : K ≤ 48) : CtI l y_Md_context (Cond.code y_Md_context c_Md_context 1 (some .int) :: TB) ({ frames := 1, cells := 0, slots := 0, locals := 22 } : Room) D (tysv cI cJ cZ cQ) [.ref mo] [(mo, .inr (8, [.int tw, .int (nI K), .int (nI R), .ref qa, .ref qb, .ref qk, .ref qu, .ref qn, .ref qx, .ref qo, .ref qf, .int (nI d), .ref qr, .int (nI gm), .ref qg, .ref qv, .int (nI d2), .ref qs, .int (nI vv), .ref qc, .ref qm, .ref qw]))] 0 0 (fun (r : Int32) (_ : Unit) => r = nI 0) (fun (_ : Unit) => [(mo, .inr (8, [.int (nI 1), .int (nI K), .int (nI R), .ref qa, .ref qb, .ref qk, .ref qu, .ref qn, .ref qx, .ref qo, .ref qf, .int (nI d), .ref qr, .int (nI gm), .ref qg, .ref qv, .int (nI d2), .ref qs, .int (nI vv), .ref qc, .ref qm, .ref qw]))]) := by
  refine CtI.of c_Md_context 1 (some .int) (by decide) rfl (Nat.le_of_ble_eq_true rfl) ?_
  intro p e s m args below meth c A Q hA9 hQ9 X hr9 hlk9 hin9
  refine g_aload_n X 0 d_Md_context_0 rfl rfl ?_
  refine g_aload_n X 0 d_Md_context_1 rfl rfl ?_
  refine g_get (C := R_Md) (T := T_Md) (N := 22) X 0 1 in_Md rfl rfl (by decide) t3_148 rfl rfl d_Md_context_2 ?_
  refine g_bipush (v := nI 48) X d_Md_context_5 rfl ?_
  refine n_icmp_ge X 14 d_Md_context_7 (by decide) (by omega) (by omega) (fun h7 => ?_) (fun h7 => absurd h7 (by omega))
  refine g_iconst (v := nI 0) X d_Md_context_14 rfl ?_
  refine g_iconst (v := nI 1) X d_Md_context_15 rfl ?_
  refine g_calliV (n := 2) X [.int (bI false), .int (bI true)] (k_Md_goes1 mo tw K R qa qb qk qu qn qx qo qf d qr gm qg qv d2 qs vv qc qm qw true ) t3_223 t3_225 ts_11 t1_9 t3_226 rfl rfl (by decide +kernel) ⟨by decide, by decide⟩ [0] [] [] rfl rfl rfl rfl (by decide) 0 rfl rfl rfl rfl (Nat.le_of_ble_eq_true rfl) d_Md_context_16 ⟨by decide, by decide⟩ (fun r1 w9u1 hw1 => ?_)
  subst hw1
  refine b_if_ne X 24 d_Md_context_19 (by decide) (fun h19 => absurd h19 (by decide)) (fun h19 => ?_)
  refine g_iconst (v := nI 0) X d_Md_context_22 rfl ?_
  exact g_iret X hA9 hQ9 hr9 hlk9 () [0] rfl rfl d_Md_context_23 (rfl)
