variable {l : Launch} {D : va_G} {cI cJ cZ cQ : ClassId}
/-! the model's links, versions, differences, counts -/
def fdI (v : Nat) : Int32 := if v < 2304 then nI v else -1
theorem fdI_t {v : Nat} (h : v < 2304) : fdI v = nI v := if_pos h
theorem fdI_f {v : Nat} (h : ¬ v < 2304) : fdI v = -1 := if_neg h
theorem nI_nm {g : Nat} (h : g < 2 ^ 31) : ¬ nI g = -1 := by
  intro q
  have := nI_pos (n := g) h
  rw [q] at this
  exact this (by decide)
theorem fdI_n {v : Nat} (h : v < 2304) : ¬ fdI v = -1 := by
  rw [fdI_t h]
  exact nI_nm (by omega)
def fdP (P : Nat → Bool) (k i n v : Nat) : Prop := (¬ v < 2304 ∧ n = cnt P i ∧ n ≤ k) ∨ (v < 2304 ∧ P v = true ∧ cnt P v = k)
theorem fd_0 {P : Nat → Bool} {k : Nat} : fdP P k 0 0 2304 := Or.inl ⟨by omega, rfl, Nat.zero_le k⟩
theorem fd_miss {P : Nat → Bool} {k i n v : Nat} (hv : ¬ v < 2304) (hn : n = cnt P i) (hl : n ≤ k) (hp : P i = false) : fdP P k (i + 1) n v := Or.inl ⟨hv, by rw [cnt_f hp, hn], hl⟩
theorem fd_past {P : Nat → Bool} {k i n : Nat} (hn : n = cnt P i) (hl : n ≤ k) (hp : P i = true) (hne : ¬ n = k) : fdP P k (i + 1) (n + 1) 2304 := Or.inl ⟨by omega, by rw [cnt_t hp, hn], by omega⟩
theorem fd_hit {P : Nat → Bool} {k i n : Nat} (hi : i < 2304) (hn : n = cnt P i) (hp : P i = true) (he : n = k) : fdP P k (i + 1) (n + 1) i := Or.inr ⟨hi, hp, by rw [← hn]; exact he⟩
def ovq (FC FN : Nat → Nat) (OO : Nat → Bool) (v z x : Nat) : Bool := decide (z < FC v) && OO (2304 * v + 48 * FN (48 * v + z) + x)
def unq (FC FN : Nat → Nat) (OO : Nat → Bool) (v z x : Nat) : Bool := decide (z < FC v) && OO (2304 * v + 48 * x + FN (48 * v + z))
theorem ovq_f {FC FN : Nat → Nat} {OO : Nat → Bool} {v z x : Nat} (h : FC v ≤ z) : ovq FC FN OO v z x = false := by simp [ovq, Nat.not_lt.mpr h]
theorem ovq_b {FC FN : Nat → Nat} {OO : Nat → Bool} {v z x : Nat} {b : Bool} (h : z < FC v) (hb : OO (2304 * v + 48 * FN (48 * v + z) + x) = b) : ovq FC FN OO v z x = b := by simp [ovq, h, hb]
theorem unq_f {FC FN : Nat → Nat} {OO : Nat → Bool} {v z x : Nat} (h : FC v ≤ z) : unq FC FN OO v z x = false := by simp [unq, Nat.not_lt.mpr h]
theorem unq_b {FC FN : Nat → Nat} {OO : Nat → Bool} {v z x : Nat} {b : Bool} (h : z < FC v) (hb : OO (2304 * v + 48 * x + FN (48 * v + z)) = b) : unq FC FN OO v z x = b := by simp [unq, h, hb]
def dmZ (FC FN : Nat → Nat) (OO : Nat → Bool) (u v x y z : Nat) : Bool := (ovq FC FN OO u z x != ovq FC FN OO v z y) || (unq FC FN OO u z x != unq FC FN OO v z y)
def dmB (FC FN : Nat → Nat) (OO : Nat → Bool) (u v j i : Nat) : Bool := !decide (FN (48 * u + j) = FN (48 * v + j)) || anyB (dmZ FC FN OO u v (FN (48 * u + j)) (FN (48 * v + j))) i
def dfM (FC FN : Nat → Nat) (OO : Nat → Bool) (u v j : Nat) : Bool := (decide (j < FC u) != decide (j < FC v)) || (decide (j < FC u) && dmB FC FN OO u v j 48)
theorem bne_t {a b : Bool} (h : ¬ bI a = bI b) : (a != b) = true := by
  cases a <;> cases b <;> first | rfl | exact absurd rfl h
theorem bne_f {a b : Bool} (h : bI a = bI b) : (a != b) = false := by
  have := bI_inj h
  subst this
  cases a <;> rfl
theorem dm_b {FC FN : Nat → Nat} {OO : Nat → Bool} {u v j i : Nat} {b : Bool} (h : b = dmB FC FN OO u v j i) (hb : b = true) : true = dmB FC FN OO u v j (i + 1) := by
  subst h
  simp only [dmB, Bool.or_eq_true] at hb
  rcases hb with q | q
  · simp [dmB, q]
  · simp [dmB, anyB, q]
theorem dm_o {FC FN : Nat → Nat} {OO : Nat → Bool} {u v j i : Nat} (h : ¬ bI (ovq FC FN OO u i (FN (48 * u + j))) = bI (ovq FC FN OO v i (FN (48 * v + j)))) : true = dmB FC FN OO u v j (i + 1) := by
  have := bne_t h
  simp only [dmB, anyB, dmZ]
  rw [this]
  simp
theorem dm_u {FC FN : Nat → Nat} {OO : Nat → Bool} {u v j i : Nat} (h : ¬ bI (unq FC FN OO u i (FN (48 * u + j))) = bI (unq FC FN OO v i (FN (48 * v + j)))) : true = dmB FC FN OO u v j (i + 1) := by
  have := bne_t h
  simp only [dmB, anyB, dmZ]
  rw [this]
  simp
theorem dm_f {FC FN : Nat → Nat} {OO : Nat → Bool} {u v j i : Nat} {b : Bool} (h : b = dmB FC FN OO u v j i) (hb : b = false) (h1 : bI (ovq FC FN OO u i (FN (48 * u + j))) = bI (ovq FC FN OO v i (FN (48 * v + j)))) (h2 : bI (unq FC FN OO u i (FN (48 * u + j))) = bI (unq FC FN OO v i (FN (48 * v + j)))) : false = dmB FC FN OO u v j (i + 1) := by
  subst h
  have a1 := bne_f h1
  have a2 := bne_f h2
  simp only [dmB, Bool.or_eq_false_iff] at hb
  simp only [dmB, anyB, dmZ]
  rw [a1, a2, hb.1, hb.2]
  rfl
theorem dm_0 {FC FN : Nat → Nat} {OO : Nat → Bool} {u v j : Nat} : (!decide (FN (48 * u + j) = FN (48 * v + j))) = dmB FC FN OO u v j 0 := by simp [dmB, anyB]
theorem dfM_ne {FC FN : Nat → Nat} {OO : Nat → Bool} {u v j : Nat} (h : ¬ bI (decide (j < FC u)) = bI (decide (j < FC v))) : dfM FC FN OO u v j = true := by
  rw [dfM, bne_t h]
  rfl
theorem dfM_f {FC FN : Nat → Nat} {OO : Nat → Bool} {u v j : Nat} (h : bI (decide (j < FC u)) = bI (decide (j < FC v))) (h2 : decide (j < FC u) = false) : dfM FC FN OO u v j = false := by
  rw [dfM, bne_f h, h2]
  rfl
theorem dfM_b {FC FN : Nat → Nat} {OO : Nat → Bool} {u v j : Nat} {b c : Bool} (h : bI (decide (j < FC u)) = bI (decide (j < FC v))) (h2 : decide (j < FC u) = true) (hb : b = dmB FC FN OO u v j 48) (hc : b = c) : dfM FC FN OO u v j = c := by
  rw [dfM, bne_f h, h2, ← hb, hc]
  cases c <;> rfl
theorem vn_num {FN FN0 M : Nat → Nat} {b i : Nat} (h : (∀ k, k < b → FN k = FN0 k) ∧ ∀ c, c < i → FN (b + c) = M c) : (∀ k, k < b → updN FN (b + i) (M i) k = FN0 k) ∧ ∀ c, c < i + 1 → updN FN (b + i) (M i) (b + c) = M c := by
  refine ⟨fun k hk => by rw [updN_n (by omega)]; exact h.1 k hk, fun c hc => ?_⟩
  by_cases e : c = i
  · subst e; exact updN_s
  · rw [updN_n (by omega)]; exact h.2 c (by omega)
theorem vn_lt {FN : Nat → Nat} {j v : Nat} (hv : v < 48) (h : ∀ k, k < 384 → FN k < 48) : ∀ k, k < 384 → updN FN j v k < 48 := by
  intro k hk
  by_cases e : k = j
  · subst e; rw [updN_s]; exact hv
  · rw [updN_n e]; exact h k hk
theorem vn_ov {OO OO0 OV : Nat → Bool} {b i : Nat} (h : (∀ k, k < b → OO k = OO0 k) ∧ ∀ c, c < i → OO (b + c) = OV c) : (∀ k, k < b → updB OO (b + i) (OV i) k = OO0 k) ∧ ∀ c, c < i + 1 → updB OO (b + i) (OV i) (b + c) = OV c := by
  refine ⟨fun k hk => by rw [updB_n (by omega)]; exact h.1 k hk, fun c hc => ?_⟩
  by_cases e : c = i
  · subst e; exact updB_s
  · rw [updB_n (by omega)]; exact h.2 c (by omega)
theorem lkN {P : Nat → Bool} {i n k : Nat} (hi : i < 2304) (hp : P i = true) (hn : n = cnt P i) (hk : cnt P 2304 ≤ k) : n < k := by
  have := cnt_mono P (show i + 1 ≤ 2304 from hi)
  rw [cnt_t hp] at this
  omega
theorem dfN {P : Nat → Bool} {i n k : Nat} (hi : i < 48) (hp : P i = true) (hn : n = cnt P i) (hk : cnt P 48 ≤ k) : n < k := by
  have := cnt_mono P (show i + 1 ≤ 48 from hi)
  rw [cnt_t hp] at this
  omega
theorem cnt_halt {P : Nat → Bool} {i n k : Nat} (hn : n = cnt P i) (hl : n ≤ k) (hx : k < cnt P i) : False := by omega

set_option maxHeartbeats 4000000 in
set_option maxRecDepth 100000 in
theorem k_Md_link0 (mo : Nat) (tw : Int32) (K : Nat) (R : Nat) (qa : Nat) (qb : Nat) (qk : Nat) (qu : Nat) (qn : Nat) (qx : Nat) (qo : Nat) (qf : Nat) (d : Nat) (qr : Nat) (gm : Nat) (qg : Nat) (qv : Nat) (d2 : Nat) (qs : Nat) (vv : Nat) (qc : Nat) (qm : Nat) (qw : Nat) (OV : Nat → Bool) (k : Nat) (hK : K ≤ 48) (hk2 : k < 2 ^ 31) (hx : k < cnt (lkP OV K) 2304) : CtI l y_Md_link (Cond.code y_Md_link c_Md_link 7 (some .int) :: TB) ({ frames := 1, cells := 0, slots := 0, locals := 24 } : Room) D (tysv cI cJ cZ cQ) [.ref mo, .int (nI k), .int (nI 0)] [(mo, .inr (8, [.int tw, .int (nI K), .int (nI R), .ref qa, .ref qb, .ref qk, .ref qu, .ref qn, .ref qx, .ref qo, .ref qf, .int (nI d), .ref qr, .int (nI gm), .ref qg, .ref qv, .int (nI d2), .ref qs, .int (nI vv), .ref qc, .ref qm, .ref qw])), (qo, .inl (cZ, 2304, .inl (zf OV)))] 0 0 (fun (r : Int32) (p9 : Nat) => r = nI (p9 / 48) ∧ p9 < 2304 ∧ lkP OV K p9 = true ∧ cnt (lkP OV K) p9 = k) (fun (p9 : Nat) => [(mo, .inr (8, [.int (nI 0), .int (nI K), .int (nI R), .ref qa, .ref qb, .ref qk, .ref qu, .ref qn, .ref qx, .ref qo, .ref qf, .int (nI d), .ref qr, .int (nI gm), .ref qg, .ref qv, .int (nI d2), .ref qs, .int (nI vv), .ref qc, .ref qm, .ref qw])), (qo, .inl (cZ, 2304, .inl (zf OV)))]) := by
  refine CtI.of c_Md_link 7 (some .int) (by decide) rfl (Nat.le_of_ble_eq_true rfl) ?_
  intro p e s m args below meth c A Q hA9 hQ9 X hr9 hlk9 hin9
  refine g_iload_n X 1 d_Md_link_0 rfl rfl ?_
  refine n_if_lt X 17 d_Md_link_1 (by decide) (by omega) (fun h1 => absurd h1 (by omega)) (fun h1 => ?_)
  refine g_iload_n X 2 d_Md_link_4 rfl rfl ?_
  refine n_if_eq X 13 d_Md_link_5 (by decide) (by omega) (fun h5 => ?_) (fun h5 => absurd h5 (by omega))
  refine g_iconst (v := nI 1) X d_Md_link_13 rfl ?_
  refine g_goto X 18 d_Md_link_14 (by decide) ?_
  refine g_istore_n X [(3, .int (nI 1)), (0, .ref mo), (1, .int (nI k)), (2, .int (nI 0))] d_Md_link_18 rfl (by decide) rfl ?_
  refine g_iconst (v := nI 0) X d_Md_link_19 rfl ?_
  refine g_istore X [(4, .int (nI 0)), (3, .int (nI 1)), (0, .ref mo), (1, .int (nI k)), (2, .int (nI 0))] d_Md_link_20 (by decide) rfl ?_
  refine g_iconst (v := -1) X d_Md_link_22 rfl ?_
  refine g_topE (show (-1 : Int32) = fdI 2304 from rfl) ?_
  refine g_istore X [(5, .int (fdI 2304)), (4, .int (nI 0)), (3, .int (nI 1)), (0, .ref mo), (1, .int (nI k)), (2, .int (nI 0))] d_Md_link_23 (by decide) rfl ?_
  have L28 : ∀ (N28 : Nat) (i : Nat) (n : Nat) (v : Nat), (2304 - i) < N28 → (i ≤ 2304) → (n ≤ i) → (fdP (lkP OV K) k i n v) → G p l e ({ frames := 1, cells := 0, slots := 0, locals := 24 } : Room) s m args below meth c 7 D A s.heap Q 0 0 [(mo, .inr (8, [.int tw, .int (nI K), .int (nI R), .ref qa, .ref qb, .ref qk, .ref qu, .ref qn, .ref qx, .ref qo, .ref qf, .int (nI d), .ref qr, .int (nI gm), .ref qg, .ref qv, .int (nI d2), .ref qs, .int (nI vv), .ref qc, .ref qm, .ref qw])), (qo, .inl (cZ, 2304, .inl (zf OV)))] [(0, .ref mo), (1, .int (nI k)), (2, .int (nI 0)), (3, .int (nI 1)), (4, .int (nI n)), (5, .int (fdI v)), (6, .int (nI i))] 28 [] := by
    intro N28
    induction N28 with
    | zero =>
      intro i n v hN
      exact absurd hN (Nat.not_lt_zero _)
    | succ N28 ih28 =>
      intro i n v hN28 hi hni hf
      rcases hf with ⟨hv, hn, hl⟩ | ⟨hv, hp9, hc9⟩
      · have hv2 := fdI_f hv
        refine g_iload X 6 d_Md_link_28 rfl ?_
        refine g_sipush (v := nI 2304) X d_Md_link_30 rfl ?_
        refine n_icmp_ge X 86 d_Md_link_33 (by decide) (by omega) (by omega) (fun h33 => absurd h33 (fun q9 => by have e9 : i = 2304 := (by omega); subst e9; exact cnt_halt hn hl hx)) (fun h33 => ?_)
        refine g_iload_n X 3 d_Md_link_36 rfl rfl ?_
        refine n_if_eq X 86 d_Md_link_37 (by decide) (by omega) (fun h37 => absurd h37 (by omega)) (fun h37 => ?_)
        refine g_iload X 5 d_Md_link_40 rfl ?_
        refine g_iconst (v := -1) X d_Md_link_42 rfl ?_
        refine g_icmp_ne X 86 d_Md_link_43 (by decide) (fun h43 => absurd h43 (not_not_intro hv2)) (fun h43 => ?_)
        refine g_aload_n X 0 d_Md_link_46 rfl rfl ?_
        refine g_iload X 6 d_Md_link_47 rfl ?_
        refine g_bipush (v := nI 48) X d_Md_link_49 rfl ?_
        refine g_idiv X (nI (i / 48)) d_Md_link_51 (nI_ne0 (by omega) (by omega)) (pk_div (by omega) (by omega) (by omega)) ?_
        refine g_iload X 6 d_Md_link_52 rfl ?_
        refine g_bipush (v := nI 48) X d_Md_link_54 rfl ?_
        refine g_irem X (nI (i % 48)) d_Md_link_56 (nI_ne0 (by omega) (by omega)) (pk_rem (by omega) (by omega) (by omega)) ?_
        refine g_calliV (n := 2) X [.int (nI (i / 48)), .int (nI (i % 48))] (k_Md_isLink mo tw K R qa qb qk qu qn qx qo qf d qr gm qg qv d2 qs vv qc qm qw OV (i / 48) (i % 48) (by omega) (by omega) (by omega)) t4_35 t4_37 ts_19 t1_9 t4_38 rfl rfl (by decide +kernel) ⟨by decide, by decide⟩ [0, 1] [] [] rfl rfl rfl rfl (by decide) 0 rfl rfl rfl rfl (Nat.le_of_ble_eq_true rfl) d_Md_link_57 ⟨by decide, by decide⟩ (fun r1 w9u1 hw1 => ?_)
        subst hw1
        refine b_if_eq X 80 d_Md_link_60 (by decide) (fun h60 => ?_) (fun h60 => ?_)
        · refine g_iinc X (nI (i + 1)) [(6, .int (nI (i + 1))), (0, .ref mo), (1, .int (nI k)), (2, .int (nI 0)), (3, .int (nI 1)), (4, .int (nI n)), (5, .int (fdI v))] d_Md_link_80 (k := 6) rfl (nI_1 i) (by decide) rfl ?_
          refine g_goto X 28 d_Md_link_83 (by decide) ?_
          refine g_lv [1, 2, 3, 4, 5, 6, 0] rfl ?_
          exact ih28 (i + 1) n v (by omega) (by omega) (by omega) (by first | exact fd_miss hv hn hl h60 | exact fd_hit (by omega) hn h60 h66 | exact fd_past hn hl h60 h66)
        · refine g_iload X 4 d_Md_link_63 rfl ?_
          refine g_iload_n X 1 d_Md_link_65 rfl rfl ?_
          refine n_icmp_ne X 74 d_Md_link_66 (by decide) (by omega) (by omega) (fun h66 => ?_) (fun h66 => ?_)
          · refine g_iconst (v := -1) X d_Md_link_74 rfl ?_
            refine g_topE (show (-1 : Int32) = fdI 2304 from rfl) ?_
            refine g_istore X [(5, .int (fdI 2304)), (0, .ref mo), (1, .int (nI k)), (2, .int (nI 0)), (3, .int (nI 1)), (4, .int (nI n)), (6, .int (nI i))] d_Md_link_75 (by decide) rfl ?_
            refine g_iinc X (nI (n + 1)) [(4, .int (nI (n + 1))), (5, .int (fdI 2304)), (0, .ref mo), (1, .int (nI k)), (2, .int (nI 0)), (3, .int (nI 1)), (6, .int (nI i))] d_Md_link_77 (k := 5) rfl (nI_1 n) (by decide) rfl ?_
            refine g_iinc X (nI (i + 1)) [(6, .int (nI (i + 1))), (4, .int (nI (n + 1))), (5, .int (fdI 2304)), (0, .ref mo), (1, .int (nI k)), (2, .int (nI 0)), (3, .int (nI 1))] d_Md_link_80 (k := 6) rfl (nI_1 i) (by decide) rfl ?_
            refine g_goto X 28 d_Md_link_83 (by decide) ?_
            refine g_lv [3, 4, 5, 6, 1, 2, 0] rfl ?_
            exact ih28 (i + 1) (n + 1) 2304 (by omega) (by omega) (by omega) (by first | exact fd_miss hv hn hl h60 | exact fd_hit (by omega) hn h60 h66 | exact fd_past hn hl h60 h66)
          · refine g_iload X 6 d_Md_link_69 rfl ?_
            refine g_goto X 75 d_Md_link_71 (by decide) ?_
            refine g_topE (fdI_t (by omega)).symm ?_
            refine g_istore X [(5, .int (fdI i)), (0, .ref mo), (1, .int (nI k)), (2, .int (nI 0)), (3, .int (nI 1)), (4, .int (nI n)), (6, .int (nI i))] d_Md_link_75 (by decide) rfl ?_
            refine g_iinc X (nI (n + 1)) [(4, .int (nI (n + 1))), (5, .int (fdI i)), (0, .ref mo), (1, .int (nI k)), (2, .int (nI 0)), (3, .int (nI 1)), (6, .int (nI i))] d_Md_link_77 (k := 5) rfl (nI_1 n) (by decide) rfl ?_
            refine g_iinc X (nI (i + 1)) [(6, .int (nI (i + 1))), (4, .int (nI (n + 1))), (5, .int (fdI i)), (0, .ref mo), (1, .int (nI k)), (2, .int (nI 0)), (3, .int (nI 1))] d_Md_link_80 (k := 6) rfl (nI_1 i) (by decide) rfl ?_
            refine g_goto X 28 d_Md_link_83 (by decide) ?_
            refine g_lv [3, 4, 5, 6, 1, 2, 0] rfl ?_
            exact ih28 (i + 1) (n + 1) i (by omega) (by omega) (by omega) (by first | exact fd_miss hv hn hl h60 | exact fd_hit (by omega) hn h60 h66 | exact fd_past hn hl h60 h66)
      · have hv2 := fdI_n hv
        refine g_iload X 6 d_Md_link_28 rfl ?_
        refine g_sipush (v := nI 2304) X d_Md_link_30 rfl ?_
        refine n_icmp_ge X 86 d_Md_link_33 (by decide) (by omega) (by omega) (fun h33 => ?_) (fun h33 => ?_)
        · refine g_aload_n X 0 d_Md_link_86 rfl rfl ?_
          refine g_iload X 5 d_Md_link_87 rfl ?_
          refine g_iconst (v := -1) X d_Md_link_89 rfl ?_
          refine g_icmp_eq X 97 d_Md_link_90 (by decide) (fun h90 => absurd h90 (hv2)) (fun h90 => ?_)
          refine g_iconst (v := nI 1) X d_Md_link_93 rfl ?_
          refine g_goto X 98 d_Md_link_94 (by decide) ?_
          refine g_iconst (v := nI 1) X d_Md_link_98 rfl ?_
          refine g_calliV (n := 2) X [.int (bI true), .int (bI true)] (k_Md_goes mo tw K R qa qb qk qu qn qx qo qf d qr gm qg qv d2 qs vv qc qm qw ) t3_223 t3_225 ts_11 t1_9 t3_226 rfl rfl (by decide +kernel) ⟨by decide, by decide⟩ [0] [1] [(qo, .inl (cZ, 2304, .inl (zf OV)))] rfl rfl rfl rfl (by decide) 0 rfl rfl rfl rfl (Nat.le_of_ble_eq_true rfl) d_Md_link_99 ⟨by decide, by decide⟩ (fun r2 w9u2 hw2 => ?_)
          subst hw2
          refine b_if_ne X 107 d_Md_link_102 (by decide) (fun h102 => ?_) (fun h102 => absurd h102 (by decide))
          refine g_iload_n X 2 d_Md_link_107 rfl rfl ?_
          refine n_if_ne X 119 d_Md_link_108 (by decide) (by omega) (fun h108 => absurd h108 (by omega)) (fun h108 => ?_)
          refine g_iload X 5 d_Md_link_111 rfl ?_
          refine g_topE (fdI_t hv) ?_
          refine g_bipush (v := nI 48) X d_Md_link_113 rfl ?_
          refine g_idiv X (nI (v / 48)) d_Md_link_115 (nI_ne0 (by omega) (by omega)) (pk_div (by omega) (by omega) (by omega)) ?_
          refine g_goto X 124 d_Md_link_116 (by decide) ?_
          exact g_iret X hA9 hQ9 hr9 hlk9 v [1, 0] rfl rfl d_Md_link_124 (⟨rfl, hv, hp9, hc9⟩)
        · refine g_iload_n X 3 d_Md_link_36 rfl rfl ?_
          refine n_if_eq X 86 d_Md_link_37 (by decide) (by omega) (fun h37 => absurd h37 (by omega)) (fun h37 => ?_)
          refine g_iload X 5 d_Md_link_40 rfl ?_
          refine g_iconst (v := -1) X d_Md_link_42 rfl ?_
          refine g_icmp_ne X 86 d_Md_link_43 (by decide) (fun h43 => ?_) (fun h43 => absurd h43 (hv2))
          refine g_aload_n X 0 d_Md_link_86 rfl rfl ?_
          refine g_iload X 5 d_Md_link_87 rfl ?_
          refine g_iconst (v := -1) X d_Md_link_89 rfl ?_
          refine g_icmp_eq X 97 d_Md_link_90 (by decide) (fun h90 => absurd h90 (hv2)) (fun h90 => ?_)
          refine g_iconst (v := nI 1) X d_Md_link_93 rfl ?_
          refine g_goto X 98 d_Md_link_94 (by decide) ?_
          refine g_iconst (v := nI 1) X d_Md_link_98 rfl ?_
          refine g_calliV (n := 2) X [.int (bI true), .int (bI true)] (k_Md_goes mo tw K R qa qb qk qu qn qx qo qf d qr gm qg qv d2 qs vv qc qm qw ) t3_223 t3_225 ts_11 t1_9 t3_226 rfl rfl (by decide +kernel) ⟨by decide, by decide⟩ [0] [1] [(qo, .inl (cZ, 2304, .inl (zf OV)))] rfl rfl rfl rfl (by decide) 0 rfl rfl rfl rfl (Nat.le_of_ble_eq_true rfl) d_Md_link_99 ⟨by decide, by decide⟩ (fun r3 w9u3 hw3 => ?_)
          subst hw3
          refine b_if_ne X 107 d_Md_link_102 (by decide) (fun h102 => ?_) (fun h102 => absurd h102 (by decide))
          refine g_iload_n X 2 d_Md_link_107 rfl rfl ?_
          refine n_if_ne X 119 d_Md_link_108 (by decide) (by omega) (fun h108 => absurd h108 (by omega)) (fun h108 => ?_)
          refine g_iload X 5 d_Md_link_111 rfl ?_
          refine g_topE (fdI_t hv) ?_
          refine g_bipush (v := nI 48) X d_Md_link_113 rfl ?_
          refine g_idiv X (nI (v / 48)) d_Md_link_115 (nI_ne0 (by omega) (by omega)) (pk_div (by omega) (by omega) (by omega)) ?_
          refine g_goto X 124 d_Md_link_116 (by decide) ?_
          exact g_iret X hA9 hQ9 hr9 hlk9 v [1, 0] rfl rfl d_Md_link_124 (⟨rfl, hv, hp9, hc9⟩)
  refine g_iconst (v := nI 0) X d_Md_link_25 rfl ?_
  refine g_istore X [(6, .int (nI 0)), (5, .int (fdI 2304)), (4, .int (nI 0)), (3, .int (nI 1)), (0, .ref mo), (1, .int (nI k)), (2, .int (nI 0))] d_Md_link_26 (by decide) rfl ?_
  refine g_lv [4, 5, 6, 3, 2, 1, 0] rfl ?_
  exact L28 ((2304 - 0) + 1) 0 0 2304 (Nat.lt_succ_self _) (by omega) (by omega) (fd_0)

set_option maxHeartbeats 4000000 in
set_option maxRecDepth 100000 in
theorem k_Md_linkN0 (mo : Nat) (tw : Int32) (K : Nat) (R : Nat) (qa : Nat) (qb : Nat) (qk : Nat) (qu : Nat) (qn : Nat) (qx : Nat) (qo : Nat) (qf : Nat) (d : Nat) (qr : Nat) (gm : Nat) (qg : Nat) (qv : Nat) (d2 : Nat) (qs : Nat) (vv : Nat) (qc : Nat) (qm : Nat) (qw : Nat) (OV : Nat → Bool) (k : Nat) (hK : K ≤ 48) (hk2 : k < 2 ^ 31) (hx : cnt (lkP OV K) 2304 ≤ k) : CtI l y_Md_link (Cond.code y_Md_link c_Md_link 7 (some .int) :: TB) ({ frames := 1, cells := 0, slots := 0, locals := 24 } : Room) D (tysv cI cJ cZ cQ) [.ref mo, .int (nI k), .int (nI 0)] [(mo, .inr (8, [.int tw, .int (nI K), .int (nI R), .ref qa, .ref qb, .ref qk, .ref qu, .ref qn, .ref qx, .ref qo, .ref qf, .int (nI d), .ref qr, .int (nI gm), .ref qg, .ref qv, .int (nI d2), .ref qs, .int (nI vv), .ref qc, .ref qm, .ref qw])), (qo, .inl (cZ, 2304, .inl (zf OV)))] 0 0 (fun (r : Int32) (_ : Unit) => r = nI 0) (fun (_ : Unit) => [(mo, .inr (8, [.int (nI 1), .int (nI K), .int (nI R), .ref qa, .ref qb, .ref qk, .ref qu, .ref qn, .ref qx, .ref qo, .ref qf, .int (nI d), .ref qr, .int (nI gm), .ref qg, .ref qv, .int (nI d2), .ref qs, .int (nI vv), .ref qc, .ref qm, .ref qw])), (qo, .inl (cZ, 2304, .inl (zf OV)))]) := by
  refine CtI.of c_Md_link 7 (some .int) (by decide) rfl (Nat.le_of_ble_eq_true rfl) ?_
  intro p e s m args below meth c A Q hA9 hQ9 X hr9 hlk9 hin9
  refine g_iload_n X 1 d_Md_link_0 rfl rfl ?_
  refine n_if_lt X 17 d_Md_link_1 (by decide) (by omega) (fun h1 => absurd h1 (by omega)) (fun h1 => ?_)
  refine g_iload_n X 2 d_Md_link_4 rfl rfl ?_
  refine n_if_eq X 13 d_Md_link_5 (by decide) (by omega) (fun h5 => ?_) (fun h5 => absurd h5 (by omega))
  refine g_iconst (v := nI 1) X d_Md_link_13 rfl ?_
  refine g_goto X 18 d_Md_link_14 (by decide) ?_
  refine g_istore_n X [(3, .int (nI 1)), (0, .ref mo), (1, .int (nI k)), (2, .int (nI 0))] d_Md_link_18 rfl (by decide) rfl ?_
  refine g_iconst (v := nI 0) X d_Md_link_19 rfl ?_
  refine g_istore X [(4, .int (nI 0)), (3, .int (nI 1)), (0, .ref mo), (1, .int (nI k)), (2, .int (nI 0))] d_Md_link_20 (by decide) rfl ?_
  refine g_iconst (v := -1) X d_Md_link_22 rfl ?_
  refine g_istore X [(5, .int (-1)), (4, .int (nI 0)), (3, .int (nI 1)), (0, .ref mo), (1, .int (nI k)), (2, .int (nI 0))] d_Md_link_23 (by decide) rfl ?_
  have L28 : ∀ (N28 : Nat) (i : Nat) (n : Nat), (2304 - i) < N28 → (i ≤ 2304) → (n ≤ i) → (n = cnt (lkP OV K) i) → G p l e ({ frames := 1, cells := 0, slots := 0, locals := 24 } : Room) s m args below meth c 7 D A s.heap Q 0 0 [(mo, .inr (8, [.int tw, .int (nI K), .int (nI R), .ref qa, .ref qb, .ref qk, .ref qu, .ref qn, .ref qx, .ref qo, .ref qf, .int (nI d), .ref qr, .int (nI gm), .ref qg, .ref qv, .int (nI d2), .ref qs, .int (nI vv), .ref qc, .ref qm, .ref qw])), (qo, .inl (cZ, 2304, .inl (zf OV)))] [(0, .ref mo), (1, .int (nI k)), (2, .int (nI 0)), (3, .int (nI 1)), (4, .int (nI n)), (5, .int (-1)), (6, .int (nI i))] 28 [] := by
    intro N28
    induction N28 with
    | zero =>
      intro i n hN
      exact absurd hN (Nat.not_lt_zero _)
    | succ N28 ih28 =>
      intro i n hN28 hi hni hn
      refine g_iload X 6 d_Md_link_28 rfl ?_
      refine g_sipush (v := nI 2304) X d_Md_link_30 rfl ?_
      refine n_icmp_ge X 86 d_Md_link_33 (by decide) (by omega) (by omega) (fun h33 => ?_) (fun h33 => ?_)
      · refine g_aload_n X 0 d_Md_link_86 rfl rfl ?_
        refine g_iload X 5 d_Md_link_87 rfl ?_
        refine g_iconst (v := -1) X d_Md_link_89 rfl ?_
        refine g_icmp_eq X 97 d_Md_link_90 (by decide) (fun h90 => ?_) (fun h90 => absurd h90 (by decide))
        refine g_iconst (v := nI 0) X d_Md_link_97 rfl ?_
        refine g_iconst (v := nI 1) X d_Md_link_98 rfl ?_
        refine g_calliV (n := 2) X [.int (bI false), .int (bI true)] (k_Md_goes1 mo tw K R qa qb qk qu qn qx qo qf d qr gm qg qv d2 qs vv qc qm qw true ) t3_223 t3_225 ts_11 t1_9 t3_226 rfl rfl (by decide +kernel) ⟨by decide, by decide⟩ [0] [1] [(qo, .inl (cZ, 2304, .inl (zf OV)))] rfl rfl rfl rfl (by decide) 0 rfl rfl rfl rfl (Nat.le_of_ble_eq_true rfl) d_Md_link_99 ⟨by decide, by decide⟩ (fun r1 w9u1 hw1 => ?_)
        subst hw1
        refine b_if_ne X 107 d_Md_link_102 (by decide) (fun h102 => absurd h102 (by decide)) (fun h102 => ?_)
        refine g_iconst (v := nI 0) X d_Md_link_105 rfl ?_
        exact g_iret X hA9 hQ9 hr9 hlk9 () [1, 0] rfl rfl d_Md_link_106 (rfl)
      · refine g_iload_n X 3 d_Md_link_36 rfl rfl ?_
        refine n_if_eq X 86 d_Md_link_37 (by decide) (by omega) (fun h37 => absurd h37 (by omega)) (fun h37 => ?_)
        refine g_iload X 5 d_Md_link_40 rfl ?_
        refine g_iconst (v := -1) X d_Md_link_42 rfl ?_
        refine g_icmp_ne X 86 d_Md_link_43 (by decide) (fun h43 => absurd h43 (by decide)) (fun h43 => ?_)
        refine g_aload_n X 0 d_Md_link_46 rfl rfl ?_
        refine g_iload X 6 d_Md_link_47 rfl ?_
        refine g_bipush (v := nI 48) X d_Md_link_49 rfl ?_
        refine g_idiv X (nI (i / 48)) d_Md_link_51 (nI_ne0 (by omega) (by omega)) (pk_div (by omega) (by omega) (by omega)) ?_
        refine g_iload X 6 d_Md_link_52 rfl ?_
        refine g_bipush (v := nI 48) X d_Md_link_54 rfl ?_
        refine g_irem X (nI (i % 48)) d_Md_link_56 (nI_ne0 (by omega) (by omega)) (pk_rem (by omega) (by omega) (by omega)) ?_
        refine g_calliV (n := 2) X [.int (nI (i / 48)), .int (nI (i % 48))] (k_Md_isLink mo tw K R qa qb qk qu qn qx qo qf d qr gm qg qv d2 qs vv qc qm qw OV (i / 48) (i % 48) (by omega) (by omega) (by omega)) t4_35 t4_37 ts_19 t1_9 t4_38 rfl rfl (by decide +kernel) ⟨by decide, by decide⟩ [0, 1] [] [] rfl rfl rfl rfl (by decide) 0 rfl rfl rfl rfl (Nat.le_of_ble_eq_true rfl) d_Md_link_57 ⟨by decide, by decide⟩ (fun r2 w9u2 hw2 => ?_)
        subst hw2
        refine b_if_eq X 80 d_Md_link_60 (by decide) (fun h60 => ?_) (fun h60 => ?_)
        · refine g_iinc X (nI (i + 1)) [(6, .int (nI (i + 1))), (0, .ref mo), (1, .int (nI k)), (2, .int (nI 0)), (3, .int (nI 1)), (4, .int (nI n)), (5, .int (-1))] d_Md_link_80 (k := 6) rfl (nI_1 i) (by decide) rfl ?_
          refine g_goto X 28 d_Md_link_83 (by decide) ?_
          refine g_lv [1, 2, 3, 4, 5, 6, 0] rfl ?_
          exact ih28 (i + 1) n (by omega) (by omega) (by omega) (by first | exact cntP_t h60 hn | exact cntP_f h60 hn)
        · refine g_iload X 4 d_Md_link_63 rfl ?_
          refine g_iload_n X 1 d_Md_link_65 rfl rfl ?_
          refine n_icmp_ne X 74 d_Md_link_66 (by decide) (by omega) (by omega) (fun h66 => ?_) (fun h66 => absurd h66 (Nat.ne_of_lt (lkN (P := lkP OV K) (by omega) h60 hn hx)))
          refine g_iconst (v := -1) X d_Md_link_74 rfl ?_
          refine g_istore X [(5, .int (-1)), (0, .ref mo), (1, .int (nI k)), (2, .int (nI 0)), (3, .int (nI 1)), (4, .int (nI n)), (6, .int (nI i))] d_Md_link_75 (by decide) rfl ?_
          refine g_iinc X (nI (n + 1)) [(4, .int (nI (n + 1))), (5, .int (-1)), (0, .ref mo), (1, .int (nI k)), (2, .int (nI 0)), (3, .int (nI 1)), (6, .int (nI i))] d_Md_link_77 (k := 5) rfl (nI_1 n) (by decide) rfl ?_
          refine g_iinc X (nI (i + 1)) [(6, .int (nI (i + 1))), (4, .int (nI (n + 1))), (5, .int (-1)), (0, .ref mo), (1, .int (nI k)), (2, .int (nI 0)), (3, .int (nI 1))] d_Md_link_80 (k := 6) rfl (nI_1 i) (by decide) rfl ?_
          refine g_goto X 28 d_Md_link_83 (by decide) ?_
          refine g_lv [3, 4, 5, 6, 1, 2, 0] rfl ?_
          exact ih28 (i + 1) (n + 1) (by omega) (by omega) (by omega) (by first | exact cntP_t h60 hn | exact cntP_f h60 hn)
  refine g_iconst (v := nI 0) X d_Md_link_25 rfl ?_
  refine g_istore X [(6, .int (nI 0)), (5, .int (-1)), (4, .int (nI 0)), (3, .int (nI 1)), (0, .ref mo), (1, .int (nI k)), (2, .int (nI 0))] d_Md_link_26 (by decide) rfl ?_
  refine g_lv [4, 5, 6, 3, 2, 1, 0] rfl ?_
  exact L28 ((2304 - 0) + 1) 0 0 (Nat.lt_succ_self _) (by omega) (by omega) (rfl)

set_option maxHeartbeats 4000000 in
set_option maxRecDepth 100000 in
theorem k_Md_link1 (mo : Nat) (tw : Int32) (K : Nat) (R : Nat) (qa : Nat) (qb : Nat) (qk : Nat) (qu : Nat) (qn : Nat) (qx : Nat) (qo : Nat) (qf : Nat) (d : Nat) (qr : Nat) (gm : Nat) (qg : Nat) (qv : Nat) (d2 : Nat) (qs : Nat) (vv : Nat) (qc : Nat) (qm : Nat) (qw : Nat) (OV : Nat → Bool) (k : Nat) (hK : K ≤ 48) (hk2 : k < 2 ^ 31) (hx : k < cnt (lkP OV K) 2304) : CtI l y_Md_link (Cond.code y_Md_link c_Md_link 7 (some .int) :: TB) ({ frames := 1, cells := 0, slots := 0, locals := 24 } : Room) D (tysv cI cJ cZ cQ) [.ref mo, .int (nI k), .int (nI 1)] [(mo, .inr (8, [.int tw, .int (nI K), .int (nI R), .ref qa, .ref qb, .ref qk, .ref qu, .ref qn, .ref qx, .ref qo, .ref qf, .int (nI d), .ref qr, .int (nI gm), .ref qg, .ref qv, .int (nI d2), .ref qs, .int (nI vv), .ref qc, .ref qm, .ref qw])), (qo, .inl (cZ, 2304, .inl (zf OV)))] 0 0 (fun (r : Int32) (p9 : Nat) => r = nI (p9 % 48) ∧ p9 < 2304 ∧ lkP OV K p9 = true ∧ cnt (lkP OV K) p9 = k) (fun (p9 : Nat) => [(mo, .inr (8, [.int (nI 0), .int (nI K), .int (nI R), .ref qa, .ref qb, .ref qk, .ref qu, .ref qn, .ref qx, .ref qo, .ref qf, .int (nI d), .ref qr, .int (nI gm), .ref qg, .ref qv, .int (nI d2), .ref qs, .int (nI vv), .ref qc, .ref qm, .ref qw])), (qo, .inl (cZ, 2304, .inl (zf OV)))]) := by
  refine CtI.of c_Md_link 7 (some .int) (by decide) rfl (Nat.le_of_ble_eq_true rfl) ?_
  intro p e s m args below meth c A Q hA9 hQ9 X hr9 hlk9 hin9
  refine g_iload_n X 1 d_Md_link_0 rfl rfl ?_
  refine n_if_lt X 17 d_Md_link_1 (by decide) (by omega) (fun h1 => absurd h1 (by omega)) (fun h1 => ?_)
  refine g_iload_n X 2 d_Md_link_4 rfl rfl ?_
  refine n_if_eq X 13 d_Md_link_5 (by decide) (by omega) (fun h5 => absurd h5 (by omega)) (fun h5 => ?_)
  refine g_iload_n X 2 d_Md_link_8 rfl rfl ?_
  refine g_iconst (v := nI 1) X d_Md_link_9 rfl ?_
  refine n_icmp_ne X 17 d_Md_link_10 (by decide) (by omega) (by omega) (fun h10 => absurd h10 (by omega)) (fun h10 => ?_)
  refine g_iconst (v := nI 1) X d_Md_link_13 rfl ?_
  refine g_goto X 18 d_Md_link_14 (by decide) ?_
  refine g_istore_n X [(3, .int (nI 1)), (0, .ref mo), (1, .int (nI k)), (2, .int (nI 1))] d_Md_link_18 rfl (by decide) rfl ?_
  refine g_iconst (v := nI 0) X d_Md_link_19 rfl ?_
  refine g_istore X [(4, .int (nI 0)), (3, .int (nI 1)), (0, .ref mo), (1, .int (nI k)), (2, .int (nI 1))] d_Md_link_20 (by decide) rfl ?_
  refine g_iconst (v := -1) X d_Md_link_22 rfl ?_
  refine g_topE (show (-1 : Int32) = fdI 2304 from rfl) ?_
  refine g_istore X [(5, .int (fdI 2304)), (4, .int (nI 0)), (3, .int (nI 1)), (0, .ref mo), (1, .int (nI k)), (2, .int (nI 1))] d_Md_link_23 (by decide) rfl ?_
  have L28 : ∀ (N28 : Nat) (i : Nat) (n : Nat) (v : Nat), (2304 - i) < N28 → (i ≤ 2304) → (n ≤ i) → (fdP (lkP OV K) k i n v) → G p l e ({ frames := 1, cells := 0, slots := 0, locals := 24 } : Room) s m args below meth c 7 D A s.heap Q 0 0 [(mo, .inr (8, [.int tw, .int (nI K), .int (nI R), .ref qa, .ref qb, .ref qk, .ref qu, .ref qn, .ref qx, .ref qo, .ref qf, .int (nI d), .ref qr, .int (nI gm), .ref qg, .ref qv, .int (nI d2), .ref qs, .int (nI vv), .ref qc, .ref qm, .ref qw])), (qo, .inl (cZ, 2304, .inl (zf OV)))] [(0, .ref mo), (1, .int (nI k)), (2, .int (nI 1)), (3, .int (nI 1)), (4, .int (nI n)), (5, .int (fdI v)), (6, .int (nI i))] 28 [] := by
    intro N28
    induction N28 with
    | zero =>
      intro i n v hN
      exact absurd hN (Nat.not_lt_zero _)
    | succ N28 ih28 =>
      intro i n v hN28 hi hni hf
      rcases hf with ⟨hv, hn, hl⟩ | ⟨hv, hp9, hc9⟩
      · have hv2 := fdI_f hv
        refine g_iload X 6 d_Md_link_28 rfl ?_
        refine g_sipush (v := nI 2304) X d_Md_link_30 rfl ?_
        refine n_icmp_ge X 86 d_Md_link_33 (by decide) (by omega) (by omega) (fun h33 => absurd h33 (fun q9 => by have e9 : i = 2304 := (by omega); subst e9; exact cnt_halt hn hl hx)) (fun h33 => ?_)
        refine g_iload_n X 3 d_Md_link_36 rfl rfl ?_
        refine n_if_eq X 86 d_Md_link_37 (by decide) (by omega) (fun h37 => absurd h37 (by omega)) (fun h37 => ?_)
        refine g_iload X 5 d_Md_link_40 rfl ?_
        refine g_iconst (v := -1) X d_Md_link_42 rfl ?_
        refine g_icmp_ne X 86 d_Md_link_43 (by decide) (fun h43 => absurd h43 (not_not_intro hv2)) (fun h43 => ?_)
        refine g_aload_n X 0 d_Md_link_46 rfl rfl ?_
        refine g_iload X 6 d_Md_link_47 rfl ?_
        refine g_bipush (v := nI 48) X d_Md_link_49 rfl ?_
        refine g_idiv X (nI (i / 48)) d_Md_link_51 (nI_ne0 (by omega) (by omega)) (pk_div (by omega) (by omega) (by omega)) ?_
        refine g_iload X 6 d_Md_link_52 rfl ?_
        refine g_bipush (v := nI 48) X d_Md_link_54 rfl ?_
        refine g_irem X (nI (i % 48)) d_Md_link_56 (nI_ne0 (by omega) (by omega)) (pk_rem (by omega) (by omega) (by omega)) ?_
        refine g_calliV (n := 2) X [.int (nI (i / 48)), .int (nI (i % 48))] (k_Md_isLink mo tw K R qa qb qk qu qn qx qo qf d qr gm qg qv d2 qs vv qc qm qw OV (i / 48) (i % 48) (by omega) (by omega) (by omega)) t4_35 t4_37 ts_19 t1_9 t4_38 rfl rfl (by decide +kernel) ⟨by decide, by decide⟩ [0, 1] [] [] rfl rfl rfl rfl (by decide) 0 rfl rfl rfl rfl (Nat.le_of_ble_eq_true rfl) d_Md_link_57 ⟨by decide, by decide⟩ (fun r1 w9u1 hw1 => ?_)
        subst hw1
        refine b_if_eq X 80 d_Md_link_60 (by decide) (fun h60 => ?_) (fun h60 => ?_)
        · refine g_iinc X (nI (i + 1)) [(6, .int (nI (i + 1))), (0, .ref mo), (1, .int (nI k)), (2, .int (nI 1)), (3, .int (nI 1)), (4, .int (nI n)), (5, .int (fdI v))] d_Md_link_80 (k := 6) rfl (nI_1 i) (by decide) rfl ?_
          refine g_goto X 28 d_Md_link_83 (by decide) ?_
          refine g_lv [1, 2, 3, 4, 5, 6, 0] rfl ?_
          exact ih28 (i + 1) n v (by omega) (by omega) (by omega) (by first | exact fd_miss hv hn hl h60 | exact fd_hit (by omega) hn h60 h66 | exact fd_past hn hl h60 h66)
        · refine g_iload X 4 d_Md_link_63 rfl ?_
          refine g_iload_n X 1 d_Md_link_65 rfl rfl ?_
          refine n_icmp_ne X 74 d_Md_link_66 (by decide) (by omega) (by omega) (fun h66 => ?_) (fun h66 => ?_)
          · refine g_iconst (v := -1) X d_Md_link_74 rfl ?_
            refine g_topE (show (-1 : Int32) = fdI 2304 from rfl) ?_
            refine g_istore X [(5, .int (fdI 2304)), (0, .ref mo), (1, .int (nI k)), (2, .int (nI 1)), (3, .int (nI 1)), (4, .int (nI n)), (6, .int (nI i))] d_Md_link_75 (by decide) rfl ?_
            refine g_iinc X (nI (n + 1)) [(4, .int (nI (n + 1))), (5, .int (fdI 2304)), (0, .ref mo), (1, .int (nI k)), (2, .int (nI 1)), (3, .int (nI 1)), (6, .int (nI i))] d_Md_link_77 (k := 5) rfl (nI_1 n) (by decide) rfl ?_
            refine g_iinc X (nI (i + 1)) [(6, .int (nI (i + 1))), (4, .int (nI (n + 1))), (5, .int (fdI 2304)), (0, .ref mo), (1, .int (nI k)), (2, .int (nI 1)), (3, .int (nI 1))] d_Md_link_80 (k := 6) rfl (nI_1 i) (by decide) rfl ?_
            refine g_goto X 28 d_Md_link_83 (by decide) ?_
            refine g_lv [3, 4, 5, 6, 1, 2, 0] rfl ?_
            exact ih28 (i + 1) (n + 1) 2304 (by omega) (by omega) (by omega) (by first | exact fd_miss hv hn hl h60 | exact fd_hit (by omega) hn h60 h66 | exact fd_past hn hl h60 h66)
          · refine g_iload X 6 d_Md_link_69 rfl ?_
            refine g_goto X 75 d_Md_link_71 (by decide) ?_
            refine g_topE (fdI_t (by omega)).symm ?_
            refine g_istore X [(5, .int (fdI i)), (0, .ref mo), (1, .int (nI k)), (2, .int (nI 1)), (3, .int (nI 1)), (4, .int (nI n)), (6, .int (nI i))] d_Md_link_75 (by decide) rfl ?_
            refine g_iinc X (nI (n + 1)) [(4, .int (nI (n + 1))), (5, .int (fdI i)), (0, .ref mo), (1, .int (nI k)), (2, .int (nI 1)), (3, .int (nI 1)), (6, .int (nI i))] d_Md_link_77 (k := 5) rfl (nI_1 n) (by decide) rfl ?_
            refine g_iinc X (nI (i + 1)) [(6, .int (nI (i + 1))), (4, .int (nI (n + 1))), (5, .int (fdI i)), (0, .ref mo), (1, .int (nI k)), (2, .int (nI 1)), (3, .int (nI 1))] d_Md_link_80 (k := 6) rfl (nI_1 i) (by decide) rfl ?_
            refine g_goto X 28 d_Md_link_83 (by decide) ?_
            refine g_lv [3, 4, 5, 6, 1, 2, 0] rfl ?_
            exact ih28 (i + 1) (n + 1) i (by omega) (by omega) (by omega) (by first | exact fd_miss hv hn hl h60 | exact fd_hit (by omega) hn h60 h66 | exact fd_past hn hl h60 h66)
      · have hv2 := fdI_n hv
        refine g_iload X 6 d_Md_link_28 rfl ?_
        refine g_sipush (v := nI 2304) X d_Md_link_30 rfl ?_
        refine n_icmp_ge X 86 d_Md_link_33 (by decide) (by omega) (by omega) (fun h33 => ?_) (fun h33 => ?_)
        · refine g_aload_n X 0 d_Md_link_86 rfl rfl ?_
          refine g_iload X 5 d_Md_link_87 rfl ?_
          refine g_iconst (v := -1) X d_Md_link_89 rfl ?_
          refine g_icmp_eq X 97 d_Md_link_90 (by decide) (fun h90 => absurd h90 (hv2)) (fun h90 => ?_)
          refine g_iconst (v := nI 1) X d_Md_link_93 rfl ?_
          refine g_goto X 98 d_Md_link_94 (by decide) ?_
          refine g_iconst (v := nI 1) X d_Md_link_98 rfl ?_
          refine g_calliV (n := 2) X [.int (bI true), .int (bI true)] (k_Md_goes mo tw K R qa qb qk qu qn qx qo qf d qr gm qg qv d2 qs vv qc qm qw ) t3_223 t3_225 ts_11 t1_9 t3_226 rfl rfl (by decide +kernel) ⟨by decide, by decide⟩ [0] [1] [(qo, .inl (cZ, 2304, .inl (zf OV)))] rfl rfl rfl rfl (by decide) 0 rfl rfl rfl rfl (Nat.le_of_ble_eq_true rfl) d_Md_link_99 ⟨by decide, by decide⟩ (fun r2 w9u2 hw2 => ?_)
          subst hw2
          refine b_if_ne X 107 d_Md_link_102 (by decide) (fun h102 => ?_) (fun h102 => absurd h102 (by decide))
          refine g_iload_n X 2 d_Md_link_107 rfl rfl ?_
          refine n_if_ne X 119 d_Md_link_108 (by decide) (by omega) (fun h108 => ?_) (fun h108 => absurd h108 (by omega))
          refine g_iload X 5 d_Md_link_119 rfl ?_
          refine g_topE (fdI_t hv) ?_
          refine g_bipush (v := nI 48) X d_Md_link_121 rfl ?_
          refine g_irem X (nI (v % 48)) d_Md_link_123 (nI_ne0 (by omega) (by omega)) (pk_rem (by omega) (by omega) (by omega)) ?_
          exact g_iret X hA9 hQ9 hr9 hlk9 v [1, 0] rfl rfl d_Md_link_124 (⟨rfl, hv, hp9, hc9⟩)
        · refine g_iload_n X 3 d_Md_link_36 rfl rfl ?_
          refine n_if_eq X 86 d_Md_link_37 (by decide) (by omega) (fun h37 => absurd h37 (by omega)) (fun h37 => ?_)
          refine g_iload X 5 d_Md_link_40 rfl ?_
          refine g_iconst (v := -1) X d_Md_link_42 rfl ?_
          refine g_icmp_ne X 86 d_Md_link_43 (by decide) (fun h43 => ?_) (fun h43 => absurd h43 (hv2))
          refine g_aload_n X 0 d_Md_link_86 rfl rfl ?_
          refine g_iload X 5 d_Md_link_87 rfl ?_
          refine g_iconst (v := -1) X d_Md_link_89 rfl ?_
          refine g_icmp_eq X 97 d_Md_link_90 (by decide) (fun h90 => absurd h90 (hv2)) (fun h90 => ?_)
          refine g_iconst (v := nI 1) X d_Md_link_93 rfl ?_
          refine g_goto X 98 d_Md_link_94 (by decide) ?_
          refine g_iconst (v := nI 1) X d_Md_link_98 rfl ?_
          refine g_calliV (n := 2) X [.int (bI true), .int (bI true)] (k_Md_goes mo tw K R qa qb qk qu qn qx qo qf d qr gm qg qv d2 qs vv qc qm qw ) t3_223 t3_225 ts_11 t1_9 t3_226 rfl rfl (by decide +kernel) ⟨by decide, by decide⟩ [0] [1] [(qo, .inl (cZ, 2304, .inl (zf OV)))] rfl rfl rfl rfl (by decide) 0 rfl rfl rfl rfl (Nat.le_of_ble_eq_true rfl) d_Md_link_99 ⟨by decide, by decide⟩ (fun r3 w9u3 hw3 => ?_)
          subst hw3
          refine b_if_ne X 107 d_Md_link_102 (by decide) (fun h102 => ?_) (fun h102 => absurd h102 (by decide))
          refine g_iload_n X 2 d_Md_link_107 rfl rfl ?_
          refine n_if_ne X 119 d_Md_link_108 (by decide) (by omega) (fun h108 => ?_) (fun h108 => absurd h108 (by omega))
          refine g_iload X 5 d_Md_link_119 rfl ?_
          refine g_topE (fdI_t hv) ?_
          refine g_bipush (v := nI 48) X d_Md_link_121 rfl ?_
          refine g_irem X (nI (v % 48)) d_Md_link_123 (nI_ne0 (by omega) (by omega)) (pk_rem (by omega) (by omega) (by omega)) ?_
          exact g_iret X hA9 hQ9 hr9 hlk9 v [1, 0] rfl rfl d_Md_link_124 (⟨rfl, hv, hp9, hc9⟩)
  refine g_iconst (v := nI 0) X d_Md_link_25 rfl ?_
  refine g_istore X [(6, .int (nI 0)), (5, .int (fdI 2304)), (4, .int (nI 0)), (3, .int (nI 1)), (0, .ref mo), (1, .int (nI k)), (2, .int (nI 1))] d_Md_link_26 (by decide) rfl ?_
  refine g_lv [4, 5, 6, 3, 2, 1, 0] rfl ?_
  exact L28 ((2304 - 0) + 1) 0 0 2304 (Nat.lt_succ_self _) (by omega) (by omega) (fd_0)

set_option maxHeartbeats 4000000 in
set_option maxRecDepth 100000 in
theorem k_Md_linkN1 (mo : Nat) (tw : Int32) (K : Nat) (R : Nat) (qa : Nat) (qb : Nat) (qk : Nat) (qu : Nat) (qn : Nat) (qx : Nat) (qo : Nat) (qf : Nat) (d : Nat) (qr : Nat) (gm : Nat) (qg : Nat) (qv : Nat) (d2 : Nat) (qs : Nat) (vv : Nat) (qc : Nat) (qm : Nat) (qw : Nat) (OV : Nat → Bool) (k : Nat) (hK : K ≤ 48) (hk2 : k < 2 ^ 31) (hx : cnt (lkP OV K) 2304 ≤ k) : CtI l y_Md_link (Cond.code y_Md_link c_Md_link 7 (some .int) :: TB) ({ frames := 1, cells := 0, slots := 0, locals := 24 } : Room) D (tysv cI cJ cZ cQ) [.ref mo, .int (nI k), .int (nI 1)] [(mo, .inr (8, [.int tw, .int (nI K), .int (nI R), .ref qa, .ref qb, .ref qk, .ref qu, .ref qn, .ref qx, .ref qo, .ref qf, .int (nI d), .ref qr, .int (nI gm), .ref qg, .ref qv, .int (nI d2), .ref qs, .int (nI vv), .ref qc, .ref qm, .ref qw])), (qo, .inl (cZ, 2304, .inl (zf OV)))] 0 0 (fun (r : Int32) (_ : Unit) => r = nI 0) (fun (_ : Unit) => [(mo, .inr (8, [.int (nI 1), .int (nI K), .int (nI R), .ref qa, .ref qb, .ref qk, .ref qu, .ref qn, .ref qx, .ref qo, .ref qf, .int (nI d), .ref qr, .int (nI gm), .ref qg, .ref qv, .int (nI d2), .ref qs, .int (nI vv), .ref qc, .ref qm, .ref qw])), (qo, .inl (cZ, 2304, .inl (zf OV)))]) := by
  refine CtI.of c_Md_link 7 (some .int) (by decide) rfl (Nat.le_of_ble_eq_true rfl) ?_
  intro p e s m args below meth c A Q hA9 hQ9 X hr9 hlk9 hin9
  refine g_iload_n X 1 d_Md_link_0 rfl rfl ?_
  refine n_if_lt X 17 d_Md_link_1 (by decide) (by omega) (fun h1 => absurd h1 (by omega)) (fun h1 => ?_)
  refine g_iload_n X 2 d_Md_link_4 rfl rfl ?_
  refine n_if_eq X 13 d_Md_link_5 (by decide) (by omega) (fun h5 => absurd h5 (by omega)) (fun h5 => ?_)
  refine g_iload_n X 2 d_Md_link_8 rfl rfl ?_
  refine g_iconst (v := nI 1) X d_Md_link_9 rfl ?_
  refine n_icmp_ne X 17 d_Md_link_10 (by decide) (by omega) (by omega) (fun h10 => absurd h10 (by omega)) (fun h10 => ?_)
  refine g_iconst (v := nI 1) X d_Md_link_13 rfl ?_
  refine g_goto X 18 d_Md_link_14 (by decide) ?_
  refine g_istore_n X [(3, .int (nI 1)), (0, .ref mo), (1, .int (nI k)), (2, .int (nI 1))] d_Md_link_18 rfl (by decide) rfl ?_
  refine g_iconst (v := nI 0) X d_Md_link_19 rfl ?_
  refine g_istore X [(4, .int (nI 0)), (3, .int (nI 1)), (0, .ref mo), (1, .int (nI k)), (2, .int (nI 1))] d_Md_link_20 (by decide) rfl ?_
  refine g_iconst (v := -1) X d_Md_link_22 rfl ?_
  refine g_istore X [(5, .int (-1)), (4, .int (nI 0)), (3, .int (nI 1)), (0, .ref mo), (1, .int (nI k)), (2, .int (nI 1))] d_Md_link_23 (by decide) rfl ?_
  have L28 : ∀ (N28 : Nat) (i : Nat) (n : Nat), (2304 - i) < N28 → (i ≤ 2304) → (n ≤ i) → (n = cnt (lkP OV K) i) → G p l e ({ frames := 1, cells := 0, slots := 0, locals := 24 } : Room) s m args below meth c 7 D A s.heap Q 0 0 [(mo, .inr (8, [.int tw, .int (nI K), .int (nI R), .ref qa, .ref qb, .ref qk, .ref qu, .ref qn, .ref qx, .ref qo, .ref qf, .int (nI d), .ref qr, .int (nI gm), .ref qg, .ref qv, .int (nI d2), .ref qs, .int (nI vv), .ref qc, .ref qm, .ref qw])), (qo, .inl (cZ, 2304, .inl (zf OV)))] [(0, .ref mo), (1, .int (nI k)), (2, .int (nI 1)), (3, .int (nI 1)), (4, .int (nI n)), (5, .int (-1)), (6, .int (nI i))] 28 [] := by
    intro N28
    induction N28 with
    | zero =>
      intro i n hN
      exact absurd hN (Nat.not_lt_zero _)
    | succ N28 ih28 =>
      intro i n hN28 hi hni hn
      refine g_iload X 6 d_Md_link_28 rfl ?_
      refine g_sipush (v := nI 2304) X d_Md_link_30 rfl ?_
      refine n_icmp_ge X 86 d_Md_link_33 (by decide) (by omega) (by omega) (fun h33 => ?_) (fun h33 => ?_)
      · refine g_aload_n X 0 d_Md_link_86 rfl rfl ?_
        refine g_iload X 5 d_Md_link_87 rfl ?_
        refine g_iconst (v := -1) X d_Md_link_89 rfl ?_
        refine g_icmp_eq X 97 d_Md_link_90 (by decide) (fun h90 => ?_) (fun h90 => absurd h90 (by decide))
        refine g_iconst (v := nI 0) X d_Md_link_97 rfl ?_
        refine g_iconst (v := nI 1) X d_Md_link_98 rfl ?_
        refine g_calliV (n := 2) X [.int (bI false), .int (bI true)] (k_Md_goes1 mo tw K R qa qb qk qu qn qx qo qf d qr gm qg qv d2 qs vv qc qm qw true ) t3_223 t3_225 ts_11 t1_9 t3_226 rfl rfl (by decide +kernel) ⟨by decide, by decide⟩ [0] [1] [(qo, .inl (cZ, 2304, .inl (zf OV)))] rfl rfl rfl rfl (by decide) 0 rfl rfl rfl rfl (Nat.le_of_ble_eq_true rfl) d_Md_link_99 ⟨by decide, by decide⟩ (fun r1 w9u1 hw1 => ?_)
        subst hw1
        refine b_if_ne X 107 d_Md_link_102 (by decide) (fun h102 => absurd h102 (by decide)) (fun h102 => ?_)
        refine g_iconst (v := nI 0) X d_Md_link_105 rfl ?_
        exact g_iret X hA9 hQ9 hr9 hlk9 () [1, 0] rfl rfl d_Md_link_106 (rfl)
      · refine g_iload_n X 3 d_Md_link_36 rfl rfl ?_
        refine n_if_eq X 86 d_Md_link_37 (by decide) (by omega) (fun h37 => absurd h37 (by omega)) (fun h37 => ?_)
        refine g_iload X 5 d_Md_link_40 rfl ?_
        refine g_iconst (v := -1) X d_Md_link_42 rfl ?_
        refine g_icmp_ne X 86 d_Md_link_43 (by decide) (fun h43 => absurd h43 (by decide)) (fun h43 => ?_)
        refine g_aload_n X 0 d_Md_link_46 rfl rfl ?_
        refine g_iload X 6 d_Md_link_47 rfl ?_
        refine g_bipush (v := nI 48) X d_Md_link_49 rfl ?_
        refine g_idiv X (nI (i / 48)) d_Md_link_51 (nI_ne0 (by omega) (by omega)) (pk_div (by omega) (by omega) (by omega)) ?_
        refine g_iload X 6 d_Md_link_52 rfl ?_
        refine g_bipush (v := nI 48) X d_Md_link_54 rfl ?_
        refine g_irem X (nI (i % 48)) d_Md_link_56 (nI_ne0 (by omega) (by omega)) (pk_rem (by omega) (by omega) (by omega)) ?_
        refine g_calliV (n := 2) X [.int (nI (i / 48)), .int (nI (i % 48))] (k_Md_isLink mo tw K R qa qb qk qu qn qx qo qf d qr gm qg qv d2 qs vv qc qm qw OV (i / 48) (i % 48) (by omega) (by omega) (by omega)) t4_35 t4_37 ts_19 t1_9 t4_38 rfl rfl (by decide +kernel) ⟨by decide, by decide⟩ [0, 1] [] [] rfl rfl rfl rfl (by decide) 0 rfl rfl rfl rfl (Nat.le_of_ble_eq_true rfl) d_Md_link_57 ⟨by decide, by decide⟩ (fun r2 w9u2 hw2 => ?_)
        subst hw2
        refine b_if_eq X 80 d_Md_link_60 (by decide) (fun h60 => ?_) (fun h60 => ?_)
        · refine g_iinc X (nI (i + 1)) [(6, .int (nI (i + 1))), (0, .ref mo), (1, .int (nI k)), (2, .int (nI 1)), (3, .int (nI 1)), (4, .int (nI n)), (5, .int (-1))] d_Md_link_80 (k := 6) rfl (nI_1 i) (by decide) rfl ?_
          refine g_goto X 28 d_Md_link_83 (by decide) ?_
          refine g_lv [1, 2, 3, 4, 5, 6, 0] rfl ?_
          exact ih28 (i + 1) n (by omega) (by omega) (by omega) (by first | exact cntP_t h60 hn | exact cntP_f h60 hn)
        · refine g_iload X 4 d_Md_link_63 rfl ?_
          refine g_iload_n X 1 d_Md_link_65 rfl rfl ?_
          refine n_icmp_ne X 74 d_Md_link_66 (by decide) (by omega) (by omega) (fun h66 => ?_) (fun h66 => absurd h66 (Nat.ne_of_lt (lkN (P := lkP OV K) (by omega) h60 hn hx)))
          refine g_iconst (v := -1) X d_Md_link_74 rfl ?_
          refine g_istore X [(5, .int (-1)), (0, .ref mo), (1, .int (nI k)), (2, .int (nI 1)), (3, .int (nI 1)), (4, .int (nI n)), (6, .int (nI i))] d_Md_link_75 (by decide) rfl ?_
          refine g_iinc X (nI (n + 1)) [(4, .int (nI (n + 1))), (5, .int (-1)), (0, .ref mo), (1, .int (nI k)), (2, .int (nI 1)), (3, .int (nI 1)), (6, .int (nI i))] d_Md_link_77 (k := 5) rfl (nI_1 n) (by decide) rfl ?_
          refine g_iinc X (nI (i + 1)) [(6, .int (nI (i + 1))), (4, .int (nI (n + 1))), (5, .int (-1)), (0, .ref mo), (1, .int (nI k)), (2, .int (nI 1)), (3, .int (nI 1))] d_Md_link_80 (k := 6) rfl (nI_1 i) (by decide) rfl ?_
          refine g_goto X 28 d_Md_link_83 (by decide) ?_
          refine g_lv [3, 4, 5, 6, 1, 2, 0] rfl ?_
          exact ih28 (i + 1) (n + 1) (by omega) (by omega) (by omega) (by first | exact cntP_t h60 hn | exact cntP_f h60 hn)
  refine g_iconst (v := nI 0) X d_Md_link_25 rfl ?_
  refine g_istore X [(6, .int (nI 0)), (5, .int (-1)), (4, .int (nI 0)), (3, .int (nI 1)), (0, .ref mo), (1, .int (nI k)), (2, .int (nI 1))] d_Md_link_26 (by decide) rfl ?_
  refine g_lv [4, 5, 6, 3, 2, 1, 0] rfl ?_
  exact L28 ((2304 - 0) + 1) 0 0 (Nat.lt_succ_self _) (by omega) (by omega) (rfl)

set_option maxHeartbeats 4000000 in
set_option maxRecDepth 100000 in
theorem k_Md_linkB (mo : Nat) (tw : Int32) (K : Nat) (R : Nat) (qa : Nat) (qb : Nat) (qk : Nat) (qu : Nat) (qn : Nat) (qx : Nat) (qo : Nat) (qf : Nat) (d : Nat) (qr : Nat) (gm : Nat) (qg : Nat) (qv : Nat) (d2 : Nat) (qs : Nat) (vv : Nat) (qc : Nat) (qm : Nat) (qw : Nat) (x : Int32) (y : Int32) (hB : x < 0 ∨ (¬ x < 0 ∧ ¬ y = nI 0 ∧ ¬ y = nI 1)) : CtI l y_Md_link (Cond.code y_Md_link c_Md_link 7 (some .int) :: TB) ({ frames := 1, cells := 0, slots := 0, locals := 22 } : Room) D (tysv cI cJ cZ cQ) [.ref mo, .int x, .int y] [(mo, .inr (8, [.int tw, .int (nI K), .int (nI R), .ref qa, .ref qb, .ref qk, .ref qu, .ref qn, .ref qx, .ref qo, .ref qf, .int (nI d), .ref qr, .int (nI gm), .ref qg, .ref qv, .int (nI d2), .ref qs, .int (nI vv), .ref qc, .ref qm, .ref qw]))] 0 0 (fun (r : Int32) (_ : Unit) => r = nI 0) (fun (_ : Unit) => [(mo, .inr (8, [.int (nI 1), .int (nI K), .int (nI R), .ref qa, .ref qb, .ref qk, .ref qu, .ref qn, .ref qx, .ref qo, .ref qf, .int (nI d), .ref qr, .int (nI gm), .ref qg, .ref qv, .int (nI d2), .ref qs, .int (nI vv), .ref qc, .ref qm, .ref qw]))]) := by
  refine CtI.of c_Md_link 7 (some .int) (by decide) rfl (Nat.le_of_ble_eq_true rfl) ?_
  intro p e s m args below meth c A Q hA9 hQ9 X hr9 hlk9 hin9
  rcases hB with b1 | ⟨b1, b2, b3⟩
  · have b2 := b1
    refine g_iload_n X 1 d_Md_link_0 rfl rfl ?_
    refine g_if_lt X 17 d_Md_link_1 (by decide) (fun h1 => ?_) (fun h1 => absurd h1 (not_not_intro b1))
    refine g_iconst (v := nI 0) X d_Md_link_17 rfl ?_
    refine g_istore_n X [(3, .int (nI 0)), (0, .ref mo), (1, .int x), (2, .int y)] d_Md_link_18 rfl (by decide) rfl ?_
    refine g_iconst (v := nI 0) X d_Md_link_19 rfl ?_
    refine g_istore X [(4, .int (nI 0)), (3, .int (nI 0)), (0, .ref mo), (1, .int x), (2, .int y)] d_Md_link_20 (by decide) rfl ?_
    refine g_iconst (v := -1) X d_Md_link_22 rfl ?_
    refine g_istore X [(5, .int (-1)), (4, .int (nI 0)), (3, .int (nI 0)), (0, .ref mo), (1, .int x), (2, .int y)] d_Md_link_23 (by decide) rfl ?_
    refine g_iconst (v := nI 0) X d_Md_link_25 rfl ?_
    refine g_istore X [(6, .int (nI 0)), (5, .int (-1)), (4, .int (nI 0)), (3, .int (nI 0)), (0, .ref mo), (1, .int x), (2, .int y)] d_Md_link_26 (by decide) rfl ?_
    refine g_iload X 6 d_Md_link_28 rfl ?_
    refine g_sipush (v := nI 2304) X d_Md_link_30 rfl ?_
    refine n_icmp_ge X 86 d_Md_link_33 (by decide) (by omega) (by omega) (fun h33 => absurd h33 (by omega)) (fun h33 => ?_)
    refine g_iload_n X 3 d_Md_link_36 rfl rfl ?_
    refine n_if_eq X 86 d_Md_link_37 (by decide) (by omega) (fun h37 => ?_) (fun h37 => absurd h37 (by omega))
    refine g_aload_n X 0 d_Md_link_86 rfl rfl ?_
    refine g_iload X 5 d_Md_link_87 rfl ?_
    refine g_iconst (v := -1) X d_Md_link_89 rfl ?_
    refine g_icmp_eq X 97 d_Md_link_90 (by decide) (fun h90 => ?_) (fun h90 => absurd h90 (by decide))
    refine g_iconst (v := nI 0) X d_Md_link_97 rfl ?_
    refine g_iconst (v := nI 1) X d_Md_link_98 rfl ?_
    refine g_calliV (n := 2) X [.int (bI false), .int (bI true)] (k_Md_goes1 mo tw K R qa qb qk qu qn qx qo qf d qr gm qg qv d2 qs vv qc qm qw true ) t3_223 t3_225 ts_11 t1_9 t3_226 rfl rfl (by decide +kernel) ⟨by decide, by decide⟩ [0] [] [] rfl rfl rfl rfl (by decide) 0 rfl rfl rfl rfl (Nat.le_of_ble_eq_true rfl) d_Md_link_99 ⟨by decide, by decide⟩ (fun r1 w9u1 hw1 => ?_)
    subst hw1
    refine b_if_ne X 107 d_Md_link_102 (by decide) (fun h102 => absurd h102 (by decide)) (fun h102 => ?_)
    refine g_iconst (v := nI 0) X d_Md_link_105 rfl ?_
    exact g_iret X hA9 hQ9 hr9 hlk9 () [0] rfl rfl d_Md_link_106 (rfl)
  · have b4 := b1
    refine g_iload_n X 1 d_Md_link_0 rfl rfl ?_
    refine g_if_lt X 17 d_Md_link_1 (by decide) (fun h1 => absurd h1 (b1)) (fun h1 => ?_)
    refine g_iload_n X 2 d_Md_link_4 rfl rfl ?_
    refine g_if_eq X 13 d_Md_link_5 (by decide) (fun h5 => absurd h5 (b2)) (fun h5 => ?_)
    refine g_iload_n X 2 d_Md_link_8 rfl rfl ?_
    refine g_iconst (v := nI 1) X d_Md_link_9 rfl ?_
    refine g_icmp_ne X 17 d_Md_link_10 (by decide) (fun h10 => ?_) (fun h10 => absurd h10 (b3))
    refine g_iconst (v := nI 0) X d_Md_link_17 rfl ?_
    refine g_istore_n X [(3, .int (nI 0)), (0, .ref mo), (1, .int x), (2, .int y)] d_Md_link_18 rfl (by decide) rfl ?_
    refine g_iconst (v := nI 0) X d_Md_link_19 rfl ?_
    refine g_istore X [(4, .int (nI 0)), (3, .int (nI 0)), (0, .ref mo), (1, .int x), (2, .int y)] d_Md_link_20 (by decide) rfl ?_
    refine g_iconst (v := -1) X d_Md_link_22 rfl ?_
    refine g_istore X [(5, .int (-1)), (4, .int (nI 0)), (3, .int (nI 0)), (0, .ref mo), (1, .int x), (2, .int y)] d_Md_link_23 (by decide) rfl ?_
    refine g_iconst (v := nI 0) X d_Md_link_25 rfl ?_
    refine g_istore X [(6, .int (nI 0)), (5, .int (-1)), (4, .int (nI 0)), (3, .int (nI 0)), (0, .ref mo), (1, .int x), (2, .int y)] d_Md_link_26 (by decide) rfl ?_
    refine g_iload X 6 d_Md_link_28 rfl ?_
    refine g_sipush (v := nI 2304) X d_Md_link_30 rfl ?_
    refine n_icmp_ge X 86 d_Md_link_33 (by decide) (by omega) (by omega) (fun h33 => absurd h33 (by omega)) (fun h33 => ?_)
    refine g_iload_n X 3 d_Md_link_36 rfl rfl ?_
    refine n_if_eq X 86 d_Md_link_37 (by decide) (by omega) (fun h37 => ?_) (fun h37 => absurd h37 (by omega))
    refine g_aload_n X 0 d_Md_link_86 rfl rfl ?_
    refine g_iload X 5 d_Md_link_87 rfl ?_
    refine g_iconst (v := -1) X d_Md_link_89 rfl ?_
    refine g_icmp_eq X 97 d_Md_link_90 (by decide) (fun h90 => ?_) (fun h90 => absurd h90 (by decide))
    refine g_iconst (v := nI 0) X d_Md_link_97 rfl ?_
    refine g_iconst (v := nI 1) X d_Md_link_98 rfl ?_
    refine g_calliV (n := 2) X [.int (bI false), .int (bI true)] (k_Md_goes1 mo tw K R qa qb qk qu qn qx qo qf d qr gm qg qv d2 qs vv qc qm qw true ) t3_223 t3_225 ts_11 t1_9 t3_226 rfl rfl (by decide +kernel) ⟨by decide, by decide⟩ [0] [] [] rfl rfl rfl rfl (by decide) 0 rfl rfl rfl rfl (Nat.le_of_ble_eq_true rfl) d_Md_link_99 ⟨by decide, by decide⟩ (fun r2 w9u2 hw2 => ?_)
    subst hw2
    refine b_if_ne X 107 d_Md_link_102 (by decide) (fun h102 => absurd h102 (by decide)) (fun h102 => ?_)
    refine g_iconst (v := nI 0) X d_Md_link_105 rfl ?_
    exact g_iret X hA9 hQ9 hr9 hlk9 () [0] rfl rfl d_Md_link_106 (rfl)

set_option maxHeartbeats 4000000 in
set_option maxRecDepth 100000 in
theorem k_Md_groupRing (mo : Nat) (tw : Int32) (K : Nat) (R : Nat) (qa : Nat) (qb : Nat) (qk : Nat) (qu : Nat) (qn : Nat) (qx : Nat) (qo : Nat) (qf : Nat) (d : Nat) (qr : Nat) (gm : Nat) (qg : Nat) (qv : Nat) (d2 : Nat) (qs : Nat) (vv : Nat) (qc : Nat) (qm : Nat) (qw : Nat) (FG : Nat → Nat) (k : Nat) (hk : k < d2) (hd : d2 ≤ 12) : CtI l y_Md_groupRing (Cond.code y_Md_groupRing c_Md_groupRing 2 (some .int) :: TB) ({ frames := 1, cells := 0, slots := 0, locals := 22 } : Room) D (tysv cI cJ cZ cQ) [.ref mo, .int (nI k)] [(mo, .inr (8, [.int tw, .int (nI K), .int (nI R), .ref qa, .ref qb, .ref qk, .ref qu, .ref qn, .ref qx, .ref qo, .ref qf, .int (nI d), .ref qr, .int (nI gm), .ref qg, .ref qv, .int (nI d2), .ref qs, .int (nI vv), .ref qc, .ref qm, .ref qw])), (qs, .inl (cI, 12, .inl (nf FG)))] 0 0 (fun (r : Int32) (_ : Unit) => r = nI (FG k)) (fun (_ : Unit) => [(mo, .inr (8, [.int (nI 0), .int (nI K), .int (nI R), .ref qa, .ref qb, .ref qk, .ref qu, .ref qn, .ref qx, .ref qo, .ref qf, .int (nI d), .ref qr, .int (nI gm), .ref qg, .ref qv, .int (nI d2), .ref qs, .int (nI vv), .ref qc, .ref qm, .ref qw])), (qs, .inl (cI, 12, .inl (nf FG)))]) := by
  refine CtI.of c_Md_groupRing 2 (some .int) (by decide) rfl (Nat.le_of_ble_eq_true rfl) ?_
  intro p e s m args below meth c A Q hA9 hQ9 X hr9 hlk9 hin9
  refine g_aload_n X 0 d_Md_groupRing_0 rfl rfl ?_
  refine g_iload_n X 1 d_Md_groupRing_1 rfl rfl ?_
  refine n_if_lt X 9 d_Md_groupRing_2 (by decide) (by omega) (fun h2 => absurd h2 (by omega)) (fun h2 => ?_)
  refine g_iconst (v := nI 1) X d_Md_groupRing_5 rfl ?_
  refine g_goto X 10 d_Md_groupRing_6 (by decide) ?_
  refine g_iconst (v := nI 1) X d_Md_groupRing_10 rfl ?_
  refine g_calliV (n := 2) X [.int (bI true), .int (bI true)] (k_Md_goes mo tw K R qa qb qk qu qn qx qo qf d qr gm qg qv d2 qs vv qc qm qw ) t3_223 t3_225 ts_11 t1_9 t3_226 rfl rfl (by decide +kernel) ⟨by decide, by decide⟩ [0] [1] [(qs, .inl (cI, 12, .inl (nf FG)))] rfl rfl rfl rfl (by decide) 0 rfl rfl rfl rfl (Nat.le_of_ble_eq_true rfl) d_Md_groupRing_11 ⟨by decide, by decide⟩ (fun r1 w9u1 hw1 => ?_)
  subst hw1
  refine b_if_ne X 19 d_Md_groupRing_14 (by decide) (fun h14 => ?_) (fun h14 => absurd h14 (by decide))
  refine g_iload_n X 1 d_Md_groupRing_19 rfl rfl ?_
  refine g_aload_n X 0 d_Md_groupRing_20 rfl rfl ?_
  refine g_get (C := R_Md) (T := T_Md) (N := 22) X 1 16 in_Md rfl rfl (by decide) t3_163 rfl rfl d_Md_groupRing_21 ?_
  refine n_icmp_ge X 36 d_Md_groupRing_24 (by decide) (by omega) (by omega) (fun h24 => absurd h24 (by omega)) (fun h24 => ?_)
  refine g_aload_n X 0 d_Md_groupRing_27 rfl rfl ?_
  refine g_get (C := R_Md) (T := T_Md) (N := 22) X 1 17 in_Md rfl rfl (by decide) t3_164 rfl rfl d_Md_groupRing_28 ?_
  refine g_iload_n X 1 d_Md_groupRing_31 rfl rfl ?_
  refine g_ialdN X 0 0 rfl rfl (by omega) (by omega) d_Md_groupRing_32 ?_
  refine g_goto X 37 d_Md_groupRing_33 (by decide) ?_
  exact g_iret X hA9 hQ9 hr9 hlk9 () [1, 0] rfl rfl d_Md_groupRing_37 (rfl)

set_option maxHeartbeats 4000000 in
set_option maxRecDepth 100000 in
theorem k_Md_groupRingN (mo : Nat) (tw : Int32) (K : Nat) (R : Nat) (qa : Nat) (qb : Nat) (qk : Nat) (qu : Nat) (qn : Nat) (qx : Nat) (qo : Nat) (qf : Nat) (d : Nat) (qr : Nat) (gm : Nat) (qg : Nat) (qv : Nat) (d2 : Nat) (qs : Nat) (vv : Nat) (qc : Nat) (qm : Nat) (qw : Nat) (k : Nat) (hk : d2 ≤ k) (hk2 : k < 2 ^ 31) : CtI l y_Md_groupRing (Cond.code y_Md_groupRing c_Md_groupRing 2 (some .int) :: TB) ({ frames := 1, cells := 0, slots := 0, locals := 22 } : Room) D (tysv cI cJ cZ cQ) [.ref mo, .int (nI k)] [(mo, .inr (8, [.int tw, .int (nI K), .int (nI R), .ref qa, .ref qb, .ref qk, .ref qu, .ref qn, .ref qx, .ref qo, .ref qf, .int (nI d), .ref qr, .int (nI gm), .ref qg, .ref qv, .int (nI d2), .ref qs, .int (nI vv), .ref qc, .ref qm, .ref qw]))] 0 0 (fun (r : Int32) (_ : Unit) => r = -1) (fun (_ : Unit) => [(mo, .inr (8, [.int (nI 0), .int (nI K), .int (nI R), .ref qa, .ref qb, .ref qk, .ref qu, .ref qn, .ref qx, .ref qo, .ref qf, .int (nI d), .ref qr, .int (nI gm), .ref qg, .ref qv, .int (nI d2), .ref qs, .int (nI vv), .ref qc, .ref qm, .ref qw]))]) := by
  refine CtI.of c_Md_groupRing 2 (some .int) (by decide) rfl (Nat.le_of_ble_eq_true rfl) ?_
  intro p e s m args below meth c A Q hA9 hQ9 X hr9 hlk9 hin9
  refine g_aload_n X 0 d_Md_groupRing_0 rfl rfl ?_
  refine g_iload_n X 1 d_Md_groupRing_1 rfl rfl ?_
  refine n_if_lt X 9 d_Md_groupRing_2 (by decide) (by omega) (fun h2 => absurd h2 (by omega)) (fun h2 => ?_)
  refine g_iconst (v := nI 1) X d_Md_groupRing_5 rfl ?_
  refine g_goto X 10 d_Md_groupRing_6 (by decide) ?_
  refine g_iconst (v := nI 1) X d_Md_groupRing_10 rfl ?_
  refine g_calliV (n := 2) X [.int (bI true), .int (bI true)] (k_Md_goes mo tw K R qa qb qk qu qn qx qo qf d qr gm qg qv d2 qs vv qc qm qw ) t3_223 t3_225 ts_11 t1_9 t3_226 rfl rfl (by decide +kernel) ⟨by decide, by decide⟩ [0] [] [] rfl rfl rfl rfl (by decide) 0 rfl rfl rfl rfl (Nat.le_of_ble_eq_true rfl) d_Md_groupRing_11 ⟨by decide, by decide⟩ (fun r1 w9u1 hw1 => ?_)
  subst hw1
  refine b_if_ne X 19 d_Md_groupRing_14 (by decide) (fun h14 => ?_) (fun h14 => absurd h14 (by decide))
  refine g_iload_n X 1 d_Md_groupRing_19 rfl rfl ?_
  refine g_aload_n X 0 d_Md_groupRing_20 rfl rfl ?_
  refine g_get (C := R_Md) (T := T_Md) (N := 22) X 0 16 in_Md rfl rfl (by decide) t3_163 rfl rfl d_Md_groupRing_21 ?_
  refine n_icmp_ge X 36 d_Md_groupRing_24 (by decide) (by omega) (by omega) (fun h24 => ?_) (fun h24 => absurd h24 (by omega))
  refine g_iconst (v := -1) X d_Md_groupRing_36 rfl ?_
  exact g_iret X hA9 hQ9 hr9 hlk9 () [0] rfl rfl d_Md_groupRing_37 (rfl)

set_option maxHeartbeats 4000000 in
set_option maxRecDepth 100000 in
theorem k_Md_groupRingB (mo : Nat) (tw : Int32) (K : Nat) (R : Nat) (qa : Nat) (qb : Nat) (qk : Nat) (qu : Nat) (qn : Nat) (qx : Nat) (qo : Nat) (qf : Nat) (d : Nat) (qr : Nat) (gm : Nat) (qg : Nat) (qv : Nat) (d2 : Nat) (qs : Nat) (vv : Nat) (qc : Nat) (qm : Nat) (qw : Nat) (x : Int32) (hx : x < 0) : CtI l y_Md_groupRing (Cond.code y_Md_groupRing c_Md_groupRing 2 (some .int) :: TB) ({ frames := 1, cells := 0, slots := 0, locals := 22 } : Room) D (tysv cI cJ cZ cQ) [.ref mo, .int x] [(mo, .inr (8, [.int tw, .int (nI K), .int (nI R), .ref qa, .ref qb, .ref qk, .ref qu, .ref qn, .ref qx, .ref qo, .ref qf, .int (nI d), .ref qr, .int (nI gm), .ref qg, .ref qv, .int (nI d2), .ref qs, .int (nI vv), .ref qc, .ref qm, .ref qw]))] 0 0 (fun (r : Int32) (_ : Unit) => r = nI 0) (fun (_ : Unit) => [(mo, .inr (8, [.int (nI 1), .int (nI K), .int (nI R), .ref qa, .ref qb, .ref qk, .ref qu, .ref qn, .ref qx, .ref qo, .ref qf, .int (nI d), .ref qr, .int (nI gm), .ref qg, .ref qv, .int (nI d2), .ref qs, .int (nI vv), .ref qc, .ref qm, .ref qw]))]) := by
  refine CtI.of c_Md_groupRing 2 (some .int) (by decide) rfl (Nat.le_of_ble_eq_true rfl) ?_
  intro p e s m args below meth c A Q hA9 hQ9 X hr9 hlk9 hin9
  refine g_aload_n X 0 d_Md_groupRing_0 rfl rfl ?_
  refine g_iload_n X 1 d_Md_groupRing_1 rfl rfl ?_
  refine g_if_lt X 9 d_Md_groupRing_2 (by decide) (fun h2 => ?_) (fun h2 => absurd h2 (not_not_intro hx))
  refine g_iconst (v := nI 0) X d_Md_groupRing_9 rfl ?_
  refine g_iconst (v := nI 1) X d_Md_groupRing_10 rfl ?_
  refine g_calliV (n := 2) X [.int (bI false), .int (bI true)] (k_Md_goes1 mo tw K R qa qb qk qu qn qx qo qf d qr gm qg qv d2 qs vv qc qm qw true ) t3_223 t3_225 ts_11 t1_9 t3_226 rfl rfl (by decide +kernel) ⟨by decide, by decide⟩ [0] [] [] rfl rfl rfl rfl (by decide) 0 rfl rfl rfl rfl (Nat.le_of_ble_eq_true rfl) d_Md_groupRing_11 ⟨by decide, by decide⟩ (fun r1 w9u1 hw1 => ?_)
  subst hw1
  refine b_if_ne X 19 d_Md_groupRing_14 (by decide) (fun h14 => absurd h14 (by decide)) (fun h14 => ?_)
  refine g_iconst (v := nI 0) X d_Md_groupRing_17 rfl ?_
  exact g_iret X hA9 hQ9 hr9 hlk9 () [0] rfl rfl d_Md_groupRing_18 (rfl)

set_option maxHeartbeats 4000000 in
set_option maxRecDepth 100000 in
theorem k_Md_groupOf (mo : Nat) (tw : Int32) (K : Nat) (R : Nat) (qa : Nat) (qb : Nat) (qk : Nat) (qu : Nat) (qn : Nat) (qx : Nat) (qo : Nat) (qf : Nat) (d : Nat) (qr : Nat) (gm : Nat) (qg : Nat) (qv : Nat) (d2 : Nat) (qs : Nat) (vv : Nat) (qc : Nat) (qm : Nat) (qw : Nat) (hm : Nat → Nat) (i : Nat) (hK : K ≤ 48) (hi : i < K) : CtI l y_Md_groupOf (Cond.code y_Md_groupOf c_Md_groupOf 2 (some .int) :: TB) ({ frames := 1, cells := 0, slots := 0, locals := 22 } : Room) D (tysv cI cJ cZ cQ) [.ref mo, .int (nI i)] [(mo, .inr (8, [.int tw, .int (nI K), .int (nI R), .ref qa, .ref qb, .ref qk, .ref qu, .ref qn, .ref qx, .ref qo, .ref qf, .int (nI d), .ref qr, .int (nI gm), .ref qg, .ref qv, .int (nI d2), .ref qs, .int (nI vv), .ref qc, .ref qm, .ref qw])), (qg, .inl (cI, 48, .inl (hf hm)))] 0 0 (fun (r : Int32) (_ : Unit) => r = hI (hm i)) (fun (_ : Unit) => [(mo, .inr (8, [.int (nI 0), .int (nI K), .int (nI R), .ref qa, .ref qb, .ref qk, .ref qu, .ref qn, .ref qx, .ref qo, .ref qf, .int (nI d), .ref qr, .int (nI gm), .ref qg, .ref qv, .int (nI d2), .ref qs, .int (nI vv), .ref qc, .ref qm, .ref qw])), (qg, .inl (cI, 48, .inl (hf hm)))]) := by
  refine CtI.of c_Md_groupOf 2 (some .int) (by decide) rfl (Nat.le_of_ble_eq_true rfl) ?_
  intro p e s m args below meth c A Q hA9 hQ9 X hr9 hlk9 hin9
  refine g_aload_n X 0 d_Md_groupOf_0 rfl rfl ?_
  refine g_aload_n X 0 d_Md_groupOf_1 rfl rfl ?_
  refine g_iload_n X 1 d_Md_groupOf_2 rfl rfl ?_
  refine g_calliV (n := 1) X [.int (nI i)] (k_Md_isContext mo tw K R qa qb qk qu qn qx qo qf d qr gm qg qv d2 qs vv qc qm qw i (by omega) (by omega)) t3_239 t4_1 ts_14 t1_9 t4_2 rfl rfl (by decide +kernel) ⟨by decide, by decide⟩ [0] [1] [(qg, .inl (cI, 48, .inl (hf hm)))] rfl rfl rfl rfl (by decide) 0 rfl rfl rfl rfl (Nat.le_of_ble_eq_true rfl) d_Md_groupOf_3 ⟨by decide, by decide⟩ (fun r1 w9u1 hw1 => ?_)
  subst hw1
  refine g_iconst (v := nI 1) X d_Md_groupOf_6 rfl ?_
  refine g_calliV (n := 2) X [.int (bI true), .int (bI true)] (k_Md_goes mo tw K R qa qb qk qu qn qx qo qf d qr gm qg qv d2 qs vv qc qm qw ) t3_223 t3_225 ts_11 t1_9 t3_226 rfl rfl (by decide +kernel) ⟨by decide, by decide⟩ [1] [0] [(qg, .inl (cI, 48, .inl (hf hm)))] rfl rfl rfl rfl (by decide) 0 rfl rfl rfl rfl (Nat.le_of_ble_eq_true rfl) d_Md_groupOf_7 ⟨by decide, by decide⟩ (fun r2 w9u2 hw2 => ?_)
  subst hw2
  refine b_if_eq X 22 d_Md_groupOf_10 (by decide) (fun h10 => absurd h10 (by decide)) (fun h10 => ?_)
  refine g_aload_n X 0 d_Md_groupOf_13 rfl rfl ?_
  refine g_get (C := R_Md) (T := T_Md) (N := 22) X 1 14 in_Md rfl rfl (by decide) t3_161 rfl rfl d_Md_groupOf_14 ?_
  refine g_iload_n X 1 d_Md_groupOf_17 rfl rfl ?_
  refine g_ialdH X 0 0 rfl rfl (by omega) (by omega) d_Md_groupOf_18 ?_
  refine g_goto X 23 d_Md_groupOf_19 (by decide) ?_
  exact g_iret X hA9 hQ9 hr9 hlk9 () [1, 0] rfl rfl d_Md_groupOf_23 (rfl)

set_option maxHeartbeats 4000000 in
set_option maxRecDepth 100000 in
theorem k_Md_groupOfB (mo : Nat) (tw : Int32) (K : Nat) (R : Nat) (qa : Nat) (qb : Nat) (qk : Nat) (qu : Nat) (qn : Nat) (qx : Nat) (qo : Nat) (qf : Nat) (d : Nat) (qr : Nat) (gm : Nat) (qg : Nat) (qv : Nat) (d2 : Nat) (qs : Nat) (vv : Nat) (qc : Nat) (qm : Nat) (qw : Nat) (x : Int32) (hK : K ≤ 48) (hx : badI K x) : CtI l y_Md_groupOf (Cond.code y_Md_groupOf c_Md_groupOf 2 (some .int) :: TB) ({ frames := 1, cells := 0, slots := 0, locals := 22 } : Room) D (tysv cI cJ cZ cQ) [.ref mo, .int x] [(mo, .inr (8, [.int tw, .int (nI K), .int (nI R), .ref qa, .ref qb, .ref qk, .ref qu, .ref qn, .ref qx, .ref qo, .ref qf, .int (nI d), .ref qr, .int (nI gm), .ref qg, .ref qv, .int (nI d2), .ref qs, .int (nI vv), .ref qc, .ref qm, .ref qw]))] 0 0 (fun (r : Int32) (_ : Unit) => r = nI 0) (fun (_ : Unit) => [(mo, .inr (8, [.int (nI 1), .int (nI K), .int (nI R), .ref qa, .ref qb, .ref qk, .ref qu, .ref qn, .ref qx, .ref qo, .ref qf, .int (nI d), .ref qr, .int (nI gm), .ref qg, .ref qv, .int (nI d2), .ref qs, .int (nI vv), .ref qc, .ref qm, .ref qw]))]) := by
  refine CtI.of c_Md_groupOf 2 (some .int) (by decide) rfl (Nat.le_of_ble_eq_true rfl) ?_
  intro p e s m args below meth c A Q hA9 hQ9 X hr9 hlk9 hin9
  refine g_aload_n X 0 d_Md_groupOf_0 rfl rfl ?_
  refine g_aload_n X 0 d_Md_groupOf_1 rfl rfl ?_
  refine g_iload_n X 1 d_Md_groupOf_2 rfl rfl ?_
  refine g_calliV (n := 1) X [.int x] (k_Md_isContextN mo tw K R qa qb qk qu qn qx qo qf d qr gm qg qv d2 qs vv qc qm qw x (by omega) (hx)) t3_239 t4_1 ts_14 t1_9 t4_2 rfl rfl (by decide +kernel) ⟨by decide, by decide⟩ [0] [] [] rfl rfl rfl rfl (by decide) 0 rfl rfl rfl rfl (Nat.le_of_ble_eq_true rfl) d_Md_groupOf_3 ⟨by decide, by decide⟩ (fun r1 w9u1 hw1 => ?_)
  subst hw1
  refine g_iconst (v := nI 1) X d_Md_groupOf_6 rfl ?_
  refine g_calliV (n := 2) X [.int (bI false), .int (bI true)] (k_Md_goes1 mo tw K R qa qb qk qu qn qx qo qf d qr gm qg qv d2 qs vv qc qm qw true ) t3_223 t3_225 ts_11 t1_9 t3_226 rfl rfl (by decide +kernel) ⟨by decide, by decide⟩ [0] [] [] rfl rfl rfl rfl (by decide) 0 rfl rfl rfl rfl (Nat.le_of_ble_eq_true rfl) d_Md_groupOf_7 ⟨by decide, by decide⟩ (fun r2 w9u2 hw2 => ?_)
  subst hw2
  refine b_if_eq X 22 d_Md_groupOf_10 (by decide) (fun h10 => ?_) (fun h10 => absurd h10 (by decide))
  refine g_iconst (v := nI 0) X d_Md_groupOf_22 rfl ?_
  exact g_iret X hA9 hQ9 hr9 hlk9 () [0] rfl rfl d_Md_groupOf_23 (rfl)

set_option maxHeartbeats 4000000 in
set_option maxRecDepth 100000 in
theorem k_Md_version (mo : Nat) (tw : Int32) (K : Nat) (R : Nat) (qa : Nat) (qb : Nat) (qk : Nat) (qu : Nat) (qn : Nat) (qx : Nat) (qo : Nat) (qf : Nat) (d : Nat) (qr : Nat) (gm : Nat) (qg : Nat) (qv : Nat) (d2 : Nat) (qs : Nat) (vv : Nat) (qc : Nat) (qm : Nat) (qw : Nat) (M : Nat → Nat) (OV : Nat → Bool) (FC : Nat → Nat) (FN : Nat → Nat) (OO : Nat → Bool) (hK : K ≤ 48) (hv9 : vv < 8) (hM : ∀ z, z < K → M z < 48) (hFN : ∀ k, k < 384 → FN k < 48) : CtI l y_Md_version (Cond.code y_Md_version c_Md_version 2 (some .int) :: TB) ({ frames := 1, cells := 0, slots := 0, locals := 22 } : Room) D (tysv cI cJ cZ cQ) [.ref mo] [(mo, .inr (8, [.int tw, .int (nI K), .int (nI R), .ref qa, .ref qb, .ref qk, .ref qu, .ref qn, .ref qx, .ref qo, .ref qf, .int (nI d), .ref qr, .int (nI gm), .ref qg, .ref qv, .int (nI d2), .ref qs, .int (nI vv), .ref qc, .ref qm, .ref qw])), (qn, .inl (cI, 48, .inl (nf M))), (qo, .inl (cZ, 2304, .inl (zf OV))), (qc, .inl (cI, 8, .inl (nf FC))), (qm, .inl (cI, 384, .inl (nf FN))), (qw, .inl (cZ, 18432, .inl (zf OO)))] 0 0 (fun (r : Int32) (u : (Nat → Nat) × (Nat → Bool)) => r = nI vv ∧ ((∀ k, k < 48 * vv → u.1 k = FN k) ∧ ∀ c, c < K → u.1 (48 * vv + c) = M c) ∧ (∀ k, k < 384 → u.1 k < 48) ∧ ((∀ k, k < 2304 * vv → u.2 k = OO k) ∧ ∀ c, c < 2304 → u.2 (2304 * vv + c) = OV c)) (fun (u : (Nat → Nat) × (Nat → Bool)) => [(mo, .inr (8, [.int (nI 0), .int (nI K), .int (nI R), .ref qa, .ref qb, .ref qk, .ref qu, .ref qn, .ref qx, .ref qo, .ref qf, .int (nI d), .ref qr, .int (nI gm), .ref qg, .ref qv, .int (nI d2), .ref qs, .int (nI (vv + 1)), .ref qc, .ref qm, .ref qw])), (qn, .inl (cI, 48, .inl (nf M))), (qo, .inl (cZ, 2304, .inl (zf OV))), (qc, .inl (cI, 8, .inl (nf (updN FC vv K)))), (qm, .inl (cI, 384, .inl (nf u.1))), (qw, .inl (cZ, 18432, .inl (zf u.2)))]) := by
  refine CtI.of c_Md_version 2 (some .int) (by decide) rfl (Nat.le_of_ble_eq_true rfl) ?_
  intro p e s m args below meth c A Q hA9 hQ9 X hr9 hlk9 hin9
  refine g_aload_n X 0 d_Md_version_0 rfl rfl ?_
  refine g_aload_n X 0 d_Md_version_1 rfl rfl ?_
  refine g_get (C := R_Md) (T := T_Md) (N := 22) X 0 18 in_Md rfl rfl (by decide) t3_165 rfl rfl d_Md_version_2 ?_
  refine g_bipush (v := nI 8) X d_Md_version_5 rfl ?_
  refine n_icmp_ge X 14 d_Md_version_7 (by decide) (by omega) (by omega) (fun h7 => absurd h7 (by omega)) (fun h7 => ?_)
  refine g_iconst (v := nI 1) X d_Md_version_10 rfl ?_
  refine g_goto X 15 d_Md_version_11 (by decide) ?_
  refine g_iconst (v := nI 1) X d_Md_version_15 rfl ?_
  refine g_calliV (n := 2) X [.int (bI true), .int (bI true)] (k_Md_goes mo tw K R qa qb qk qu qn qx qo qf d qr gm qg qv d2 qs vv qc qm qw ) t3_223 t3_225 ts_11 t1_9 t3_226 rfl rfl (by decide +kernel) ⟨by decide, by decide⟩ [0] [1, 2, 3, 4, 5] [(qn, .inl (cI, 48, .inl (nf M))), (qo, .inl (cZ, 2304, .inl (zf OV))), (qc, .inl (cI, 8, .inl (nf FC))), (qm, .inl (cI, 384, .inl (nf FN))), (qw, .inl (cZ, 18432, .inl (zf OO)))] rfl rfl rfl rfl (by decide) 0 rfl rfl rfl rfl (Nat.le_of_ble_eq_true rfl) d_Md_version_16 ⟨by decide, by decide⟩ (fun r1 w9u1 hw1 => ?_)
  subst hw1
  refine b_if_ne X 24 d_Md_version_19 (by decide) (fun h19 => ?_) (fun h19 => absurd h19 (by decide))
  refine g_aload_n X 0 d_Md_version_24 rfl rfl ?_
  refine g_get (C := R_Md) (T := T_Md) (N := 22) X 5 19 in_Md rfl rfl (by decide) t3_166 rfl rfl d_Md_version_25 ?_
  refine g_aload_n X 0 d_Md_version_28 rfl rfl ?_
  refine g_get (C := R_Md) (T := T_Md) (N := 22) X 5 18 in_Md rfl rfl (by decide) t3_165 rfl rfl d_Md_version_29 ?_
  refine g_aload_n X 0 d_Md_version_32 rfl rfl ?_
  refine g_get (C := R_Md) (T := T_Md) (N := 22) X 5 1 in_Md rfl rfl (by decide) t3_148 rfl rfl d_Md_version_33 ?_
  refine g_iastN X 2 0 [(qn, .inl (cI, 48, .inl (nf M))), (qo, .inl (cZ, 2304, .inl (zf OV))), (qc, .inl (cI, 8, .inl (nf (updN FC vv K)))), (qm, .inl (cI, 384, .inl (nf FN))), (qw, .inl (cZ, 18432, .inl (zf OO))), (mo, .inr (8, [.int (nI 0), .int (nI K), .int (nI R), .ref qa, .ref qb, .ref qk, .ref qu, .ref qn, .ref qx, .ref qo, .ref qf, .int (nI d), .ref qr, .int (nI gm), .ref qg, .ref qv, .int (nI d2), .ref qs, .int (nI vv), .ref qc, .ref qm, .ref qw]))] rfl rfl (by omega) (by omega) rfl d_Md_version_36 ?_
  have L75 : ∀ (N75 : Nat) (i : Nat) (N9 : Nat → Nat) (O9 : Nat → Bool), (2304 - i) < N75 → (i ≤ 2304) → (((∀ k, k < 48 * vv → N9 k = FN k) ∧ ∀ c, c < K → N9 (48 * vv + c) = M c)) → ((∀ k, k < 384 → N9 k < 48)) → (((∀ k, k < 2304 * vv → O9 k = OO k) ∧ ∀ c, c < i → O9 (2304 * vv + c) = OV c)) → G p l e ({ frames := 1, cells := 0, slots := 0, locals := 22 } : Room) s m args below meth c 2 D A s.heap Q 0 0 [(mo, .inr (8, [.int (nI 0), .int (nI K), .int (nI R), .ref qa, .ref qb, .ref qk, .ref qu, .ref qn, .ref qx, .ref qo, .ref qf, .int (nI d), .ref qr, .int (nI gm), .ref qg, .ref qv, .int (nI d2), .ref qs, .int (nI vv), .ref qc, .ref qm, .ref qw])), (qn, .inl (cI, 48, .inl (nf M))), (qo, .inl (cZ, 2304, .inl (zf OV))), (qc, .inl (cI, 8, .inl (nf (updN FC vv K)))), (qm, .inl (cI, 384, .inl (nf N9))), (qw, .inl (cZ, 18432, .inl (zf O9)))] [(0, .ref mo), (1, .int (nI i))] 75 [] := by
    intro N75
    induction N75 with
    | zero =>
      intro i N9 O9 hN
      exact absurd hN (Nat.not_lt_zero _)
    | succ N75 ih75 =>
      intro i N9 O9 hN75 hi h1 h2 h3
      refine g_iload_n X 1 d_Md_version_75 rfl rfl ?_
      refine g_sipush (v := nI 2304) X d_Md_version_76 rfl ?_
      refine n_icmp_ge X 109 d_Md_version_79 (by decide) (by omega) (by omega) (fun h79 => ?_) (fun h79 => ?_)
      · refine g_aload_n X 0 d_Md_version_109 rfl rfl ?_
        refine g_dup X d_Md_version_110 rfl ?_
        refine g_get (C := R_Md) (T := T_Md) (N := 22) X 0 18 in_Md rfl rfl (by decide) t3_165 rfl rfl d_Md_version_111 ?_
        refine g_iconst (v := nI 1) X d_Md_version_114 rfl ?_
        refine g_iadd X (nI (vv + 1)) d_Md_version_115 (nI_add vv 1) ?_
        refine g_put (C := R_Md) (T := T_Md) (N := 22) (ty := .int) X 0 18 [(mo, .inr (8, [.int (nI 0), .int (nI K), .int (nI R), .ref qa, .ref qb, .ref qk, .ref qu, .ref qn, .ref qx, .ref qo, .ref qf, .int (nI d), .ref qr, .int (nI gm), .ref qg, .ref qv, .int (nI d2), .ref qs, .int (nI (vv + 1)), .ref qc, .ref qm, .ref qw])), (qn, .inl (cI, 48, .inl (nf M))), (qo, .inl (cZ, 2304, .inl (zf OV))), (qc, .inl (cI, 8, .inl (nf (updN FC vv K)))), (qm, .inl (cI, 384, .inl (nf N9))), (qw, .inl (cZ, 18432, .inl (zf O9)))] t_Md ty_Md nm_Md in_Md rfl rfl (by decide) t3_165 rfl rfl (by decide +kernel) rfl rfl (Nat.le_of_ble_eq_true rfl) rfl d_Md_version_116 ?_
        refine g_aload_n X 0 d_Md_version_119 rfl rfl ?_
        refine g_get (C := R_Md) (T := T_Md) (N := 22) X 0 18 in_Md rfl rfl (by decide) t3_165 rfl rfl d_Md_version_120 ?_
        refine g_iconst (v := nI 1) X d_Md_version_123 rfl ?_
        refine g_isub X (nI ((vv + 1) - 1)) d_Md_version_124 (pk_sub (by omega)) ?_
        have e9 : i = 2304 := by omega
        subst e9
        exact g_iret X hA9 hQ9 hr9 hlk9 ⟨N9, O9⟩ [0, 1, 2, 3, 4, 5] rfl rfl d_Md_version_125 (by (try dsimp only); exact (⟨by rw [Nat.add_sub_cancel], h1, h2, h3⟩))
      · refine g_aload_n X 0 d_Md_version_82 rfl rfl ?_
        refine g_get (C := R_Md) (T := T_Md) (N := 22) X 0 21 in_Md rfl rfl (by decide) t3_168 rfl rfl d_Md_version_83 ?_
        refine g_sipush (v := nI 2304) X d_Md_version_86 rfl ?_
        refine g_aload_n X 0 d_Md_version_89 rfl rfl ?_
        refine g_get (C := R_Md) (T := T_Md) (N := 22) X 0 18 in_Md rfl rfl (by decide) t3_165 rfl rfl d_Md_version_90 ?_
        refine g_imul X (nI (2304 * vv)) d_Md_version_93 (pk_mul 2304 vv) ?_
        refine g_iload_n X 1 d_Md_version_94 rfl rfl ?_
        refine g_iadd X (nI (2304 * vv + i)) d_Md_version_95 (nI_add (2304 * vv) i) ?_
        refine g_aload_n X 0 d_Md_version_96 rfl rfl ?_
        refine g_get (C := R_Md) (T := T_Md) (N := 22) X 0 9 in_Md rfl rfl (by decide) t3_156 rfl rfl d_Md_version_97 ?_
        refine g_iload_n X 1 d_Md_version_100 rfl rfl ?_
        refine g_zaldB X 2 2 rfl rfl (by omega) (by omega) d_Md_version_101 ?_
        refine g_zastB X 5 2 [(mo, .inr (8, [.int (nI 0), .int (nI K), .int (nI R), .ref qa, .ref qb, .ref qk, .ref qu, .ref qn, .ref qx, .ref qo, .ref qf, .int (nI d), .ref qr, .int (nI gm), .ref qg, .ref qv, .int (nI d2), .ref qs, .int (nI vv), .ref qc, .ref qm, .ref qw])), (qn, .inl (cI, 48, .inl (nf M))), (qo, .inl (cZ, 2304, .inl (zf OV))), (qc, .inl (cI, 8, .inl (nf (updN FC vv K)))), (qm, .inl (cI, 384, .inl (nf N9))), (qw, .inl (cZ, 18432, .inl (zf (updB O9 (2304 * vv + i) (OV i)))))] rfl rfl (by omega) (by omega) rfl d_Md_version_102 ?_
        refine g_iinc X (nI (i + 1)) [(1, .int (nI (i + 1))), (0, .ref mo)] d_Md_version_103 (k := 1) rfl (nI_1 i) (by decide) rfl ?_
        refine g_goto X 75 d_Md_version_106 (by decide) ?_
        refine g_lv [1, 0] rfl ?_
        exact ih75 (i + 1) N9 (updB O9 (2304 * vv + i) (OV i)) (by omega) (by omega) (h1) (h2) (vn_ov h3)
  have L39 : ∀ (N39 : Nat) (i : Nat) (N9 : Nat → Nat), (K - i) < N39 → (i ≤ K) → (((∀ k, k < 48 * vv → N9 k = FN k) ∧ ∀ c, c < i → N9 (48 * vv + c) = M c)) → ((∀ k, k < 384 → N9 k < 48)) → G p l e ({ frames := 1, cells := 0, slots := 0, locals := 22 } : Room) s m args below meth c 2 D A s.heap Q 0 0 [(mo, .inr (8, [.int (nI 0), .int (nI K), .int (nI R), .ref qa, .ref qb, .ref qk, .ref qu, .ref qn, .ref qx, .ref qo, .ref qf, .int (nI d), .ref qr, .int (nI gm), .ref qg, .ref qv, .int (nI d2), .ref qs, .int (nI vv), .ref qc, .ref qm, .ref qw])), (qn, .inl (cI, 48, .inl (nf M))), (qo, .inl (cZ, 2304, .inl (zf OV))), (qc, .inl (cI, 8, .inl (nf (updN FC vv K)))), (qm, .inl (cI, 384, .inl (nf N9))), (qw, .inl (cZ, 18432, .inl (zf OO)))] [(0, .ref mo), (1, .int (nI i))] 39 [] := by
    intro N39
    induction N39 with
    | zero =>
      intro i N9 hN
      exact absurd hN (Nat.not_lt_zero _)
    | succ N39 ih39 =>
      intro i N9 hN39 hi h1 h2
      refine g_iload_n X 1 d_Md_version_39 rfl rfl ?_
      refine g_aload_n X 0 d_Md_version_40 rfl rfl ?_
      refine g_get (C := R_Md) (T := T_Md) (N := 22) X 0 1 in_Md rfl rfl (by decide) t3_148 rfl rfl d_Md_version_41 ?_
      refine n_icmp_ge X 73 d_Md_version_44 (by decide) (by omega) (by omega) (fun h44 => ?_) (fun h44 => ?_)
      · refine g_iconst (v := nI 0) X d_Md_version_73 rfl ?_
        refine g_istore_n X [(1, .int (nI 0)), (0, .ref mo)] d_Md_version_74 rfl (by decide) rfl ?_
        refine g_lv [1, 0] rfl ?_
        exact L75 ((2304 - 0) + 1) 0 N9 OO (Nat.lt_succ_self _) (by omega) (by have e9 : i = K := (by omega); subst e9; exact h1) (h2) (⟨fun _ _ => rfl, fun c hc => absurd hc (Nat.not_lt_zero c)⟩)
      · refine g_aload_n X 0 d_Md_version_47 rfl rfl ?_
        refine g_get (C := R_Md) (T := T_Md) (N := 22) X 0 20 in_Md rfl rfl (by decide) t3_167 rfl rfl d_Md_version_48 ?_
        refine g_bipush (v := nI 48) X d_Md_version_51 rfl ?_
        refine g_aload_n X 0 d_Md_version_53 rfl rfl ?_
        refine g_get (C := R_Md) (T := T_Md) (N := 22) X 0 18 in_Md rfl rfl (by decide) t3_165 rfl rfl d_Md_version_54 ?_
        refine g_imul X (nI (48 * vv)) d_Md_version_57 (pk_mul 48 vv) ?_
        refine g_iload_n X 1 d_Md_version_58 rfl rfl ?_
        refine g_iadd X (nI (48 * vv + i)) d_Md_version_59 (nI_add (48 * vv) i) ?_
        refine g_aload_n X 0 d_Md_version_60 rfl rfl ?_
        refine g_get (C := R_Md) (T := T_Md) (N := 22) X 0 7 in_Md rfl rfl (by decide) t3_154 rfl rfl d_Md_version_61 ?_
        refine g_iload_n X 1 d_Md_version_64 rfl rfl ?_
        refine g_ialdN X 1 0 rfl rfl (by omega) (by omega) d_Md_version_65 ?_
        refine g_iastN X 4 0 [(mo, .inr (8, [.int (nI 0), .int (nI K), .int (nI R), .ref qa, .ref qb, .ref qk, .ref qu, .ref qn, .ref qx, .ref qo, .ref qf, .int (nI d), .ref qr, .int (nI gm), .ref qg, .ref qv, .int (nI d2), .ref qs, .int (nI vv), .ref qc, .ref qm, .ref qw])), (qn, .inl (cI, 48, .inl (nf M))), (qo, .inl (cZ, 2304, .inl (zf OV))), (qc, .inl (cI, 8, .inl (nf (updN FC vv K)))), (qm, .inl (cI, 384, .inl (nf (updN N9 (48 * vv + i) (M i))))), (qw, .inl (cZ, 18432, .inl (zf OO)))] rfl rfl (by omega) (by omega) rfl d_Md_version_66 ?_
        refine g_iinc X (nI (i + 1)) [(1, .int (nI (i + 1))), (0, .ref mo)] d_Md_version_67 (k := 1) rfl (nI_1 i) (by decide) rfl ?_
        refine g_goto X 39 d_Md_version_70 (by decide) ?_
        refine g_lv [1, 0] rfl ?_
        exact ih39 (i + 1) (updN N9 (48 * vv + i) (M i)) (by omega) (by omega) (vn_num h1) (vn_lt (hM i (by omega)) h2)
  refine g_iconst (v := nI 0) X d_Md_version_37 rfl ?_
  refine g_istore_n X [(1, .int (nI 0)), (0, .ref mo)] d_Md_version_38 rfl (by decide) rfl ?_
  refine g_ws [(mo, .inr (8, [.int (nI 0), .int (nI K), .int (nI R), .ref qa, .ref qb, .ref qk, .ref qu, .ref qn, .ref qx, .ref qo, .ref qf, .int (nI d), .ref qr, .int (nI gm), .ref qg, .ref qv, .int (nI d2), .ref qs, .int (nI vv), .ref qc, .ref qm, .ref qw])), (qn, .inl (cI, 48, .inl (nf M))), (qo, .inl (cZ, 2304, .inl (zf OV))), (qc, .inl (cI, 8, .inl (nf (updN FC vv K)))), (qm, .inl (cI, 384, .inl (nf FN))), (qw, .inl (cZ, 18432, .inl (zf OO)))] [5, 0, 1, 2, 3, 4] rfl rfl ?_
  refine g_lv [1, 0] rfl ?_
  exact L39 ((K - 0) + 1) 0 FN (Nat.lt_succ_self _) (by omega) (⟨fun _ _ => rfl, fun c hc => absurd hc (Nat.not_lt_zero c)⟩) (hFN)

set_option maxHeartbeats 4000000 in
set_option maxRecDepth 100000 in
theorem k_Md_versionN (mo : Nat) (tw : Int32) (K : Nat) (R : Nat) (qa : Nat) (qb : Nat) (qk : Nat) (qu : Nat) (qn : Nat) (qx : Nat) (qo : Nat) (qf : Nat) (d : Nat) (qr : Nat) (gm : Nat) (qg : Nat) (qv : Nat) (d2 : Nat) (qs : Nat) (vv : Nat) (qc : Nat) (qm : Nat) (qw : Nat) (hv9 : vv = 8) : CtI l y_Md_version (Cond.code y_Md_version c_Md_version 2 (some .int) :: TB) ({ frames := 1, cells := 0, slots := 0, locals := 22 } : Room) D (tysv cI cJ cZ cQ) [.ref mo] [(mo, .inr (8, [.int tw, .int (nI K), .int (nI R), .ref qa, .ref qb, .ref qk, .ref qu, .ref qn, .ref qx, .ref qo, .ref qf, .int (nI d), .ref qr, .int (nI gm), .ref qg, .ref qv, .int (nI d2), .ref qs, .int (nI vv), .ref qc, .ref qm, .ref qw]))] 0 0 (fun (r : Int32) (_ : Unit) => r = nI 0) (fun (_ : Unit) => [(mo, .inr (8, [.int (nI 1), .int (nI K), .int (nI R), .ref qa, .ref qb, .ref qk, .ref qu, .ref qn, .ref qx, .ref qo, .ref qf, .int (nI d), .ref qr, .int (nI gm), .ref qg, .ref qv, .int (nI d2), .ref qs, .int (nI vv), .ref qc, .ref qm, .ref qw]))]) := by
  refine CtI.of c_Md_version 2 (some .int) (by decide) rfl (Nat.le_of_ble_eq_true rfl) ?_
  intro p e s m args below meth c A Q hA9 hQ9 X hr9 hlk9 hin9
  refine g_aload_n X 0 d_Md_version_0 rfl rfl ?_
  refine g_aload_n X 0 d_Md_version_1 rfl rfl ?_
  refine g_get (C := R_Md) (T := T_Md) (N := 22) X 0 18 in_Md rfl rfl (by decide) t3_165 rfl rfl d_Md_version_2 ?_
  refine g_bipush (v := nI 8) X d_Md_version_5 rfl ?_
  refine n_icmp_ge X 14 d_Md_version_7 (by decide) (by omega) (by omega) (fun h7 => ?_) (fun h7 => absurd h7 (by omega))
  refine g_iconst (v := nI 0) X d_Md_version_14 rfl ?_
  refine g_iconst (v := nI 1) X d_Md_version_15 rfl ?_
  refine g_calliV (n := 2) X [.int (bI false), .int (bI true)] (k_Md_goes1 mo tw K R qa qb qk qu qn qx qo qf d qr gm qg qv d2 qs vv qc qm qw true ) t3_223 t3_225 ts_11 t1_9 t3_226 rfl rfl (by decide +kernel) ⟨by decide, by decide⟩ [0] [] [] rfl rfl rfl rfl (by decide) 0 rfl rfl rfl rfl (Nat.le_of_ble_eq_true rfl) d_Md_version_16 ⟨by decide, by decide⟩ (fun r1 w9u1 hw1 => ?_)
  subst hw1
  refine b_if_ne X 24 d_Md_version_19 (by decide) (fun h19 => absurd h19 (by decide)) (fun h19 => ?_)
  refine g_iconst (v := nI 0) X d_Md_version_22 rfl ?_
  exact g_iret X hA9 hQ9 hr9 hlk9 () [0] rfl rfl d_Md_version_23 (rfl)

set_option maxHeartbeats 4000000 in
set_option maxRecDepth 100000 in
theorem k_Md_isOver (mo : Nat) (tw : Int32) (K : Nat) (R : Nat) (qa : Nat) (qb : Nat) (qk : Nat) (qu : Nat) (qn : Nat) (qx : Nat) (qo : Nat) (qf : Nat) (d : Nat) (qr : Nat) (gm : Nat) (qg : Nat) (qv : Nat) (d2 : Nat) (qs : Nat) (vv : Nat) (qc : Nat) (qm : Nat) (qw : Nat) (FC : Nat → Nat) (FN : Nat → Nat) (OO : Nat → Bool) (v : Nat) (z : Nat) (x : Nat) (hFN : ∀ k, k < 384 → FN k < 48) (hFC : ∀ k, k < 8 → FC k ≤ 48) (hv : v < 8) (hz : z < 48) (hx : x < 48) : CtI l y_Md_isOver (Cond.code y_Md_isOver c_Md_isOver 4 (some .boolean) :: TB) ({ frames := 0, cells := 0, slots := 0, locals := 0 } : Room) D (tysv cI cJ cZ cQ) [.ref mo, .int (nI v), .int (nI z), .int (nI x)] [(mo, .inr (8, [.int tw, .int (nI K), .int (nI R), .ref qa, .ref qb, .ref qk, .ref qu, .ref qn, .ref qx, .ref qo, .ref qf, .int (nI d), .ref qr, .int (nI gm), .ref qg, .ref qv, .int (nI d2), .ref qs, .int (nI vv), .ref qc, .ref qm, .ref qw])), (qc, .inl (cI, 8, .inl (nf FC))), (qm, .inl (cI, 384, .inl (nf FN))), (qw, .inl (cZ, 18432, .inl (zf OO)))] 0 0 (fun (r : Int32) (_ : Unit) => r = bI (ovq FC FN OO v z x)) (fun (_ : Unit) => [(mo, .inr (8, [.int tw, .int (nI K), .int (nI R), .ref qa, .ref qb, .ref qk, .ref qu, .ref qn, .ref qx, .ref qo, .ref qf, .int (nI d), .ref qr, .int (nI gm), .ref qg, .ref qv, .int (nI d2), .ref qs, .int (nI vv), .ref qc, .ref qm, .ref qw])), (qc, .inl (cI, 8, .inl (nf FC))), (qm, .inl (cI, 384, .inl (nf FN))), (qw, .inl (cZ, 18432, .inl (zf OO)))]) := by
  refine CtI.of c_Md_isOver 4 (some .boolean) (by decide) rfl (Nat.le_of_ble_eq_true rfl) ?_
  intro p e s m args below meth c A Q hA9 hQ9 X hr9 hlk9 hin9
  have l1 := hFC v hv
  have l2 := hFN (48 * v + z) (by omega)
  refine g_iload_n X 2 d_Md_isOver_0 rfl rfl ?_
  refine g_aload_n X 0 d_Md_isOver_1 rfl rfl ?_
  refine g_get (C := R_Md) (T := T_Md) (N := 22) X 0 19 in_Md rfl rfl (by decide) t3_166 rfl rfl d_Md_isOver_2 ?_
  refine g_iload_n X 1 d_Md_isOver_5 rfl rfl ?_
  refine g_ialdN X 1 0 rfl rfl (by omega) (by omega) d_Md_isOver_6 ?_
  refine n_icmp_ge X 44 d_Md_isOver_7 (by decide) (by omega) (by omega) (fun h7 => ?_) (fun h7 => ?_)
  · refine g_iconst (v := nI 0) X d_Md_isOver_44 rfl ?_
    exact g_zret X hA9 hQ9 hr9 (by first | exact Or.inl rfl | exact Or.inr rfl) hlk9 () [0, 1, 2, 3] rfl rfl d_Md_isOver_45 (by first | (rw [ovq_f h7]; rfl) | (rw [ovq_b h7 h37]; rfl))
  · refine g_aload_n X 0 d_Md_isOver_10 rfl rfl ?_
    refine g_get (C := R_Md) (T := T_Md) (N := 22) X 0 21 in_Md rfl rfl (by decide) t3_168 rfl rfl d_Md_isOver_11 ?_
    refine g_sipush (v := nI 2304) X d_Md_isOver_14 rfl ?_
    refine g_iload_n X 1 d_Md_isOver_17 rfl rfl ?_
    refine g_imul X (nI (2304 * v)) d_Md_isOver_18 (pk_mul 2304 v) ?_
    refine g_bipush (v := nI 48) X d_Md_isOver_19 rfl ?_
    refine g_aload_n X 0 d_Md_isOver_21 rfl rfl ?_
    refine g_get (C := R_Md) (T := T_Md) (N := 22) X 0 20 in_Md rfl rfl (by decide) t3_167 rfl rfl d_Md_isOver_22 ?_
    refine g_bipush (v := nI 48) X d_Md_isOver_25 rfl ?_
    refine g_iload_n X 1 d_Md_isOver_27 rfl rfl ?_
    refine g_imul X (nI (48 * v)) d_Md_isOver_28 (pk_mul 48 v) ?_
    refine g_iload_n X 2 d_Md_isOver_29 rfl rfl ?_
    refine g_iadd X (nI (48 * v + z)) d_Md_isOver_30 (nI_add (48 * v) z) ?_
    refine g_ialdN X 2 0 rfl rfl (by omega) (by omega) d_Md_isOver_31 ?_
    refine g_imul X (nI (48 * (FN (48 * v + z)))) d_Md_isOver_32 (pk_mul 48 (FN (48 * v + z))) ?_
    refine g_iadd X (nI (2304 * v + 48 * (FN (48 * v + z)))) d_Md_isOver_33 (nI_add (2304 * v) (48 * (FN (48 * v + z)))) ?_
    refine g_iload_n X 3 d_Md_isOver_34 rfl rfl ?_
    refine g_iadd X (nI (2304 * v + 48 * (FN (48 * v + z)) + x)) d_Md_isOver_35 (nI_add (2304 * v + 48 * (FN (48 * v + z))) x) ?_
    refine g_zaldB X 3 2 rfl rfl (by omega) (by omega) d_Md_isOver_36 ?_
    refine b_if_eq X 44 d_Md_isOver_37 (by decide) (fun h37 => ?_) (fun h37 => ?_)
    · refine g_iconst (v := nI 0) X d_Md_isOver_44 rfl ?_
      exact g_zret X hA9 hQ9 hr9 (by first | exact Or.inl rfl | exact Or.inr rfl) hlk9 () [0, 1, 2, 3] rfl rfl d_Md_isOver_45 (by first | (rw [ovq_f h7]; rfl) | (rw [ovq_b h7 h37]; rfl))
    · refine g_iconst (v := nI 1) X d_Md_isOver_40 rfl ?_
      refine g_goto X 45 d_Md_isOver_41 (by decide) ?_
      exact g_zret X hA9 hQ9 hr9 (by first | exact Or.inl rfl | exact Or.inr rfl) hlk9 () [0, 1, 2, 3] rfl rfl d_Md_isOver_45 (by first | (rw [ovq_f h7]; rfl) | (rw [ovq_b h7 h37]; rfl))

set_option maxHeartbeats 4000000 in
set_option maxRecDepth 100000 in
theorem k_Md_isUnder (mo : Nat) (tw : Int32) (K : Nat) (R : Nat) (qa : Nat) (qb : Nat) (qk : Nat) (qu : Nat) (qn : Nat) (qx : Nat) (qo : Nat) (qf : Nat) (d : Nat) (qr : Nat) (gm : Nat) (qg : Nat) (qv : Nat) (d2 : Nat) (qs : Nat) (vv : Nat) (qc : Nat) (qm : Nat) (qw : Nat) (FC : Nat → Nat) (FN : Nat → Nat) (OO : Nat → Bool) (v : Nat) (z : Nat) (x : Nat) (hFN : ∀ k, k < 384 → FN k < 48) (hFC : ∀ k, k < 8 → FC k ≤ 48) (hv : v < 8) (hz : z < 48) (hx : x < 48) : CtI l y_Md_isUnder (Cond.code y_Md_isUnder c_Md_isUnder 4 (some .boolean) :: TB) ({ frames := 0, cells := 0, slots := 0, locals := 0 } : Room) D (tysv cI cJ cZ cQ) [.ref mo, .int (nI v), .int (nI z), .int (nI x)] [(mo, .inr (8, [.int tw, .int (nI K), .int (nI R), .ref qa, .ref qb, .ref qk, .ref qu, .ref qn, .ref qx, .ref qo, .ref qf, .int (nI d), .ref qr, .int (nI gm), .ref qg, .ref qv, .int (nI d2), .ref qs, .int (nI vv), .ref qc, .ref qm, .ref qw])), (qc, .inl (cI, 8, .inl (nf FC))), (qm, .inl (cI, 384, .inl (nf FN))), (qw, .inl (cZ, 18432, .inl (zf OO)))] 0 0 (fun (r : Int32) (_ : Unit) => r = bI (unq FC FN OO v z x)) (fun (_ : Unit) => [(mo, .inr (8, [.int tw, .int (nI K), .int (nI R), .ref qa, .ref qb, .ref qk, .ref qu, .ref qn, .ref qx, .ref qo, .ref qf, .int (nI d), .ref qr, .int (nI gm), .ref qg, .ref qv, .int (nI d2), .ref qs, .int (nI vv), .ref qc, .ref qm, .ref qw])), (qc, .inl (cI, 8, .inl (nf FC))), (qm, .inl (cI, 384, .inl (nf FN))), (qw, .inl (cZ, 18432, .inl (zf OO)))]) := by
  refine CtI.of c_Md_isUnder 4 (some .boolean) (by decide) rfl (Nat.le_of_ble_eq_true rfl) ?_
  intro p e s m args below meth c A Q hA9 hQ9 X hr9 hlk9 hin9
  have l1 := hFC v hv
  have l2 := hFN (48 * v + z) (by omega)
  refine g_iload_n X 2 d_Md_isUnder_0 rfl rfl ?_
  refine g_aload_n X 0 d_Md_isUnder_1 rfl rfl ?_
  refine g_get (C := R_Md) (T := T_Md) (N := 22) X 0 19 in_Md rfl rfl (by decide) t3_166 rfl rfl d_Md_isUnder_2 ?_
  refine g_iload_n X 1 d_Md_isUnder_5 rfl rfl ?_
  refine g_ialdN X 1 0 rfl rfl (by omega) (by omega) d_Md_isUnder_6 ?_
  refine n_icmp_ge X 44 d_Md_isUnder_7 (by decide) (by omega) (by omega) (fun h7 => ?_) (fun h7 => ?_)
  · refine g_iconst (v := nI 0) X d_Md_isUnder_44 rfl ?_
    exact g_zret X hA9 hQ9 hr9 (by first | exact Or.inl rfl | exact Or.inr rfl) hlk9 () [0, 1, 2, 3] rfl rfl d_Md_isUnder_45 (by first | (rw [unq_f h7]; rfl) | (rw [unq_b h7 h37]; rfl))
  · refine g_aload_n X 0 d_Md_isUnder_10 rfl rfl ?_
    refine g_get (C := R_Md) (T := T_Md) (N := 22) X 0 21 in_Md rfl rfl (by decide) t3_168 rfl rfl d_Md_isUnder_11 ?_
    refine g_sipush (v := nI 2304) X d_Md_isUnder_14 rfl ?_
    refine g_iload_n X 1 d_Md_isUnder_17 rfl rfl ?_
    refine g_imul X (nI (2304 * v)) d_Md_isUnder_18 (pk_mul 2304 v) ?_
    refine g_bipush (v := nI 48) X d_Md_isUnder_19 rfl ?_
    refine g_iload_n X 3 d_Md_isUnder_21 rfl rfl ?_
    refine g_imul X (nI (48 * x)) d_Md_isUnder_22 (pk_mul 48 x) ?_
    refine g_iadd X (nI (2304 * v + 48 * x)) d_Md_isUnder_23 (nI_add (2304 * v) (48 * x)) ?_
    refine g_aload_n X 0 d_Md_isUnder_24 rfl rfl ?_
    refine g_get (C := R_Md) (T := T_Md) (N := 22) X 0 20 in_Md rfl rfl (by decide) t3_167 rfl rfl d_Md_isUnder_25 ?_
    refine g_bipush (v := nI 48) X d_Md_isUnder_28 rfl ?_
    refine g_iload_n X 1 d_Md_isUnder_30 rfl rfl ?_
    refine g_imul X (nI (48 * v)) d_Md_isUnder_31 (pk_mul 48 v) ?_
    refine g_iload_n X 2 d_Md_isUnder_32 rfl rfl ?_
    refine g_iadd X (nI (48 * v + z)) d_Md_isUnder_33 (nI_add (48 * v) z) ?_
    refine g_ialdN X 2 0 rfl rfl (by omega) (by omega) d_Md_isUnder_34 ?_
    refine g_iadd X (nI (2304 * v + 48 * x + FN (48 * v + z))) d_Md_isUnder_35 (nI_add (2304 * v + 48 * x) (FN (48 * v + z))) ?_
    refine g_zaldB X 3 2 rfl rfl (by omega) (by omega) d_Md_isUnder_36 ?_
    refine b_if_eq X 44 d_Md_isUnder_37 (by decide) (fun h37 => ?_) (fun h37 => ?_)
    · refine g_iconst (v := nI 0) X d_Md_isUnder_44 rfl ?_
      exact g_zret X hA9 hQ9 hr9 (by first | exact Or.inl rfl | exact Or.inr rfl) hlk9 () [0, 1, 2, 3] rfl rfl d_Md_isUnder_45 (by first | (rw [unq_f h7]; rfl) | (rw [unq_b h7 h37]; rfl))
    · refine g_iconst (v := nI 1) X d_Md_isUnder_40 rfl ?_
      refine g_goto X 45 d_Md_isUnder_41 (by decide) ?_
      exact g_zret X hA9 hQ9 hr9 (by first | exact Or.inl rfl | exact Or.inr rfl) hlk9 () [0, 1, 2, 3] rfl rfl d_Md_isUnder_45 (by first | (rw [unq_f h7]; rfl) | (rw [unq_b h7 h37]; rfl))

set_option maxHeartbeats 4000000 in
set_option maxRecDepth 100000 in
theorem k_Md_differ (mo : Nat) (tw : Int32) (K : Nat) (R : Nat) (qa : Nat) (qb : Nat) (qk : Nat) (qu : Nat) (qn : Nat) (qx : Nat) (qo : Nat) (qf : Nat) (d : Nat) (qr : Nat) (gm : Nat) (qg : Nat) (qv : Nat) (d2 : Nat) (qs : Nat) (vv : Nat) (qc : Nat) (qm : Nat) (qw : Nat) (FC : Nat → Nat) (FN : Nat → Nat) (OO : Nat → Bool) (u : Nat) (v : Nat) (j : Nat) (hFN : ∀ k, k < 384 → FN k < 48) (hFC : ∀ k, k < 8 → FC k ≤ 48) (hu : u < 8) (hv : v < 8) (hj : j < 48) : CtI l y_Md_differ (Cond.code y_Md_differ c_Md_differ 10 (some .boolean) :: TB) ({ frames := 1, cells := 0, slots := 0, locals := 23 } : Room) D (tysv cI cJ cZ cQ) [.ref mo, .int (nI u), .int (nI v), .int (nI j)] [(mo, .inr (8, [.int tw, .int (nI K), .int (nI R), .ref qa, .ref qb, .ref qk, .ref qu, .ref qn, .ref qx, .ref qo, .ref qf, .int (nI d), .ref qr, .int (nI gm), .ref qg, .ref qv, .int (nI d2), .ref qs, .int (nI vv), .ref qc, .ref qm, .ref qw])), (qc, .inl (cI, 8, .inl (nf FC))), (qm, .inl (cI, 384, .inl (nf FN))), (qw, .inl (cZ, 18432, .inl (zf OO)))] 0 0 (fun (r : Int32) (_ : Unit) => r = bI (dfM FC FN OO u v j)) (fun (_ : Unit) => [(mo, .inr (8, [.int tw, .int (nI K), .int (nI R), .ref qa, .ref qb, .ref qk, .ref qu, .ref qn, .ref qx, .ref qo, .ref qf, .int (nI d), .ref qr, .int (nI gm), .ref qg, .ref qv, .int (nI d2), .ref qs, .int (nI vv), .ref qc, .ref qm, .ref qw])), (qc, .inl (cI, 8, .inl (nf FC))), (qm, .inl (cI, 384, .inl (nf FN))), (qw, .inl (cZ, 18432, .inl (zf OO)))]) := by
  refine CtI.of c_Md_differ 10 (some .boolean) (by decide) rfl (Nat.le_of_ble_eq_true rfl) ?_
  intro p e s m args below meth c A Q hA9 hQ9 X hr9 hlk9 hin9
  have c1 := hFC u hu
  have c2 := hFC v hv
  have l1 := hFN (48 * u + j) (by omega)
  have l2 := hFN (48 * v + j) (by omega)
  refine g_iload_n X 3 d_Md_differ_0 rfl rfl ?_
  refine g_aload_n X 0 d_Md_differ_1 rfl rfl ?_
  refine g_get (C := R_Md) (T := T_Md) (N := 22) X 0 19 in_Md rfl rfl (by decide) t3_166 rfl rfl d_Md_differ_2 ?_
  refine g_iload_n X 1 d_Md_differ_5 rfl rfl ?_
  refine g_ialdN X 1 0 rfl rfl (by omega) (by omega) d_Md_differ_6 ?_
  refine n_icmp_ge X 14 d_Md_differ_7 (by decide) (by omega) (by omega) (fun h7 => ?_) (fun h7 => ?_)
  · refine g_iconst (v := nI 0) X d_Md_differ_14 rfl ?_
    refine g_topE (show nI 0 = bI (decide (j < FC u)) from by rw [decide_eq_false (by omega)]; rfl) ?_
    refine g_istore X [(4, .int (bI (decide (j < FC u)))), (0, .ref mo), (1, .int (nI u)), (2, .int (nI v)), (3, .int (nI j))] d_Md_differ_15 (by decide) rfl ?_
    refine g_iload_n X 3 d_Md_differ_17 rfl rfl ?_
    refine g_aload_n X 0 d_Md_differ_18 rfl rfl ?_
    refine g_get (C := R_Md) (T := T_Md) (N := 22) X 0 19 in_Md rfl rfl (by decide) t3_166 rfl rfl d_Md_differ_19 ?_
    refine g_iload_n X 2 d_Md_differ_22 rfl rfl ?_
    refine g_ialdN X 1 0 rfl rfl (by omega) (by omega) d_Md_differ_23 ?_
    refine n_icmp_ge X 31 d_Md_differ_24 (by decide) (by omega) (by omega) (fun h24 => ?_) (fun h24 => ?_)
    · refine g_iconst (v := nI 0) X d_Md_differ_31 rfl ?_
      refine g_topE (show nI 0 = bI (decide (j < FC v)) from by rw [decide_eq_false (by omega)]; rfl) ?_
      refine g_istore X [(5, .int (bI (decide (j < FC v)))), (4, .int (bI (decide (j < FC u)))), (0, .ref mo), (1, .int (nI u)), (2, .int (nI v)), (3, .int (nI j))] d_Md_differ_32 (by decide) rfl ?_
      refine g_iload X 4 d_Md_differ_34 rfl ?_
      refine g_iload X 5 d_Md_differ_36 rfl ?_
      refine g_icmp_eq X 43 d_Md_differ_38 (by decide) (fun h38 => ?_) (fun h38 => ?_)
      · have L86 : ∀ (N86 : Nat) (z : Nat) (b9 : Bool), (48 - z) < N86 → (z ≤ 48) → (b9 = dmB FC FN OO u v j z) → G p l e ({ frames := 1, cells := 0, slots := 0, locals := 23 } : Room) s m args below meth c 10 D A s.heap Q 0 0 [(mo, .inr (8, [.int tw, .int (nI K), .int (nI R), .ref qa, .ref qb, .ref qk, .ref qu, .ref qn, .ref qx, .ref qo, .ref qf, .int (nI d), .ref qr, .int (nI gm), .ref qg, .ref qv, .int (nI d2), .ref qs, .int (nI vv), .ref qc, .ref qm, .ref qw])), (qc, .inl (cI, 8, .inl (nf FC))), (qm, .inl (cI, 384, .inl (nf FN))), (qw, .inl (cZ, 18432, .inl (zf OO)))] [(0, .ref mo), (1, .int (nI u)), (2, .int (nI v)), (3, .int (nI j)), (4, .int (bI (decide (j < FC u)))), (5, .int (bI (decide (j < FC v)))), (6, .int (nI (FN (48 * u + j)))), (7, .int (nI (FN (48 * v + j)))), (8, .int (bI b9)), (9, .int (nI z))] 86 [] := by
          intro N86
          induction N86 with
          | zero =>
            intro z b9 hN
            exact absurd hN (Nat.not_lt_zero _)
          | succ N86 ih86 =>
            intro z b9 hN86 hz h1
            refine g_iload X 9 d_Md_differ_86 rfl ?_
            refine g_bipush (v := nI 48) X d_Md_differ_88 rfl ?_
            refine n_icmp_ge X 158 d_Md_differ_90 (by decide) (by omega) (by omega) (fun h90 => ?_) (fun h90 => ?_)
            · refine g_iload X 4 d_Md_differ_158 rfl ?_
              refine b_if_eq X 172 d_Md_differ_160 (by decide) (fun h160 => ?_) (fun h160 => ?_)
              · refine g_iconst (v := nI 0) X d_Md_differ_172 rfl ?_
                exact g_zret X hA9 hQ9 hr9 (by first | exact Or.inl rfl | exact Or.inr rfl) hlk9 () [0, 1, 2, 3] rfl rfl d_Md_differ_173 (by first | (rw [dfM_f h38 h160]; rfl) | (have e9 : z = 48 := (by omega); subst e9; rw [dfM_b h38 h160 h1 h165]; rfl) | (rw [h95] at h160; cases h160))
              · refine g_iload X 8 d_Md_differ_163 rfl ?_
                refine b_if_eq X 172 d_Md_differ_165 (by decide) (fun h165 => ?_) (fun h165 => ?_)
                · refine g_iconst (v := nI 0) X d_Md_differ_172 rfl ?_
                  exact g_zret X hA9 hQ9 hr9 (by first | exact Or.inl rfl | exact Or.inr rfl) hlk9 () [0, 1, 2, 3] rfl rfl d_Md_differ_173 (by first | (rw [dfM_f h38 h160]; rfl) | (have e9 : z = 48 := (by omega); subst e9; rw [dfM_b h38 h160 h1 h165]; rfl) | (rw [h95] at h160; cases h160))
                · refine g_iconst (v := nI 1) X d_Md_differ_168 rfl ?_
                  refine g_goto X 173 d_Md_differ_169 (by decide) ?_
                  exact g_zret X hA9 hQ9 hr9 (by first | exact Or.inl rfl | exact Or.inr rfl) hlk9 () [0, 1, 2, 3] rfl rfl d_Md_differ_173 (by first | (rw [dfM_f h38 h160]; rfl) | (have e9 : z = 48 := (by omega); subst e9; rw [dfM_b h38 h160 h1 h165]; rfl) | (rw [h95] at h160; cases h160))
            · refine g_iload X 4 d_Md_differ_93 rfl ?_
              refine b_if_eq X 158 d_Md_differ_95 (by decide) (fun h95 => ?_) (fun h95 => ?_)
              · refine g_iload X 4 d_Md_differ_158 rfl ?_
                refine b_if_eq X 172 d_Md_differ_160 (by decide) (fun h160 => ?_) (fun h160 => ?_)
                · refine g_iconst (v := nI 0) X d_Md_differ_172 rfl ?_
                  exact g_zret X hA9 hQ9 hr9 (by first | exact Or.inl rfl | exact Or.inr rfl) hlk9 () [0, 1, 2, 3] rfl rfl d_Md_differ_173 (by first | (rw [dfM_f h38 h160]; rfl) | (have e9 : z = 48 := (by omega); subst e9; rw [dfM_b h38 h160 h1 h165]; rfl) | (rw [h95] at h160; cases h160))
                · refine g_iload X 8 d_Md_differ_163 rfl ?_
                  refine b_if_eq X 172 d_Md_differ_165 (by decide) (fun h165 => ?_) (fun h165 => ?_)
                  · refine g_iconst (v := nI 0) X d_Md_differ_172 rfl ?_
                    exact g_zret X hA9 hQ9 hr9 (by first | exact Or.inl rfl | exact Or.inr rfl) hlk9 () [0, 1, 2, 3] rfl rfl d_Md_differ_173 (by first | (rw [dfM_f h38 h160]; rfl) | (have e9 : z = 48 := (by omega); subst e9; rw [dfM_b h38 h160 h1 h165]; rfl) | (rw [h95] at h160; cases h160))
                  · refine g_iconst (v := nI 1) X d_Md_differ_168 rfl ?_
                    refine g_goto X 173 d_Md_differ_169 (by decide) ?_
                    exact g_zret X hA9 hQ9 hr9 (by first | exact Or.inl rfl | exact Or.inr rfl) hlk9 () [0, 1, 2, 3] rfl rfl d_Md_differ_173 (by first | (rw [dfM_f h38 h160]; rfl) | (have e9 : z = 48 := (by omega); subst e9; rw [dfM_b h38 h160 h1 h165]; rfl) | (rw [h95] at h160; cases h160))
              · refine g_iload X 8 d_Md_differ_98 rfl ?_
                refine b_if_ne X 145 d_Md_differ_100 (by decide) (fun h100 => ?_) (fun h100 => ?_)
                · refine g_iconst (v := nI 1) X d_Md_differ_145 rfl ?_
                  refine g_goto X 150 d_Md_differ_146 (by decide) ?_
                  refine g_topE (show nI 1 = bI true from rfl) ?_
                  refine g_istore X [(8, .int (bI true)), (0, .ref mo), (1, .int (nI u)), (2, .int (nI v)), (3, .int (nI j)), (4, .int (bI (decide (j < FC u)))), (5, .int (bI (decide (j < FC v)))), (6, .int (nI (FN (48 * u + j)))), (7, .int (nI (FN (48 * v + j)))), (9, .int (nI z))] d_Md_differ_150 (by decide) rfl ?_
                  refine g_iinc X (nI (z + 1)) [(9, .int (nI (z + 1))), (8, .int (bI true)), (0, .ref mo), (1, .int (nI u)), (2, .int (nI v)), (3, .int (nI j)), (4, .int (bI (decide (j < FC u)))), (5, .int (bI (decide (j < FC v)))), (6, .int (nI (FN (48 * u + j)))), (7, .int (nI (FN (48 * v + j))))] d_Md_differ_152 (k := 9) rfl (nI_1 z) (by decide) rfl ?_
                  refine g_goto X 86 d_Md_differ_155 (by decide) ?_
                  refine g_lv [2, 3, 4, 5, 6, 7, 8, 9, 1, 0] rfl ?_
                  exact ih86 (z + 1) true (by omega) (by omega) (by first | exact dm_b h1 h100 | exact dm_o h121 | exact dm_u h142 | exact dm_f h1 h100 h121 h142)
                · refine g_aload_n X 0 d_Md_differ_103 rfl rfl ?_
                  refine g_iload_n X 1 d_Md_differ_104 rfl rfl ?_
                  refine g_iload X 9 d_Md_differ_105 rfl ?_
                  refine g_iload X 6 d_Md_differ_107 rfl ?_
                  refine g_calliV (n := 3) X [.int (nI u), .int (nI z), .int (nI (FN (48 * u + j)))] (k_Md_isOver mo tw K R qa qb qk qu qn qx qo qf d qr gm qg qv d2 qs vv qc qm qw FC FN OO u z (FN (48 * u + j)) (hFN) (hFC) (by omega) (by omega) (by omega)) t4_91 t4_93 ts_23 t1_9 t4_94 rfl rfl (by decide +kernel) ⟨by decide, by decide⟩ [0, 1, 2, 3] [] [] rfl rfl rfl rfl (by decide) 0 rfl rfl rfl rfl (Nat.le_of_ble_eq_true rfl) d_Md_differ_109 ⟨by decide, by decide⟩ (fun r1 w9u1 hw1 => ?_)
                  subst hw1
                  refine g_aload_n X 0 d_Md_differ_112 rfl rfl ?_
                  refine g_iload_n X 2 d_Md_differ_113 rfl rfl ?_
                  refine g_iload X 9 d_Md_differ_114 rfl ?_
                  refine g_iload X 7 d_Md_differ_116 rfl ?_
                  refine g_calliV (n := 3) X [.int (nI v), .int (nI z), .int (nI (FN (48 * v + j)))] (k_Md_isOver mo tw K R qa qb qk qu qn qx qo qf d qr gm qg qv d2 qs vv qc qm qw FC FN OO v z (FN (48 * v + j)) (hFN) (hFC) (by omega) (by omega) (by omega)) t4_91 t4_93 ts_23 t1_9 t4_94 rfl rfl (by decide +kernel) ⟨by decide, by decide⟩ [0, 1, 2, 3] [] [] rfl rfl rfl rfl (by decide) 0 rfl rfl rfl rfl (Nat.le_of_ble_eq_true rfl) d_Md_differ_118 ⟨by decide, by decide⟩ (fun r2 w9u2 hw2 => ?_)
                  subst hw2
                  refine g_icmp_ne X 145 d_Md_differ_121 (by decide) (fun h121 => ?_) (fun h121 => ?_)
                  · refine g_iconst (v := nI 1) X d_Md_differ_145 rfl ?_
                    refine g_goto X 150 d_Md_differ_146 (by decide) ?_
                    refine g_topE (show nI 1 = bI true from rfl) ?_
                    refine g_istore X [(8, .int (bI true)), (0, .ref mo), (1, .int (nI u)), (2, .int (nI v)), (3, .int (nI j)), (4, .int (bI (decide (j < FC u)))), (5, .int (bI (decide (j < FC v)))), (6, .int (nI (FN (48 * u + j)))), (7, .int (nI (FN (48 * v + j)))), (9, .int (nI z))] d_Md_differ_150 (by decide) rfl ?_
                    refine g_iinc X (nI (z + 1)) [(9, .int (nI (z + 1))), (8, .int (bI true)), (0, .ref mo), (1, .int (nI u)), (2, .int (nI v)), (3, .int (nI j)), (4, .int (bI (decide (j < FC u)))), (5, .int (bI (decide (j < FC v)))), (6, .int (nI (FN (48 * u + j)))), (7, .int (nI (FN (48 * v + j))))] d_Md_differ_152 (k := 9) rfl (nI_1 z) (by decide) rfl ?_
                    refine g_goto X 86 d_Md_differ_155 (by decide) ?_
                    refine g_lv [2, 3, 4, 5, 6, 7, 8, 9, 1, 0] rfl ?_
                    exact ih86 (z + 1) true (by omega) (by omega) (by first | exact dm_b h1 h100 | exact dm_o h121 | exact dm_u h142 | exact dm_f h1 h100 h121 h142)
                  · refine g_aload_n X 0 d_Md_differ_124 rfl rfl ?_
                    refine g_iload_n X 1 d_Md_differ_125 rfl rfl ?_
                    refine g_iload X 9 d_Md_differ_126 rfl ?_
                    refine g_iload X 6 d_Md_differ_128 rfl ?_
                    refine g_calliV (n := 3) X [.int (nI u), .int (nI z), .int (nI (FN (48 * u + j)))] (k_Md_isUnder mo tw K R qa qb qk qu qn qx qo qf d qr gm qg qv d2 qs vv qc qm qw FC FN OO u z (FN (48 * u + j)) (hFN) (hFC) (by omega) (by omega) (by omega)) t4_95 t4_97 ts_24 t1_9 t4_98 rfl rfl (by decide +kernel) ⟨by decide, by decide⟩ [0, 1, 2, 3] [] [] rfl rfl rfl rfl (by decide) 0 rfl rfl rfl rfl (Nat.le_of_ble_eq_true rfl) d_Md_differ_130 ⟨by decide, by decide⟩ (fun r3 w9u3 hw3 => ?_)
                    subst hw3
                    refine g_aload_n X 0 d_Md_differ_133 rfl rfl ?_
                    refine g_iload_n X 2 d_Md_differ_134 rfl rfl ?_
                    refine g_iload X 9 d_Md_differ_135 rfl ?_
                    refine g_iload X 7 d_Md_differ_137 rfl ?_
                    refine g_calliV (n := 3) X [.int (nI v), .int (nI z), .int (nI (FN (48 * v + j)))] (k_Md_isUnder mo tw K R qa qb qk qu qn qx qo qf d qr gm qg qv d2 qs vv qc qm qw FC FN OO v z (FN (48 * v + j)) (hFN) (hFC) (by omega) (by omega) (by omega)) t4_95 t4_97 ts_24 t1_9 t4_98 rfl rfl (by decide +kernel) ⟨by decide, by decide⟩ [0, 1, 2, 3] [] [] rfl rfl rfl rfl (by decide) 0 rfl rfl rfl rfl (Nat.le_of_ble_eq_true rfl) d_Md_differ_139 ⟨by decide, by decide⟩ (fun r4 w9u4 hw4 => ?_)
                    subst hw4
                    refine g_icmp_eq X 149 d_Md_differ_142 (by decide) (fun h142 => ?_) (fun h142 => ?_)
                    · refine g_iconst (v := nI 0) X d_Md_differ_149 rfl ?_
                      refine g_topE (show nI 0 = bI false from rfl) ?_
                      refine g_istore X [(8, .int (bI false)), (0, .ref mo), (1, .int (nI u)), (2, .int (nI v)), (3, .int (nI j)), (4, .int (bI (decide (j < FC u)))), (5, .int (bI (decide (j < FC v)))), (6, .int (nI (FN (48 * u + j)))), (7, .int (nI (FN (48 * v + j)))), (9, .int (nI z))] d_Md_differ_150 (by decide) rfl ?_
                      refine g_iinc X (nI (z + 1)) [(9, .int (nI (z + 1))), (8, .int (bI false)), (0, .ref mo), (1, .int (nI u)), (2, .int (nI v)), (3, .int (nI j)), (4, .int (bI (decide (j < FC u)))), (5, .int (bI (decide (j < FC v)))), (6, .int (nI (FN (48 * u + j)))), (7, .int (nI (FN (48 * v + j))))] d_Md_differ_152 (k := 9) rfl (nI_1 z) (by decide) rfl ?_
                      refine g_goto X 86 d_Md_differ_155 (by decide) ?_
                      refine g_lv [2, 3, 4, 5, 6, 7, 8, 9, 1, 0] rfl ?_
                      exact ih86 (z + 1) false (by omega) (by omega) (by first | exact dm_b h1 h100 | exact dm_o h121 | exact dm_u h142 | exact dm_f h1 h100 h121 h142)
                    · refine g_iconst (v := nI 1) X d_Md_differ_145 rfl ?_
                      refine g_goto X 150 d_Md_differ_146 (by decide) ?_
                      refine g_topE (show nI 1 = bI true from rfl) ?_
                      refine g_istore X [(8, .int (bI true)), (0, .ref mo), (1, .int (nI u)), (2, .int (nI v)), (3, .int (nI j)), (4, .int (bI (decide (j < FC u)))), (5, .int (bI (decide (j < FC v)))), (6, .int (nI (FN (48 * u + j)))), (7, .int (nI (FN (48 * v + j)))), (9, .int (nI z))] d_Md_differ_150 (by decide) rfl ?_
                      refine g_iinc X (nI (z + 1)) [(9, .int (nI (z + 1))), (8, .int (bI true)), (0, .ref mo), (1, .int (nI u)), (2, .int (nI v)), (3, .int (nI j)), (4, .int (bI (decide (j < FC u)))), (5, .int (bI (decide (j < FC v)))), (6, .int (nI (FN (48 * u + j)))), (7, .int (nI (FN (48 * v + j))))] d_Md_differ_152 (k := 9) rfl (nI_1 z) (by decide) rfl ?_
                      refine g_goto X 86 d_Md_differ_155 (by decide) ?_
                      refine g_lv [2, 3, 4, 5, 6, 7, 8, 9, 1, 0] rfl ?_
                      exact ih86 (z + 1) true (by omega) (by omega) (by first | exact dm_b h1 h100 | exact dm_o h121 | exact dm_u h142 | exact dm_f h1 h100 h121 h142)
        refine g_aload_n X 0 d_Md_differ_43 rfl rfl ?_
        refine g_get (C := R_Md) (T := T_Md) (N := 22) X 0 20 in_Md rfl rfl (by decide) t3_167 rfl rfl d_Md_differ_44 ?_
        refine g_bipush (v := nI 48) X d_Md_differ_47 rfl ?_
        refine g_iload_n X 1 d_Md_differ_49 rfl rfl ?_
        refine g_imul X (nI (48 * u)) d_Md_differ_50 (pk_mul 48 u) ?_
        refine g_iload_n X 3 d_Md_differ_51 rfl rfl ?_
        refine g_iadd X (nI (48 * u + j)) d_Md_differ_52 (nI_add (48 * u) j) ?_
        refine g_ialdN X 2 0 rfl rfl (by omega) (by omega) d_Md_differ_53 ?_
        refine g_istore X [(6, .int (nI (FN (48 * u + j)))), (5, .int (bI (decide (j < FC v)))), (4, .int (bI (decide (j < FC u)))), (0, .ref mo), (1, .int (nI u)), (2, .int (nI v)), (3, .int (nI j))] d_Md_differ_54 (by decide) rfl ?_
        refine g_aload_n X 0 d_Md_differ_56 rfl rfl ?_
        refine g_get (C := R_Md) (T := T_Md) (N := 22) X 0 20 in_Md rfl rfl (by decide) t3_167 rfl rfl d_Md_differ_57 ?_
        refine g_bipush (v := nI 48) X d_Md_differ_60 rfl ?_
        refine g_iload_n X 2 d_Md_differ_62 rfl rfl ?_
        refine g_imul X (nI (48 * v)) d_Md_differ_63 (pk_mul 48 v) ?_
        refine g_iload_n X 3 d_Md_differ_64 rfl rfl ?_
        refine g_iadd X (nI (48 * v + j)) d_Md_differ_65 (nI_add (48 * v) j) ?_
        refine g_ialdN X 2 0 rfl rfl (by omega) (by omega) d_Md_differ_66 ?_
        refine g_istore X [(7, .int (nI (FN (48 * v + j)))), (6, .int (nI (FN (48 * u + j)))), (5, .int (bI (decide (j < FC v)))), (4, .int (bI (decide (j < FC u)))), (0, .ref mo), (1, .int (nI u)), (2, .int (nI v)), (3, .int (nI j))] d_Md_differ_67 (by decide) rfl ?_
        refine g_iload X 6 d_Md_differ_69 rfl ?_
        refine g_iload X 7 d_Md_differ_71 rfl ?_
        refine n_icmp_eq X 80 d_Md_differ_73 (by decide) (by omega) (by omega) (fun h73 => ?_) (fun h73 => ?_)
        · refine g_iconst (v := nI 0) X d_Md_differ_80 rfl ?_
          refine g_topE (show nI 0 = bI (!decide (FN (48 * u + j) = FN (48 * v + j))) from by rw [decide_eq_true h73]; rfl) ?_
          refine g_istore X [(8, .int (bI (!decide (FN (48 * u + j) = FN (48 * v + j))))), (7, .int (nI (FN (48 * v + j)))), (6, .int (nI (FN (48 * u + j)))), (5, .int (bI (decide (j < FC v)))), (4, .int (bI (decide (j < FC u)))), (0, .ref mo), (1, .int (nI u)), (2, .int (nI v)), (3, .int (nI j))] d_Md_differ_81 (by decide) rfl ?_
          refine g_iconst (v := nI 0) X d_Md_differ_83 rfl ?_
          refine g_istore X [(9, .int (nI 0)), (8, .int (bI (!decide (FN (48 * u + j) = FN (48 * v + j))))), (7, .int (nI (FN (48 * v + j)))), (6, .int (nI (FN (48 * u + j)))), (5, .int (bI (decide (j < FC v)))), (4, .int (bI (decide (j < FC u)))), (0, .ref mo), (1, .int (nI u)), (2, .int (nI v)), (3, .int (nI j))] d_Md_differ_84 (by decide) rfl ?_
          refine g_lv [6, 7, 8, 9, 5, 4, 3, 2, 1, 0] rfl ?_
          exact L86 ((48 - 0) + 1) 0 (!decide (FN (48 * u + j) = FN (48 * v + j))) (Nat.lt_succ_self _) (by omega) (dm_0)
        · refine g_iconst (v := nI 1) X d_Md_differ_76 rfl ?_
          refine g_goto X 81 d_Md_differ_77 (by decide) ?_
          refine g_topE (show nI 1 = bI (!decide (FN (48 * u + j) = FN (48 * v + j))) from by rw [decide_eq_false h73]; rfl) ?_
          refine g_istore X [(8, .int (bI (!decide (FN (48 * u + j) = FN (48 * v + j))))), (7, .int (nI (FN (48 * v + j)))), (6, .int (nI (FN (48 * u + j)))), (5, .int (bI (decide (j < FC v)))), (4, .int (bI (decide (j < FC u)))), (0, .ref mo), (1, .int (nI u)), (2, .int (nI v)), (3, .int (nI j))] d_Md_differ_81 (by decide) rfl ?_
          refine g_iconst (v := nI 0) X d_Md_differ_83 rfl ?_
          refine g_istore X [(9, .int (nI 0)), (8, .int (bI (!decide (FN (48 * u + j) = FN (48 * v + j))))), (7, .int (nI (FN (48 * v + j)))), (6, .int (nI (FN (48 * u + j)))), (5, .int (bI (decide (j < FC v)))), (4, .int (bI (decide (j < FC u)))), (0, .ref mo), (1, .int (nI u)), (2, .int (nI v)), (3, .int (nI j))] d_Md_differ_84 (by decide) rfl ?_
          refine g_lv [6, 7, 8, 9, 5, 4, 3, 2, 1, 0] rfl ?_
          exact L86 ((48 - 0) + 1) 0 (!decide (FN (48 * u + j) = FN (48 * v + j))) (Nat.lt_succ_self _) (by omega) (dm_0)
      · refine g_iconst (v := nI 1) X d_Md_differ_41 rfl ?_
        exact g_zret X hA9 hQ9 hr9 (by first | exact Or.inl rfl | exact Or.inr rfl) hlk9 () [0, 1, 2, 3] rfl rfl d_Md_differ_42 (by rw [dfM_ne h38]; rfl)
    · refine g_iconst (v := nI 1) X d_Md_differ_27 rfl ?_
      refine g_goto X 32 d_Md_differ_28 (by decide) ?_
      refine g_topE (show nI 1 = bI (decide (j < FC v)) from by rw [decide_eq_true (by omega)]; rfl) ?_
      refine g_istore X [(5, .int (bI (decide (j < FC v)))), (4, .int (bI (decide (j < FC u)))), (0, .ref mo), (1, .int (nI u)), (2, .int (nI v)), (3, .int (nI j))] d_Md_differ_32 (by decide) rfl ?_
      refine g_iload X 4 d_Md_differ_34 rfl ?_
      refine g_iload X 5 d_Md_differ_36 rfl ?_
      refine g_icmp_eq X 43 d_Md_differ_38 (by decide) (fun h38 => ?_) (fun h38 => ?_)
      · have L86 : ∀ (N86 : Nat) (z : Nat) (b9 : Bool), (48 - z) < N86 → (z ≤ 48) → (b9 = dmB FC FN OO u v j z) → G p l e ({ frames := 1, cells := 0, slots := 0, locals := 23 } : Room) s m args below meth c 10 D A s.heap Q 0 0 [(mo, .inr (8, [.int tw, .int (nI K), .int (nI R), .ref qa, .ref qb, .ref qk, .ref qu, .ref qn, .ref qx, .ref qo, .ref qf, .int (nI d), .ref qr, .int (nI gm), .ref qg, .ref qv, .int (nI d2), .ref qs, .int (nI vv), .ref qc, .ref qm, .ref qw])), (qc, .inl (cI, 8, .inl (nf FC))), (qm, .inl (cI, 384, .inl (nf FN))), (qw, .inl (cZ, 18432, .inl (zf OO)))] [(0, .ref mo), (1, .int (nI u)), (2, .int (nI v)), (3, .int (nI j)), (4, .int (bI (decide (j < FC u)))), (5, .int (bI (decide (j < FC v)))), (6, .int (nI (FN (48 * u + j)))), (7, .int (nI (FN (48 * v + j)))), (8, .int (bI b9)), (9, .int (nI z))] 86 [] := by
          intro N86
          induction N86 with
          | zero =>
            intro z b9 hN
            exact absurd hN (Nat.not_lt_zero _)
          | succ N86 ih86 =>
            intro z b9 hN86 hz h1
            refine g_iload X 9 d_Md_differ_86 rfl ?_
            refine g_bipush (v := nI 48) X d_Md_differ_88 rfl ?_
            refine n_icmp_ge X 158 d_Md_differ_90 (by decide) (by omega) (by omega) (fun h90 => ?_) (fun h90 => ?_)
            · refine g_iload X 4 d_Md_differ_158 rfl ?_
              refine b_if_eq X 172 d_Md_differ_160 (by decide) (fun h160 => ?_) (fun h160 => ?_)
              · refine g_iconst (v := nI 0) X d_Md_differ_172 rfl ?_
                exact g_zret X hA9 hQ9 hr9 (by first | exact Or.inl rfl | exact Or.inr rfl) hlk9 () [0, 1, 2, 3] rfl rfl d_Md_differ_173 (by first | (rw [dfM_f h38 h160]; rfl) | (have e9 : z = 48 := (by omega); subst e9; rw [dfM_b h38 h160 h1 h165]; rfl) | (rw [h95] at h160; cases h160))
              · refine g_iload X 8 d_Md_differ_163 rfl ?_
                refine b_if_eq X 172 d_Md_differ_165 (by decide) (fun h165 => ?_) (fun h165 => ?_)
                · refine g_iconst (v := nI 0) X d_Md_differ_172 rfl ?_
                  exact g_zret X hA9 hQ9 hr9 (by first | exact Or.inl rfl | exact Or.inr rfl) hlk9 () [0, 1, 2, 3] rfl rfl d_Md_differ_173 (by first | (rw [dfM_f h38 h160]; rfl) | (have e9 : z = 48 := (by omega); subst e9; rw [dfM_b h38 h160 h1 h165]; rfl) | (rw [h95] at h160; cases h160))
                · refine g_iconst (v := nI 1) X d_Md_differ_168 rfl ?_
                  refine g_goto X 173 d_Md_differ_169 (by decide) ?_
                  exact g_zret X hA9 hQ9 hr9 (by first | exact Or.inl rfl | exact Or.inr rfl) hlk9 () [0, 1, 2, 3] rfl rfl d_Md_differ_173 (by first | (rw [dfM_f h38 h160]; rfl) | (have e9 : z = 48 := (by omega); subst e9; rw [dfM_b h38 h160 h1 h165]; rfl) | (rw [h95] at h160; cases h160))
            · refine g_iload X 4 d_Md_differ_93 rfl ?_
              refine b_if_eq X 158 d_Md_differ_95 (by decide) (fun h95 => ?_) (fun h95 => ?_)
              · refine g_iload X 4 d_Md_differ_158 rfl ?_
                refine b_if_eq X 172 d_Md_differ_160 (by decide) (fun h160 => ?_) (fun h160 => ?_)
                · refine g_iconst (v := nI 0) X d_Md_differ_172 rfl ?_
                  exact g_zret X hA9 hQ9 hr9 (by first | exact Or.inl rfl | exact Or.inr rfl) hlk9 () [0, 1, 2, 3] rfl rfl d_Md_differ_173 (by first | (rw [dfM_f h38 h160]; rfl) | (have e9 : z = 48 := (by omega); subst e9; rw [dfM_b h38 h160 h1 h165]; rfl) | (rw [h95] at h160; cases h160))
                · refine g_iload X 8 d_Md_differ_163 rfl ?_
                  refine b_if_eq X 172 d_Md_differ_165 (by decide) (fun h165 => ?_) (fun h165 => ?_)
                  · refine g_iconst (v := nI 0) X d_Md_differ_172 rfl ?_
                    exact g_zret X hA9 hQ9 hr9 (by first | exact Or.inl rfl | exact Or.inr rfl) hlk9 () [0, 1, 2, 3] rfl rfl d_Md_differ_173 (by first | (rw [dfM_f h38 h160]; rfl) | (have e9 : z = 48 := (by omega); subst e9; rw [dfM_b h38 h160 h1 h165]; rfl) | (rw [h95] at h160; cases h160))
                  · refine g_iconst (v := nI 1) X d_Md_differ_168 rfl ?_
                    refine g_goto X 173 d_Md_differ_169 (by decide) ?_
                    exact g_zret X hA9 hQ9 hr9 (by first | exact Or.inl rfl | exact Or.inr rfl) hlk9 () [0, 1, 2, 3] rfl rfl d_Md_differ_173 (by first | (rw [dfM_f h38 h160]; rfl) | (have e9 : z = 48 := (by omega); subst e9; rw [dfM_b h38 h160 h1 h165]; rfl) | (rw [h95] at h160; cases h160))
              · refine g_iload X 8 d_Md_differ_98 rfl ?_
                refine b_if_ne X 145 d_Md_differ_100 (by decide) (fun h100 => ?_) (fun h100 => ?_)
                · refine g_iconst (v := nI 1) X d_Md_differ_145 rfl ?_
                  refine g_goto X 150 d_Md_differ_146 (by decide) ?_
                  refine g_topE (show nI 1 = bI true from rfl) ?_
                  refine g_istore X [(8, .int (bI true)), (0, .ref mo), (1, .int (nI u)), (2, .int (nI v)), (3, .int (nI j)), (4, .int (bI (decide (j < FC u)))), (5, .int (bI (decide (j < FC v)))), (6, .int (nI (FN (48 * u + j)))), (7, .int (nI (FN (48 * v + j)))), (9, .int (nI z))] d_Md_differ_150 (by decide) rfl ?_
                  refine g_iinc X (nI (z + 1)) [(9, .int (nI (z + 1))), (8, .int (bI true)), (0, .ref mo), (1, .int (nI u)), (2, .int (nI v)), (3, .int (nI j)), (4, .int (bI (decide (j < FC u)))), (5, .int (bI (decide (j < FC v)))), (6, .int (nI (FN (48 * u + j)))), (7, .int (nI (FN (48 * v + j))))] d_Md_differ_152 (k := 9) rfl (nI_1 z) (by decide) rfl ?_
                  refine g_goto X 86 d_Md_differ_155 (by decide) ?_
                  refine g_lv [2, 3, 4, 5, 6, 7, 8, 9, 1, 0] rfl ?_
                  exact ih86 (z + 1) true (by omega) (by omega) (by first | exact dm_b h1 h100 | exact dm_o h121 | exact dm_u h142 | exact dm_f h1 h100 h121 h142)
                · refine g_aload_n X 0 d_Md_differ_103 rfl rfl ?_
                  refine g_iload_n X 1 d_Md_differ_104 rfl rfl ?_
                  refine g_iload X 9 d_Md_differ_105 rfl ?_
                  refine g_iload X 6 d_Md_differ_107 rfl ?_
                  refine g_calliV (n := 3) X [.int (nI u), .int (nI z), .int (nI (FN (48 * u + j)))] (k_Md_isOver mo tw K R qa qb qk qu qn qx qo qf d qr gm qg qv d2 qs vv qc qm qw FC FN OO u z (FN (48 * u + j)) (hFN) (hFC) (by omega) (by omega) (by omega)) t4_91 t4_93 ts_23 t1_9 t4_94 rfl rfl (by decide +kernel) ⟨by decide, by decide⟩ [0, 1, 2, 3] [] [] rfl rfl rfl rfl (by decide) 0 rfl rfl rfl rfl (Nat.le_of_ble_eq_true rfl) d_Md_differ_109 ⟨by decide, by decide⟩ (fun r5 w9u5 hw5 => ?_)
                  subst hw5
                  refine g_aload_n X 0 d_Md_differ_112 rfl rfl ?_
                  refine g_iload_n X 2 d_Md_differ_113 rfl rfl ?_
                  refine g_iload X 9 d_Md_differ_114 rfl ?_
                  refine g_iload X 7 d_Md_differ_116 rfl ?_
                  refine g_calliV (n := 3) X [.int (nI v), .int (nI z), .int (nI (FN (48 * v + j)))] (k_Md_isOver mo tw K R qa qb qk qu qn qx qo qf d qr gm qg qv d2 qs vv qc qm qw FC FN OO v z (FN (48 * v + j)) (hFN) (hFC) (by omega) (by omega) (by omega)) t4_91 t4_93 ts_23 t1_9 t4_94 rfl rfl (by decide +kernel) ⟨by decide, by decide⟩ [0, 1, 2, 3] [] [] rfl rfl rfl rfl (by decide) 0 rfl rfl rfl rfl (Nat.le_of_ble_eq_true rfl) d_Md_differ_118 ⟨by decide, by decide⟩ (fun r6 w9u6 hw6 => ?_)
                  subst hw6
                  refine g_icmp_ne X 145 d_Md_differ_121 (by decide) (fun h121 => ?_) (fun h121 => ?_)
                  · refine g_iconst (v := nI 1) X d_Md_differ_145 rfl ?_
                    refine g_goto X 150 d_Md_differ_146 (by decide) ?_
                    refine g_topE (show nI 1 = bI true from rfl) ?_
                    refine g_istore X [(8, .int (bI true)), (0, .ref mo), (1, .int (nI u)), (2, .int (nI v)), (3, .int (nI j)), (4, .int (bI (decide (j < FC u)))), (5, .int (bI (decide (j < FC v)))), (6, .int (nI (FN (48 * u + j)))), (7, .int (nI (FN (48 * v + j)))), (9, .int (nI z))] d_Md_differ_150 (by decide) rfl ?_
                    refine g_iinc X (nI (z + 1)) [(9, .int (nI (z + 1))), (8, .int (bI true)), (0, .ref mo), (1, .int (nI u)), (2, .int (nI v)), (3, .int (nI j)), (4, .int (bI (decide (j < FC u)))), (5, .int (bI (decide (j < FC v)))), (6, .int (nI (FN (48 * u + j)))), (7, .int (nI (FN (48 * v + j))))] d_Md_differ_152 (k := 9) rfl (nI_1 z) (by decide) rfl ?_
                    refine g_goto X 86 d_Md_differ_155 (by decide) ?_
                    refine g_lv [2, 3, 4, 5, 6, 7, 8, 9, 1, 0] rfl ?_
                    exact ih86 (z + 1) true (by omega) (by omega) (by first | exact dm_b h1 h100 | exact dm_o h121 | exact dm_u h142 | exact dm_f h1 h100 h121 h142)
                  · refine g_aload_n X 0 d_Md_differ_124 rfl rfl ?_
                    refine g_iload_n X 1 d_Md_differ_125 rfl rfl ?_
                    refine g_iload X 9 d_Md_differ_126 rfl ?_
                    refine g_iload X 6 d_Md_differ_128 rfl ?_
                    refine g_calliV (n := 3) X [.int (nI u), .int (nI z), .int (nI (FN (48 * u + j)))] (k_Md_isUnder mo tw K R qa qb qk qu qn qx qo qf d qr gm qg qv d2 qs vv qc qm qw FC FN OO u z (FN (48 * u + j)) (hFN) (hFC) (by omega) (by omega) (by omega)) t4_95 t4_97 ts_24 t1_9 t4_98 rfl rfl (by decide +kernel) ⟨by decide, by decide⟩ [0, 1, 2, 3] [] [] rfl rfl rfl rfl (by decide) 0 rfl rfl rfl rfl (Nat.le_of_ble_eq_true rfl) d_Md_differ_130 ⟨by decide, by decide⟩ (fun r7 w9u7 hw7 => ?_)
                    subst hw7
                    refine g_aload_n X 0 d_Md_differ_133 rfl rfl ?_
                    refine g_iload_n X 2 d_Md_differ_134 rfl rfl ?_
                    refine g_iload X 9 d_Md_differ_135 rfl ?_
                    refine g_iload X 7 d_Md_differ_137 rfl ?_
                    refine g_calliV (n := 3) X [.int (nI v), .int (nI z), .int (nI (FN (48 * v + j)))] (k_Md_isUnder mo tw K R qa qb qk qu qn qx qo qf d qr gm qg qv d2 qs vv qc qm qw FC FN OO v z (FN (48 * v + j)) (hFN) (hFC) (by omega) (by omega) (by omega)) t4_95 t4_97 ts_24 t1_9 t4_98 rfl rfl (by decide +kernel) ⟨by decide, by decide⟩ [0, 1, 2, 3] [] [] rfl rfl rfl rfl (by decide) 0 rfl rfl rfl rfl (Nat.le_of_ble_eq_true rfl) d_Md_differ_139 ⟨by decide, by decide⟩ (fun r8 w9u8 hw8 => ?_)
                    subst hw8
                    refine g_icmp_eq X 149 d_Md_differ_142 (by decide) (fun h142 => ?_) (fun h142 => ?_)
                    · refine g_iconst (v := nI 0) X d_Md_differ_149 rfl ?_
                      refine g_topE (show nI 0 = bI false from rfl) ?_
                      refine g_istore X [(8, .int (bI false)), (0, .ref mo), (1, .int (nI u)), (2, .int (nI v)), (3, .int (nI j)), (4, .int (bI (decide (j < FC u)))), (5, .int (bI (decide (j < FC v)))), (6, .int (nI (FN (48 * u + j)))), (7, .int (nI (FN (48 * v + j)))), (9, .int (nI z))] d_Md_differ_150 (by decide) rfl ?_
                      refine g_iinc X (nI (z + 1)) [(9, .int (nI (z + 1))), (8, .int (bI false)), (0, .ref mo), (1, .int (nI u)), (2, .int (nI v)), (3, .int (nI j)), (4, .int (bI (decide (j < FC u)))), (5, .int (bI (decide (j < FC v)))), (6, .int (nI (FN (48 * u + j)))), (7, .int (nI (FN (48 * v + j))))] d_Md_differ_152 (k := 9) rfl (nI_1 z) (by decide) rfl ?_
                      refine g_goto X 86 d_Md_differ_155 (by decide) ?_
                      refine g_lv [2, 3, 4, 5, 6, 7, 8, 9, 1, 0] rfl ?_
                      exact ih86 (z + 1) false (by omega) (by omega) (by first | exact dm_b h1 h100 | exact dm_o h121 | exact dm_u h142 | exact dm_f h1 h100 h121 h142)
                    · refine g_iconst (v := nI 1) X d_Md_differ_145 rfl ?_
                      refine g_goto X 150 d_Md_differ_146 (by decide) ?_
                      refine g_topE (show nI 1 = bI true from rfl) ?_
                      refine g_istore X [(8, .int (bI true)), (0, .ref mo), (1, .int (nI u)), (2, .int (nI v)), (3, .int (nI j)), (4, .int (bI (decide (j < FC u)))), (5, .int (bI (decide (j < FC v)))), (6, .int (nI (FN (48 * u + j)))), (7, .int (nI (FN (48 * v + j)))), (9, .int (nI z))] d_Md_differ_150 (by decide) rfl ?_
                      refine g_iinc X (nI (z + 1)) [(9, .int (nI (z + 1))), (8, .int (bI true)), (0, .ref mo), (1, .int (nI u)), (2, .int (nI v)), (3, .int (nI j)), (4, .int (bI (decide (j < FC u)))), (5, .int (bI (decide (j < FC v)))), (6, .int (nI (FN (48 * u + j)))), (7, .int (nI (FN (48 * v + j))))] d_Md_differ_152 (k := 9) rfl (nI_1 z) (by decide) rfl ?_
                      refine g_goto X 86 d_Md_differ_155 (by decide) ?_
                      refine g_lv [2, 3, 4, 5, 6, 7, 8, 9, 1, 0] rfl ?_
                      exact ih86 (z + 1) true (by omega) (by omega) (by first | exact dm_b h1 h100 | exact dm_o h121 | exact dm_u h142 | exact dm_f h1 h100 h121 h142)
        refine g_aload_n X 0 d_Md_differ_43 rfl rfl ?_
        refine g_get (C := R_Md) (T := T_Md) (N := 22) X 0 20 in_Md rfl rfl (by decide) t3_167 rfl rfl d_Md_differ_44 ?_
        refine g_bipush (v := nI 48) X d_Md_differ_47 rfl ?_
        refine g_iload_n X 1 d_Md_differ_49 rfl rfl ?_
        refine g_imul X (nI (48 * u)) d_Md_differ_50 (pk_mul 48 u) ?_
        refine g_iload_n X 3 d_Md_differ_51 rfl rfl ?_
        refine g_iadd X (nI (48 * u + j)) d_Md_differ_52 (nI_add (48 * u) j) ?_
        refine g_ialdN X 2 0 rfl rfl (by omega) (by omega) d_Md_differ_53 ?_
        refine g_istore X [(6, .int (nI (FN (48 * u + j)))), (5, .int (bI (decide (j < FC v)))), (4, .int (bI (decide (j < FC u)))), (0, .ref mo), (1, .int (nI u)), (2, .int (nI v)), (3, .int (nI j))] d_Md_differ_54 (by decide) rfl ?_
        refine g_aload_n X 0 d_Md_differ_56 rfl rfl ?_
        refine g_get (C := R_Md) (T := T_Md) (N := 22) X 0 20 in_Md rfl rfl (by decide) t3_167 rfl rfl d_Md_differ_57 ?_
        refine g_bipush (v := nI 48) X d_Md_differ_60 rfl ?_
        refine g_iload_n X 2 d_Md_differ_62 rfl rfl ?_
        refine g_imul X (nI (48 * v)) d_Md_differ_63 (pk_mul 48 v) ?_
        refine g_iload_n X 3 d_Md_differ_64 rfl rfl ?_
        refine g_iadd X (nI (48 * v + j)) d_Md_differ_65 (nI_add (48 * v) j) ?_
        refine g_ialdN X 2 0 rfl rfl (by omega) (by omega) d_Md_differ_66 ?_
        refine g_istore X [(7, .int (nI (FN (48 * v + j)))), (6, .int (nI (FN (48 * u + j)))), (5, .int (bI (decide (j < FC v)))), (4, .int (bI (decide (j < FC u)))), (0, .ref mo), (1, .int (nI u)), (2, .int (nI v)), (3, .int (nI j))] d_Md_differ_67 (by decide) rfl ?_
        refine g_iload X 6 d_Md_differ_69 rfl ?_
        refine g_iload X 7 d_Md_differ_71 rfl ?_
        refine n_icmp_eq X 80 d_Md_differ_73 (by decide) (by omega) (by omega) (fun h73 => ?_) (fun h73 => ?_)
        · refine g_iconst (v := nI 0) X d_Md_differ_80 rfl ?_
          refine g_topE (show nI 0 = bI (!decide (FN (48 * u + j) = FN (48 * v + j))) from by rw [decide_eq_true h73]; rfl) ?_
          refine g_istore X [(8, .int (bI (!decide (FN (48 * u + j) = FN (48 * v + j))))), (7, .int (nI (FN (48 * v + j)))), (6, .int (nI (FN (48 * u + j)))), (5, .int (bI (decide (j < FC v)))), (4, .int (bI (decide (j < FC u)))), (0, .ref mo), (1, .int (nI u)), (2, .int (nI v)), (3, .int (nI j))] d_Md_differ_81 (by decide) rfl ?_
          refine g_iconst (v := nI 0) X d_Md_differ_83 rfl ?_
          refine g_istore X [(9, .int (nI 0)), (8, .int (bI (!decide (FN (48 * u + j) = FN (48 * v + j))))), (7, .int (nI (FN (48 * v + j)))), (6, .int (nI (FN (48 * u + j)))), (5, .int (bI (decide (j < FC v)))), (4, .int (bI (decide (j < FC u)))), (0, .ref mo), (1, .int (nI u)), (2, .int (nI v)), (3, .int (nI j))] d_Md_differ_84 (by decide) rfl ?_
          refine g_lv [6, 7, 8, 9, 5, 4, 3, 2, 1, 0] rfl ?_
          exact L86 ((48 - 0) + 1) 0 (!decide (FN (48 * u + j) = FN (48 * v + j))) (Nat.lt_succ_self _) (by omega) (dm_0)
        · refine g_iconst (v := nI 1) X d_Md_differ_76 rfl ?_
          refine g_goto X 81 d_Md_differ_77 (by decide) ?_
          refine g_topE (show nI 1 = bI (!decide (FN (48 * u + j) = FN (48 * v + j))) from by rw [decide_eq_false h73]; rfl) ?_
          refine g_istore X [(8, .int (bI (!decide (FN (48 * u + j) = FN (48 * v + j))))), (7, .int (nI (FN (48 * v + j)))), (6, .int (nI (FN (48 * u + j)))), (5, .int (bI (decide (j < FC v)))), (4, .int (bI (decide (j < FC u)))), (0, .ref mo), (1, .int (nI u)), (2, .int (nI v)), (3, .int (nI j))] d_Md_differ_81 (by decide) rfl ?_
          refine g_iconst (v := nI 0) X d_Md_differ_83 rfl ?_
          refine g_istore X [(9, .int (nI 0)), (8, .int (bI (!decide (FN (48 * u + j) = FN (48 * v + j))))), (7, .int (nI (FN (48 * v + j)))), (6, .int (nI (FN (48 * u + j)))), (5, .int (bI (decide (j < FC v)))), (4, .int (bI (decide (j < FC u)))), (0, .ref mo), (1, .int (nI u)), (2, .int (nI v)), (3, .int (nI j))] d_Md_differ_84 (by decide) rfl ?_
          refine g_lv [6, 7, 8, 9, 5, 4, 3, 2, 1, 0] rfl ?_
          exact L86 ((48 - 0) + 1) 0 (!decide (FN (48 * u + j) = FN (48 * v + j))) (Nat.lt_succ_self _) (by omega) (dm_0)
      · refine g_iconst (v := nI 1) X d_Md_differ_41 rfl ?_
        exact g_zret X hA9 hQ9 hr9 (by first | exact Or.inl rfl | exact Or.inr rfl) hlk9 () [0, 1, 2, 3] rfl rfl d_Md_differ_42 (by rw [dfM_ne h38]; rfl)
  · refine g_iconst (v := nI 1) X d_Md_differ_10 rfl ?_
    refine g_goto X 15 d_Md_differ_11 (by decide) ?_
    refine g_topE (show nI 1 = bI (decide (j < FC u)) from by rw [decide_eq_true (by omega)]; rfl) ?_
    refine g_istore X [(4, .int (bI (decide (j < FC u)))), (0, .ref mo), (1, .int (nI u)), (2, .int (nI v)), (3, .int (nI j))] d_Md_differ_15 (by decide) rfl ?_
    refine g_iload_n X 3 d_Md_differ_17 rfl rfl ?_
    refine g_aload_n X 0 d_Md_differ_18 rfl rfl ?_
    refine g_get (C := R_Md) (T := T_Md) (N := 22) X 0 19 in_Md rfl rfl (by decide) t3_166 rfl rfl d_Md_differ_19 ?_
    refine g_iload_n X 2 d_Md_differ_22 rfl rfl ?_
    refine g_ialdN X 1 0 rfl rfl (by omega) (by omega) d_Md_differ_23 ?_
    refine n_icmp_ge X 31 d_Md_differ_24 (by decide) (by omega) (by omega) (fun h24 => ?_) (fun h24 => ?_)
    · refine g_iconst (v := nI 0) X d_Md_differ_31 rfl ?_
      refine g_topE (show nI 0 = bI (decide (j < FC v)) from by rw [decide_eq_false (by omega)]; rfl) ?_
      refine g_istore X [(5, .int (bI (decide (j < FC v)))), (4, .int (bI (decide (j < FC u)))), (0, .ref mo), (1, .int (nI u)), (2, .int (nI v)), (3, .int (nI j))] d_Md_differ_32 (by decide) rfl ?_
      refine g_iload X 4 d_Md_differ_34 rfl ?_
      refine g_iload X 5 d_Md_differ_36 rfl ?_
      refine g_icmp_eq X 43 d_Md_differ_38 (by decide) (fun h38 => ?_) (fun h38 => ?_)
      · have L86 : ∀ (N86 : Nat) (z : Nat) (b9 : Bool), (48 - z) < N86 → (z ≤ 48) → (b9 = dmB FC FN OO u v j z) → G p l e ({ frames := 1, cells := 0, slots := 0, locals := 23 } : Room) s m args below meth c 10 D A s.heap Q 0 0 [(mo, .inr (8, [.int tw, .int (nI K), .int (nI R), .ref qa, .ref qb, .ref qk, .ref qu, .ref qn, .ref qx, .ref qo, .ref qf, .int (nI d), .ref qr, .int (nI gm), .ref qg, .ref qv, .int (nI d2), .ref qs, .int (nI vv), .ref qc, .ref qm, .ref qw])), (qc, .inl (cI, 8, .inl (nf FC))), (qm, .inl (cI, 384, .inl (nf FN))), (qw, .inl (cZ, 18432, .inl (zf OO)))] [(0, .ref mo), (1, .int (nI u)), (2, .int (nI v)), (3, .int (nI j)), (4, .int (bI (decide (j < FC u)))), (5, .int (bI (decide (j < FC v)))), (6, .int (nI (FN (48 * u + j)))), (7, .int (nI (FN (48 * v + j)))), (8, .int (bI b9)), (9, .int (nI z))] 86 [] := by
          intro N86
          induction N86 with
          | zero =>
            intro z b9 hN
            exact absurd hN (Nat.not_lt_zero _)
          | succ N86 ih86 =>
            intro z b9 hN86 hz h1
            refine g_iload X 9 d_Md_differ_86 rfl ?_
            refine g_bipush (v := nI 48) X d_Md_differ_88 rfl ?_
            refine n_icmp_ge X 158 d_Md_differ_90 (by decide) (by omega) (by omega) (fun h90 => ?_) (fun h90 => ?_)
            · refine g_iload X 4 d_Md_differ_158 rfl ?_
              refine b_if_eq X 172 d_Md_differ_160 (by decide) (fun h160 => ?_) (fun h160 => ?_)
              · refine g_iconst (v := nI 0) X d_Md_differ_172 rfl ?_
                exact g_zret X hA9 hQ9 hr9 (by first | exact Or.inl rfl | exact Or.inr rfl) hlk9 () [0, 1, 2, 3] rfl rfl d_Md_differ_173 (by first | (rw [dfM_f h38 h160]; rfl) | (have e9 : z = 48 := (by omega); subst e9; rw [dfM_b h38 h160 h1 h165]; rfl) | (rw [h95] at h160; cases h160))
              · refine g_iload X 8 d_Md_differ_163 rfl ?_
                refine b_if_eq X 172 d_Md_differ_165 (by decide) (fun h165 => ?_) (fun h165 => ?_)
                · refine g_iconst (v := nI 0) X d_Md_differ_172 rfl ?_
                  exact g_zret X hA9 hQ9 hr9 (by first | exact Or.inl rfl | exact Or.inr rfl) hlk9 () [0, 1, 2, 3] rfl rfl d_Md_differ_173 (by first | (rw [dfM_f h38 h160]; rfl) | (have e9 : z = 48 := (by omega); subst e9; rw [dfM_b h38 h160 h1 h165]; rfl) | (rw [h95] at h160; cases h160))
                · refine g_iconst (v := nI 1) X d_Md_differ_168 rfl ?_
                  refine g_goto X 173 d_Md_differ_169 (by decide) ?_
                  exact g_zret X hA9 hQ9 hr9 (by first | exact Or.inl rfl | exact Or.inr rfl) hlk9 () [0, 1, 2, 3] rfl rfl d_Md_differ_173 (by first | (rw [dfM_f h38 h160]; rfl) | (have e9 : z = 48 := (by omega); subst e9; rw [dfM_b h38 h160 h1 h165]; rfl) | (rw [h95] at h160; cases h160))
            · refine g_iload X 4 d_Md_differ_93 rfl ?_
              refine b_if_eq X 158 d_Md_differ_95 (by decide) (fun h95 => ?_) (fun h95 => ?_)
              · refine g_iload X 4 d_Md_differ_158 rfl ?_
                refine b_if_eq X 172 d_Md_differ_160 (by decide) (fun h160 => ?_) (fun h160 => ?_)
                · refine g_iconst (v := nI 0) X d_Md_differ_172 rfl ?_
                  exact g_zret X hA9 hQ9 hr9 (by first | exact Or.inl rfl | exact Or.inr rfl) hlk9 () [0, 1, 2, 3] rfl rfl d_Md_differ_173 (by first | (rw [dfM_f h38 h160]; rfl) | (have e9 : z = 48 := (by omega); subst e9; rw [dfM_b h38 h160 h1 h165]; rfl) | (rw [h95] at h160; cases h160))
                · refine g_iload X 8 d_Md_differ_163 rfl ?_
                  refine b_if_eq X 172 d_Md_differ_165 (by decide) (fun h165 => ?_) (fun h165 => ?_)
                  · refine g_iconst (v := nI 0) X d_Md_differ_172 rfl ?_
                    exact g_zret X hA9 hQ9 hr9 (by first | exact Or.inl rfl | exact Or.inr rfl) hlk9 () [0, 1, 2, 3] rfl rfl d_Md_differ_173 (by first | (rw [dfM_f h38 h160]; rfl) | (have e9 : z = 48 := (by omega); subst e9; rw [dfM_b h38 h160 h1 h165]; rfl) | (rw [h95] at h160; cases h160))
                  · refine g_iconst (v := nI 1) X d_Md_differ_168 rfl ?_
                    refine g_goto X 173 d_Md_differ_169 (by decide) ?_
                    exact g_zret X hA9 hQ9 hr9 (by first | exact Or.inl rfl | exact Or.inr rfl) hlk9 () [0, 1, 2, 3] rfl rfl d_Md_differ_173 (by first | (rw [dfM_f h38 h160]; rfl) | (have e9 : z = 48 := (by omega); subst e9; rw [dfM_b h38 h160 h1 h165]; rfl) | (rw [h95] at h160; cases h160))
              · refine g_iload X 8 d_Md_differ_98 rfl ?_
                refine b_if_ne X 145 d_Md_differ_100 (by decide) (fun h100 => ?_) (fun h100 => ?_)
                · refine g_iconst (v := nI 1) X d_Md_differ_145 rfl ?_
                  refine g_goto X 150 d_Md_differ_146 (by decide) ?_
                  refine g_topE (show nI 1 = bI true from rfl) ?_
                  refine g_istore X [(8, .int (bI true)), (0, .ref mo), (1, .int (nI u)), (2, .int (nI v)), (3, .int (nI j)), (4, .int (bI (decide (j < FC u)))), (5, .int (bI (decide (j < FC v)))), (6, .int (nI (FN (48 * u + j)))), (7, .int (nI (FN (48 * v + j)))), (9, .int (nI z))] d_Md_differ_150 (by decide) rfl ?_
                  refine g_iinc X (nI (z + 1)) [(9, .int (nI (z + 1))), (8, .int (bI true)), (0, .ref mo), (1, .int (nI u)), (2, .int (nI v)), (3, .int (nI j)), (4, .int (bI (decide (j < FC u)))), (5, .int (bI (decide (j < FC v)))), (6, .int (nI (FN (48 * u + j)))), (7, .int (nI (FN (48 * v + j))))] d_Md_differ_152 (k := 9) rfl (nI_1 z) (by decide) rfl ?_
                  refine g_goto X 86 d_Md_differ_155 (by decide) ?_
                  refine g_lv [2, 3, 4, 5, 6, 7, 8, 9, 1, 0] rfl ?_
                  exact ih86 (z + 1) true (by omega) (by omega) (by first | exact dm_b h1 h100 | exact dm_o h121 | exact dm_u h142 | exact dm_f h1 h100 h121 h142)
                · refine g_aload_n X 0 d_Md_differ_103 rfl rfl ?_
                  refine g_iload_n X 1 d_Md_differ_104 rfl rfl ?_
                  refine g_iload X 9 d_Md_differ_105 rfl ?_
                  refine g_iload X 6 d_Md_differ_107 rfl ?_
                  refine g_calliV (n := 3) X [.int (nI u), .int (nI z), .int (nI (FN (48 * u + j)))] (k_Md_isOver mo tw K R qa qb qk qu qn qx qo qf d qr gm qg qv d2 qs vv qc qm qw FC FN OO u z (FN (48 * u + j)) (hFN) (hFC) (by omega) (by omega) (by omega)) t4_91 t4_93 ts_23 t1_9 t4_94 rfl rfl (by decide +kernel) ⟨by decide, by decide⟩ [0, 1, 2, 3] [] [] rfl rfl rfl rfl (by decide) 0 rfl rfl rfl rfl (Nat.le_of_ble_eq_true rfl) d_Md_differ_109 ⟨by decide, by decide⟩ (fun r9 w9u9 hw9 => ?_)
                  subst hw9
                  refine g_aload_n X 0 d_Md_differ_112 rfl rfl ?_
                  refine g_iload_n X 2 d_Md_differ_113 rfl rfl ?_
                  refine g_iload X 9 d_Md_differ_114 rfl ?_
                  refine g_iload X 7 d_Md_differ_116 rfl ?_
                  refine g_calliV (n := 3) X [.int (nI v), .int (nI z), .int (nI (FN (48 * v + j)))] (k_Md_isOver mo tw K R qa qb qk qu qn qx qo qf d qr gm qg qv d2 qs vv qc qm qw FC FN OO v z (FN (48 * v + j)) (hFN) (hFC) (by omega) (by omega) (by omega)) t4_91 t4_93 ts_23 t1_9 t4_94 rfl rfl (by decide +kernel) ⟨by decide, by decide⟩ [0, 1, 2, 3] [] [] rfl rfl rfl rfl (by decide) 0 rfl rfl rfl rfl (Nat.le_of_ble_eq_true rfl) d_Md_differ_118 ⟨by decide, by decide⟩ (fun r10 w9u10 hw10 => ?_)
                  subst hw10
                  refine g_icmp_ne X 145 d_Md_differ_121 (by decide) (fun h121 => ?_) (fun h121 => ?_)
                  · refine g_iconst (v := nI 1) X d_Md_differ_145 rfl ?_
                    refine g_goto X 150 d_Md_differ_146 (by decide) ?_
                    refine g_topE (show nI 1 = bI true from rfl) ?_
                    refine g_istore X [(8, .int (bI true)), (0, .ref mo), (1, .int (nI u)), (2, .int (nI v)), (3, .int (nI j)), (4, .int (bI (decide (j < FC u)))), (5, .int (bI (decide (j < FC v)))), (6, .int (nI (FN (48 * u + j)))), (7, .int (nI (FN (48 * v + j)))), (9, .int (nI z))] d_Md_differ_150 (by decide) rfl ?_
                    refine g_iinc X (nI (z + 1)) [(9, .int (nI (z + 1))), (8, .int (bI true)), (0, .ref mo), (1, .int (nI u)), (2, .int (nI v)), (3, .int (nI j)), (4, .int (bI (decide (j < FC u)))), (5, .int (bI (decide (j < FC v)))), (6, .int (nI (FN (48 * u + j)))), (7, .int (nI (FN (48 * v + j))))] d_Md_differ_152 (k := 9) rfl (nI_1 z) (by decide) rfl ?_
                    refine g_goto X 86 d_Md_differ_155 (by decide) ?_
                    refine g_lv [2, 3, 4, 5, 6, 7, 8, 9, 1, 0] rfl ?_
                    exact ih86 (z + 1) true (by omega) (by omega) (by first | exact dm_b h1 h100 | exact dm_o h121 | exact dm_u h142 | exact dm_f h1 h100 h121 h142)
                  · refine g_aload_n X 0 d_Md_differ_124 rfl rfl ?_
                    refine g_iload_n X 1 d_Md_differ_125 rfl rfl ?_
                    refine g_iload X 9 d_Md_differ_126 rfl ?_
                    refine g_iload X 6 d_Md_differ_128 rfl ?_
                    refine g_calliV (n := 3) X [.int (nI u), .int (nI z), .int (nI (FN (48 * u + j)))] (k_Md_isUnder mo tw K R qa qb qk qu qn qx qo qf d qr gm qg qv d2 qs vv qc qm qw FC FN OO u z (FN (48 * u + j)) (hFN) (hFC) (by omega) (by omega) (by omega)) t4_95 t4_97 ts_24 t1_9 t4_98 rfl rfl (by decide +kernel) ⟨by decide, by decide⟩ [0, 1, 2, 3] [] [] rfl rfl rfl rfl (by decide) 0 rfl rfl rfl rfl (Nat.le_of_ble_eq_true rfl) d_Md_differ_130 ⟨by decide, by decide⟩ (fun r11 w9u11 hw11 => ?_)
                    subst hw11
                    refine g_aload_n X 0 d_Md_differ_133 rfl rfl ?_
                    refine g_iload_n X 2 d_Md_differ_134 rfl rfl ?_
                    refine g_iload X 9 d_Md_differ_135 rfl ?_
                    refine g_iload X 7 d_Md_differ_137 rfl ?_
                    refine g_calliV (n := 3) X [.int (nI v), .int (nI z), .int (nI (FN (48 * v + j)))] (k_Md_isUnder mo tw K R qa qb qk qu qn qx qo qf d qr gm qg qv d2 qs vv qc qm qw FC FN OO v z (FN (48 * v + j)) (hFN) (hFC) (by omega) (by omega) (by omega)) t4_95 t4_97 ts_24 t1_9 t4_98 rfl rfl (by decide +kernel) ⟨by decide, by decide⟩ [0, 1, 2, 3] [] [] rfl rfl rfl rfl (by decide) 0 rfl rfl rfl rfl (Nat.le_of_ble_eq_true rfl) d_Md_differ_139 ⟨by decide, by decide⟩ (fun r12 w9u12 hw12 => ?_)
                    subst hw12
                    refine g_icmp_eq X 149 d_Md_differ_142 (by decide) (fun h142 => ?_) (fun h142 => ?_)
                    · refine g_iconst (v := nI 0) X d_Md_differ_149 rfl ?_
                      refine g_topE (show nI 0 = bI false from rfl) ?_
                      refine g_istore X [(8, .int (bI false)), (0, .ref mo), (1, .int (nI u)), (2, .int (nI v)), (3, .int (nI j)), (4, .int (bI (decide (j < FC u)))), (5, .int (bI (decide (j < FC v)))), (6, .int (nI (FN (48 * u + j)))), (7, .int (nI (FN (48 * v + j)))), (9, .int (nI z))] d_Md_differ_150 (by decide) rfl ?_
                      refine g_iinc X (nI (z + 1)) [(9, .int (nI (z + 1))), (8, .int (bI false)), (0, .ref mo), (1, .int (nI u)), (2, .int (nI v)), (3, .int (nI j)), (4, .int (bI (decide (j < FC u)))), (5, .int (bI (decide (j < FC v)))), (6, .int (nI (FN (48 * u + j)))), (7, .int (nI (FN (48 * v + j))))] d_Md_differ_152 (k := 9) rfl (nI_1 z) (by decide) rfl ?_
                      refine g_goto X 86 d_Md_differ_155 (by decide) ?_
                      refine g_lv [2, 3, 4, 5, 6, 7, 8, 9, 1, 0] rfl ?_
                      exact ih86 (z + 1) false (by omega) (by omega) (by first | exact dm_b h1 h100 | exact dm_o h121 | exact dm_u h142 | exact dm_f h1 h100 h121 h142)
                    · refine g_iconst (v := nI 1) X d_Md_differ_145 rfl ?_
                      refine g_goto X 150 d_Md_differ_146 (by decide) ?_
                      refine g_topE (show nI 1 = bI true from rfl) ?_
                      refine g_istore X [(8, .int (bI true)), (0, .ref mo), (1, .int (nI u)), (2, .int (nI v)), (3, .int (nI j)), (4, .int (bI (decide (j < FC u)))), (5, .int (bI (decide (j < FC v)))), (6, .int (nI (FN (48 * u + j)))), (7, .int (nI (FN (48 * v + j)))), (9, .int (nI z))] d_Md_differ_150 (by decide) rfl ?_
                      refine g_iinc X (nI (z + 1)) [(9, .int (nI (z + 1))), (8, .int (bI true)), (0, .ref mo), (1, .int (nI u)), (2, .int (nI v)), (3, .int (nI j)), (4, .int (bI (decide (j < FC u)))), (5, .int (bI (decide (j < FC v)))), (6, .int (nI (FN (48 * u + j)))), (7, .int (nI (FN (48 * v + j))))] d_Md_differ_152 (k := 9) rfl (nI_1 z) (by decide) rfl ?_
                      refine g_goto X 86 d_Md_differ_155 (by decide) ?_
                      refine g_lv [2, 3, 4, 5, 6, 7, 8, 9, 1, 0] rfl ?_
                      exact ih86 (z + 1) true (by omega) (by omega) (by first | exact dm_b h1 h100 | exact dm_o h121 | exact dm_u h142 | exact dm_f h1 h100 h121 h142)
        refine g_aload_n X 0 d_Md_differ_43 rfl rfl ?_
        refine g_get (C := R_Md) (T := T_Md) (N := 22) X 0 20 in_Md rfl rfl (by decide) t3_167 rfl rfl d_Md_differ_44 ?_
        refine g_bipush (v := nI 48) X d_Md_differ_47 rfl ?_
        refine g_iload_n X 1 d_Md_differ_49 rfl rfl ?_
        refine g_imul X (nI (48 * u)) d_Md_differ_50 (pk_mul 48 u) ?_
        refine g_iload_n X 3 d_Md_differ_51 rfl rfl ?_
        refine g_iadd X (nI (48 * u + j)) d_Md_differ_52 (nI_add (48 * u) j) ?_
        refine g_ialdN X 2 0 rfl rfl (by omega) (by omega) d_Md_differ_53 ?_
        refine g_istore X [(6, .int (nI (FN (48 * u + j)))), (5, .int (bI (decide (j < FC v)))), (4, .int (bI (decide (j < FC u)))), (0, .ref mo), (1, .int (nI u)), (2, .int (nI v)), (3, .int (nI j))] d_Md_differ_54 (by decide) rfl ?_
        refine g_aload_n X 0 d_Md_differ_56 rfl rfl ?_
        refine g_get (C := R_Md) (T := T_Md) (N := 22) X 0 20 in_Md rfl rfl (by decide) t3_167 rfl rfl d_Md_differ_57 ?_
        refine g_bipush (v := nI 48) X d_Md_differ_60 rfl ?_
        refine g_iload_n X 2 d_Md_differ_62 rfl rfl ?_
        refine g_imul X (nI (48 * v)) d_Md_differ_63 (pk_mul 48 v) ?_
        refine g_iload_n X 3 d_Md_differ_64 rfl rfl ?_
        refine g_iadd X (nI (48 * v + j)) d_Md_differ_65 (nI_add (48 * v) j) ?_
        refine g_ialdN X 2 0 rfl rfl (by omega) (by omega) d_Md_differ_66 ?_
        refine g_istore X [(7, .int (nI (FN (48 * v + j)))), (6, .int (nI (FN (48 * u + j)))), (5, .int (bI (decide (j < FC v)))), (4, .int (bI (decide (j < FC u)))), (0, .ref mo), (1, .int (nI u)), (2, .int (nI v)), (3, .int (nI j))] d_Md_differ_67 (by decide) rfl ?_
        refine g_iload X 6 d_Md_differ_69 rfl ?_
        refine g_iload X 7 d_Md_differ_71 rfl ?_
        refine n_icmp_eq X 80 d_Md_differ_73 (by decide) (by omega) (by omega) (fun h73 => ?_) (fun h73 => ?_)
        · refine g_iconst (v := nI 0) X d_Md_differ_80 rfl ?_
          refine g_topE (show nI 0 = bI (!decide (FN (48 * u + j) = FN (48 * v + j))) from by rw [decide_eq_true h73]; rfl) ?_
          refine g_istore X [(8, .int (bI (!decide (FN (48 * u + j) = FN (48 * v + j))))), (7, .int (nI (FN (48 * v + j)))), (6, .int (nI (FN (48 * u + j)))), (5, .int (bI (decide (j < FC v)))), (4, .int (bI (decide (j < FC u)))), (0, .ref mo), (1, .int (nI u)), (2, .int (nI v)), (3, .int (nI j))] d_Md_differ_81 (by decide) rfl ?_
          refine g_iconst (v := nI 0) X d_Md_differ_83 rfl ?_
          refine g_istore X [(9, .int (nI 0)), (8, .int (bI (!decide (FN (48 * u + j) = FN (48 * v + j))))), (7, .int (nI (FN (48 * v + j)))), (6, .int (nI (FN (48 * u + j)))), (5, .int (bI (decide (j < FC v)))), (4, .int (bI (decide (j < FC u)))), (0, .ref mo), (1, .int (nI u)), (2, .int (nI v)), (3, .int (nI j))] d_Md_differ_84 (by decide) rfl ?_
          refine g_lv [6, 7, 8, 9, 5, 4, 3, 2, 1, 0] rfl ?_
          exact L86 ((48 - 0) + 1) 0 (!decide (FN (48 * u + j) = FN (48 * v + j))) (Nat.lt_succ_self _) (by omega) (dm_0)
        · refine g_iconst (v := nI 1) X d_Md_differ_76 rfl ?_
          refine g_goto X 81 d_Md_differ_77 (by decide) ?_
          refine g_topE (show nI 1 = bI (!decide (FN (48 * u + j) = FN (48 * v + j))) from by rw [decide_eq_false h73]; rfl) ?_
          refine g_istore X [(8, .int (bI (!decide (FN (48 * u + j) = FN (48 * v + j))))), (7, .int (nI (FN (48 * v + j)))), (6, .int (nI (FN (48 * u + j)))), (5, .int (bI (decide (j < FC v)))), (4, .int (bI (decide (j < FC u)))), (0, .ref mo), (1, .int (nI u)), (2, .int (nI v)), (3, .int (nI j))] d_Md_differ_81 (by decide) rfl ?_
          refine g_iconst (v := nI 0) X d_Md_differ_83 rfl ?_
          refine g_istore X [(9, .int (nI 0)), (8, .int (bI (!decide (FN (48 * u + j) = FN (48 * v + j))))), (7, .int (nI (FN (48 * v + j)))), (6, .int (nI (FN (48 * u + j)))), (5, .int (bI (decide (j < FC v)))), (4, .int (bI (decide (j < FC u)))), (0, .ref mo), (1, .int (nI u)), (2, .int (nI v)), (3, .int (nI j))] d_Md_differ_84 (by decide) rfl ?_
          refine g_lv [6, 7, 8, 9, 5, 4, 3, 2, 1, 0] rfl ?_
          exact L86 ((48 - 0) + 1) 0 (!decide (FN (48 * u + j) = FN (48 * v + j))) (Nat.lt_succ_self _) (by omega) (dm_0)
      · refine g_iconst (v := nI 1) X d_Md_differ_41 rfl ?_
        exact g_zret X hA9 hQ9 hr9 (by first | exact Or.inl rfl | exact Or.inr rfl) hlk9 () [0, 1, 2, 3] rfl rfl d_Md_differ_42 (by rw [dfM_ne h38]; rfl)
    · refine g_iconst (v := nI 1) X d_Md_differ_27 rfl ?_
      refine g_goto X 32 d_Md_differ_28 (by decide) ?_
      refine g_topE (show nI 1 = bI (decide (j < FC v)) from by rw [decide_eq_true (by omega)]; rfl) ?_
      refine g_istore X [(5, .int (bI (decide (j < FC v)))), (4, .int (bI (decide (j < FC u)))), (0, .ref mo), (1, .int (nI u)), (2, .int (nI v)), (3, .int (nI j))] d_Md_differ_32 (by decide) rfl ?_
      refine g_iload X 4 d_Md_differ_34 rfl ?_
      refine g_iload X 5 d_Md_differ_36 rfl ?_
      refine g_icmp_eq X 43 d_Md_differ_38 (by decide) (fun h38 => ?_) (fun h38 => ?_)
      · have L86 : ∀ (N86 : Nat) (z : Nat) (b9 : Bool), (48 - z) < N86 → (z ≤ 48) → (b9 = dmB FC FN OO u v j z) → G p l e ({ frames := 1, cells := 0, slots := 0, locals := 23 } : Room) s m args below meth c 10 D A s.heap Q 0 0 [(mo, .inr (8, [.int tw, .int (nI K), .int (nI R), .ref qa, .ref qb, .ref qk, .ref qu, .ref qn, .ref qx, .ref qo, .ref qf, .int (nI d), .ref qr, .int (nI gm), .ref qg, .ref qv, .int (nI d2), .ref qs, .int (nI vv), .ref qc, .ref qm, .ref qw])), (qc, .inl (cI, 8, .inl (nf FC))), (qm, .inl (cI, 384, .inl (nf FN))), (qw, .inl (cZ, 18432, .inl (zf OO)))] [(0, .ref mo), (1, .int (nI u)), (2, .int (nI v)), (3, .int (nI j)), (4, .int (bI (decide (j < FC u)))), (5, .int (bI (decide (j < FC v)))), (6, .int (nI (FN (48 * u + j)))), (7, .int (nI (FN (48 * v + j)))), (8, .int (bI b9)), (9, .int (nI z))] 86 [] := by
          intro N86
          induction N86 with
          | zero =>
            intro z b9 hN
            exact absurd hN (Nat.not_lt_zero _)
          | succ N86 ih86 =>
            intro z b9 hN86 hz h1
            refine g_iload X 9 d_Md_differ_86 rfl ?_
            refine g_bipush (v := nI 48) X d_Md_differ_88 rfl ?_
            refine n_icmp_ge X 158 d_Md_differ_90 (by decide) (by omega) (by omega) (fun h90 => ?_) (fun h90 => ?_)
            · refine g_iload X 4 d_Md_differ_158 rfl ?_
              refine b_if_eq X 172 d_Md_differ_160 (by decide) (fun h160 => ?_) (fun h160 => ?_)
              · refine g_iconst (v := nI 0) X d_Md_differ_172 rfl ?_
                exact g_zret X hA9 hQ9 hr9 (by first | exact Or.inl rfl | exact Or.inr rfl) hlk9 () [0, 1, 2, 3] rfl rfl d_Md_differ_173 (by first | (rw [dfM_f h38 h160]; rfl) | (have e9 : z = 48 := (by omega); subst e9; rw [dfM_b h38 h160 h1 h165]; rfl) | (rw [h95] at h160; cases h160))
              · refine g_iload X 8 d_Md_differ_163 rfl ?_
                refine b_if_eq X 172 d_Md_differ_165 (by decide) (fun h165 => ?_) (fun h165 => ?_)
                · refine g_iconst (v := nI 0) X d_Md_differ_172 rfl ?_
                  exact g_zret X hA9 hQ9 hr9 (by first | exact Or.inl rfl | exact Or.inr rfl) hlk9 () [0, 1, 2, 3] rfl rfl d_Md_differ_173 (by first | (rw [dfM_f h38 h160]; rfl) | (have e9 : z = 48 := (by omega); subst e9; rw [dfM_b h38 h160 h1 h165]; rfl) | (rw [h95] at h160; cases h160))
                · refine g_iconst (v := nI 1) X d_Md_differ_168 rfl ?_
                  refine g_goto X 173 d_Md_differ_169 (by decide) ?_
                  exact g_zret X hA9 hQ9 hr9 (by first | exact Or.inl rfl | exact Or.inr rfl) hlk9 () [0, 1, 2, 3] rfl rfl d_Md_differ_173 (by first | (rw [dfM_f h38 h160]; rfl) | (have e9 : z = 48 := (by omega); subst e9; rw [dfM_b h38 h160 h1 h165]; rfl) | (rw [h95] at h160; cases h160))
            · refine g_iload X 4 d_Md_differ_93 rfl ?_
              refine b_if_eq X 158 d_Md_differ_95 (by decide) (fun h95 => ?_) (fun h95 => ?_)
              · refine g_iload X 4 d_Md_differ_158 rfl ?_
                refine b_if_eq X 172 d_Md_differ_160 (by decide) (fun h160 => ?_) (fun h160 => ?_)
                · refine g_iconst (v := nI 0) X d_Md_differ_172 rfl ?_
                  exact g_zret X hA9 hQ9 hr9 (by first | exact Or.inl rfl | exact Or.inr rfl) hlk9 () [0, 1, 2, 3] rfl rfl d_Md_differ_173 (by first | (rw [dfM_f h38 h160]; rfl) | (have e9 : z = 48 := (by omega); subst e9; rw [dfM_b h38 h160 h1 h165]; rfl) | (rw [h95] at h160; cases h160))
                · refine g_iload X 8 d_Md_differ_163 rfl ?_
                  refine b_if_eq X 172 d_Md_differ_165 (by decide) (fun h165 => ?_) (fun h165 => ?_)
                  · refine g_iconst (v := nI 0) X d_Md_differ_172 rfl ?_
                    exact g_zret X hA9 hQ9 hr9 (by first | exact Or.inl rfl | exact Or.inr rfl) hlk9 () [0, 1, 2, 3] rfl rfl d_Md_differ_173 (by first | (rw [dfM_f h38 h160]; rfl) | (have e9 : z = 48 := (by omega); subst e9; rw [dfM_b h38 h160 h1 h165]; rfl) | (rw [h95] at h160; cases h160))
                  · refine g_iconst (v := nI 1) X d_Md_differ_168 rfl ?_
                    refine g_goto X 173 d_Md_differ_169 (by decide) ?_
                    exact g_zret X hA9 hQ9 hr9 (by first | exact Or.inl rfl | exact Or.inr rfl) hlk9 () [0, 1, 2, 3] rfl rfl d_Md_differ_173 (by first | (rw [dfM_f h38 h160]; rfl) | (have e9 : z = 48 := (by omega); subst e9; rw [dfM_b h38 h160 h1 h165]; rfl) | (rw [h95] at h160; cases h160))
              · refine g_iload X 8 d_Md_differ_98 rfl ?_
                refine b_if_ne X 145 d_Md_differ_100 (by decide) (fun h100 => ?_) (fun h100 => ?_)
                · refine g_iconst (v := nI 1) X d_Md_differ_145 rfl ?_
                  refine g_goto X 150 d_Md_differ_146 (by decide) ?_
                  refine g_topE (show nI 1 = bI true from rfl) ?_
                  refine g_istore X [(8, .int (bI true)), (0, .ref mo), (1, .int (nI u)), (2, .int (nI v)), (3, .int (nI j)), (4, .int (bI (decide (j < FC u)))), (5, .int (bI (decide (j < FC v)))), (6, .int (nI (FN (48 * u + j)))), (7, .int (nI (FN (48 * v + j)))), (9, .int (nI z))] d_Md_differ_150 (by decide) rfl ?_
                  refine g_iinc X (nI (z + 1)) [(9, .int (nI (z + 1))), (8, .int (bI true)), (0, .ref mo), (1, .int (nI u)), (2, .int (nI v)), (3, .int (nI j)), (4, .int (bI (decide (j < FC u)))), (5, .int (bI (decide (j < FC v)))), (6, .int (nI (FN (48 * u + j)))), (7, .int (nI (FN (48 * v + j))))] d_Md_differ_152 (k := 9) rfl (nI_1 z) (by decide) rfl ?_
                  refine g_goto X 86 d_Md_differ_155 (by decide) ?_
                  refine g_lv [2, 3, 4, 5, 6, 7, 8, 9, 1, 0] rfl ?_
                  exact ih86 (z + 1) true (by omega) (by omega) (by first | exact dm_b h1 h100 | exact dm_o h121 | exact dm_u h142 | exact dm_f h1 h100 h121 h142)
                · refine g_aload_n X 0 d_Md_differ_103 rfl rfl ?_
                  refine g_iload_n X 1 d_Md_differ_104 rfl rfl ?_
                  refine g_iload X 9 d_Md_differ_105 rfl ?_
                  refine g_iload X 6 d_Md_differ_107 rfl ?_
                  refine g_calliV (n := 3) X [.int (nI u), .int (nI z), .int (nI (FN (48 * u + j)))] (k_Md_isOver mo tw K R qa qb qk qu qn qx qo qf d qr gm qg qv d2 qs vv qc qm qw FC FN OO u z (FN (48 * u + j)) (hFN) (hFC) (by omega) (by omega) (by omega)) t4_91 t4_93 ts_23 t1_9 t4_94 rfl rfl (by decide +kernel) ⟨by decide, by decide⟩ [0, 1, 2, 3] [] [] rfl rfl rfl rfl (by decide) 0 rfl rfl rfl rfl (Nat.le_of_ble_eq_true rfl) d_Md_differ_109 ⟨by decide, by decide⟩ (fun r13 w9u13 hw13 => ?_)
                  subst hw13
                  refine g_aload_n X 0 d_Md_differ_112 rfl rfl ?_
                  refine g_iload_n X 2 d_Md_differ_113 rfl rfl ?_
                  refine g_iload X 9 d_Md_differ_114 rfl ?_
                  refine g_iload X 7 d_Md_differ_116 rfl ?_
                  refine g_calliV (n := 3) X [.int (nI v), .int (nI z), .int (nI (FN (48 * v + j)))] (k_Md_isOver mo tw K R qa qb qk qu qn qx qo qf d qr gm qg qv d2 qs vv qc qm qw FC FN OO v z (FN (48 * v + j)) (hFN) (hFC) (by omega) (by omega) (by omega)) t4_91 t4_93 ts_23 t1_9 t4_94 rfl rfl (by decide +kernel) ⟨by decide, by decide⟩ [0, 1, 2, 3] [] [] rfl rfl rfl rfl (by decide) 0 rfl rfl rfl rfl (Nat.le_of_ble_eq_true rfl) d_Md_differ_118 ⟨by decide, by decide⟩ (fun r14 w9u14 hw14 => ?_)
                  subst hw14
                  refine g_icmp_ne X 145 d_Md_differ_121 (by decide) (fun h121 => ?_) (fun h121 => ?_)
                  · refine g_iconst (v := nI 1) X d_Md_differ_145 rfl ?_
                    refine g_goto X 150 d_Md_differ_146 (by decide) ?_
                    refine g_topE (show nI 1 = bI true from rfl) ?_
                    refine g_istore X [(8, .int (bI true)), (0, .ref mo), (1, .int (nI u)), (2, .int (nI v)), (3, .int (nI j)), (4, .int (bI (decide (j < FC u)))), (5, .int (bI (decide (j < FC v)))), (6, .int (nI (FN (48 * u + j)))), (7, .int (nI (FN (48 * v + j)))), (9, .int (nI z))] d_Md_differ_150 (by decide) rfl ?_
                    refine g_iinc X (nI (z + 1)) [(9, .int (nI (z + 1))), (8, .int (bI true)), (0, .ref mo), (1, .int (nI u)), (2, .int (nI v)), (3, .int (nI j)), (4, .int (bI (decide (j < FC u)))), (5, .int (bI (decide (j < FC v)))), (6, .int (nI (FN (48 * u + j)))), (7, .int (nI (FN (48 * v + j))))] d_Md_differ_152 (k := 9) rfl (nI_1 z) (by decide) rfl ?_
                    refine g_goto X 86 d_Md_differ_155 (by decide) ?_
                    refine g_lv [2, 3, 4, 5, 6, 7, 8, 9, 1, 0] rfl ?_
                    exact ih86 (z + 1) true (by omega) (by omega) (by first | exact dm_b h1 h100 | exact dm_o h121 | exact dm_u h142 | exact dm_f h1 h100 h121 h142)
                  · refine g_aload_n X 0 d_Md_differ_124 rfl rfl ?_
                    refine g_iload_n X 1 d_Md_differ_125 rfl rfl ?_
                    refine g_iload X 9 d_Md_differ_126 rfl ?_
                    refine g_iload X 6 d_Md_differ_128 rfl ?_
                    refine g_calliV (n := 3) X [.int (nI u), .int (nI z), .int (nI (FN (48 * u + j)))] (k_Md_isUnder mo tw K R qa qb qk qu qn qx qo qf d qr gm qg qv d2 qs vv qc qm qw FC FN OO u z (FN (48 * u + j)) (hFN) (hFC) (by omega) (by omega) (by omega)) t4_95 t4_97 ts_24 t1_9 t4_98 rfl rfl (by decide +kernel) ⟨by decide, by decide⟩ [0, 1, 2, 3] [] [] rfl rfl rfl rfl (by decide) 0 rfl rfl rfl rfl (Nat.le_of_ble_eq_true rfl) d_Md_differ_130 ⟨by decide, by decide⟩ (fun r15 w9u15 hw15 => ?_)
                    subst hw15
                    refine g_aload_n X 0 d_Md_differ_133 rfl rfl ?_
                    refine g_iload_n X 2 d_Md_differ_134 rfl rfl ?_
                    refine g_iload X 9 d_Md_differ_135 rfl ?_
                    refine g_iload X 7 d_Md_differ_137 rfl ?_
                    refine g_calliV (n := 3) X [.int (nI v), .int (nI z), .int (nI (FN (48 * v + j)))] (k_Md_isUnder mo tw K R qa qb qk qu qn qx qo qf d qr gm qg qv d2 qs vv qc qm qw FC FN OO v z (FN (48 * v + j)) (hFN) (hFC) (by omega) (by omega) (by omega)) t4_95 t4_97 ts_24 t1_9 t4_98 rfl rfl (by decide +kernel) ⟨by decide, by decide⟩ [0, 1, 2, 3] [] [] rfl rfl rfl rfl (by decide) 0 rfl rfl rfl rfl (Nat.le_of_ble_eq_true rfl) d_Md_differ_139 ⟨by decide, by decide⟩ (fun r16 w9u16 hw16 => ?_)
                    subst hw16
                    refine g_icmp_eq X 149 d_Md_differ_142 (by decide) (fun h142 => ?_) (fun h142 => ?_)
                    · refine g_iconst (v := nI 0) X d_Md_differ_149 rfl ?_
                      refine g_topE (show nI 0 = bI false from rfl) ?_
                      refine g_istore X [(8, .int (bI false)), (0, .ref mo), (1, .int (nI u)), (2, .int (nI v)), (3, .int (nI j)), (4, .int (bI (decide (j < FC u)))), (5, .int (bI (decide (j < FC v)))), (6, .int (nI (FN (48 * u + j)))), (7, .int (nI (FN (48 * v + j)))), (9, .int (nI z))] d_Md_differ_150 (by decide) rfl ?_
                      refine g_iinc X (nI (z + 1)) [(9, .int (nI (z + 1))), (8, .int (bI false)), (0, .ref mo), (1, .int (nI u)), (2, .int (nI v)), (3, .int (nI j)), (4, .int (bI (decide (j < FC u)))), (5, .int (bI (decide (j < FC v)))), (6, .int (nI (FN (48 * u + j)))), (7, .int (nI (FN (48 * v + j))))] d_Md_differ_152 (k := 9) rfl (nI_1 z) (by decide) rfl ?_
                      refine g_goto X 86 d_Md_differ_155 (by decide) ?_
                      refine g_lv [2, 3, 4, 5, 6, 7, 8, 9, 1, 0] rfl ?_
                      exact ih86 (z + 1) false (by omega) (by omega) (by first | exact dm_b h1 h100 | exact dm_o h121 | exact dm_u h142 | exact dm_f h1 h100 h121 h142)
                    · refine g_iconst (v := nI 1) X d_Md_differ_145 rfl ?_
                      refine g_goto X 150 d_Md_differ_146 (by decide) ?_
                      refine g_topE (show nI 1 = bI true from rfl) ?_
                      refine g_istore X [(8, .int (bI true)), (0, .ref mo), (1, .int (nI u)), (2, .int (nI v)), (3, .int (nI j)), (4, .int (bI (decide (j < FC u)))), (5, .int (bI (decide (j < FC v)))), (6, .int (nI (FN (48 * u + j)))), (7, .int (nI (FN (48 * v + j)))), (9, .int (nI z))] d_Md_differ_150 (by decide) rfl ?_
                      refine g_iinc X (nI (z + 1)) [(9, .int (nI (z + 1))), (8, .int (bI true)), (0, .ref mo), (1, .int (nI u)), (2, .int (nI v)), (3, .int (nI j)), (4, .int (bI (decide (j < FC u)))), (5, .int (bI (decide (j < FC v)))), (6, .int (nI (FN (48 * u + j)))), (7, .int (nI (FN (48 * v + j))))] d_Md_differ_152 (k := 9) rfl (nI_1 z) (by decide) rfl ?_
                      refine g_goto X 86 d_Md_differ_155 (by decide) ?_
                      refine g_lv [2, 3, 4, 5, 6, 7, 8, 9, 1, 0] rfl ?_
                      exact ih86 (z + 1) true (by omega) (by omega) (by first | exact dm_b h1 h100 | exact dm_o h121 | exact dm_u h142 | exact dm_f h1 h100 h121 h142)
        refine g_aload_n X 0 d_Md_differ_43 rfl rfl ?_
        refine g_get (C := R_Md) (T := T_Md) (N := 22) X 0 20 in_Md rfl rfl (by decide) t3_167 rfl rfl d_Md_differ_44 ?_
        refine g_bipush (v := nI 48) X d_Md_differ_47 rfl ?_
        refine g_iload_n X 1 d_Md_differ_49 rfl rfl ?_
        refine g_imul X (nI (48 * u)) d_Md_differ_50 (pk_mul 48 u) ?_
        refine g_iload_n X 3 d_Md_differ_51 rfl rfl ?_
        refine g_iadd X (nI (48 * u + j)) d_Md_differ_52 (nI_add (48 * u) j) ?_
        refine g_ialdN X 2 0 rfl rfl (by omega) (by omega) d_Md_differ_53 ?_
        refine g_istore X [(6, .int (nI (FN (48 * u + j)))), (5, .int (bI (decide (j < FC v)))), (4, .int (bI (decide (j < FC u)))), (0, .ref mo), (1, .int (nI u)), (2, .int (nI v)), (3, .int (nI j))] d_Md_differ_54 (by decide) rfl ?_
        refine g_aload_n X 0 d_Md_differ_56 rfl rfl ?_
        refine g_get (C := R_Md) (T := T_Md) (N := 22) X 0 20 in_Md rfl rfl (by decide) t3_167 rfl rfl d_Md_differ_57 ?_
        refine g_bipush (v := nI 48) X d_Md_differ_60 rfl ?_
        refine g_iload_n X 2 d_Md_differ_62 rfl rfl ?_
        refine g_imul X (nI (48 * v)) d_Md_differ_63 (pk_mul 48 v) ?_
        refine g_iload_n X 3 d_Md_differ_64 rfl rfl ?_
        refine g_iadd X (nI (48 * v + j)) d_Md_differ_65 (nI_add (48 * v) j) ?_
        refine g_ialdN X 2 0 rfl rfl (by omega) (by omega) d_Md_differ_66 ?_
        refine g_istore X [(7, .int (nI (FN (48 * v + j)))), (6, .int (nI (FN (48 * u + j)))), (5, .int (bI (decide (j < FC v)))), (4, .int (bI (decide (j < FC u)))), (0, .ref mo), (1, .int (nI u)), (2, .int (nI v)), (3, .int (nI j))] d_Md_differ_67 (by decide) rfl ?_
        refine g_iload X 6 d_Md_differ_69 rfl ?_
        refine g_iload X 7 d_Md_differ_71 rfl ?_
        refine n_icmp_eq X 80 d_Md_differ_73 (by decide) (by omega) (by omega) (fun h73 => ?_) (fun h73 => ?_)
        · refine g_iconst (v := nI 0) X d_Md_differ_80 rfl ?_
          refine g_topE (show nI 0 = bI (!decide (FN (48 * u + j) = FN (48 * v + j))) from by rw [decide_eq_true h73]; rfl) ?_
          refine g_istore X [(8, .int (bI (!decide (FN (48 * u + j) = FN (48 * v + j))))), (7, .int (nI (FN (48 * v + j)))), (6, .int (nI (FN (48 * u + j)))), (5, .int (bI (decide (j < FC v)))), (4, .int (bI (decide (j < FC u)))), (0, .ref mo), (1, .int (nI u)), (2, .int (nI v)), (3, .int (nI j))] d_Md_differ_81 (by decide) rfl ?_
          refine g_iconst (v := nI 0) X d_Md_differ_83 rfl ?_
          refine g_istore X [(9, .int (nI 0)), (8, .int (bI (!decide (FN (48 * u + j) = FN (48 * v + j))))), (7, .int (nI (FN (48 * v + j)))), (6, .int (nI (FN (48 * u + j)))), (5, .int (bI (decide (j < FC v)))), (4, .int (bI (decide (j < FC u)))), (0, .ref mo), (1, .int (nI u)), (2, .int (nI v)), (3, .int (nI j))] d_Md_differ_84 (by decide) rfl ?_
          refine g_lv [6, 7, 8, 9, 5, 4, 3, 2, 1, 0] rfl ?_
          exact L86 ((48 - 0) + 1) 0 (!decide (FN (48 * u + j) = FN (48 * v + j))) (Nat.lt_succ_self _) (by omega) (dm_0)
        · refine g_iconst (v := nI 1) X d_Md_differ_76 rfl ?_
          refine g_goto X 81 d_Md_differ_77 (by decide) ?_
          refine g_topE (show nI 1 = bI (!decide (FN (48 * u + j) = FN (48 * v + j))) from by rw [decide_eq_false h73]; rfl) ?_
          refine g_istore X [(8, .int (bI (!decide (FN (48 * u + j) = FN (48 * v + j))))), (7, .int (nI (FN (48 * v + j)))), (6, .int (nI (FN (48 * u + j)))), (5, .int (bI (decide (j < FC v)))), (4, .int (bI (decide (j < FC u)))), (0, .ref mo), (1, .int (nI u)), (2, .int (nI v)), (3, .int (nI j))] d_Md_differ_81 (by decide) rfl ?_
          refine g_iconst (v := nI 0) X d_Md_differ_83 rfl ?_
          refine g_istore X [(9, .int (nI 0)), (8, .int (bI (!decide (FN (48 * u + j) = FN (48 * v + j))))), (7, .int (nI (FN (48 * v + j)))), (6, .int (nI (FN (48 * u + j)))), (5, .int (bI (decide (j < FC v)))), (4, .int (bI (decide (j < FC u)))), (0, .ref mo), (1, .int (nI u)), (2, .int (nI v)), (3, .int (nI j))] d_Md_differ_84 (by decide) rfl ?_
          refine g_lv [6, 7, 8, 9, 5, 4, 3, 2, 1, 0] rfl ?_
          exact L86 ((48 - 0) + 1) 0 (!decide (FN (48 * u + j) = FN (48 * v + j))) (Nat.lt_succ_self _) (by omega) (dm_0)
      · refine g_iconst (v := nI 1) X d_Md_differ_41 rfl ?_
        exact g_zret X hA9 hQ9 hr9 (by first | exact Or.inl rfl | exact Or.inr rfl) hlk9 () [0, 1, 2, 3] rfl rfl d_Md_differ_42 (by rw [dfM_ne h38]; rfl)

set_option maxHeartbeats 4000000 in
set_option maxRecDepth 100000 in
theorem k_Md_differs (mo : Nat) (tw : Int32) (K : Nat) (R : Nat) (qa : Nat) (qb : Nat) (qk : Nat) (qu : Nat) (qn : Nat) (qx : Nat) (qo : Nat) (qf : Nat) (d : Nat) (qr : Nat) (gm : Nat) (qg : Nat) (qv : Nat) (d2 : Nat) (qs : Nat) (vv : Nat) (qc : Nat) (qm : Nat) (qw : Nat) (FC : Nat → Nat) (FN : Nat → Nat) (OO : Nat → Bool) (u : Nat) (v : Nat) (k : Nat) (hFN : ∀ k, k < 384 → FN k < 48) (hFC : ∀ k, k < 8 → FC k ≤ 48) (hvv : vv ≤ 8) (hu : u < vv) (hv : v < vv) (hk2 : k < 2 ^ 31) (hx : k < cnt (dfM FC FN OO u v) 48) : CtI l y_Md_differs (Cond.code y_Md_differs c_Md_differs 6 (some .int) :: TB) ({ frames := 2, cells := 0, slots := 0, locals := 52 } : Room) D (tysv cI cJ cZ cQ) [.ref mo, .int (nI u), .int (nI v), .int (nI k)] [(mo, .inr (8, [.int tw, .int (nI K), .int (nI R), .ref qa, .ref qb, .ref qk, .ref qu, .ref qn, .ref qx, .ref qo, .ref qf, .int (nI d), .ref qr, .int (nI gm), .ref qg, .ref qv, .int (nI d2), .ref qs, .int (nI vv), .ref qc, .ref qm, .ref qw])), (qc, .inl (cI, 8, .inl (nf FC))), (qm, .inl (cI, 384, .inl (nf FN))), (qw, .inl (cZ, 18432, .inl (zf OO)))] 0 0 (fun (r : Int32) (x : Nat) => r = nI x ∧ x < 48 ∧ dfM FC FN OO u v x = true ∧ cnt (dfM FC FN OO u v) x = k) (fun (x : Nat) => [(mo, .inr (8, [.int (nI 0), .int (nI K), .int (nI R), .ref qa, .ref qb, .ref qk, .ref qu, .ref qn, .ref qx, .ref qo, .ref qf, .int (nI d), .ref qr, .int (nI gm), .ref qg, .ref qv, .int (nI d2), .ref qs, .int (nI vv), .ref qc, .ref qm, .ref qw])), (qc, .inl (cI, 8, .inl (nf FC))), (qm, .inl (cI, 384, .inl (nf FN))), (qw, .inl (cZ, 18432, .inl (zf OO)))]) := by
  refine CtI.of c_Md_differs 6 (some .int) (by decide) rfl (Nat.le_of_ble_eq_true rfl) ?_
  intro p e s m args below meth c A Q hA9 hQ9 X hr9 hlk9 hin9
  refine g_aload_n X 0 d_Md_differs_0 rfl rfl ?_
  refine g_iload_n X 1 d_Md_differs_1 rfl rfl ?_
  refine n_if_lt X 33 d_Md_differs_2 (by decide) (by omega) (fun h2 => absurd h2 (by omega)) (fun h2 => ?_)
  refine g_iload_n X 1 d_Md_differs_5 rfl rfl ?_
  refine g_aload_n X 0 d_Md_differs_6 rfl rfl ?_
  refine g_get (C := R_Md) (T := T_Md) (N := 22) X 0 18 in_Md rfl rfl (by decide) t3_165 rfl rfl d_Md_differs_7 ?_
  refine n_icmp_ge X 33 d_Md_differs_10 (by decide) (by omega) (by omega) (fun h10 => absurd h10 (by omega)) (fun h10 => ?_)
  refine g_iload_n X 2 d_Md_differs_13 rfl rfl ?_
  refine n_if_lt X 33 d_Md_differs_14 (by decide) (by omega) (fun h14 => absurd h14 (by omega)) (fun h14 => ?_)
  refine g_iload_n X 2 d_Md_differs_17 rfl rfl ?_
  refine g_aload_n X 0 d_Md_differs_18 rfl rfl ?_
  refine g_get (C := R_Md) (T := T_Md) (N := 22) X 0 18 in_Md rfl rfl (by decide) t3_165 rfl rfl d_Md_differs_19 ?_
  refine n_icmp_ge X 33 d_Md_differs_22 (by decide) (by omega) (by omega) (fun h22 => absurd h22 (by omega)) (fun h22 => ?_)
  refine g_iload_n X 3 d_Md_differs_25 rfl rfl ?_
  refine n_if_lt X 33 d_Md_differs_26 (by decide) (by omega) (fun h26 => absurd h26 (by omega)) (fun h26 => ?_)
  refine g_iconst (v := nI 1) X d_Md_differs_29 rfl ?_
  refine g_goto X 34 d_Md_differs_30 (by decide) ?_
  refine g_iconst (v := nI 1) X d_Md_differs_34 rfl ?_
  refine g_calliV (n := 2) X [.int (bI true), .int (bI true)] (k_Md_goes mo tw K R qa qb qk qu qn qx qo qf d qr gm qg qv d2 qs vv qc qm qw ) t3_223 t3_225 ts_11 t1_9 t3_226 rfl rfl (by decide +kernel) ⟨by decide, by decide⟩ [0] [1, 2, 3] [(qc, .inl (cI, 8, .inl (nf FC))), (qm, .inl (cI, 384, .inl (nf FN))), (qw, .inl (cZ, 18432, .inl (zf OO)))] rfl rfl rfl rfl (by decide) 0 rfl rfl rfl rfl (Nat.le_of_ble_eq_true rfl) d_Md_differs_35 ⟨by decide, by decide⟩ (fun r1 w9u1 hw1 => ?_)
  subst hw1
  refine b_if_ne X 43 d_Md_differs_38 (by decide) (fun h38 => ?_) (fun h38 => absurd h38 (by decide))
  refine g_iconst (v := nI 0) X d_Md_differs_43 rfl ?_
  refine g_istore X [(4, .int (nI 0)), (0, .ref mo), (1, .int (nI u)), (2, .int (nI v)), (3, .int (nI k))] d_Md_differs_44 (by decide) rfl ?_
  have L49 : ∀ (N49 : Nat) (i : Nat) (n : Nat), (48 - i) < N49 → (i ≤ 48) → (n ≤ i) → (n = cnt (dfM FC FN OO u v) i) → (n ≤ k) → G p l e ({ frames := 2, cells := 0, slots := 0, locals := 52 } : Room) s m args below meth c 6 D A s.heap Q 0 0 [(mo, .inr (8, [.int (nI 0), .int (nI K), .int (nI R), .ref qa, .ref qb, .ref qk, .ref qu, .ref qn, .ref qx, .ref qo, .ref qf, .int (nI d), .ref qr, .int (nI gm), .ref qg, .ref qv, .int (nI d2), .ref qs, .int (nI vv), .ref qc, .ref qm, .ref qw])), (qc, .inl (cI, 8, .inl (nf FC))), (qm, .inl (cI, 384, .inl (nf FN))), (qw, .inl (cZ, 18432, .inl (zf OO)))] [(0, .ref mo), (1, .int (nI u)), (2, .int (nI v)), (3, .int (nI k)), (4, .int (nI n)), (5, .int (nI i))] 49 [] := by
    intro N49
    induction N49 with
    | zero =>
      intro i n hN
      exact absurd hN (Nat.not_lt_zero _)
    | succ N49 ih49 =>
      intro i n hN49 hi hni hn hl
      refine g_iload X 5 d_Md_differs_49 rfl ?_
      refine g_bipush (v := nI 48) X d_Md_differs_51 rfl ?_
      refine n_icmp_ge X 85 d_Md_differs_53 (by decide) (by omega) (by omega) (fun h53 => absurd h53 (fun q9 => by have e9 : i = 48 := (by omega); subst e9; exact cnt_halt hn hl hx)) (fun h53 => ?_)
      refine g_aload_n X 0 d_Md_differs_56 rfl rfl ?_
      refine g_iload_n X 1 d_Md_differs_57 rfl rfl ?_
      refine g_iload_n X 2 d_Md_differs_58 rfl rfl ?_
      refine g_iload X 5 d_Md_differs_59 rfl ?_
      refine g_calliV (n := 3) X [.int (nI u), .int (nI v), .int (nI i)] (k_Md_differ mo (nI 0) K R qa qb qk qu qn qx qo qf d qr gm qg qv d2 qs vv qc qm qw FC FN OO u v i (hFN) (hFC) (by omega) (by omega) (by omega)) t4_87 t4_89 ts_22 t1_9 t4_90 rfl rfl (by decide +kernel) ⟨by decide, by decide⟩ [0, 1, 2, 3] [] [] rfl rfl rfl rfl (by decide) 0 rfl rfl rfl rfl (Nat.le_of_ble_eq_true rfl) d_Md_differs_61 ⟨by decide, by decide⟩ (fun r2 w9u2 hw2 => ?_)
      subst hw2
      refine b_if_eq X 79 d_Md_differs_64 (by decide) (fun h64 => ?_) (fun h64 => ?_)
      · refine g_iinc X (nI (i + 1)) [(5, .int (nI (i + 1))), (0, .ref mo), (1, .int (nI u)), (2, .int (nI v)), (3, .int (nI k)), (4, .int (nI n))] d_Md_differs_79 (k := 5) rfl (nI_1 i) (by decide) rfl ?_
        refine g_goto X 49 d_Md_differs_82 (by decide) ?_
        refine g_lv [1, 2, 3, 4, 5, 0] rfl ?_
        exact ih49 (i + 1) n (by omega) (by omega) (by omega) (by first | exact cntP_t h64 hn | exact cntP_f h64 hn) (by first | exact hl | omega)
      · refine g_iload X 4 d_Md_differs_67 rfl ?_
        refine g_iload_n X 3 d_Md_differs_69 rfl rfl ?_
        refine n_icmp_ne X 76 d_Md_differs_70 (by decide) (by omega) (by omega) (fun h70 => ?_) (fun h70 => ?_)
        · refine g_iinc X (nI (n + 1)) [(4, .int (nI (n + 1))), (0, .ref mo), (1, .int (nI u)), (2, .int (nI v)), (3, .int (nI k)), (5, .int (nI i))] d_Md_differs_76 (k := 4) rfl (nI_1 n) (by decide) rfl ?_
          refine g_iinc X (nI (i + 1)) [(5, .int (nI (i + 1))), (4, .int (nI (n + 1))), (0, .ref mo), (1, .int (nI u)), (2, .int (nI v)), (3, .int (nI k))] d_Md_differs_79 (k := 5) rfl (nI_1 i) (by decide) rfl ?_
          refine g_goto X 49 d_Md_differs_82 (by decide) ?_
          refine g_lv [2, 3, 4, 5, 1, 0] rfl ?_
          exact ih49 (i + 1) (n + 1) (by omega) (by omega) (by omega) (by first | exact cntP_t h64 hn | exact cntP_f h64 hn) (by first | exact hl | omega)
        · refine g_iload X 5 d_Md_differs_73 rfl ?_
          exact g_iret X hA9 hQ9 hr9 hlk9 i [0, 1, 2, 3] rfl rfl d_Md_differs_75 (⟨rfl, by omega, h64, by rw [← hn]; exact h70⟩)
  refine g_iconst (v := nI 0) X d_Md_differs_46 rfl ?_
  refine g_istore X [(5, .int (nI 0)), (4, .int (nI 0)), (0, .ref mo), (1, .int (nI u)), (2, .int (nI v)), (3, .int (nI k))] d_Md_differs_47 (by decide) rfl ?_
  refine g_ws [(mo, .inr (8, [.int (nI 0), .int (nI K), .int (nI R), .ref qa, .ref qb, .ref qk, .ref qu, .ref qn, .ref qx, .ref qo, .ref qf, .int (nI d), .ref qr, .int (nI gm), .ref qg, .ref qv, .int (nI d2), .ref qs, .int (nI vv), .ref qc, .ref qm, .ref qw])), (qc, .inl (cI, 8, .inl (nf FC))), (qm, .inl (cI, 384, .inl (nf FN))), (qw, .inl (cZ, 18432, .inl (zf OO)))] [3, 0, 1, 2] rfl rfl ?_
  refine g_lv [2, 3, 4, 5, 1, 0] rfl ?_
  exact L49 ((48 - 0) + 1) 0 0 (Nat.lt_succ_self _) (by omega) (by omega) (rfl) (Nat.zero_le k)

set_option maxHeartbeats 4000000 in
set_option maxRecDepth 100000 in
theorem k_Md_differsN (mo : Nat) (tw : Int32) (K : Nat) (R : Nat) (qa : Nat) (qb : Nat) (qk : Nat) (qu : Nat) (qn : Nat) (qx : Nat) (qo : Nat) (qf : Nat) (d : Nat) (qr : Nat) (gm : Nat) (qg : Nat) (qv : Nat) (d2 : Nat) (qs : Nat) (vv : Nat) (qc : Nat) (qm : Nat) (qw : Nat) (FC : Nat → Nat) (FN : Nat → Nat) (OO : Nat → Bool) (u : Nat) (v : Nat) (k : Nat) (hFN : ∀ k, k < 384 → FN k < 48) (hFC : ∀ k, k < 8 → FC k ≤ 48) (hvv : vv ≤ 8) (hu : u < vv) (hv : v < vv) (hk2 : k < 2 ^ 31) (hx : cnt (dfM FC FN OO u v) 48 ≤ k) : CtI l y_Md_differs (Cond.code y_Md_differs c_Md_differs 6 (some .int) :: TB) ({ frames := 2, cells := 0, slots := 0, locals := 52 } : Room) D (tysv cI cJ cZ cQ) [.ref mo, .int (nI u), .int (nI v), .int (nI k)] [(mo, .inr (8, [.int tw, .int (nI K), .int (nI R), .ref qa, .ref qb, .ref qk, .ref qu, .ref qn, .ref qx, .ref qo, .ref qf, .int (nI d), .ref qr, .int (nI gm), .ref qg, .ref qv, .int (nI d2), .ref qs, .int (nI vv), .ref qc, .ref qm, .ref qw])), (qc, .inl (cI, 8, .inl (nf FC))), (qm, .inl (cI, 384, .inl (nf FN))), (qw, .inl (cZ, 18432, .inl (zf OO)))] 0 0 (fun (r : Int32) (_ : Unit) => r = -1) (fun (_ : Unit) => [(mo, .inr (8, [.int (nI 0), .int (nI K), .int (nI R), .ref qa, .ref qb, .ref qk, .ref qu, .ref qn, .ref qx, .ref qo, .ref qf, .int (nI d), .ref qr, .int (nI gm), .ref qg, .ref qv, .int (nI d2), .ref qs, .int (nI vv), .ref qc, .ref qm, .ref qw])), (qc, .inl (cI, 8, .inl (nf FC))), (qm, .inl (cI, 384, .inl (nf FN))), (qw, .inl (cZ, 18432, .inl (zf OO)))]) := by
  refine CtI.of c_Md_differs 6 (some .int) (by decide) rfl (Nat.le_of_ble_eq_true rfl) ?_
  intro p e s m args below meth c A Q hA9 hQ9 X hr9 hlk9 hin9
  refine g_aload_n X 0 d_Md_differs_0 rfl rfl ?_
  refine g_iload_n X 1 d_Md_differs_1 rfl rfl ?_
  refine n_if_lt X 33 d_Md_differs_2 (by decide) (by omega) (fun h2 => absurd h2 (by omega)) (fun h2 => ?_)
  refine g_iload_n X 1 d_Md_differs_5 rfl rfl ?_
  refine g_aload_n X 0 d_Md_differs_6 rfl rfl ?_
  refine g_get (C := R_Md) (T := T_Md) (N := 22) X 0 18 in_Md rfl rfl (by decide) t3_165 rfl rfl d_Md_differs_7 ?_
  refine n_icmp_ge X 33 d_Md_differs_10 (by decide) (by omega) (by omega) (fun h10 => absurd h10 (by omega)) (fun h10 => ?_)
  refine g_iload_n X 2 d_Md_differs_13 rfl rfl ?_
  refine n_if_lt X 33 d_Md_differs_14 (by decide) (by omega) (fun h14 => absurd h14 (by omega)) (fun h14 => ?_)
  refine g_iload_n X 2 d_Md_differs_17 rfl rfl ?_
  refine g_aload_n X 0 d_Md_differs_18 rfl rfl ?_
  refine g_get (C := R_Md) (T := T_Md) (N := 22) X 0 18 in_Md rfl rfl (by decide) t3_165 rfl rfl d_Md_differs_19 ?_
  refine n_icmp_ge X 33 d_Md_differs_22 (by decide) (by omega) (by omega) (fun h22 => absurd h22 (by omega)) (fun h22 => ?_)
  refine g_iload_n X 3 d_Md_differs_25 rfl rfl ?_
  refine n_if_lt X 33 d_Md_differs_26 (by decide) (by omega) (fun h26 => absurd h26 (by omega)) (fun h26 => ?_)
  refine g_iconst (v := nI 1) X d_Md_differs_29 rfl ?_
  refine g_goto X 34 d_Md_differs_30 (by decide) ?_
  refine g_iconst (v := nI 1) X d_Md_differs_34 rfl ?_
  refine g_calliV (n := 2) X [.int (bI true), .int (bI true)] (k_Md_goes mo tw K R qa qb qk qu qn qx qo qf d qr gm qg qv d2 qs vv qc qm qw ) t3_223 t3_225 ts_11 t1_9 t3_226 rfl rfl (by decide +kernel) ⟨by decide, by decide⟩ [0] [1, 2, 3] [(qc, .inl (cI, 8, .inl (nf FC))), (qm, .inl (cI, 384, .inl (nf FN))), (qw, .inl (cZ, 18432, .inl (zf OO)))] rfl rfl rfl rfl (by decide) 0 rfl rfl rfl rfl (Nat.le_of_ble_eq_true rfl) d_Md_differs_35 ⟨by decide, by decide⟩ (fun r1 w9u1 hw1 => ?_)
  subst hw1
  refine b_if_ne X 43 d_Md_differs_38 (by decide) (fun h38 => ?_) (fun h38 => absurd h38 (by decide))
  refine g_iconst (v := nI 0) X d_Md_differs_43 rfl ?_
  refine g_istore X [(4, .int (nI 0)), (0, .ref mo), (1, .int (nI u)), (2, .int (nI v)), (3, .int (nI k))] d_Md_differs_44 (by decide) rfl ?_
  have L49 : ∀ (N49 : Nat) (i : Nat) (n : Nat), (48 - i) < N49 → (i ≤ 48) → (n ≤ i) → (n = cnt (dfM FC FN OO u v) i) → G p l e ({ frames := 2, cells := 0, slots := 0, locals := 52 } : Room) s m args below meth c 6 D A s.heap Q 0 0 [(mo, .inr (8, [.int (nI 0), .int (nI K), .int (nI R), .ref qa, .ref qb, .ref qk, .ref qu, .ref qn, .ref qx, .ref qo, .ref qf, .int (nI d), .ref qr, .int (nI gm), .ref qg, .ref qv, .int (nI d2), .ref qs, .int (nI vv), .ref qc, .ref qm, .ref qw])), (qc, .inl (cI, 8, .inl (nf FC))), (qm, .inl (cI, 384, .inl (nf FN))), (qw, .inl (cZ, 18432, .inl (zf OO)))] [(0, .ref mo), (1, .int (nI u)), (2, .int (nI v)), (3, .int (nI k)), (4, .int (nI n)), (5, .int (nI i))] 49 [] := by
    intro N49
    induction N49 with
    | zero =>
      intro i n hN
      exact absurd hN (Nat.not_lt_zero _)
    | succ N49 ih49 =>
      intro i n hN49 hi hni hn
      refine g_iload X 5 d_Md_differs_49 rfl ?_
      refine g_bipush (v := nI 48) X d_Md_differs_51 rfl ?_
      refine n_icmp_ge X 85 d_Md_differs_53 (by decide) (by omega) (by omega) (fun h53 => ?_) (fun h53 => ?_)
      · refine g_iconst (v := -1) X d_Md_differs_85 rfl ?_
        exact g_iret X hA9 hQ9 hr9 hlk9 () [0, 1, 2, 3] rfl rfl d_Md_differs_86 (rfl)
      · refine g_aload_n X 0 d_Md_differs_56 rfl rfl ?_
        refine g_iload_n X 1 d_Md_differs_57 rfl rfl ?_
        refine g_iload_n X 2 d_Md_differs_58 rfl rfl ?_
        refine g_iload X 5 d_Md_differs_59 rfl ?_
        refine g_calliV (n := 3) X [.int (nI u), .int (nI v), .int (nI i)] (k_Md_differ mo (nI 0) K R qa qb qk qu qn qx qo qf d qr gm qg qv d2 qs vv qc qm qw FC FN OO u v i (hFN) (hFC) (by omega) (by omega) (by omega)) t4_87 t4_89 ts_22 t1_9 t4_90 rfl rfl (by decide +kernel) ⟨by decide, by decide⟩ [0, 1, 2, 3] [] [] rfl rfl rfl rfl (by decide) 0 rfl rfl rfl rfl (Nat.le_of_ble_eq_true rfl) d_Md_differs_61 ⟨by decide, by decide⟩ (fun r2 w9u2 hw2 => ?_)
        subst hw2
        refine b_if_eq X 79 d_Md_differs_64 (by decide) (fun h64 => ?_) (fun h64 => ?_)
        · refine g_iinc X (nI (i + 1)) [(5, .int (nI (i + 1))), (0, .ref mo), (1, .int (nI u)), (2, .int (nI v)), (3, .int (nI k)), (4, .int (nI n))] d_Md_differs_79 (k := 5) rfl (nI_1 i) (by decide) rfl ?_
          refine g_goto X 49 d_Md_differs_82 (by decide) ?_
          refine g_lv [1, 2, 3, 4, 5, 0] rfl ?_
          exact ih49 (i + 1) n (by omega) (by omega) (by omega) (by first | exact cntP_t h64 hn | exact cntP_f h64 hn)
        · refine g_iload X 4 d_Md_differs_67 rfl ?_
          refine g_iload_n X 3 d_Md_differs_69 rfl rfl ?_
          refine n_icmp_ne X 76 d_Md_differs_70 (by decide) (by omega) (by omega) (fun h70 => ?_) (fun h70 => absurd h70 (Nat.ne_of_lt (dfN (P := dfM FC FN OO u v) (by omega) h64 hn hx)))
          refine g_iinc X (nI (n + 1)) [(4, .int (nI (n + 1))), (0, .ref mo), (1, .int (nI u)), (2, .int (nI v)), (3, .int (nI k)), (5, .int (nI i))] d_Md_differs_76 (k := 4) rfl (nI_1 n) (by decide) rfl ?_
          refine g_iinc X (nI (i + 1)) [(5, .int (nI (i + 1))), (4, .int (nI (n + 1))), (0, .ref mo), (1, .int (nI u)), (2, .int (nI v)), (3, .int (nI k))] d_Md_differs_79 (k := 5) rfl (nI_1 i) (by decide) rfl ?_
          refine g_goto X 49 d_Md_differs_82 (by decide) ?_
          refine g_lv [2, 3, 4, 5, 1, 0] rfl ?_
          exact ih49 (i + 1) (n + 1) (by omega) (by omega) (by omega) (by first | exact cntP_t h64 hn | exact cntP_f h64 hn)
  refine g_iconst (v := nI 0) X d_Md_differs_46 rfl ?_
  refine g_istore X [(5, .int (nI 0)), (4, .int (nI 0)), (0, .ref mo), (1, .int (nI u)), (2, .int (nI v)), (3, .int (nI k))] d_Md_differs_47 (by decide) rfl ?_
  refine g_ws [(mo, .inr (8, [.int (nI 0), .int (nI K), .int (nI R), .ref qa, .ref qb, .ref qk, .ref qu, .ref qn, .ref qx, .ref qo, .ref qf, .int (nI d), .ref qr, .int (nI gm), .ref qg, .ref qv, .int (nI d2), .ref qs, .int (nI vv), .ref qc, .ref qm, .ref qw])), (qc, .inl (cI, 8, .inl (nf FC))), (qm, .inl (cI, 384, .inl (nf FN))), (qw, .inl (cZ, 18432, .inl (zf OO)))] [3, 0, 1, 2] rfl rfl ?_
  refine g_lv [2, 3, 4, 5, 1, 0] rfl ?_
  exact L49 ((48 - 0) + 1) 0 0 (Nat.lt_succ_self _) (by omega) (by omega) (rfl)

set_option maxHeartbeats 4000000 in
set_option maxRecDepth 100000 in
theorem k_Md_differsB (mo : Nat) (tw : Int32) (K : Nat) (R : Nat) (qa : Nat) (qb : Nat) (qk : Nat) (qu : Nat) (qn : Nat) (qx : Nat) (qo : Nat) (qf : Nat) (d : Nat) (qr : Nat) (gm : Nat) (qg : Nat) (qv : Nat) (d2 : Nat) (qs : Nat) (vv : Nat) (qc : Nat) (qm : Nat) (qw : Nat) (x : Int32) (y : Int32) (z : Int32) (hvv : vv ≤ 8) (hB : badI vv x ∨ ((∃ i, i < vv ∧ x = nI i) ∧ badI vv y) ∨ ((∃ i, i < vv ∧ x = nI i) ∧ (∃ j, j < vv ∧ y = nI j) ∧ z < 0)) : CtI l y_Md_differs (Cond.code y_Md_differs c_Md_differs 6 (some .int) :: TB) ({ frames := 1, cells := 0, slots := 0, locals := 22 } : Room) D (tysv cI cJ cZ cQ) [.ref mo, .int x, .int y, .int z] [(mo, .inr (8, [.int tw, .int (nI K), .int (nI R), .ref qa, .ref qb, .ref qk, .ref qu, .ref qn, .ref qx, .ref qo, .ref qf, .int (nI d), .ref qr, .int (nI gm), .ref qg, .ref qv, .int (nI d2), .ref qs, .int (nI vv), .ref qc, .ref qm, .ref qw]))] 0 0 (fun (r : Int32) (_ : Unit) => r = nI 0) (fun (_ : Unit) => [(mo, .inr (8, [.int (nI 1), .int (nI K), .int (nI R), .ref qa, .ref qb, .ref qk, .ref qu, .ref qn, .ref qx, .ref qo, .ref qf, .int (nI d), .ref qr, .int (nI gm), .ref qg, .ref qv, .int (nI d2), .ref qs, .int (nI vv), .ref qc, .ref qm, .ref qw]))]) := by
  refine CtI.of c_Md_differs 6 (some .int) (by decide) rfl (Nat.le_of_ble_eq_true rfl) ?_
  intro p e s m args below meth c A Q hA9 hQ9 X hr9 hlk9 hin9
  rcases hB with b1 | ⟨⟨i, hi, rfl⟩, b1⟩ | ⟨⟨i, hi, rfl⟩, ⟨j, hj, rfl⟩, b1⟩
  · have b2 := b1
    refine g_aload_n X 0 d_Md_differs_0 rfl rfl ?_
    refine g_iload_n X 1 d_Md_differs_1 rfl rfl ?_
    refine g_if_lt X 33 d_Md_differs_2 (by decide) (fun h2 => ?_) (fun h2 => ?_)
    · refine g_iconst (v := nI 0) X d_Md_differs_33 rfl ?_
      refine g_iconst (v := nI 1) X d_Md_differs_34 rfl ?_
      refine g_calliV (n := 2) X [.int (bI false), .int (bI true)] (k_Md_goes1 mo tw K R qa qb qk qu qn qx qo qf d qr gm qg qv d2 qs vv qc qm qw true ) t3_223 t3_225 ts_11 t1_9 t3_226 rfl rfl (by decide +kernel) ⟨by decide, by decide⟩ [0] [] [] rfl rfl rfl rfl (by decide) 0 rfl rfl rfl rfl (Nat.le_of_ble_eq_true rfl) d_Md_differs_35 ⟨by decide, by decide⟩ (fun r1 w9u1 hw1 => ?_)
      subst hw1
      refine b_if_ne X 43 d_Md_differs_38 (by decide) (fun h38 => absurd h38 (by decide)) (fun h38 => ?_)
      refine g_iconst (v := nI 0) X d_Md_differs_41 rfl ?_
      exact g_iret X hA9 hQ9 hr9 hlk9 () [0] rfl rfl d_Md_differs_42 (rfl)
    · refine g_iload_n X 1 d_Md_differs_5 rfl rfl ?_
      refine g_aload_n X 0 d_Md_differs_6 rfl rfl ?_
      refine g_get (C := R_Md) (T := T_Md) (N := 22) X 0 18 in_Md rfl rfl (by decide) t3_165 rfl rfl d_Md_differs_7 ?_
      refine g_icmp_ge X 33 d_Md_differs_10 (by decide) (fun h10 => ?_) (fun h10 => absurd h10 (not_not_intro (b1.resolve_left h2)))
      refine g_iconst (v := nI 0) X d_Md_differs_33 rfl ?_
      refine g_iconst (v := nI 1) X d_Md_differs_34 rfl ?_
      refine g_calliV (n := 2) X [.int (bI false), .int (bI true)] (k_Md_goes1 mo tw K R qa qb qk qu qn qx qo qf d qr gm qg qv d2 qs vv qc qm qw true ) t3_223 t3_225 ts_11 t1_9 t3_226 rfl rfl (by decide +kernel) ⟨by decide, by decide⟩ [0] [] [] rfl rfl rfl rfl (by decide) 0 rfl rfl rfl rfl (Nat.le_of_ble_eq_true rfl) d_Md_differs_35 ⟨by decide, by decide⟩ (fun r2 w9u2 hw2 => ?_)
      subst hw2
      refine b_if_ne X 43 d_Md_differs_38 (by decide) (fun h38 => absurd h38 (by decide)) (fun h38 => ?_)
      refine g_iconst (v := nI 0) X d_Md_differs_41 rfl ?_
      exact g_iret X hA9 hQ9 hr9 hlk9 () [0] rfl rfl d_Md_differs_42 (rfl)
  · have b2 := b1
    refine g_aload_n X 0 d_Md_differs_0 rfl rfl ?_
    refine g_iload_n X 1 d_Md_differs_1 rfl rfl ?_
    refine n_if_lt X 33 d_Md_differs_2 (by decide) (by omega) (fun h2 => absurd h2 (by omega)) (fun h2 => ?_)
    refine g_iload_n X 1 d_Md_differs_5 rfl rfl ?_
    refine g_aload_n X 0 d_Md_differs_6 rfl rfl ?_
    refine g_get (C := R_Md) (T := T_Md) (N := 22) X 0 18 in_Md rfl rfl (by decide) t3_165 rfl rfl d_Md_differs_7 ?_
    refine n_icmp_ge X 33 d_Md_differs_10 (by decide) (by omega) (by omega) (fun h10 => absurd h10 (by omega)) (fun h10 => ?_)
    refine g_iload_n X 2 d_Md_differs_13 rfl rfl ?_
    refine g_if_lt X 33 d_Md_differs_14 (by decide) (fun h14 => ?_) (fun h14 => ?_)
    · refine g_iconst (v := nI 0) X d_Md_differs_33 rfl ?_
      refine g_iconst (v := nI 1) X d_Md_differs_34 rfl ?_
      refine g_calliV (n := 2) X [.int (bI false), .int (bI true)] (k_Md_goes1 mo tw K R qa qb qk qu qn qx qo qf d qr gm qg qv d2 qs vv qc qm qw true ) t3_223 t3_225 ts_11 t1_9 t3_226 rfl rfl (by decide +kernel) ⟨by decide, by decide⟩ [0] [] [] rfl rfl rfl rfl (by decide) 0 rfl rfl rfl rfl (Nat.le_of_ble_eq_true rfl) d_Md_differs_35 ⟨by decide, by decide⟩ (fun r3 w9u3 hw3 => ?_)
      subst hw3
      refine b_if_ne X 43 d_Md_differs_38 (by decide) (fun h38 => absurd h38 (by decide)) (fun h38 => ?_)
      refine g_iconst (v := nI 0) X d_Md_differs_41 rfl ?_
      exact g_iret X hA9 hQ9 hr9 hlk9 () [0] rfl rfl d_Md_differs_42 (rfl)
    · refine g_iload_n X 2 d_Md_differs_17 rfl rfl ?_
      refine g_aload_n X 0 d_Md_differs_18 rfl rfl ?_
      refine g_get (C := R_Md) (T := T_Md) (N := 22) X 0 18 in_Md rfl rfl (by decide) t3_165 rfl rfl d_Md_differs_19 ?_
      refine g_icmp_ge X 33 d_Md_differs_22 (by decide) (fun h22 => ?_) (fun h22 => absurd h22 (not_not_intro (b1.resolve_left h14)))
      refine g_iconst (v := nI 0) X d_Md_differs_33 rfl ?_
      refine g_iconst (v := nI 1) X d_Md_differs_34 rfl ?_
      refine g_calliV (n := 2) X [.int (bI false), .int (bI true)] (k_Md_goes1 mo tw K R qa qb qk qu qn qx qo qf d qr gm qg qv d2 qs vv qc qm qw true ) t3_223 t3_225 ts_11 t1_9 t3_226 rfl rfl (by decide +kernel) ⟨by decide, by decide⟩ [0] [] [] rfl rfl rfl rfl (by decide) 0 rfl rfl rfl rfl (Nat.le_of_ble_eq_true rfl) d_Md_differs_35 ⟨by decide, by decide⟩ (fun r4 w9u4 hw4 => ?_)
      subst hw4
      refine b_if_ne X 43 d_Md_differs_38 (by decide) (fun h38 => absurd h38 (by decide)) (fun h38 => ?_)
      refine g_iconst (v := nI 0) X d_Md_differs_41 rfl ?_
      exact g_iret X hA9 hQ9 hr9 hlk9 () [0] rfl rfl d_Md_differs_42 (rfl)
  · have b2 := b1
    refine g_aload_n X 0 d_Md_differs_0 rfl rfl ?_
    refine g_iload_n X 1 d_Md_differs_1 rfl rfl ?_
    refine n_if_lt X 33 d_Md_differs_2 (by decide) (by omega) (fun h2 => absurd h2 (by omega)) (fun h2 => ?_)
    refine g_iload_n X 1 d_Md_differs_5 rfl rfl ?_
    refine g_aload_n X 0 d_Md_differs_6 rfl rfl ?_
    refine g_get (C := R_Md) (T := T_Md) (N := 22) X 0 18 in_Md rfl rfl (by decide) t3_165 rfl rfl d_Md_differs_7 ?_
    refine n_icmp_ge X 33 d_Md_differs_10 (by decide) (by omega) (by omega) (fun h10 => absurd h10 (by omega)) (fun h10 => ?_)
    refine g_iload_n X 2 d_Md_differs_13 rfl rfl ?_
    refine n_if_lt X 33 d_Md_differs_14 (by decide) (by omega) (fun h14 => absurd h14 (by omega)) (fun h14 => ?_)
    refine g_iload_n X 2 d_Md_differs_17 rfl rfl ?_
    refine g_aload_n X 0 d_Md_differs_18 rfl rfl ?_
    refine g_get (C := R_Md) (T := T_Md) (N := 22) X 0 18 in_Md rfl rfl (by decide) t3_165 rfl rfl d_Md_differs_19 ?_
    refine n_icmp_ge X 33 d_Md_differs_22 (by decide) (by omega) (by omega) (fun h22 => absurd h22 (by omega)) (fun h22 => ?_)
    refine g_iload_n X 3 d_Md_differs_25 rfl rfl ?_
    refine g_if_lt X 33 d_Md_differs_26 (by decide) (fun h26 => ?_) (fun h26 => absurd h26 (not_not_intro b1))
    refine g_iconst (v := nI 0) X d_Md_differs_33 rfl ?_
    refine g_iconst (v := nI 1) X d_Md_differs_34 rfl ?_
    refine g_calliV (n := 2) X [.int (bI false), .int (bI true)] (k_Md_goes1 mo tw K R qa qb qk qu qn qx qo qf d qr gm qg qv d2 qs vv qc qm qw true ) t3_223 t3_225 ts_11 t1_9 t3_226 rfl rfl (by decide +kernel) ⟨by decide, by decide⟩ [0] [] [] rfl rfl rfl rfl (by decide) 0 rfl rfl rfl rfl (Nat.le_of_ble_eq_true rfl) d_Md_differs_35 ⟨by decide, by decide⟩ (fun r5 w9u5 hw5 => ?_)
    subst hw5
    refine b_if_ne X 43 d_Md_differs_38 (by decide) (fun h38 => absurd h38 (by decide)) (fun h38 => ?_)
    refine g_iconst (v := nI 0) X d_Md_differs_41 rfl ?_
    exact g_iret X hA9 hQ9 hr9 hlk9 () [0] rfl rfl d_Md_differs_42 (rfl)

set_option maxHeartbeats 4000000 in
set_option maxRecDepth 100000 in
theorem k_Md_count0 (mo : Nat) (tw : Int32) (K : Nat) (R : Nat) (qa : Nat) (qb : Nat) (qk : Nat) (qu : Nat) (qn : Nat) (qx : Nat) (qo : Nat) (qf : Nat) (d : Nat) (qr : Nat) (gm : Nat) (qg : Nat) (qv : Nat) (d2 : Nat) (qs : Nat) (vv : Nat) (qc : Nat) (qm : Nat) (qw : Nat)  : CtI l y_Md_count (Cond.code y_Md_count c_Md_count 4 (some .int) :: TB) ({ frames := 1, cells := 0, slots := 0, locals := 22 } : Room) D (tysv cI cJ cZ cQ) [.ref mo, .int (nI 0)] [(mo, .inr (8, [.int tw, .int (nI K), .int (nI R), .ref qa, .ref qb, .ref qk, .ref qu, .ref qn, .ref qx, .ref qo, .ref qf, .int (nI d), .ref qr, .int (nI gm), .ref qg, .ref qv, .int (nI d2), .ref qs, .int (nI vv), .ref qc, .ref qm, .ref qw]))] 0 0 (fun (r : Int32) (_ : Unit) => r = nI (K)) (fun (_ : Unit) => [(mo, .inr (8, [.int (nI 0), .int (nI K), .int (nI R), .ref qa, .ref qb, .ref qk, .ref qu, .ref qn, .ref qx, .ref qo, .ref qf, .int (nI d), .ref qr, .int (nI gm), .ref qg, .ref qv, .int (nI d2), .ref qs, .int (nI vv), .ref qc, .ref qm, .ref qw]))]) := by
  refine CtI.of c_Md_count 4 (some .int) (by decide) rfl (Nat.le_of_ble_eq_true rfl) ?_
  intro p e s m args below meth c A Q hA9 hQ9 X hr9 hlk9 hin9
  refine g_aload_n X 0 d_Md_count_0 rfl rfl ?_
  refine g_iload_n X 1 d_Md_count_1 rfl rfl ?_
  refine n_if_lt X 14 d_Md_count_2 (by decide) (by omega) (fun h2 => absurd h2 (by omega)) (fun h2 => ?_)
  refine g_iload_n X 1 d_Md_count_5 rfl rfl ?_
  refine g_iconst (v := nI 4) X d_Md_count_6 rfl ?_
  refine n_icmp_gt X 14 d_Md_count_7 (by decide) (by omega) (by omega) (fun h7 => absurd h7 (by omega)) (fun h7 => ?_)
  refine g_iconst (v := nI 1) X d_Md_count_10 rfl ?_
  refine g_goto X 15 d_Md_count_11 (by decide) ?_
  refine g_iconst (v := nI 1) X d_Md_count_15 rfl ?_
  refine g_calliV (n := 2) X [.int (bI true), .int (bI true)] (k_Md_goes mo tw K R qa qb qk qu qn qx qo qf d qr gm qg qv d2 qs vv qc qm qw ) t3_223 t3_225 ts_11 t1_9 t3_226 rfl rfl (by decide +kernel) ⟨by decide, by decide⟩ [0] [] [] rfl rfl rfl rfl (by decide) 0 rfl rfl rfl rfl (Nat.le_of_ble_eq_true rfl) d_Md_count_16 ⟨by decide, by decide⟩ (fun r1 w9u1 hw1 => ?_)
  subst hw1
  refine b_if_ne X 24 d_Md_count_19 (by decide) (fun h19 => ?_) (fun h19 => absurd h19 (by decide))
  refine g_iconst (v := nI 0) X d_Md_count_24 rfl ?_
  refine g_istore_n X [(2, .int (nI 0)), (0, .ref mo), (1, .int (nI 0))] d_Md_count_25 rfl (by decide) rfl ?_
  refine g_iload_n X 1 d_Md_count_26 rfl rfl ?_
  refine g_iconst (v := nI 1) X d_Md_count_27 rfl ?_
  refine n_icmp_ne X 67 d_Md_count_28 (by decide) (by omega) (by omega) (fun h28 => ?_) (fun h28 => absurd h28 (by omega))
  refine g_iload_n X 1 d_Md_count_67 rfl rfl ?_
  refine g_iconst (v := nI 2) X d_Md_count_68 rfl ?_
  refine n_icmp_ne X 109 d_Md_count_69 (by decide) (by omega) (by omega) (fun h69 => ?_) (fun h69 => absurd h69 (by omega))
  refine g_iload_n X 1 d_Md_count_109 rfl rfl ?_
  refine g_iconst (v := nI 3) X d_Md_count_110 rfl ?_
  refine n_icmp_ne X 146 d_Md_count_111 (by decide) (by omega) (by omega) (fun h111 => ?_) (fun h111 => absurd h111 (by omega))
  refine g_iload_n X 1 d_Md_count_146 rfl rfl ?_
  refine n_if_ne X 157 d_Md_count_147 (by decide) (by omega) (fun h147 => absurd h147 (by omega)) (fun h147 => ?_)
  refine g_aload_n X 0 d_Md_count_150 rfl rfl ?_
  refine g_get (C := R_Md) (T := T_Md) (N := 22) X 0 1 in_Md rfl rfl (by decide) t3_148 rfl rfl d_Md_count_151 ?_
  refine g_goto X 170 d_Md_count_154 (by decide) ?_
  exact g_iret X hA9 hQ9 hr9 hlk9 () [0] rfl rfl d_Md_count_170 (rfl)

set_option maxHeartbeats 4000000 in
set_option maxRecDepth 100000 in
theorem k_Md_count4 (mo : Nat) (tw : Int32) (K : Nat) (R : Nat) (qa : Nat) (qb : Nat) (qk : Nat) (qu : Nat) (qn : Nat) (qx : Nat) (qo : Nat) (qf : Nat) (d : Nat) (qr : Nat) (gm : Nat) (qg : Nat) (qv : Nat) (d2 : Nat) (qs : Nat) (vv : Nat) (qc : Nat) (qm : Nat) (qw : Nat)  : CtI l y_Md_count (Cond.code y_Md_count c_Md_count 4 (some .int) :: TB) ({ frames := 1, cells := 0, slots := 0, locals := 22 } : Room) D (tysv cI cJ cZ cQ) [.ref mo, .int (nI 4)] [(mo, .inr (8, [.int tw, .int (nI K), .int (nI R), .ref qa, .ref qb, .ref qk, .ref qu, .ref qn, .ref qx, .ref qo, .ref qf, .int (nI d), .ref qr, .int (nI gm), .ref qg, .ref qv, .int (nI d2), .ref qs, .int (nI vv), .ref qc, .ref qm, .ref qw]))] 0 0 (fun (r : Int32) (_ : Unit) => r = nI (gm)) (fun (_ : Unit) => [(mo, .inr (8, [.int (nI 0), .int (nI K), .int (nI R), .ref qa, .ref qb, .ref qk, .ref qu, .ref qn, .ref qx, .ref qo, .ref qf, .int (nI d), .ref qr, .int (nI gm), .ref qg, .ref qv, .int (nI d2), .ref qs, .int (nI vv), .ref qc, .ref qm, .ref qw]))]) := by
  refine CtI.of c_Md_count 4 (some .int) (by decide) rfl (Nat.le_of_ble_eq_true rfl) ?_
  intro p e s m args below meth c A Q hA9 hQ9 X hr9 hlk9 hin9
  refine g_aload_n X 0 d_Md_count_0 rfl rfl ?_
  refine g_iload_n X 1 d_Md_count_1 rfl rfl ?_
  refine n_if_lt X 14 d_Md_count_2 (by decide) (by omega) (fun h2 => absurd h2 (by omega)) (fun h2 => ?_)
  refine g_iload_n X 1 d_Md_count_5 rfl rfl ?_
  refine g_iconst (v := nI 4) X d_Md_count_6 rfl ?_
  refine n_icmp_gt X 14 d_Md_count_7 (by decide) (by omega) (by omega) (fun h7 => absurd h7 (by omega)) (fun h7 => ?_)
  refine g_iconst (v := nI 1) X d_Md_count_10 rfl ?_
  refine g_goto X 15 d_Md_count_11 (by decide) ?_
  refine g_iconst (v := nI 1) X d_Md_count_15 rfl ?_
  refine g_calliV (n := 2) X [.int (bI true), .int (bI true)] (k_Md_goes mo tw K R qa qb qk qu qn qx qo qf d qr gm qg qv d2 qs vv qc qm qw ) t3_223 t3_225 ts_11 t1_9 t3_226 rfl rfl (by decide +kernel) ⟨by decide, by decide⟩ [0] [] [] rfl rfl rfl rfl (by decide) 0 rfl rfl rfl rfl (Nat.le_of_ble_eq_true rfl) d_Md_count_16 ⟨by decide, by decide⟩ (fun r1 w9u1 hw1 => ?_)
  subst hw1
  refine b_if_ne X 24 d_Md_count_19 (by decide) (fun h19 => ?_) (fun h19 => absurd h19 (by decide))
  refine g_iconst (v := nI 0) X d_Md_count_24 rfl ?_
  refine g_istore_n X [(2, .int (nI 0)), (0, .ref mo), (1, .int (nI 4))] d_Md_count_25 rfl (by decide) rfl ?_
  refine g_iload_n X 1 d_Md_count_26 rfl rfl ?_
  refine g_iconst (v := nI 1) X d_Md_count_27 rfl ?_
  refine n_icmp_ne X 67 d_Md_count_28 (by decide) (by omega) (by omega) (fun h28 => ?_) (fun h28 => absurd h28 (by omega))
  refine g_iload_n X 1 d_Md_count_67 rfl rfl ?_
  refine g_iconst (v := nI 2) X d_Md_count_68 rfl ?_
  refine n_icmp_ne X 109 d_Md_count_69 (by decide) (by omega) (by omega) (fun h69 => ?_) (fun h69 => absurd h69 (by omega))
  refine g_iload_n X 1 d_Md_count_109 rfl rfl ?_
  refine g_iconst (v := nI 3) X d_Md_count_110 rfl ?_
  refine n_icmp_ne X 146 d_Md_count_111 (by decide) (by omega) (by omega) (fun h111 => ?_) (fun h111 => absurd h111 (by omega))
  refine g_iload_n X 1 d_Md_count_146 rfl rfl ?_
  refine n_if_ne X 157 d_Md_count_147 (by decide) (by omega) (fun h147 => ?_) (fun h147 => absurd h147 (by omega))
  refine g_iload_n X 1 d_Md_count_157 rfl rfl ?_
  refine g_iconst (v := nI 4) X d_Md_count_158 rfl ?_
  refine n_icmp_ne X 169 d_Md_count_159 (by decide) (by omega) (by omega) (fun h159 => absurd h159 (by omega)) (fun h159 => ?_)
  refine g_aload_n X 0 d_Md_count_162 rfl rfl ?_
  refine g_get (C := R_Md) (T := T_Md) (N := 22) X 0 13 in_Md rfl rfl (by decide) t3_160 rfl rfl d_Md_count_163 ?_
  refine g_goto X 170 d_Md_count_166 (by decide) ?_
  exact g_iret X hA9 hQ9 hr9 hlk9 () [0] rfl rfl d_Md_count_170 (rfl)

set_option maxHeartbeats 4000000 in
set_option maxRecDepth 100000 in
theorem k_Md_count1 (mo : Nat) (tw : Int32) (K : Nat) (R : Nat) (qa : Nat) (qb : Nat) (qk : Nat) (qu : Nat) (qn : Nat) (qx : Nat) (qo : Nat) (qf : Nat) (d : Nat) (qr : Nat) (gm : Nat) (qg : Nat) (qv : Nat) (d2 : Nat) (qs : Nat) (vv : Nat) (qc : Nat) (qm : Nat) (qw : Nat) (UN : Nat → Bool) (hR2 : R ≤ 200) : CtI l y_Md_count (Cond.code y_Md_count c_Md_count 4 (some .int) :: TB) ({ frames := 1, cells := 0, slots := 0, locals := 22 } : Room) D (tysv cI cJ cZ cQ) [.ref mo, .int (nI 1)] [(mo, .inr (8, [.int tw, .int (nI K), .int (nI R), .ref qa, .ref qb, .ref qk, .ref qu, .ref qn, .ref qx, .ref qo, .ref qf, .int (nI d), .ref qr, .int (nI gm), .ref qg, .ref qv, .int (nI d2), .ref qs, .int (nI vv), .ref qc, .ref qm, .ref qw])), (qu, .inl (cZ, 200, .inl (zf UN)))] 0 0 (fun (r : Int32) (_ : Unit) => r = nI (cnt (fun r => !UN r) R)) (fun (_ : Unit) => [(mo, .inr (8, [.int (nI 0), .int (nI K), .int (nI R), .ref qa, .ref qb, .ref qk, .ref qu, .ref qn, .ref qx, .ref qo, .ref qf, .int (nI d), .ref qr, .int (nI gm), .ref qg, .ref qv, .int (nI d2), .ref qs, .int (nI vv), .ref qc, .ref qm, .ref qw])), (qu, .inl (cZ, 200, .inl (zf UN)))]) := by
  refine CtI.of c_Md_count 4 (some .int) (by decide) rfl (Nat.le_of_ble_eq_true rfl) ?_
  intro p e s m args below meth c A Q hA9 hQ9 X hr9 hlk9 hin9
  refine g_aload_n X 0 d_Md_count_0 rfl rfl ?_
  refine g_iload_n X 1 d_Md_count_1 rfl rfl ?_
  refine n_if_lt X 14 d_Md_count_2 (by decide) (by omega) (fun h2 => absurd h2 (by omega)) (fun h2 => ?_)
  refine g_iload_n X 1 d_Md_count_5 rfl rfl ?_
  refine g_iconst (v := nI 4) X d_Md_count_6 rfl ?_
  refine n_icmp_gt X 14 d_Md_count_7 (by decide) (by omega) (by omega) (fun h7 => absurd h7 (by omega)) (fun h7 => ?_)
  refine g_iconst (v := nI 1) X d_Md_count_10 rfl ?_
  refine g_goto X 15 d_Md_count_11 (by decide) ?_
  refine g_iconst (v := nI 1) X d_Md_count_15 rfl ?_
  refine g_calliV (n := 2) X [.int (bI true), .int (bI true)] (k_Md_goes mo tw K R qa qb qk qu qn qx qo qf d qr gm qg qv d2 qs vv qc qm qw ) t3_223 t3_225 ts_11 t1_9 t3_226 rfl rfl (by decide +kernel) ⟨by decide, by decide⟩ [0] [1] [(qu, .inl (cZ, 200, .inl (zf UN)))] rfl rfl rfl rfl (by decide) 0 rfl rfl rfl rfl (Nat.le_of_ble_eq_true rfl) d_Md_count_16 ⟨by decide, by decide⟩ (fun r1 w9u1 hw1 => ?_)
  subst hw1
  refine b_if_ne X 24 d_Md_count_19 (by decide) (fun h19 => ?_) (fun h19 => absurd h19 (by decide))
  have L33 : ∀ (N33 : Nat) (i : Nat) (n : Nat), (R - i) < N33 → (i ≤ R) → (n ≤ i) → (n = cnt (fun r => !UN r) i) → G p l e ({ frames := 1, cells := 0, slots := 0, locals := 22 } : Room) s m args below meth c 4 D A s.heap Q 0 0 [(mo, .inr (8, [.int (nI 0), .int (nI K), .int (nI R), .ref qa, .ref qb, .ref qk, .ref qu, .ref qn, .ref qx, .ref qo, .ref qf, .int (nI d), .ref qr, .int (nI gm), .ref qg, .ref qv, .int (nI d2), .ref qs, .int (nI vv), .ref qc, .ref qm, .ref qw])), (qu, .inl (cZ, 200, .inl (zf UN)))] [(0, .ref mo), (1, .int (nI 1)), (2, .int (nI n)), (3, .int (nI i))] 33 [] := by
    intro N33
    induction N33 with
    | zero =>
      intro i n hN
      exact absurd hN (Nat.not_lt_zero _)
    | succ N33 ih33 =>
      intro i n hN33 hi hni hn
      refine g_iload_n X 3 d_Md_count_33 rfl rfl ?_
      refine g_aload_n X 0 d_Md_count_34 rfl rfl ?_
      refine g_get (C := R_Md) (T := T_Md) (N := 22) X 0 2 in_Md rfl rfl (by decide) t3_149 rfl rfl d_Md_count_35 ?_
      refine n_icmp_ge X 64 d_Md_count_38 (by decide) (by omega) (by omega) (fun h38 => ?_) (fun h38 => ?_)
      · refine g_goto X 146 d_Md_count_64 (by decide) ?_
        refine g_iload_n X 1 d_Md_count_146 rfl rfl ?_
        refine n_if_ne X 157 d_Md_count_147 (by decide) (by omega) (fun h147 => ?_) (fun h147 => absurd h147 (by omega))
        refine g_iload_n X 1 d_Md_count_157 rfl rfl ?_
        refine g_iconst (v := nI 4) X d_Md_count_158 rfl ?_
        refine n_icmp_ne X 169 d_Md_count_159 (by decide) (by omega) (by omega) (fun h159 => ?_) (fun h159 => absurd h159 (by omega))
        refine g_iload_n X 2 d_Md_count_169 rfl rfl ?_
        exact g_iret X hA9 hQ9 hr9 hlk9 () [0, 1] rfl rfl d_Md_count_170 (by have e9 : i = R := (by omega); subst e9; rw [hn])
      · refine g_aload_n X 0 d_Md_count_41 rfl rfl ?_
        refine g_get (C := R_Md) (T := T_Md) (N := 22) X 0 6 in_Md rfl rfl (by decide) t3_153 rfl rfl d_Md_count_42 ?_
        refine g_iload_n X 3 d_Md_count_45 rfl rfl ?_
        refine g_zaldB X 1 2 rfl rfl (by omega) (by omega) d_Md_count_46 ?_
        refine b_if_eq X 54 d_Md_count_47 (by decide) (fun h47 => ?_) (fun h47 => ?_)
        · refine g_iload_n X 2 d_Md_count_54 rfl rfl ?_
          refine g_iconst (v := nI 1) X d_Md_count_55 rfl ?_
          refine g_iadd X (nI (n + 1)) d_Md_count_56 (nI_add n 1) ?_
          refine g_istore_n X [(2, .int (nI (n + 1))), (0, .ref mo), (1, .int (nI 1)), (3, .int (nI i))] d_Md_count_57 rfl (by decide) rfl ?_
          refine g_iinc X (nI (i + 1)) [(3, .int (nI (i + 1))), (2, .int (nI (n + 1))), (0, .ref mo), (1, .int (nI 1))] d_Md_count_58 (k := 3) rfl (nI_1 i) (by decide) rfl ?_
          refine g_goto X 33 d_Md_count_61 (by decide) ?_
          refine g_lv [2, 3, 1, 0] rfl ?_
          exact ih33 (i + 1) (n + 1) (by omega) (by omega) (by omega) (by first | exact cntP_t (by rw [h47]; rfl) hn | exact cntP_f (by rw [h47]; rfl) hn)
        · refine g_iload_n X 2 d_Md_count_50 rfl rfl ?_
          refine g_goto X 57 d_Md_count_51 (by decide) ?_
          refine g_istore_n X [(2, .int (nI n)), (0, .ref mo), (1, .int (nI 1)), (3, .int (nI i))] d_Md_count_57 rfl (by decide) rfl ?_
          refine g_iinc X (nI (i + 1)) [(3, .int (nI (i + 1))), (2, .int (nI n)), (0, .ref mo), (1, .int (nI 1))] d_Md_count_58 (k := 3) rfl (nI_1 i) (by decide) rfl ?_
          refine g_goto X 33 d_Md_count_61 (by decide) ?_
          refine g_lv [2, 3, 1, 0] rfl ?_
          exact ih33 (i + 1) n (by omega) (by omega) (by omega) (by first | exact cntP_t (by rw [h47]; rfl) hn | exact cntP_f (by rw [h47]; rfl) hn)
  refine g_iconst (v := nI 0) X d_Md_count_24 rfl ?_
  refine g_istore_n X [(2, .int (nI 0)), (0, .ref mo), (1, .int (nI 1))] d_Md_count_25 rfl (by decide) rfl ?_
  refine g_iload_n X 1 d_Md_count_26 rfl rfl ?_
  refine g_iconst (v := nI 1) X d_Md_count_27 rfl ?_
  refine n_icmp_ne X 67 d_Md_count_28 (by decide) (by omega) (by omega) (fun h28 => absurd h28 (by omega)) (fun h28 => ?_)
  refine g_iconst (v := nI 0) X d_Md_count_31 rfl ?_
  refine g_istore_n X [(3, .int (nI 0)), (2, .int (nI 0)), (0, .ref mo), (1, .int (nI 1))] d_Md_count_32 rfl (by decide) rfl ?_
  refine g_ws [(mo, .inr (8, [.int (nI 0), .int (nI K), .int (nI R), .ref qa, .ref qb, .ref qk, .ref qu, .ref qn, .ref qx, .ref qo, .ref qf, .int (nI d), .ref qr, .int (nI gm), .ref qg, .ref qv, .int (nI d2), .ref qs, .int (nI vv), .ref qc, .ref qm, .ref qw])), (qu, .inl (cZ, 200, .inl (zf UN)))] [1, 0] rfl rfl ?_
  refine g_lv [2, 3, 1, 0] rfl ?_
  exact L33 ((R - 0) + 1) 0 0 (Nat.lt_succ_self _) (by omega) (by omega) (rfl)

set_option maxHeartbeats 4000000 in
set_option maxRecDepth 100000 in
theorem k_Md_count2 (mo : Nat) (tw : Int32) (K : Nat) (R : Nat) (qa : Nat) (qb : Nat) (qk : Nat) (qu : Nat) (qn : Nat) (qx : Nat) (qo : Nat) (qf : Nat) (d : Nat) (qr : Nat) (gm : Nat) (qg : Nat) (qv : Nat) (d2 : Nat) (qs : Nat) (vv : Nat) (qc : Nat) (qm : Nat) (qw : Nat) (M : Nat → Nat) (hK : K ≤ 48) (hM : ∀ z, z < K → M z < 48) : CtI l y_Md_count (Cond.code y_Md_count c_Md_count 4 (some .int) :: TB) ({ frames := 1, cells := 0, slots := 0, locals := 22 } : Room) D (tysv cI cJ cZ cQ) [.ref mo, .int (nI 2)] [(mo, .inr (8, [.int tw, .int (nI K), .int (nI R), .ref qa, .ref qb, .ref qk, .ref qu, .ref qn, .ref qx, .ref qo, .ref qf, .int (nI d), .ref qr, .int (nI gm), .ref qg, .ref qv, .int (nI d2), .ref qs, .int (nI vv), .ref qc, .ref qm, .ref qw])), (qn, .inl (cI, 48, .inl (nf M)))] 0 0 (fun (r : Int32) (_ : Unit) => r = nI (cnt (fun z => decide (M z = z)) K)) (fun (_ : Unit) => [(mo, .inr (8, [.int (nI 0), .int (nI K), .int (nI R), .ref qa, .ref qb, .ref qk, .ref qu, .ref qn, .ref qx, .ref qo, .ref qf, .int (nI d), .ref qr, .int (nI gm), .ref qg, .ref qv, .int (nI d2), .ref qs, .int (nI vv), .ref qc, .ref qm, .ref qw])), (qn, .inl (cI, 48, .inl (nf M)))]) := by
  refine CtI.of c_Md_count 4 (some .int) (by decide) rfl (Nat.le_of_ble_eq_true rfl) ?_
  intro p e s m args below meth c A Q hA9 hQ9 X hr9 hlk9 hin9
  refine g_aload_n X 0 d_Md_count_0 rfl rfl ?_
  refine g_iload_n X 1 d_Md_count_1 rfl rfl ?_
  refine n_if_lt X 14 d_Md_count_2 (by decide) (by omega) (fun h2 => absurd h2 (by omega)) (fun h2 => ?_)
  refine g_iload_n X 1 d_Md_count_5 rfl rfl ?_
  refine g_iconst (v := nI 4) X d_Md_count_6 rfl ?_
  refine n_icmp_gt X 14 d_Md_count_7 (by decide) (by omega) (by omega) (fun h7 => absurd h7 (by omega)) (fun h7 => ?_)
  refine g_iconst (v := nI 1) X d_Md_count_10 rfl ?_
  refine g_goto X 15 d_Md_count_11 (by decide) ?_
  refine g_iconst (v := nI 1) X d_Md_count_15 rfl ?_
  refine g_calliV (n := 2) X [.int (bI true), .int (bI true)] (k_Md_goes mo tw K R qa qb qk qu qn qx qo qf d qr gm qg qv d2 qs vv qc qm qw ) t3_223 t3_225 ts_11 t1_9 t3_226 rfl rfl (by decide +kernel) ⟨by decide, by decide⟩ [0] [1] [(qn, .inl (cI, 48, .inl (nf M)))] rfl rfl rfl rfl (by decide) 0 rfl rfl rfl rfl (Nat.le_of_ble_eq_true rfl) d_Md_count_16 ⟨by decide, by decide⟩ (fun r1 w9u1 hw1 => ?_)
  subst hw1
  refine b_if_ne X 24 d_Md_count_19 (by decide) (fun h19 => ?_) (fun h19 => absurd h19 (by decide))
  have L74 : ∀ (N74 : Nat) (i : Nat) (n : Nat), (K - i) < N74 → (i ≤ K) → (n ≤ i) → (n = cnt (fun z => decide (M z = z)) i) → G p l e ({ frames := 1, cells := 0, slots := 0, locals := 22 } : Room) s m args below meth c 4 D A s.heap Q 0 0 [(mo, .inr (8, [.int (nI 0), .int (nI K), .int (nI R), .ref qa, .ref qb, .ref qk, .ref qu, .ref qn, .ref qx, .ref qo, .ref qf, .int (nI d), .ref qr, .int (nI gm), .ref qg, .ref qv, .int (nI d2), .ref qs, .int (nI vv), .ref qc, .ref qm, .ref qw])), (qn, .inl (cI, 48, .inl (nf M)))] [(0, .ref mo), (1, .int (nI 2)), (2, .int (nI n)), (3, .int (nI i))] 74 [] := by
    intro N74
    induction N74 with
    | zero =>
      intro i n hN
      exact absurd hN (Nat.not_lt_zero _)
    | succ N74 ih74 =>
      intro i n hN74 hi hni hn
      refine g_iload_n X 3 d_Md_count_74 rfl rfl ?_
      refine g_aload_n X 0 d_Md_count_75 rfl rfl ?_
      refine g_get (C := R_Md) (T := T_Md) (N := 22) X 0 1 in_Md rfl rfl (by decide) t3_148 rfl rfl d_Md_count_76 ?_
      refine n_icmp_ge X 106 d_Md_count_79 (by decide) (by omega) (by omega) (fun h79 => ?_) (fun h79 => ?_)
      · refine g_goto X 146 d_Md_count_106 (by decide) ?_
        refine g_iload_n X 1 d_Md_count_146 rfl rfl ?_
        refine n_if_ne X 157 d_Md_count_147 (by decide) (by omega) (fun h147 => ?_) (fun h147 => absurd h147 (by omega))
        refine g_iload_n X 1 d_Md_count_157 rfl rfl ?_
        refine g_iconst (v := nI 4) X d_Md_count_158 rfl ?_
        refine n_icmp_ne X 169 d_Md_count_159 (by decide) (by omega) (by omega) (fun h159 => ?_) (fun h159 => absurd h159 (by omega))
        refine g_iload_n X 2 d_Md_count_169 rfl rfl ?_
        exact g_iret X hA9 hQ9 hr9 hlk9 () [0, 1] rfl rfl d_Md_count_170 (by have e9 : i = K := (by omega); subst e9; rw [hn])
      · have lM := hM i (by omega)
        refine g_aload_n X 0 d_Md_count_82 rfl rfl ?_
        refine g_get (C := R_Md) (T := T_Md) (N := 22) X 0 7 in_Md rfl rfl (by decide) t3_154 rfl rfl d_Md_count_83 ?_
        refine g_iload_n X 3 d_Md_count_86 rfl rfl ?_
        refine g_ialdN X 1 0 rfl rfl (by omega) (by omega) d_Md_count_87 ?_
        refine g_iload_n X 3 d_Md_count_88 rfl rfl ?_
        refine n_icmp_ne X 98 d_Md_count_89 (by decide) (by omega) (by omega) (fun h89 => ?_) (fun h89 => ?_)
        · refine g_iload_n X 2 d_Md_count_98 rfl rfl ?_
          refine g_istore_n X [(2, .int (nI n)), (0, .ref mo), (1, .int (nI 2)), (3, .int (nI i))] d_Md_count_99 rfl (by decide) rfl ?_
          refine g_iinc X (nI (i + 1)) [(3, .int (nI (i + 1))), (2, .int (nI n)), (0, .ref mo), (1, .int (nI 2))] d_Md_count_100 (k := 3) rfl (nI_1 i) (by decide) rfl ?_
          refine g_goto X 74 d_Md_count_103 (by decide) ?_
          refine g_lv [2, 3, 1, 0] rfl ?_
          exact ih74 (i + 1) n (by omega) (by omega) (by omega) (by first | exact cntP_t (decide_eq_true h89) hn | exact cntP_f (decide_eq_false h89) hn)
        · refine g_iload_n X 2 d_Md_count_92 rfl rfl ?_
          refine g_iconst (v := nI 1) X d_Md_count_93 rfl ?_
          refine g_iadd X (nI (n + 1)) d_Md_count_94 (nI_add n 1) ?_
          refine g_goto X 99 d_Md_count_95 (by decide) ?_
          refine g_istore_n X [(2, .int (nI (n + 1))), (0, .ref mo), (1, .int (nI 2)), (3, .int (nI i))] d_Md_count_99 rfl (by decide) rfl ?_
          refine g_iinc X (nI (i + 1)) [(3, .int (nI (i + 1))), (2, .int (nI (n + 1))), (0, .ref mo), (1, .int (nI 2))] d_Md_count_100 (k := 3) rfl (nI_1 i) (by decide) rfl ?_
          refine g_goto X 74 d_Md_count_103 (by decide) ?_
          refine g_lv [2, 3, 1, 0] rfl ?_
          exact ih74 (i + 1) (n + 1) (by omega) (by omega) (by omega) (by first | exact cntP_t (decide_eq_true h89) hn | exact cntP_f (decide_eq_false h89) hn)
  refine g_iconst (v := nI 0) X d_Md_count_24 rfl ?_
  refine g_istore_n X [(2, .int (nI 0)), (0, .ref mo), (1, .int (nI 2))] d_Md_count_25 rfl (by decide) rfl ?_
  refine g_iload_n X 1 d_Md_count_26 rfl rfl ?_
  refine g_iconst (v := nI 1) X d_Md_count_27 rfl ?_
  refine n_icmp_ne X 67 d_Md_count_28 (by decide) (by omega) (by omega) (fun h28 => ?_) (fun h28 => absurd h28 (by omega))
  refine g_iload_n X 1 d_Md_count_67 rfl rfl ?_
  refine g_iconst (v := nI 2) X d_Md_count_68 rfl ?_
  refine n_icmp_ne X 109 d_Md_count_69 (by decide) (by omega) (by omega) (fun h69 => absurd h69 (by omega)) (fun h69 => ?_)
  refine g_iconst (v := nI 0) X d_Md_count_72 rfl ?_
  refine g_istore_n X [(3, .int (nI 0)), (2, .int (nI 0)), (0, .ref mo), (1, .int (nI 2))] d_Md_count_73 rfl (by decide) rfl ?_
  refine g_ws [(mo, .inr (8, [.int (nI 0), .int (nI K), .int (nI R), .ref qa, .ref qb, .ref qk, .ref qu, .ref qn, .ref qx, .ref qo, .ref qf, .int (nI d), .ref qr, .int (nI gm), .ref qg, .ref qv, .int (nI d2), .ref qs, .int (nI vv), .ref qc, .ref qm, .ref qw])), (qn, .inl (cI, 48, .inl (nf M)))] [1, 0] rfl rfl ?_
  refine g_lv [2, 3, 1, 0] rfl ?_
  exact L74 ((K - 0) + 1) 0 0 (Nat.lt_succ_self _) (by omega) (by omega) (rfl)

set_option maxHeartbeats 4000000 in
set_option maxRecDepth 100000 in
theorem k_Md_count3 (mo : Nat) (tw : Int32) (K : Nat) (R : Nat) (qa : Nat) (qb : Nat) (qk : Nat) (qu : Nat) (qn : Nat) (qx : Nat) (qo : Nat) (qf : Nat) (d : Nat) (qr : Nat) (gm : Nat) (qg : Nat) (qv : Nat) (d2 : Nat) (qs : Nat) (vv : Nat) (qc : Nat) (qm : Nat) (qw : Nat) (OV : Nat → Bool)  : CtI l y_Md_count (Cond.code y_Md_count c_Md_count 4 (some .int) :: TB) ({ frames := 1, cells := 0, slots := 0, locals := 22 } : Room) D (tysv cI cJ cZ cQ) [.ref mo, .int (nI 3)] [(mo, .inr (8, [.int tw, .int (nI K), .int (nI R), .ref qa, .ref qb, .ref qk, .ref qu, .ref qn, .ref qx, .ref qo, .ref qf, .int (nI d), .ref qr, .int (nI gm), .ref qg, .ref qv, .int (nI d2), .ref qs, .int (nI vv), .ref qc, .ref qm, .ref qw])), (qo, .inl (cZ, 2304, .inl (zf OV)))] 0 0 (fun (r : Int32) (_ : Unit) => r = nI (cnt OV 2304)) (fun (_ : Unit) => [(mo, .inr (8, [.int (nI 0), .int (nI K), .int (nI R), .ref qa, .ref qb, .ref qk, .ref qu, .ref qn, .ref qx, .ref qo, .ref qf, .int (nI d), .ref qr, .int (nI gm), .ref qg, .ref qv, .int (nI d2), .ref qs, .int (nI vv), .ref qc, .ref qm, .ref qw])), (qo, .inl (cZ, 2304, .inl (zf OV)))]) := by
  refine CtI.of c_Md_count 4 (some .int) (by decide) rfl (Nat.le_of_ble_eq_true rfl) ?_
  intro p e s m args below meth c A Q hA9 hQ9 X hr9 hlk9 hin9
  refine g_aload_n X 0 d_Md_count_0 rfl rfl ?_
  refine g_iload_n X 1 d_Md_count_1 rfl rfl ?_
  refine n_if_lt X 14 d_Md_count_2 (by decide) (by omega) (fun h2 => absurd h2 (by omega)) (fun h2 => ?_)
  refine g_iload_n X 1 d_Md_count_5 rfl rfl ?_
  refine g_iconst (v := nI 4) X d_Md_count_6 rfl ?_
  refine n_icmp_gt X 14 d_Md_count_7 (by decide) (by omega) (by omega) (fun h7 => absurd h7 (by omega)) (fun h7 => ?_)
  refine g_iconst (v := nI 1) X d_Md_count_10 rfl ?_
  refine g_goto X 15 d_Md_count_11 (by decide) ?_
  refine g_iconst (v := nI 1) X d_Md_count_15 rfl ?_
  refine g_calliV (n := 2) X [.int (bI true), .int (bI true)] (k_Md_goes mo tw K R qa qb qk qu qn qx qo qf d qr gm qg qv d2 qs vv qc qm qw ) t3_223 t3_225 ts_11 t1_9 t3_226 rfl rfl (by decide +kernel) ⟨by decide, by decide⟩ [0] [1] [(qo, .inl (cZ, 2304, .inl (zf OV)))] rfl rfl rfl rfl (by decide) 0 rfl rfl rfl rfl (Nat.le_of_ble_eq_true rfl) d_Md_count_16 ⟨by decide, by decide⟩ (fun r1 w9u1 hw1 => ?_)
  subst hw1
  refine b_if_ne X 24 d_Md_count_19 (by decide) (fun h19 => ?_) (fun h19 => absurd h19 (by decide))
  have L116 : ∀ (N116 : Nat) (i : Nat) (n : Nat), (2304 - i) < N116 → (i ≤ 2304) → (n ≤ i) → (n = cnt OV i) → G p l e ({ frames := 1, cells := 0, slots := 0, locals := 22 } : Room) s m args below meth c 4 D A s.heap Q 0 0 [(mo, .inr (8, [.int (nI 0), .int (nI K), .int (nI R), .ref qa, .ref qb, .ref qk, .ref qu, .ref qn, .ref qx, .ref qo, .ref qf, .int (nI d), .ref qr, .int (nI gm), .ref qg, .ref qv, .int (nI d2), .ref qs, .int (nI vv), .ref qc, .ref qm, .ref qw])), (qo, .inl (cZ, 2304, .inl (zf OV)))] [(0, .ref mo), (1, .int (nI 3)), (2, .int (nI n)), (3, .int (nI i))] 116 [] := by
    intro N116
    induction N116 with
    | zero =>
      intro i n hN
      exact absurd hN (Nat.not_lt_zero _)
    | succ N116 ih116 =>
      intro i n hN116 hi hni hn
      refine g_iload_n X 3 d_Md_count_116 rfl rfl ?_
      refine g_sipush (v := nI 2304) X d_Md_count_117 rfl ?_
      refine n_icmp_ge X 146 d_Md_count_120 (by decide) (by omega) (by omega) (fun h120 => ?_) (fun h120 => ?_)
      · refine g_iload_n X 1 d_Md_count_146 rfl rfl ?_
        refine n_if_ne X 157 d_Md_count_147 (by decide) (by omega) (fun h147 => ?_) (fun h147 => absurd h147 (by omega))
        refine g_iload_n X 1 d_Md_count_157 rfl rfl ?_
        refine g_iconst (v := nI 4) X d_Md_count_158 rfl ?_
        refine n_icmp_ne X 169 d_Md_count_159 (by decide) (by omega) (by omega) (fun h159 => ?_) (fun h159 => absurd h159 (by omega))
        refine g_iload_n X 2 d_Md_count_169 rfl rfl ?_
        exact g_iret X hA9 hQ9 hr9 hlk9 () [0, 1] rfl rfl d_Md_count_170 (by have e9 : i = 2304 := (by omega); subst e9; rw [hn])
      · refine g_aload_n X 0 d_Md_count_123 rfl rfl ?_
        refine g_get (C := R_Md) (T := T_Md) (N := 22) X 0 9 in_Md rfl rfl (by decide) t3_156 rfl rfl d_Md_count_124 ?_
        refine g_iload_n X 3 d_Md_count_127 rfl rfl ?_
        refine g_zaldB X 1 2 rfl rfl (by omega) (by omega) d_Md_count_128 ?_
        refine b_if_eq X 138 d_Md_count_129 (by decide) (fun h129 => ?_) (fun h129 => ?_)
        · refine g_iload_n X 2 d_Md_count_138 rfl rfl ?_
          refine g_istore_n X [(2, .int (nI n)), (0, .ref mo), (1, .int (nI 3)), (3, .int (nI i))] d_Md_count_139 rfl (by decide) rfl ?_
          refine g_iinc X (nI (i + 1)) [(3, .int (nI (i + 1))), (2, .int (nI n)), (0, .ref mo), (1, .int (nI 3))] d_Md_count_140 (k := 3) rfl (nI_1 i) (by decide) rfl ?_
          refine g_goto X 116 d_Md_count_143 (by decide) ?_
          refine g_lv [2, 3, 1, 0] rfl ?_
          exact ih116 (i + 1) n (by omega) (by omega) (by omega) (by first | exact cntP_t h129 hn | exact cntP_f h129 hn)
        · refine g_iload_n X 2 d_Md_count_132 rfl rfl ?_
          refine g_iconst (v := nI 1) X d_Md_count_133 rfl ?_
          refine g_iadd X (nI (n + 1)) d_Md_count_134 (nI_add n 1) ?_
          refine g_goto X 139 d_Md_count_135 (by decide) ?_
          refine g_istore_n X [(2, .int (nI (n + 1))), (0, .ref mo), (1, .int (nI 3)), (3, .int (nI i))] d_Md_count_139 rfl (by decide) rfl ?_
          refine g_iinc X (nI (i + 1)) [(3, .int (nI (i + 1))), (2, .int (nI (n + 1))), (0, .ref mo), (1, .int (nI 3))] d_Md_count_140 (k := 3) rfl (nI_1 i) (by decide) rfl ?_
          refine g_goto X 116 d_Md_count_143 (by decide) ?_
          refine g_lv [2, 3, 1, 0] rfl ?_
          exact ih116 (i + 1) (n + 1) (by omega) (by omega) (by omega) (by first | exact cntP_t h129 hn | exact cntP_f h129 hn)
  refine g_iconst (v := nI 0) X d_Md_count_24 rfl ?_
  refine g_istore_n X [(2, .int (nI 0)), (0, .ref mo), (1, .int (nI 3))] d_Md_count_25 rfl (by decide) rfl ?_
  refine g_iload_n X 1 d_Md_count_26 rfl rfl ?_
  refine g_iconst (v := nI 1) X d_Md_count_27 rfl ?_
  refine n_icmp_ne X 67 d_Md_count_28 (by decide) (by omega) (by omega) (fun h28 => ?_) (fun h28 => absurd h28 (by omega))
  refine g_iload_n X 1 d_Md_count_67 rfl rfl ?_
  refine g_iconst (v := nI 2) X d_Md_count_68 rfl ?_
  refine n_icmp_ne X 109 d_Md_count_69 (by decide) (by omega) (by omega) (fun h69 => ?_) (fun h69 => absurd h69 (by omega))
  refine g_iload_n X 1 d_Md_count_109 rfl rfl ?_
  refine g_iconst (v := nI 3) X d_Md_count_110 rfl ?_
  refine n_icmp_ne X 146 d_Md_count_111 (by decide) (by omega) (by omega) (fun h111 => absurd h111 (by omega)) (fun h111 => ?_)
  refine g_iconst (v := nI 0) X d_Md_count_114 rfl ?_
  refine g_istore_n X [(3, .int (nI 0)), (2, .int (nI 0)), (0, .ref mo), (1, .int (nI 3))] d_Md_count_115 rfl (by decide) rfl ?_
  refine g_ws [(mo, .inr (8, [.int (nI 0), .int (nI K), .int (nI R), .ref qa, .ref qb, .ref qk, .ref qu, .ref qn, .ref qx, .ref qo, .ref qf, .int (nI d), .ref qr, .int (nI gm), .ref qg, .ref qv, .int (nI d2), .ref qs, .int (nI vv), .ref qc, .ref qm, .ref qw])), (qo, .inl (cZ, 2304, .inl (zf OV)))] [1, 0] rfl rfl ?_
  refine g_lv [2, 3, 1, 0] rfl ?_
  exact L116 ((2304 - 0) + 1) 0 0 (Nat.lt_succ_self _) (by omega) (by omega) (rfl)

set_option maxHeartbeats 4000000 in
set_option maxRecDepth 100000 in
theorem k_Md_countB (mo : Nat) (tw : Int32) (K : Nat) (R : Nat) (qa : Nat) (qb : Nat) (qk : Nat) (qu : Nat) (qn : Nat) (qx : Nat) (qo : Nat) (qf : Nat) (d : Nat) (qr : Nat) (gm : Nat) (qg : Nat) (qv : Nat) (d2 : Nat) (qs : Nat) (vv : Nat) (qc : Nat) (qm : Nat) (qw : Nat) (x : Int32) (hB : badI 5 x) : CtI l y_Md_count (Cond.code y_Md_count c_Md_count 4 (some .int) :: TB) ({ frames := 1, cells := 0, slots := 0, locals := 22 } : Room) D (tysv cI cJ cZ cQ) [.ref mo, .int x] [(mo, .inr (8, [.int tw, .int (nI K), .int (nI R), .ref qa, .ref qb, .ref qk, .ref qu, .ref qn, .ref qx, .ref qo, .ref qf, .int (nI d), .ref qr, .int (nI gm), .ref qg, .ref qv, .int (nI d2), .ref qs, .int (nI vv), .ref qc, .ref qm, .ref qw]))] 0 0 (fun (r : Int32) (_ : Unit) => r = nI 0) (fun (_ : Unit) => [(mo, .inr (8, [.int (nI 1), .int (nI K), .int (nI R), .ref qa, .ref qb, .ref qk, .ref qu, .ref qn, .ref qx, .ref qo, .ref qf, .int (nI d), .ref qr, .int (nI gm), .ref qg, .ref qv, .int (nI d2), .ref qs, .int (nI vv), .ref qc, .ref qm, .ref qw]))]) := by
  refine CtI.of c_Md_count 4 (some .int) (by decide) rfl (Nat.le_of_ble_eq_true rfl) ?_
  intro p e s m args below meth c A Q hA9 hQ9 X hr9 hlk9 hin9
  refine g_aload_n X 0 d_Md_count_0 rfl rfl ?_
  refine g_iload_n X 1 d_Md_count_1 rfl rfl ?_
  refine g_if_lt X 14 d_Md_count_2 (by decide) (fun h2 => ?_) (fun h2 => ?_)
  · refine g_iconst (v := nI 0) X d_Md_count_14 rfl ?_
    refine g_iconst (v := nI 1) X d_Md_count_15 rfl ?_
    refine g_calliV (n := 2) X [.int (bI false), .int (bI true)] (k_Md_goes1 mo tw K R qa qb qk qu qn qx qo qf d qr gm qg qv d2 qs vv qc qm qw true ) t3_223 t3_225 ts_11 t1_9 t3_226 rfl rfl (by decide +kernel) ⟨by decide, by decide⟩ [0] [] [] rfl rfl rfl rfl (by decide) 0 rfl rfl rfl rfl (Nat.le_of_ble_eq_true rfl) d_Md_count_16 ⟨by decide, by decide⟩ (fun r1 w9u1 hw1 => ?_)
    subst hw1
    refine b_if_ne X 24 d_Md_count_19 (by decide) (fun h19 => absurd h19 (by decide)) (fun h19 => ?_)
    refine g_iconst (v := nI 0) X d_Md_count_22 rfl ?_
    exact g_iret X hA9 hQ9 hr9 hlk9 () [0] rfl rfl d_Md_count_23 (rfl)
  · refine g_iload_n X 1 d_Md_count_5 rfl rfl ?_
    refine g_iconst (v := nI 4) X d_Md_count_6 rfl ?_
    refine g_icmp_gt X 14 d_Md_count_7 (by decide) (fun h7 => ?_) (fun h7 => absurd h7 (not_not_intro (gt4 h2 (hB.resolve_left h2))))
    refine g_iconst (v := nI 0) X d_Md_count_14 rfl ?_
    refine g_iconst (v := nI 1) X d_Md_count_15 rfl ?_
    refine g_calliV (n := 2) X [.int (bI false), .int (bI true)] (k_Md_goes1 mo tw K R qa qb qk qu qn qx qo qf d qr gm qg qv d2 qs vv qc qm qw true ) t3_223 t3_225 ts_11 t1_9 t3_226 rfl rfl (by decide +kernel) ⟨by decide, by decide⟩ [0] [] [] rfl rfl rfl rfl (by decide) 0 rfl rfl rfl rfl (Nat.le_of_ble_eq_true rfl) d_Md_count_16 ⟨by decide, by decide⟩ (fun r2 w9u2 hw2 => ?_)
    subst hw2
    refine b_if_ne X 24 d_Md_count_19 (by decide) (fun h19 => absurd h19 (by decide)) (fun h19 => ?_)
    refine g_iconst (v := nI 0) X d_Md_count_22 rfl ?_
    exact g_iret X hA9 hQ9 hr9 hlk9 () [0] rfl rfl d_Md_count_23 (rfl)
