variable {l : Launch} {D : va_G} {cI cJ cZ cQ : ClassId}
theorem ov_t {E : Nat → Nat → Bool} {OV : Nat → Bool} {x y : Nat} (hE : gin E 48) (h : tbI OV (gwar E 48)) (hg : gov E x y) : OV (48 * x + y) = true := by
  have hb := gov_lt hE hg
  rw [h x hb.1 y hb.2]
  exact (gwar_iff hE x y).mpr hg
theorem ov_f {E : Nat → Nat → Bool} {OV : Nat → Bool} {x y : Nat} (hE : gin E 48) (h : tbI OV (gwar E 48)) (hx : x < 48) (hy : y < 48) (hg : ¬ gov E x y) : OV (48 * x + y) = false := by
  rw [h x hx y hy]
  cases hb : gwar E 48 x y with
  | false => rfl
  | true => exact absurd ((gwar_iff hE x y).mp hb) hg
theorem ring_self {E : Nat → Nat → Bool} {x d : Nat} {pp : Nat → Nat} (h : gring (gadd E x x) x d pp) : d = 1 ∧ pp 0 = x := ⟨gD_uniq h.1 (gD_first.mpr gadd_r), h.2.1⟩
theorem no_self {E : Nat → Nat → Bool} {x y : Nat} (h : ∀ k, ¬ gw (gadd E x y) (k + 1) x x) : x ≠ y := by
  intro e
  subst e
  exact h 0 (gw_one gadd_r)
theorem no_gov {E : Nat → Nat → Bool} {x y : Nat} (h : ∀ k, ¬ gw (gadd E x y) (k + 1) x x) : ¬ gov E y x := by
  rintro ⟨k, hk⟩
  exact h (k + 1) ⟨y, gadd_r, gadd_w (k + 1) y x hk⟩
theorem one_of {d n : Nat} {R9 qq pp FR : Nat → Nat} {x : Nat} (h0 : FR 0 = x) (e0 : pp 0 = x) (e1 : d = n + 1) (hp : ∀ k, k < n → pp (k + 1) = qq k) (h : (∀ j, j < 1 → R9 j = FR j) ∧ ∀ j, j < n → R9 (1 + j) = qq j) : ∀ j, j < d → R9 j = pp j := by
  intro j hj
  cases j with
  | zero => rw [h.1 0 (by omega), h0, e0]
  | succ j => rw [show j + 1 = 1 + j by omega, h.2 j (by omega), show 1 + j = j + 1 by omega, hp j (by omega)]
theorem whole_of {d n t : Nat} {E : Nat → Nat → Bool} {x : Nat} {R9 qq pp FR : Nat → Nat} (hq : gpath E t n x qq) (e1 : d = n + 1) (hp : ∀ k, k < n + 1 → pp k = qq k) (h : (∀ j, j < 0 → R9 j = FR j) ∧ (∀ j, j < n → R9 (0 + j) = qq j) ∧ R9 (0 + n) = t) : ∀ j, j < d → R9 j = pp j := by
  intro j hj
  rw [hp j (by omega)]
  by_cases q : j = n
  · subst q
    have := h.2.2
    rw [Nat.zero_add] at this
    rw [this]
    exact ((gpath_end hq (Nat.le_refl j)).mpr rfl).symm
  · have := h.2.1 j (by omega)
    rw [Nat.zero_add] at this
    exact this
theorem gd_short {E : Nat → Nat → Bool} {t n x : Nat} (hE : gin E 48) (hx : x ≠ t) (ht : t < 48) (h : gd E t n x) : n < 48 := by
  have h1 := gd_le hE h
  rcases Nat.lt_or_ge n 48 with q | q
  · exact q
  · have e : n = 48 := by omega
    subst e
    -- 49 different places: the 48 at the distances 1 to 48, and t
    obtain ⟨pp, hp⟩ := gpath_ex 48 x h
    have h9 := pig 48 49 pp (fun i hi => gpath_lt hE (gD_lt hE ((gD_gd hx).mpr h)) hp (by omega)) (fun i j hi hj e => by
      have a1 := gpath_d hp (show i ≤ 48 by omega)
      have a2 := gpath_d hp (show j ≤ 48 by omega)
      rw [e] at a1
      have := gd_uniq a1 a2
      omega)
    omega
theorem no_gov2 {E : Nat → Nat → Bool} {u w : Nat} (h : ∀ k, ¬ gw (gadd E w u) (k + 1) u u) : ¬ gov E u w := by
  rintro ⟨k, hk⟩
  exact h (k + 1) (gback_go hk)

set_option maxHeartbeats 4000000 in
set_option maxRecDepth 100000 in
theorem k_Md_rings (mo : Nat) (tw : Int32) (K : Nat) (R : Nat) (qa : Nat) (qb : Nat) (qk : Nat) (qu : Nat) (qn : Nat) (qx : Nat) (qo : Nat) (qf : Nat) (d : Nat) (qr : Nat) (gm : Nat) (qg : Nat) (qv : Nat) (d2 : Nat) (qs : Nat) (vv : Nat) (qc : Nat) (qm : Nat) (qw : Nat) (AB : Nat → Bool) (OV : Nat → Bool) (FF : Nat → Nat) (FR : Nat → Nat) (x : Nat) (y : Nat) (kd : Nat) (n9 : Nat) (pp : Nat → Nat) (hx : x < 48) (hy : y < 48) (hk : kd ≤ 4) (hac : ∀ z, ¬ gov (tE 48 AB) z z) (hO : tbI OV (gwar (tE 48 AB) 48)) (hT : (kd < 3 ∧ gring (gadd (tE 48 AB) x y) x n9 pp) ∨ (kd = 3 ∧ x ≠ y ∧ gring (gadd (tE 48 AB) y x) x n9 pp) ∨ (kd = 3 ∧ x ≠ y ∧ (∀ k, ¬ gw (gadd (tE 48 AB) y x) (k + 1) x x) ∧ gring (gadd (tE 48 AB) x y) y n9 pp)) : CtI l y_Md_rings (Cond.code y_Md_rings c_Md_rings 4 (some .boolean) :: TB) ({ frames := 2, cells := 0, slots := 0, locals := 49 } : Room) D (tysv cI cJ cZ cQ) [.ref mo, .int (nI x), .int (nI y), .int (nI kd)] [(mo, .inr (8, [.int tw, .int (nI K), .int (nI R), .ref qa, .ref qb, .ref qk, .ref qu, .ref qn, .ref qx, .ref qo, .ref qf, .int (nI d), .ref qr, .int (nI gm), .ref qg, .ref qv, .int (nI d2), .ref qs, .int (nI vv), .ref qc, .ref qm, .ref qw])), (qx, .inl (cZ, 2304, .inl (zf AB))), (qo, .inl (cZ, 2304, .inl (zf OV))), (qf, .inl (cI, 48, .inl (nf FF))), (qr, .inl (cI, 48, .inl (nf FR)))] 0 0 (fun (r : Int32) (u : (Nat → Nat) × (Nat → Nat)) => r = bI true ∧ ∀ j, j < n9 → u.2 j = pp j) (fun (u : (Nat → Nat) × (Nat → Nat)) => [(mo, .inr (8, [.int tw, .int (nI K), .int (nI R), .ref qa, .ref qb, .ref qk, .ref qu, .ref qn, .ref qx, .ref qo, .ref qf, .int (nI n9), .ref qr, .int (nI gm), .ref qg, .ref qv, .int (nI d2), .ref qs, .int (nI vv), .ref qc, .ref qm, .ref qw])), (qx, .inl (cZ, 2304, .inl (zf AB))), (qo, .inl (cZ, 2304, .inl (zf OV))), (qf, .inl (cI, 48, .inl (nf u.1))), (qr, .inl (cI, 48, .inl (nf u.2)))]) := by
  refine CtI.of c_Md_rings 4 (some .boolean) (by decide) rfl (Nat.le_of_ble_eq_true rfl) ?_
  intro p e s m args below meth c A Q hA9 hQ9 X hr9 hlk9 hin9
  rcases (show (kd < 3 ∧ x = y ∧ gring (gadd (tE 48 AB) x y) x n9 pp) ∨ (kd < 3 ∧ x ≠ y ∧ gring (gadd (tE 48 AB) x y) x n9 pp) ∨ (kd = 3 ∧ x ≠ y ∧ gring (gadd (tE 48 AB) y x) x n9 pp) ∨ (kd = 3 ∧ x ≠ y ∧ gring (gadd (tE 48 AB) x y) y n9 pp) from by rcases hT with ⟨a1, a2⟩ | ⟨a1, a2, a3⟩ | ⟨a1, a2, -, a3⟩ <;> by_cases e : x = y <;> simp_all) with ⟨k1, k2, g1⟩ | ⟨k1, k2, g1⟩ | ⟨k1, k2, g1⟩ | ⟨k1, k2, g1⟩
  · subst k2
    obtain ⟨en, e0⟩ := ring_self g1
    refine g_iload_n X 3 d_Md_rings_0 rfl rfl ?_
    refine g_iconst (v := nI 3) X d_Md_rings_1 rfl ?_
    refine n_icmp_ge X 50 d_Md_rings_2 (by decide) (by omega) (by omega) (fun h2 => absurd h2 (by omega)) (fun h2 => ?_)
    refine g_iload_n X 1 d_Md_rings_5 rfl rfl ?_
    refine g_iload_n X 2 d_Md_rings_6 rfl rfl ?_
    refine n_icmp_eq X 24 d_Md_rings_7 (by decide) (by omega) (by omega) (fun h7 => ?_) (fun h7 => absurd h7 (by omega))
    refine g_aload_n X 0 d_Md_rings_24 rfl rfl ?_
    refine g_iconst (v := nI 1) X d_Md_rings_25 rfl ?_
    refine g_put (C := R_Md) (T := T_Md) (N := 22) (ty := .int) X 0 11 [(mo, .inr (8, [.int tw, .int (nI K), .int (nI R), .ref qa, .ref qb, .ref qk, .ref qu, .ref qn, .ref qx, .ref qo, .ref qf, .int (nI 1), .ref qr, .int (nI gm), .ref qg, .ref qv, .int (nI d2), .ref qs, .int (nI vv), .ref qc, .ref qm, .ref qw])), (qx, .inl (cZ, 2304, .inl (zf AB))), (qo, .inl (cZ, 2304, .inl (zf OV))), (qf, .inl (cI, 48, .inl (nf FF))), (qr, .inl (cI, 48, .inl (nf FR)))] t_Md ty_Md nm_Md in_Md rfl rfl (by decide) t3_158 rfl rfl (by decide +kernel) rfl rfl (Nat.le_of_ble_eq_true rfl) rfl d_Md_rings_26 ?_
    refine g_aload_n X 0 d_Md_rings_29 rfl rfl ?_
    refine g_get (C := R_Md) (T := T_Md) (N := 22) X 0 12 in_Md rfl rfl (by decide) t3_159 rfl rfl d_Md_rings_30 ?_
    refine g_iconst (v := nI 0) X d_Md_rings_33 rfl ?_
    refine g_iload_n X 1 d_Md_rings_34 rfl rfl ?_
    refine g_iastN X 4 0 [(mo, .inr (8, [.int tw, .int (nI K), .int (nI R), .ref qa, .ref qb, .ref qk, .ref qu, .ref qn, .ref qx, .ref qo, .ref qf, .int (nI 1), .ref qr, .int (nI gm), .ref qg, .ref qv, .int (nI d2), .ref qs, .int (nI vv), .ref qc, .ref qm, .ref qw])), (qx, .inl (cZ, 2304, .inl (zf AB))), (qo, .inl (cZ, 2304, .inl (zf OV))), (qf, .inl (cI, 48, .inl (nf FF))), (qr, .inl (cI, 48, .inl (nf (updN FR 0 x))))] rfl rfl (by omega) (by omega) rfl d_Md_rings_35 ?_
    refine g_iload_n X 1 d_Md_rings_36 rfl rfl ?_
    refine g_iload_n X 2 d_Md_rings_37 rfl rfl ?_
    refine n_icmp_eq X 48 d_Md_rings_38 (by decide) (by omega) (by omega) (fun h38 => ?_) (fun h38 => absurd h38 (by omega))
    subst en
    refine g_iconst (v := nI 1) X d_Md_rings_48 rfl ?_
    exact g_zret X hA9 hQ9 hr9 (by first | exact Or.inl rfl | exact Or.inr rfl) hlk9 ⟨FF, updN FR 0 x⟩ [0, 1, 2, 3, 4] rfl rfl d_Md_rings_49 (by (try dsimp only); exact (⟨rfl, fun j hj => by have e9 : j = 0 := (by omega); subst e9; rw [updN_s, e0]⟩))
  · obtain ⟨g9, n, qq, gp, en, e0, ep⟩ := edge_split hac (Ne.symm k2) g1
    have hy1 := ov_t (tE_in AB) hO g9
    have hn48 := gd_short (tE_in AB) (Ne.symm k2) hx gp.1
    refine g_iload_n X 3 d_Md_rings_0 rfl rfl ?_
    refine g_iconst (v := nI 3) X d_Md_rings_1 rfl ?_
    refine n_icmp_ge X 50 d_Md_rings_2 (by decide) (by omega) (by omega) (fun h2 => absurd h2 (by omega)) (fun h2 => ?_)
    refine g_iload_n X 1 d_Md_rings_5 rfl rfl ?_
    refine g_iload_n X 2 d_Md_rings_6 rfl rfl ?_
    refine n_icmp_eq X 24 d_Md_rings_7 (by decide) (by omega) (by omega) (fun h7 => absurd h7 (by omega)) (fun h7 => ?_)
    refine g_aload_n X 0 d_Md_rings_10 rfl rfl ?_
    refine g_get (C := R_Md) (T := T_Md) (N := 22) X 0 9 in_Md rfl rfl (by decide) t3_156 rfl rfl d_Md_rings_11 ?_
    refine g_bipush (v := nI 48) X d_Md_rings_14 rfl ?_
    refine g_iload_n X 2 d_Md_rings_16 rfl rfl ?_
    refine g_imul X (nI (48 * y)) d_Md_rings_17 (pk_mul 48 y) ?_
    refine g_iload_n X 1 d_Md_rings_18 rfl rfl ?_
    refine g_iadd X (nI (48 * y + x)) d_Md_rings_19 (nI_add (48 * y) x) ?_
    refine g_zaldB X 2 2 rfl rfl (by omega) (by omega) d_Md_rings_20 ?_
    refine b_if_eq X 50 d_Md_rings_21 (by decide) (fun h21 => absurd h21 (by rw [hy1]; decide)) (fun h21 => ?_)
    refine g_aload_n X 0 d_Md_rings_24 rfl rfl ?_
    refine g_iconst (v := nI 1) X d_Md_rings_25 rfl ?_
    refine g_put (C := R_Md) (T := T_Md) (N := 22) (ty := .int) X 0 11 [(mo, .inr (8, [.int tw, .int (nI K), .int (nI R), .ref qa, .ref qb, .ref qk, .ref qu, .ref qn, .ref qx, .ref qo, .ref qf, .int (nI 1), .ref qr, .int (nI gm), .ref qg, .ref qv, .int (nI d2), .ref qs, .int (nI vv), .ref qc, .ref qm, .ref qw])), (qx, .inl (cZ, 2304, .inl (zf AB))), (qo, .inl (cZ, 2304, .inl (zf OV))), (qf, .inl (cI, 48, .inl (nf FF))), (qr, .inl (cI, 48, .inl (nf FR)))] t_Md ty_Md nm_Md in_Md rfl rfl (by decide) t3_158 rfl rfl (by decide +kernel) rfl rfl (Nat.le_of_ble_eq_true rfl) rfl d_Md_rings_26 ?_
    refine g_aload_n X 0 d_Md_rings_29 rfl rfl ?_
    refine g_get (C := R_Md) (T := T_Md) (N := 22) X 0 12 in_Md rfl rfl (by decide) t3_159 rfl rfl d_Md_rings_30 ?_
    refine g_iconst (v := nI 0) X d_Md_rings_33 rfl ?_
    refine g_iload_n X 1 d_Md_rings_34 rfl rfl ?_
    refine g_iastN X 4 0 [(mo, .inr (8, [.int tw, .int (nI K), .int (nI R), .ref qa, .ref qb, .ref qk, .ref qu, .ref qn, .ref qx, .ref qo, .ref qf, .int (nI 1), .ref qr, .int (nI gm), .ref qg, .ref qv, .int (nI d2), .ref qs, .int (nI vv), .ref qc, .ref qm, .ref qw])), (qx, .inl (cZ, 2304, .inl (zf AB))), (qo, .inl (cZ, 2304, .inl (zf OV))), (qf, .inl (cI, 48, .inl (nf FF))), (qr, .inl (cI, 48, .inl (nf (updN FR 0 x))))] rfl rfl (by omega) (by omega) rfl d_Md_rings_35 ?_
    refine g_iload_n X 1 d_Md_rings_36 rfl rfl ?_
    refine g_iload_n X 2 d_Md_rings_37 rfl rfl ?_
    refine n_icmp_eq X 48 d_Md_rings_38 (by decide) (by omega) (by omega) (fun h38 => absurd h38 (by omega)) (fun h38 => ?_)
    refine g_aload_n X 0 d_Md_rings_41 rfl rfl ?_
    refine g_iload_n X 2 d_Md_rings_42 rfl rfl ?_
    refine g_iload_n X 1 d_Md_rings_43 rfl rfl ?_
    refine g_iconst (v := nI 0) X d_Md_rings_44 rfl ?_
    refine g_callvV (n := 3) X [.int (nI y), .int (nI x), .int (bI false)] (k_Md_walk mo tw K R qa qb qk qu qn qx qo qf 1 qr gm qg qv d2 qs vv qc qm qw AB FF (updN FR 0 x) y x n qq (by omega) (by omega) (gp) (by omega)) t4_7 t4_9 ts_16 t1_9 t4_10 rfl rfl (by decide +kernel) ⟨by decide, by decide⟩ [0, 1, 3, 4] [2] [(qo, .inl (cZ, 2304, .inl (zf OV)))] rfl rfl rfl rfl (by decide) 0 rfl rfl rfl rfl (Nat.le_of_ble_eq_true rfl) d_Md_rings_45 ⟨by decide, by decide⟩ (fun ⟨F9_1, R9_1⟩ hW => ?_)
    rw [show 1 + n = n9 by omega]
    refine g_iconst (v := nI 1) X d_Md_rings_48 rfl ?_
    exact g_zret X hA9 hQ9 hr9 (by first | exact Or.inl rfl | exact Or.inr rfl) hlk9 ⟨F9_1, R9_1⟩ [1, 2, 0, 3, 4] rfl rfl d_Md_rings_49 (by (try dsimp only); exact (⟨rfl, one_of updN_s e0 en ep hW⟩))
  · obtain ⟨g9, n, qq, gp, en, ep⟩ := back_split hac k2 g1
    have hy1 := ov_t (tE_in AB) hO g9
    have hn48 := gd_short (tE_in AB) k2 hy gp.1
    refine g_iload_n X 3 d_Md_rings_0 rfl rfl ?_
    refine g_iconst (v := nI 3) X d_Md_rings_1 rfl ?_
    refine n_icmp_ge X 50 d_Md_rings_2 (by decide) (by omega) (by omega) (fun h2 => ?_) (fun h2 => absurd h2 (by omega))
    refine g_iload_n X 3 d_Md_rings_50 rfl rfl ?_
    refine g_iconst (v := nI 3) X d_Md_rings_51 rfl ?_
    refine n_icmp_ne X 133 d_Md_rings_52 (by decide) (by omega) (by omega) (fun h52 => absurd h52 (by omega)) (fun h52 => ?_)
    refine g_aload_n X 0 d_Md_rings_55 rfl rfl ?_
    refine g_get (C := R_Md) (T := T_Md) (N := 22) X 0 9 in_Md rfl rfl (by decide) t3_156 rfl rfl d_Md_rings_56 ?_
    refine g_bipush (v := nI 48) X d_Md_rings_59 rfl ?_
    refine g_iload_n X 1 d_Md_rings_61 rfl rfl ?_
    refine g_imul X (nI (48 * x)) d_Md_rings_62 (pk_mul 48 x) ?_
    refine g_iload_n X 2 d_Md_rings_63 rfl rfl ?_
    refine g_iadd X (nI (48 * x + y)) d_Md_rings_64 (nI_add (48 * x) y) ?_
    refine g_zaldB X 2 2 rfl rfl (by omega) (by omega) d_Md_rings_65 ?_
    refine b_if_ne X 83 d_Md_rings_66 (by decide) (fun h66 => ?_) (fun h66 => absurd h66 (by rw [hy1]; decide))
    refine g_aload_n X 0 d_Md_rings_83 rfl rfl ?_
    refine g_iconst (v := nI 0) X d_Md_rings_84 rfl ?_
    refine g_put (C := R_Md) (T := T_Md) (N := 22) (ty := .int) X 0 11 [(mo, .inr (8, [.int tw, .int (nI K), .int (nI R), .ref qa, .ref qb, .ref qk, .ref qu, .ref qn, .ref qx, .ref qo, .ref qf, .int (nI 0), .ref qr, .int (nI gm), .ref qg, .ref qv, .int (nI d2), .ref qs, .int (nI vv), .ref qc, .ref qm, .ref qw])), (qx, .inl (cZ, 2304, .inl (zf AB))), (qo, .inl (cZ, 2304, .inl (zf OV))), (qf, .inl (cI, 48, .inl (nf FF))), (qr, .inl (cI, 48, .inl (nf FR)))] t_Md ty_Md nm_Md in_Md rfl rfl (by decide) t3_158 rfl rfl (by decide +kernel) rfl rfl (Nat.le_of_ble_eq_true rfl) rfl d_Md_rings_85 ?_
    refine g_aload_n X 0 d_Md_rings_88 rfl rfl ?_
    refine g_aload_n X 0 d_Md_rings_89 rfl rfl ?_
    refine g_get (C := R_Md) (T := T_Md) (N := 22) X 0 9 in_Md rfl rfl (by decide) t3_156 rfl rfl d_Md_rings_90 ?_
    refine g_bipush (v := nI 48) X d_Md_rings_93 rfl ?_
    refine g_iload_n X 1 d_Md_rings_95 rfl rfl ?_
    refine g_imul X (nI (48 * x)) d_Md_rings_96 (pk_mul 48 x) ?_
    refine g_iload_n X 2 d_Md_rings_97 rfl rfl ?_
    refine g_iadd X (nI (48 * x + y)) d_Md_rings_98 (nI_add (48 * x) y) ?_
    refine g_zaldB X 2 2 rfl rfl (by omega) (by omega) d_Md_rings_99 ?_
    refine b_if_eq X 107 d_Md_rings_100 (by decide) (fun h100 => absurd h100 (by rw [hy1]; decide)) (fun h100 => ?_)
    refine g_iload_n X 1 d_Md_rings_103 rfl rfl ?_
    refine g_goto X 108 d_Md_rings_104 (by decide) ?_
    refine g_aload_n X 0 d_Md_rings_108 rfl rfl ?_
    refine g_get (C := R_Md) (T := T_Md) (N := 22) X 0 9 in_Md rfl rfl (by decide) t3_156 rfl rfl d_Md_rings_109 ?_
    refine g_bipush (v := nI 48) X d_Md_rings_112 rfl ?_
    refine g_iload_n X 1 d_Md_rings_114 rfl rfl ?_
    refine g_imul X (nI (48 * x)) d_Md_rings_115 (pk_mul 48 x) ?_
    refine g_iload_n X 2 d_Md_rings_116 rfl rfl ?_
    refine g_iadd X (nI (48 * x + y)) d_Md_rings_117 (nI_add (48 * x) y) ?_
    refine g_zaldB X 2 2 rfl rfl (by omega) (by omega) d_Md_rings_118 ?_
    refine b_if_eq X 126 d_Md_rings_119 (by decide) (fun h119 => absurd h119 (by rw [hy1]; decide)) (fun h119 => ?_)
    refine g_iload_n X 2 d_Md_rings_122 rfl rfl ?_
    refine g_goto X 127 d_Md_rings_123 (by decide) ?_
    refine g_iconst (v := nI 1) X d_Md_rings_127 rfl ?_
    refine g_callvV (n := 3) X [.int (nI x), .int (nI y), .int (bI true)] (k_Md_walkW mo tw K R qa qb qk qu qn qx qo qf 0 qr gm qg qv d2 qs vv qc qm qw AB FF FR x y n qq (by omega) (by omega) (gp) (by omega)) t4_7 t4_9 ts_16 t1_9 t4_10 rfl rfl (by decide +kernel) ⟨by decide, by decide⟩ [0, 1, 3, 4] [2] [(qo, .inl (cZ, 2304, .inl (zf OV)))] rfl rfl rfl rfl (by decide) 0 rfl rfl rfl rfl (Nat.le_of_ble_eq_true rfl) d_Md_rings_128 ⟨by decide, by decide⟩ (fun ⟨F9_2, R9_2⟩ hW => ?_)
    rw [show 0 + n + 1 = n9 by omega]
    refine g_iconst (v := nI 1) X d_Md_rings_131 rfl ?_
    exact g_zret X hA9 hQ9 hr9 (by first | exact Or.inl rfl | exact Or.inr rfl) hlk9 ⟨F9_2, R9_2⟩ [1, 2, 0, 3, 4] rfl rfl d_Md_rings_132 (by (try dsimp only); exact (⟨rfl, whole_of gp en ep hW⟩))
  · obtain ⟨g9, n, qq, gp, en, ep⟩ := back_split hac (Ne.symm k2) g1
    have hy1 := ov_t (tE_in AB) hO g9
    have hy2 := ov_f (tE_in AB) hO hx hy (fun q9 => hac x (gov_trans q9 g9))
    have hn48 := gd_short (tE_in AB) (Ne.symm k2) hx gp.1
    refine g_iload_n X 3 d_Md_rings_0 rfl rfl ?_
    refine g_iconst (v := nI 3) X d_Md_rings_1 rfl ?_
    refine n_icmp_ge X 50 d_Md_rings_2 (by decide) (by omega) (by omega) (fun h2 => ?_) (fun h2 => absurd h2 (by omega))
    refine g_iload_n X 3 d_Md_rings_50 rfl rfl ?_
    refine g_iconst (v := nI 3) X d_Md_rings_51 rfl ?_
    refine n_icmp_ne X 133 d_Md_rings_52 (by decide) (by omega) (by omega) (fun h52 => absurd h52 (by omega)) (fun h52 => ?_)
    refine g_aload_n X 0 d_Md_rings_55 rfl rfl ?_
    refine g_get (C := R_Md) (T := T_Md) (N := 22) X 0 9 in_Md rfl rfl (by decide) t3_156 rfl rfl d_Md_rings_56 ?_
    refine g_bipush (v := nI 48) X d_Md_rings_59 rfl ?_
    refine g_iload_n X 1 d_Md_rings_61 rfl rfl ?_
    refine g_imul X (nI (48 * x)) d_Md_rings_62 (pk_mul 48 x) ?_
    refine g_iload_n X 2 d_Md_rings_63 rfl rfl ?_
    refine g_iadd X (nI (48 * x + y)) d_Md_rings_64 (nI_add (48 * x) y) ?_
    refine g_zaldB X 2 2 rfl rfl (by omega) (by omega) d_Md_rings_65 ?_
    refine b_if_ne X 83 d_Md_rings_66 (by decide) (fun h66 => absurd h66 (by rw [hy2]; decide)) (fun h66 => ?_)
    refine g_aload_n X 0 d_Md_rings_69 rfl rfl ?_
    refine g_get (C := R_Md) (T := T_Md) (N := 22) X 0 9 in_Md rfl rfl (by decide) t3_156 rfl rfl d_Md_rings_70 ?_
    refine g_bipush (v := nI 48) X d_Md_rings_73 rfl ?_
    refine g_iload_n X 2 d_Md_rings_75 rfl rfl ?_
    refine g_imul X (nI (48 * y)) d_Md_rings_76 (pk_mul 48 y) ?_
    refine g_iload_n X 1 d_Md_rings_77 rfl rfl ?_
    refine g_iadd X (nI (48 * y + x)) d_Md_rings_78 (nI_add (48 * y) x) ?_
    refine g_zaldB X 2 2 rfl rfl (by omega) (by omega) d_Md_rings_79 ?_
    refine b_if_eq X 133 d_Md_rings_80 (by decide) (fun h80 => absurd h80 (by rw [hy1]; decide)) (fun h80 => ?_)
    refine g_aload_n X 0 d_Md_rings_83 rfl rfl ?_
    refine g_iconst (v := nI 0) X d_Md_rings_84 rfl ?_
    refine g_put (C := R_Md) (T := T_Md) (N := 22) (ty := .int) X 0 11 [(mo, .inr (8, [.int tw, .int (nI K), .int (nI R), .ref qa, .ref qb, .ref qk, .ref qu, .ref qn, .ref qx, .ref qo, .ref qf, .int (nI 0), .ref qr, .int (nI gm), .ref qg, .ref qv, .int (nI d2), .ref qs, .int (nI vv), .ref qc, .ref qm, .ref qw])), (qx, .inl (cZ, 2304, .inl (zf AB))), (qo, .inl (cZ, 2304, .inl (zf OV))), (qf, .inl (cI, 48, .inl (nf FF))), (qr, .inl (cI, 48, .inl (nf FR)))] t_Md ty_Md nm_Md in_Md rfl rfl (by decide) t3_158 rfl rfl (by decide +kernel) rfl rfl (Nat.le_of_ble_eq_true rfl) rfl d_Md_rings_85 ?_
    refine g_aload_n X 0 d_Md_rings_88 rfl rfl ?_
    refine g_aload_n X 0 d_Md_rings_89 rfl rfl ?_
    refine g_get (C := R_Md) (T := T_Md) (N := 22) X 0 9 in_Md rfl rfl (by decide) t3_156 rfl rfl d_Md_rings_90 ?_
    refine g_bipush (v := nI 48) X d_Md_rings_93 rfl ?_
    refine g_iload_n X 1 d_Md_rings_95 rfl rfl ?_
    refine g_imul X (nI (48 * x)) d_Md_rings_96 (pk_mul 48 x) ?_
    refine g_iload_n X 2 d_Md_rings_97 rfl rfl ?_
    refine g_iadd X (nI (48 * x + y)) d_Md_rings_98 (nI_add (48 * x) y) ?_
    refine g_zaldB X 2 2 rfl rfl (by omega) (by omega) d_Md_rings_99 ?_
    refine b_if_eq X 107 d_Md_rings_100 (by decide) (fun h100 => ?_) (fun h100 => absurd h100 (by rw [hy2]; decide))
    refine g_iload_n X 2 d_Md_rings_107 rfl rfl ?_
    refine g_aload_n X 0 d_Md_rings_108 rfl rfl ?_
    refine g_get (C := R_Md) (T := T_Md) (N := 22) X 0 9 in_Md rfl rfl (by decide) t3_156 rfl rfl d_Md_rings_109 ?_
    refine g_bipush (v := nI 48) X d_Md_rings_112 rfl ?_
    refine g_iload_n X 1 d_Md_rings_114 rfl rfl ?_
    refine g_imul X (nI (48 * x)) d_Md_rings_115 (pk_mul 48 x) ?_
    refine g_iload_n X 2 d_Md_rings_116 rfl rfl ?_
    refine g_iadd X (nI (48 * x + y)) d_Md_rings_117 (nI_add (48 * x) y) ?_
    refine g_zaldB X 2 2 rfl rfl (by omega) (by omega) d_Md_rings_118 ?_
    refine b_if_eq X 126 d_Md_rings_119 (by decide) (fun h119 => ?_) (fun h119 => absurd h119 (by rw [hy2]; decide))
    refine g_iload_n X 1 d_Md_rings_126 rfl rfl ?_
    refine g_iconst (v := nI 1) X d_Md_rings_127 rfl ?_
    refine g_callvV (n := 3) X [.int (nI y), .int (nI x), .int (bI true)] (k_Md_walkW mo tw K R qa qb qk qu qn qx qo qf 0 qr gm qg qv d2 qs vv qc qm qw AB FF FR y x n qq (by omega) (by omega) (gp) (by omega)) t4_7 t4_9 ts_16 t1_9 t4_10 rfl rfl (by decide +kernel) ⟨by decide, by decide⟩ [0, 1, 3, 4] [2] [(qo, .inl (cZ, 2304, .inl (zf OV)))] rfl rfl rfl rfl (by decide) 0 rfl rfl rfl rfl (Nat.le_of_ble_eq_true rfl) d_Md_rings_128 ⟨by decide, by decide⟩ (fun ⟨F9_3, R9_3⟩ hW => ?_)
    rw [show 0 + n + 1 = n9 by omega]
    refine g_iconst (v := nI 1) X d_Md_rings_131 rfl ?_
    exact g_zret X hA9 hQ9 hr9 (by first | exact Or.inl rfl | exact Or.inr rfl) hlk9 ⟨F9_3, R9_3⟩ [1, 2, 0, 3, 4] rfl rfl d_Md_rings_132 (by (try dsimp only); exact (⟨rfl, whole_of gp en ep hW⟩))

set_option maxHeartbeats 4000000 in
set_option maxRecDepth 100000 in
theorem k_Md_ringsN (mo : Nat) (tw : Int32) (K : Nat) (R : Nat) (qa : Nat) (qb : Nat) (qk : Nat) (qu : Nat) (qn : Nat) (qx : Nat) (qo : Nat) (qf : Nat) (d : Nat) (qr : Nat) (gm : Nat) (qg : Nat) (qv : Nat) (d2 : Nat) (qs : Nat) (vv : Nat) (qc : Nat) (qm : Nat) (qw : Nat) (AB : Nat → Bool) (OV : Nat → Bool) (FF : Nat → Nat) (FR : Nat → Nat) (x : Nat) (y : Nat) (kd : Nat) (hx : x < 48) (hy : y < 48) (hk : kd ≤ 4) (hac : ∀ z, ¬ gov (tE 48 AB) z z) (hO : tbI OV (gwar (tE 48 AB) 48)) (hT : kd = 4 ∨ (kd < 3 ∧ (∀ k, ¬ gw (gadd (tE 48 AB) x y) (k + 1) x x)) ∨ (kd = 3 ∧ x = y) ∨ (kd = 3 ∧ x ≠ y ∧ (∀ k, ¬ gw (gadd (tE 48 AB) y x) (k + 1) x x) ∧ (∀ k, ¬ gw (gadd (tE 48 AB) x y) (k + 1) y y))) : CtI l y_Md_rings (Cond.code y_Md_rings c_Md_rings 4 (some .boolean) :: TB) ({ frames := 0, cells := 0, slots := 0, locals := 0 } : Room) D (tysv cI cJ cZ cQ) [.ref mo, .int (nI x), .int (nI y), .int (nI kd)] [(mo, .inr (8, [.int tw, .int (nI K), .int (nI R), .ref qa, .ref qb, .ref qk, .ref qu, .ref qn, .ref qx, .ref qo, .ref qf, .int (nI d), .ref qr, .int (nI gm), .ref qg, .ref qv, .int (nI d2), .ref qs, .int (nI vv), .ref qc, .ref qm, .ref qw])), (qx, .inl (cZ, 2304, .inl (zf AB))), (qo, .inl (cZ, 2304, .inl (zf OV))), (qf, .inl (cI, 48, .inl (nf FF))), (qr, .inl (cI, 48, .inl (nf FR)))] 0 0 (fun (r : Int32) (_ : Unit) => r = bI false) (fun (_ : Unit) => [(mo, .inr (8, [.int tw, .int (nI K), .int (nI R), .ref qa, .ref qb, .ref qk, .ref qu, .ref qn, .ref qx, .ref qo, .ref qf, .int (nI d), .ref qr, .int (nI gm), .ref qg, .ref qv, .int (nI d2), .ref qs, .int (nI vv), .ref qc, .ref qm, .ref qw])), (qx, .inl (cZ, 2304, .inl (zf AB))), (qo, .inl (cZ, 2304, .inl (zf OV))), (qf, .inl (cI, 48, .inl (nf FF))), (qr, .inl (cI, 48, .inl (nf FR)))]) := by
  refine CtI.of c_Md_rings 4 (some .boolean) (by decide) rfl (Nat.le_of_ble_eq_true rfl) ?_
  intro p e s m args below meth c A Q hA9 hQ9 X hr9 hlk9 hin9
  rcases hT with k1 | ⟨k1, g1⟩ | ⟨k1, k2⟩ | ⟨k1, k2, g0, g1⟩
  · have k3 := k1
    refine g_iload_n X 3 d_Md_rings_0 rfl rfl ?_
    refine g_iconst (v := nI 3) X d_Md_rings_1 rfl ?_
    refine n_icmp_ge X 50 d_Md_rings_2 (by decide) (by omega) (by omega) (fun h2 => ?_) (fun h2 => absurd h2 (by omega))
    refine g_iload_n X 3 d_Md_rings_50 rfl rfl ?_
    refine g_iconst (v := nI 3) X d_Md_rings_51 rfl ?_
    refine n_icmp_ne X 133 d_Md_rings_52 (by decide) (by omega) (by omega) (fun h52 => ?_) (fun h52 => absurd h52 (by omega))
    refine g_iconst (v := nI 0) X d_Md_rings_133 rfl ?_
    exact g_zret X hA9 hQ9 hr9 (by first | exact Or.inl rfl | exact Or.inr rfl) hlk9 () [0, 1, 2, 3, 4] rfl rfl d_Md_rings_134 (rfl)
  · have k2 := no_self g1
    have hy2 := ov_f (tE_in AB) hO hy hx (no_gov g1)
    refine g_iload_n X 3 d_Md_rings_0 rfl rfl ?_
    refine g_iconst (v := nI 3) X d_Md_rings_1 rfl ?_
    refine n_icmp_ge X 50 d_Md_rings_2 (by decide) (by omega) (by omega) (fun h2 => absurd h2 (by omega)) (fun h2 => ?_)
    refine g_iload_n X 1 d_Md_rings_5 rfl rfl ?_
    refine g_iload_n X 2 d_Md_rings_6 rfl rfl ?_
    refine n_icmp_eq X 24 d_Md_rings_7 (by decide) (by omega) (by omega) (fun h7 => absurd h7 (by omega)) (fun h7 => ?_)
    refine g_aload_n X 0 d_Md_rings_10 rfl rfl ?_
    refine g_get (C := R_Md) (T := T_Md) (N := 22) X 0 9 in_Md rfl rfl (by decide) t3_156 rfl rfl d_Md_rings_11 ?_
    refine g_bipush (v := nI 48) X d_Md_rings_14 rfl ?_
    refine g_iload_n X 2 d_Md_rings_16 rfl rfl ?_
    refine g_imul X (nI (48 * y)) d_Md_rings_17 (pk_mul 48 y) ?_
    refine g_iload_n X 1 d_Md_rings_18 rfl rfl ?_
    refine g_iadd X (nI (48 * y + x)) d_Md_rings_19 (nI_add (48 * y) x) ?_
    refine g_zaldB X 2 2 rfl rfl (by omega) (by omega) d_Md_rings_20 ?_
    refine b_if_eq X 50 d_Md_rings_21 (by decide) (fun h21 => ?_) (fun h21 => absurd h21 (by rw [hy2]; decide))
    refine g_iload_n X 3 d_Md_rings_50 rfl rfl ?_
    refine g_iconst (v := nI 3) X d_Md_rings_51 rfl ?_
    refine n_icmp_ne X 133 d_Md_rings_52 (by decide) (by omega) (by omega) (fun h52 => ?_) (fun h52 => absurd h52 (by omega))
    refine g_iconst (v := nI 0) X d_Md_rings_133 rfl ?_
    exact g_zret X hA9 hQ9 hr9 (by first | exact Or.inl rfl | exact Or.inr rfl) hlk9 () [0, 1, 2, 3, 4] rfl rfl d_Md_rings_134 (rfl)
  · have hy2 := ov_f (tE_in AB) hO hx hy (by rw [← k2]; exact hac x)
    have hy3 := ov_f (tE_in AB) hO hy hx (by rw [← k2]; exact hac x)
    refine g_iload_n X 3 d_Md_rings_0 rfl rfl ?_
    refine g_iconst (v := nI 3) X d_Md_rings_1 rfl ?_
    refine n_icmp_ge X 50 d_Md_rings_2 (by decide) (by omega) (by omega) (fun h2 => ?_) (fun h2 => absurd h2 (by omega))
    refine g_iload_n X 3 d_Md_rings_50 rfl rfl ?_
    refine g_iconst (v := nI 3) X d_Md_rings_51 rfl ?_
    refine n_icmp_ne X 133 d_Md_rings_52 (by decide) (by omega) (by omega) (fun h52 => absurd h52 (by omega)) (fun h52 => ?_)
    refine g_aload_n X 0 d_Md_rings_55 rfl rfl ?_
    refine g_get (C := R_Md) (T := T_Md) (N := 22) X 0 9 in_Md rfl rfl (by decide) t3_156 rfl rfl d_Md_rings_56 ?_
    refine g_bipush (v := nI 48) X d_Md_rings_59 rfl ?_
    refine g_iload_n X 1 d_Md_rings_61 rfl rfl ?_
    refine g_imul X (nI (48 * x)) d_Md_rings_62 (pk_mul 48 x) ?_
    refine g_iload_n X 2 d_Md_rings_63 rfl rfl ?_
    refine g_iadd X (nI (48 * x + y)) d_Md_rings_64 (nI_add (48 * x) y) ?_
    refine g_zaldB X 2 2 rfl rfl (by omega) (by omega) d_Md_rings_65 ?_
    refine b_if_ne X 83 d_Md_rings_66 (by decide) (fun h66 => absurd h66 (by rw [hy2]; decide)) (fun h66 => ?_)
    refine g_aload_n X 0 d_Md_rings_69 rfl rfl ?_
    refine g_get (C := R_Md) (T := T_Md) (N := 22) X 0 9 in_Md rfl rfl (by decide) t3_156 rfl rfl d_Md_rings_70 ?_
    refine g_bipush (v := nI 48) X d_Md_rings_73 rfl ?_
    refine g_iload_n X 2 d_Md_rings_75 rfl rfl ?_
    refine g_imul X (nI (48 * y)) d_Md_rings_76 (pk_mul 48 y) ?_
    refine g_iload_n X 1 d_Md_rings_77 rfl rfl ?_
    refine g_iadd X (nI (48 * y + x)) d_Md_rings_78 (nI_add (48 * y) x) ?_
    refine g_zaldB X 2 2 rfl rfl (by omega) (by omega) d_Md_rings_79 ?_
    refine b_if_eq X 133 d_Md_rings_80 (by decide) (fun h80 => ?_) (fun h80 => absurd h80 (by rw [hy3]; decide))
    refine g_iconst (v := nI 0) X d_Md_rings_133 rfl ?_
    exact g_zret X hA9 hQ9 hr9 (by first | exact Or.inl rfl | exact Or.inr rfl) hlk9 () [0, 1, 2, 3, 4] rfl rfl d_Md_rings_134 (rfl)
  · have hy2 := ov_f (tE_in AB) hO hx hy (no_gov2 g0)
    have hy3 := ov_f (tE_in AB) hO hy hx (no_gov2 g1)
    refine g_iload_n X 3 d_Md_rings_0 rfl rfl ?_
    refine g_iconst (v := nI 3) X d_Md_rings_1 rfl ?_
    refine n_icmp_ge X 50 d_Md_rings_2 (by decide) (by omega) (by omega) (fun h2 => ?_) (fun h2 => absurd h2 (by omega))
    refine g_iload_n X 3 d_Md_rings_50 rfl rfl ?_
    refine g_iconst (v := nI 3) X d_Md_rings_51 rfl ?_
    refine n_icmp_ne X 133 d_Md_rings_52 (by decide) (by omega) (by omega) (fun h52 => absurd h52 (by omega)) (fun h52 => ?_)
    refine g_aload_n X 0 d_Md_rings_55 rfl rfl ?_
    refine g_get (C := R_Md) (T := T_Md) (N := 22) X 0 9 in_Md rfl rfl (by decide) t3_156 rfl rfl d_Md_rings_56 ?_
    refine g_bipush (v := nI 48) X d_Md_rings_59 rfl ?_
    refine g_iload_n X 1 d_Md_rings_61 rfl rfl ?_
    refine g_imul X (nI (48 * x)) d_Md_rings_62 (pk_mul 48 x) ?_
    refine g_iload_n X 2 d_Md_rings_63 rfl rfl ?_
    refine g_iadd X (nI (48 * x + y)) d_Md_rings_64 (nI_add (48 * x) y) ?_
    refine g_zaldB X 2 2 rfl rfl (by omega) (by omega) d_Md_rings_65 ?_
    refine b_if_ne X 83 d_Md_rings_66 (by decide) (fun h66 => absurd h66 (by rw [hy2]; decide)) (fun h66 => ?_)
    refine g_aload_n X 0 d_Md_rings_69 rfl rfl ?_
    refine g_get (C := R_Md) (T := T_Md) (N := 22) X 0 9 in_Md rfl rfl (by decide) t3_156 rfl rfl d_Md_rings_70 ?_
    refine g_bipush (v := nI 48) X d_Md_rings_73 rfl ?_
    refine g_iload_n X 2 d_Md_rings_75 rfl rfl ?_
    refine g_imul X (nI (48 * y)) d_Md_rings_76 (pk_mul 48 y) ?_
    refine g_iload_n X 1 d_Md_rings_77 rfl rfl ?_
    refine g_iadd X (nI (48 * y + x)) d_Md_rings_78 (nI_add (48 * y) x) ?_
    refine g_zaldB X 2 2 rfl rfl (by omega) (by omega) d_Md_rings_79 ?_
    refine b_if_eq X 133 d_Md_rings_80 (by decide) (fun h80 => ?_) (fun h80 => absurd h80 (by rw [hy3]; decide))
    refine g_iconst (v := nI 0) X d_Md_rings_133 rfl ?_
    exact g_zret X hA9 hQ9 hr9 (by first | exact Or.inl rfl | exact Or.inr rfl) hlk9 () [0, 1, 2, 3, 4] rfl rfl d_Md_rings_134 (rfl)

set_option maxHeartbeats 4000000 in
set_option maxRecDepth 100000 in
theorem k_Md_relateR (mo : Nat) (tw : Int32) (K : Nat) (R : Nat) (qa : Nat) (qb : Nat) (qk : Nat) (qu : Nat) (qn : Nat) (qx : Nat) (qo : Nat) (qf : Nat) (d : Nat) (qr : Nat) (gm : Nat) (qg : Nat) (qv : Nat) (d2 : Nat) (qs : Nat) (vv : Nat) (qc : Nat) (qm : Nat) (qw : Nat) (AB : Nat → Bool) (OV : Nat → Bool) (FF : Nat → Nat) (FR : Nat → Nat) (x : Nat) (y : Nat) (kd : Nat) (Fa : Nat → Nat) (Fb : Nat → Nat) (Fk : Nat → Nat) (UN : Nat → Bool) (M : Nat → Nat) (i : Nat) (j : Nat) (n9 : Nat) (pp : Nat → Nat) (hi : i < K) (hj : j < K) (hR2 : R < 200) (ex : M i = x) (ey : M j = y) (hK : K ≤ 48) (hx : x < 48) (hy : y < 48) (hk : kd ≤ 4) (hac : ∀ z, ¬ gov (tE 48 AB) z z) (hO : tbI OV (gwar (tE 48 AB) 48)) (hT : (kd < 3 ∧ gring (gadd (tE 48 AB) x y) x n9 pp) ∨ (kd = 3 ∧ x ≠ y ∧ gring (gadd (tE 48 AB) y x) x n9 pp) ∨ (kd = 3 ∧ x ≠ y ∧ (∀ k, ¬ gw (gadd (tE 48 AB) y x) (k + 1) x x) ∧ gring (gadd (tE 48 AB) x y) y n9 pp)) : CtI l y_Md_relate (Cond.code y_Md_relate c_Md_relate 4 (some .int) :: TB) ({ frames := 3, cells := 0, slots := 0, locals := 72 } : Room) D (tysv cI cJ cZ cQ) [.ref mo, .int (nI i), .int (nI j), .int (nI kd)] [(mo, .inr (8, [.int tw, .int (nI K), .int (nI R), .ref qa, .ref qb, .ref qk, .ref qu, .ref qn, .ref qx, .ref qo, .ref qf, .int (nI d), .ref qr, .int (nI gm), .ref qg, .ref qv, .int (nI d2), .ref qs, .int (nI vv), .ref qc, .ref qm, .ref qw])), (qa, .inl (cI, 200, .inl (nf Fa))), (qb, .inl (cI, 200, .inl (nf Fb))), (qk, .inl (cI, 200, .inl (nf Fk))), (qu, .inl (cZ, 200, .inl (zf UN))), (qn, .inl (cI, 48, .inl (nf M))), (qx, .inl (cZ, 2304, .inl (zf AB))), (qo, .inl (cZ, 2304, .inl (zf OV))), (qf, .inl (cI, 48, .inl (nf FF))), (qr, .inl (cI, 48, .inl (nf FR)))] 0 0 (fun (r : Int32) (u : (Nat → Nat) × (Nat → Nat)) => r = -1 ∧ ∀ j, j < n9 → u.2 j = pp j) (fun (u : (Nat → Nat) × (Nat → Nat)) => [(mo, .inr (8, [.int (nI 0), .int (nI K), .int (nI R), .ref qa, .ref qb, .ref qk, .ref qu, .ref qn, .ref qx, .ref qo, .ref qf, .int (nI n9), .ref qr, .int (nI gm), .ref qg, .ref qv, .int (nI d2), .ref qs, .int (nI vv), .ref qc, .ref qm, .ref qw])), (qa, .inl (cI, 200, .inl (nf Fa))), (qb, .inl (cI, 200, .inl (nf Fb))), (qk, .inl (cI, 200, .inl (nf Fk))), (qu, .inl (cZ, 200, .inl (zf UN))), (qn, .inl (cI, 48, .inl (nf M))), (qx, .inl (cZ, 2304, .inl (zf AB))), (qo, .inl (cZ, 2304, .inl (zf OV))), (qf, .inl (cI, 48, .inl (nf u.1))), (qr, .inl (cI, 48, .inl (nf u.2)))]) := by
  refine CtI.of c_Md_relate 4 (some .int) (by decide) rfl (Nat.le_of_ble_eq_true rfl) ?_
  intro p e s m args below meth c A Q hA9 hQ9 X hr9 hlk9 hin9
  refine g_aload_n X 0 d_Md_relate_0 rfl rfl ?_
  refine g_aload_n X 0 d_Md_relate_1 rfl rfl ?_
  refine g_iload_n X 1 d_Md_relate_2 rfl rfl ?_
  refine g_calliV (n := 1) X [.int (nI i)] (k_Md_isContext mo tw K R qa qb qk qu qn qx qo qf d qr gm qg qv d2 qs vv qc qm qw i (by omega) (by omega)) t3_239 t4_1 ts_14 t1_9 t4_2 rfl rfl (by decide +kernel) ⟨by decide, by decide⟩ [0] [1, 2, 3, 4, 5, 6, 7, 8, 9] [(qa, .inl (cI, 200, .inl (nf Fa))), (qb, .inl (cI, 200, .inl (nf Fb))), (qk, .inl (cI, 200, .inl (nf Fk))), (qu, .inl (cZ, 200, .inl (zf UN))), (qn, .inl (cI, 48, .inl (nf M))), (qx, .inl (cZ, 2304, .inl (zf AB))), (qo, .inl (cZ, 2304, .inl (zf OV))), (qf, .inl (cI, 48, .inl (nf FF))), (qr, .inl (cI, 48, .inl (nf FR)))] rfl rfl rfl rfl (by decide) 0 rfl rfl rfl rfl (Nat.le_of_ble_eq_true rfl) d_Md_relate_3 ⟨by decide, by decide⟩ (fun r1 w9u1 hw1 => ?_)
  subst hw1
  refine b_if_eq X 30 d_Md_relate_6 (by decide) (fun h6 => absurd h6 (by decide)) (fun h6 => ?_)
  refine g_aload_n X 0 d_Md_relate_9 rfl rfl ?_
  refine g_iload_n X 2 d_Md_relate_10 rfl rfl ?_
  refine g_calliV (n := 1) X [.int (nI j)] (k_Md_isContext mo tw K R qa qb qk qu qn qx qo qf d qr gm qg qv d2 qs vv qc qm qw j (by omega) (by omega)) t3_239 t4_1 ts_14 t1_9 t4_2 rfl rfl (by decide +kernel) ⟨by decide, by decide⟩ [9] [0, 1, 2, 3, 4, 5, 6, 7, 8] [(qa, .inl (cI, 200, .inl (nf Fa))), (qb, .inl (cI, 200, .inl (nf Fb))), (qk, .inl (cI, 200, .inl (nf Fk))), (qu, .inl (cZ, 200, .inl (zf UN))), (qn, .inl (cI, 48, .inl (nf M))), (qx, .inl (cZ, 2304, .inl (zf AB))), (qo, .inl (cZ, 2304, .inl (zf OV))), (qf, .inl (cI, 48, .inl (nf FF))), (qr, .inl (cI, 48, .inl (nf FR)))] rfl rfl rfl rfl (by decide) 0 rfl rfl rfl rfl (Nat.le_of_ble_eq_true rfl) d_Md_relate_11 ⟨by decide, by decide⟩ (fun r2 w9u2 hw2 => ?_)
  subst hw2
  refine b_if_eq X 30 d_Md_relate_14 (by decide) (fun h14 => absurd h14 (by decide)) (fun h14 => ?_)
  refine g_iload_n X 3 d_Md_relate_17 rfl rfl ?_
  refine n_if_lt X 30 d_Md_relate_18 (by decide) (by omega) (fun h18 => absurd h18 (by omega)) (fun h18 => ?_)
  refine g_iload_n X 3 d_Md_relate_21 rfl rfl ?_
  refine g_iconst (v := nI 4) X d_Md_relate_22 rfl ?_
  refine n_icmp_gt X 30 d_Md_relate_23 (by decide) (by omega) (by omega) (fun h23 => absurd h23 (by omega)) (fun h23 => ?_)
  refine g_iconst (v := nI 1) X d_Md_relate_26 rfl ?_
  refine g_goto X 31 d_Md_relate_27 (by decide) ?_
  refine g_aload_n X 0 d_Md_relate_31 rfl rfl ?_
  refine g_get (C := R_Md) (T := T_Md) (N := 22) X 9 2 in_Md rfl rfl (by decide) t3_149 rfl rfl d_Md_relate_32 ?_
  refine g_sipush (v := nI 200) X d_Md_relate_35 rfl ?_
  refine n_icmp_ge X 45 d_Md_relate_38 (by decide) (by omega) (by omega) (fun h38 => absurd h38 (by omega)) (fun h38 => ?_)
  refine g_iconst (v := nI 1) X d_Md_relate_41 rfl ?_
  refine g_goto X 46 d_Md_relate_42 (by decide) ?_
  refine g_calliV (n := 2) X [.int (bI true), .int (bI true)] (k_Md_goes mo tw K R qa qb qk qu qn qx qo qf d qr gm qg qv d2 qs vv qc qm qw ) t3_223 t3_225 ts_11 t1_9 t3_226 rfl rfl (by decide +kernel) ⟨by decide, by decide⟩ [9] [0, 1, 2, 3, 4, 5, 6, 7, 8] [(qa, .inl (cI, 200, .inl (nf Fa))), (qb, .inl (cI, 200, .inl (nf Fb))), (qk, .inl (cI, 200, .inl (nf Fk))), (qu, .inl (cZ, 200, .inl (zf UN))), (qn, .inl (cI, 48, .inl (nf M))), (qx, .inl (cZ, 2304, .inl (zf AB))), (qo, .inl (cZ, 2304, .inl (zf OV))), (qf, .inl (cI, 48, .inl (nf FF))), (qr, .inl (cI, 48, .inl (nf FR)))] rfl rfl rfl rfl (by decide) 0 rfl rfl rfl rfl (Nat.le_of_ble_eq_true rfl) d_Md_relate_46 ⟨by decide, by decide⟩ (fun r3 w9u3 hw3 => ?_)
  subst hw3
  refine b_if_ne X 54 d_Md_relate_49 (by decide) (fun h49 => ?_) (fun h49 => absurd h49 (by decide))
  refine g_aload_n X 0 d_Md_relate_54 rfl rfl ?_
  refine g_aload_n X 0 d_Md_relate_55 rfl rfl ?_
  refine g_get (C := R_Md) (T := T_Md) (N := 22) X 9 7 in_Md rfl rfl (by decide) t3_154 rfl rfl d_Md_relate_56 ?_
  refine g_iload_n X 1 d_Md_relate_59 rfl rfl ?_
  refine g_ialdN X 4 0 rfl rfl (by omega) (by omega) d_Md_relate_60 ?_
  rw [ex]
  refine g_aload_n X 0 d_Md_relate_61 rfl rfl ?_
  refine g_get (C := R_Md) (T := T_Md) (N := 22) X 9 7 in_Md rfl rfl (by decide) t3_154 rfl rfl d_Md_relate_62 ?_
  refine g_iload_n X 2 d_Md_relate_65 rfl rfl ?_
  refine g_ialdN X 4 0 rfl rfl (by omega) (by omega) d_Md_relate_66 ?_
  rw [ey]
  refine g_iload_n X 3 d_Md_relate_67 rfl rfl ?_
  refine g_calliV (n := 3) X [.int (nI x), .int (nI y), .int (nI kd)] (k_Md_rings mo (nI 0) K R qa qb qk qu qn qx qo qf d qr gm qg qv d2 qs vv qc qm qw AB OV FF FR x y kd n9 pp (by omega) (by omega) (by omega) (hac) (hO) (hT)) t4_3 t4_5 ts_15 t1_9 t4_6 rfl rfl (by decide +kernel) ⟨by decide, by decide⟩ [9, 5, 6, 7, 8] [0, 1, 2, 3, 4] [(qa, .inl (cI, 200, .inl (nf Fa))), (qb, .inl (cI, 200, .inl (nf Fb))), (qk, .inl (cI, 200, .inl (nf Fk))), (qu, .inl (cZ, 200, .inl (zf UN))), (qn, .inl (cI, 48, .inl (nf M)))] rfl rfl rfl rfl (by decide) 0 rfl rfl rfl rfl (Nat.le_of_ble_eq_true rfl) d_Md_relate_68 ⟨by decide, by decide⟩ (fun r4 ⟨F9_4, R9_4⟩ hPP => ?_)
  obtain ⟨rfl, hPP⟩ := hPP
  refine b_if_eq X 76 d_Md_relate_71 (by decide) (fun h71 => absurd h71 (by decide)) (fun h71 => ?_)
  refine g_iconst (v := -1) X d_Md_relate_74 rfl ?_
  exact g_iret X hA9 hQ9 hr9 hlk9 ⟨F9_4, R9_4⟩ [5, 0, 1, 2, 3, 4, 6, 7, 8, 9] rfl rfl d_Md_relate_75 (by (try dsimp only); exact (⟨rfl, hPP⟩))

theorem upd_lt {F : Nat → Nat} {R i K : Nat} (hi : i < K) (h : ∀ r, r < R → F r < K) : ∀ r, r < R + 1 → updN F R i r < K := by
  intro r hr
  by_cases e : r = R
  · subst e; rw [updN_s]; exact hi
  · rw [updN_n e]; exact h r (by omega)

set_option maxHeartbeats 4000000 in
set_option maxRecDepth 100000 in
theorem k_Md_relateA (mo : Nat) (tw : Int32) (K : Nat) (R : Nat) (qa : Nat) (qb : Nat) (qk : Nat) (qu : Nat) (qn : Nat) (qx : Nat) (qo : Nat) (qf : Nat) (d : Nat) (qr : Nat) (gm : Nat) (qg : Nat) (qv : Nat) (d2 : Nat) (qs : Nat) (vv : Nat) (qc : Nat) (qm : Nat) (qw : Nat) (AB : Nat → Bool) (OV : Nat → Bool) (FF : Nat → Nat) (FR : Nat → Nat) (x : Nat) (y : Nat) (kd : Nat) (Fa : Nat → Nat) (Fb : Nat → Nat) (Fk : Nat → Nat) (UN : Nat → Bool) (M : Nat → Nat) (i : Nat) (j : Nat) (hi : i < K) (hj : j < K) (hR2 : R < 200) (ex : M i = x) (ey : M j = y) (hK : K ≤ 48) (hx : x < 48) (hy : y < 48) (hk : kd ≤ 4) (hac : ∀ z, ¬ gov (tE 48 AB) z z) (hO : tbI OV (gwar (tE 48 AB) 48)) (hr : ∀ r, r < R → Fa r < K ∧ Fb r < K) (hk4 : ∀ r, r < R → Fk r ≤ 4) (hT : kd = 4 ∨ (kd < 3 ∧ (∀ k, ¬ gw (gadd (tE 48 AB) x y) (k + 1) x x)) ∨ (kd = 3 ∧ x = y) ∨ (kd = 3 ∧ x ≠ y ∧ (∀ k, ¬ gw (gadd (tE 48 AB) y x) (k + 1) x x) ∧ (∀ k, ¬ gw (gadd (tE 48 AB) x y) (k + 1) y y))) : CtI l y_Md_relate (Cond.code y_Md_relate c_Md_relate 4 (some .int) :: TB) ({ frames := 2, cells := 0, slots := 0, locals := 48 } : Room) D (tysv cI cJ cZ cQ) [.ref mo, .int (nI i), .int (nI j), .int (nI kd)] [(mo, .inr (8, [.int tw, .int (nI K), .int (nI R), .ref qa, .ref qb, .ref qk, .ref qu, .ref qn, .ref qx, .ref qo, .ref qf, .int (nI d), .ref qr, .int (nI gm), .ref qg, .ref qv, .int (nI d2), .ref qs, .int (nI vv), .ref qc, .ref qm, .ref qw])), (qa, .inl (cI, 200, .inl (nf Fa))), (qb, .inl (cI, 200, .inl (nf Fb))), (qk, .inl (cI, 200, .inl (nf Fk))), (qu, .inl (cZ, 200, .inl (zf UN))), (qn, .inl (cI, 48, .inl (nf M))), (qx, .inl (cZ, 2304, .inl (zf AB))), (qo, .inl (cZ, 2304, .inl (zf OV))), (qf, .inl (cI, 48, .inl (nf FF))), (qr, .inl (cI, 48, .inl (nf FR)))] 0 0 (fun (r : Int32) (u : (Nat → Nat) × (Nat → Bool) × (Nat → Bool)) => r = nI R ∧ (∀ z, z < K → u.1 z = (jnum (updN Fa R i) (updN Fb R j) (eqm UN (updN Fk R kd)) (R + 1)) z) ∧ tbI u.2.1 (jst (updN Fa R i) (updN Fb R j) (jnum (updN Fa R i) (updN Fb R j) (eqm UN (updN Fk R kd)) (R + 1)) (abm UN (updN Fk R kd)) (R + 1)) ∧ tbI u.2.2 (gwar (jst (updN Fa R i) (updN Fb R j) (jnum (updN Fa R i) (updN Fb R j) (eqm UN (updN Fk R kd)) (R + 1)) (abm UN (updN Fk R kd)) (R + 1)) 48)) (fun (u : (Nat → Nat) × (Nat → Bool) × (Nat → Bool)) => [(mo, .inr (8, [.int (nI 0), .int (nI K), .int (nI (R + 1)), .ref qa, .ref qb, .ref qk, .ref qu, .ref qn, .ref qx, .ref qo, .ref qf, .int (nI d), .ref qr, .int (nI gm), .ref qg, .ref qv, .int (nI d2), .ref qs, .int (nI vv), .ref qc, .ref qm, .ref qw])), (qa, .inl (cI, 200, .inl (nf (updN Fa R i)))), (qb, .inl (cI, 200, .inl (nf (updN Fb R j)))), (qk, .inl (cI, 200, .inl (nf (updN Fk R kd)))), (qu, .inl (cZ, 200, .inl (zf UN))), (qn, .inl (cI, 48, .inl (nf u.1))), (qx, .inl (cZ, 2304, .inl (zf u.2.1))), (qo, .inl (cZ, 2304, .inl (zf u.2.2))), (qf, .inl (cI, 48, .inl (nf FF))), (qr, .inl (cI, 48, .inl (nf FR)))]) := by
  refine CtI.of c_Md_relate 4 (some .int) (by decide) rfl (Nat.le_of_ble_eq_true rfl) ?_
  intro p e s m args below meth c A Q hA9 hQ9 X hr9 hlk9 hin9
  refine g_aload_n X 0 d_Md_relate_0 rfl rfl ?_
  refine g_aload_n X 0 d_Md_relate_1 rfl rfl ?_
  refine g_iload_n X 1 d_Md_relate_2 rfl rfl ?_
  refine g_calliV (n := 1) X [.int (nI i)] (k_Md_isContext mo tw K R qa qb qk qu qn qx qo qf d qr gm qg qv d2 qs vv qc qm qw i (by omega) (by omega)) t3_239 t4_1 ts_14 t1_9 t4_2 rfl rfl (by decide +kernel) ⟨by decide, by decide⟩ [0] [1, 2, 3, 4, 5, 6, 7, 8, 9] [(qa, .inl (cI, 200, .inl (nf Fa))), (qb, .inl (cI, 200, .inl (nf Fb))), (qk, .inl (cI, 200, .inl (nf Fk))), (qu, .inl (cZ, 200, .inl (zf UN))), (qn, .inl (cI, 48, .inl (nf M))), (qx, .inl (cZ, 2304, .inl (zf AB))), (qo, .inl (cZ, 2304, .inl (zf OV))), (qf, .inl (cI, 48, .inl (nf FF))), (qr, .inl (cI, 48, .inl (nf FR)))] rfl rfl rfl rfl (by decide) 0 rfl rfl rfl rfl (Nat.le_of_ble_eq_true rfl) d_Md_relate_3 ⟨by decide, by decide⟩ (fun r1 w9u1 hw1 => ?_)
  subst hw1
  refine b_if_eq X 30 d_Md_relate_6 (by decide) (fun h6 => absurd h6 (by decide)) (fun h6 => ?_)
  refine g_aload_n X 0 d_Md_relate_9 rfl rfl ?_
  refine g_iload_n X 2 d_Md_relate_10 rfl rfl ?_
  refine g_calliV (n := 1) X [.int (nI j)] (k_Md_isContext mo tw K R qa qb qk qu qn qx qo qf d qr gm qg qv d2 qs vv qc qm qw j (by omega) (by omega)) t3_239 t4_1 ts_14 t1_9 t4_2 rfl rfl (by decide +kernel) ⟨by decide, by decide⟩ [9] [0, 1, 2, 3, 4, 5, 6, 7, 8] [(qa, .inl (cI, 200, .inl (nf Fa))), (qb, .inl (cI, 200, .inl (nf Fb))), (qk, .inl (cI, 200, .inl (nf Fk))), (qu, .inl (cZ, 200, .inl (zf UN))), (qn, .inl (cI, 48, .inl (nf M))), (qx, .inl (cZ, 2304, .inl (zf AB))), (qo, .inl (cZ, 2304, .inl (zf OV))), (qf, .inl (cI, 48, .inl (nf FF))), (qr, .inl (cI, 48, .inl (nf FR)))] rfl rfl rfl rfl (by decide) 0 rfl rfl rfl rfl (Nat.le_of_ble_eq_true rfl) d_Md_relate_11 ⟨by decide, by decide⟩ (fun r2 w9u2 hw2 => ?_)
  subst hw2
  refine b_if_eq X 30 d_Md_relate_14 (by decide) (fun h14 => absurd h14 (by decide)) (fun h14 => ?_)
  refine g_iload_n X 3 d_Md_relate_17 rfl rfl ?_
  refine n_if_lt X 30 d_Md_relate_18 (by decide) (by omega) (fun h18 => absurd h18 (by omega)) (fun h18 => ?_)
  refine g_iload_n X 3 d_Md_relate_21 rfl rfl ?_
  refine g_iconst (v := nI 4) X d_Md_relate_22 rfl ?_
  refine n_icmp_gt X 30 d_Md_relate_23 (by decide) (by omega) (by omega) (fun h23 => absurd h23 (by omega)) (fun h23 => ?_)
  refine g_iconst (v := nI 1) X d_Md_relate_26 rfl ?_
  refine g_goto X 31 d_Md_relate_27 (by decide) ?_
  refine g_aload_n X 0 d_Md_relate_31 rfl rfl ?_
  refine g_get (C := R_Md) (T := T_Md) (N := 22) X 9 2 in_Md rfl rfl (by decide) t3_149 rfl rfl d_Md_relate_32 ?_
  refine g_sipush (v := nI 200) X d_Md_relate_35 rfl ?_
  refine n_icmp_ge X 45 d_Md_relate_38 (by decide) (by omega) (by omega) (fun h38 => absurd h38 (by omega)) (fun h38 => ?_)
  refine g_iconst (v := nI 1) X d_Md_relate_41 rfl ?_
  refine g_goto X 46 d_Md_relate_42 (by decide) ?_
  refine g_calliV (n := 2) X [.int (bI true), .int (bI true)] (k_Md_goes mo tw K R qa qb qk qu qn qx qo qf d qr gm qg qv d2 qs vv qc qm qw ) t3_223 t3_225 ts_11 t1_9 t3_226 rfl rfl (by decide +kernel) ⟨by decide, by decide⟩ [9] [0, 1, 2, 3, 4, 5, 6, 7, 8] [(qa, .inl (cI, 200, .inl (nf Fa))), (qb, .inl (cI, 200, .inl (nf Fb))), (qk, .inl (cI, 200, .inl (nf Fk))), (qu, .inl (cZ, 200, .inl (zf UN))), (qn, .inl (cI, 48, .inl (nf M))), (qx, .inl (cZ, 2304, .inl (zf AB))), (qo, .inl (cZ, 2304, .inl (zf OV))), (qf, .inl (cI, 48, .inl (nf FF))), (qr, .inl (cI, 48, .inl (nf FR)))] rfl rfl rfl rfl (by decide) 0 rfl rfl rfl rfl (Nat.le_of_ble_eq_true rfl) d_Md_relate_46 ⟨by decide, by decide⟩ (fun r3 w9u3 hw3 => ?_)
  subst hw3
  refine b_if_ne X 54 d_Md_relate_49 (by decide) (fun h49 => ?_) (fun h49 => absurd h49 (by decide))
  refine g_aload_n X 0 d_Md_relate_54 rfl rfl ?_
  refine g_aload_n X 0 d_Md_relate_55 rfl rfl ?_
  refine g_get (C := R_Md) (T := T_Md) (N := 22) X 9 7 in_Md rfl rfl (by decide) t3_154 rfl rfl d_Md_relate_56 ?_
  refine g_iload_n X 1 d_Md_relate_59 rfl rfl ?_
  refine g_ialdN X 4 0 rfl rfl (by omega) (by omega) d_Md_relate_60 ?_
  rw [ex]
  refine g_aload_n X 0 d_Md_relate_61 rfl rfl ?_
  refine g_get (C := R_Md) (T := T_Md) (N := 22) X 9 7 in_Md rfl rfl (by decide) t3_154 rfl rfl d_Md_relate_62 ?_
  refine g_iload_n X 2 d_Md_relate_65 rfl rfl ?_
  refine g_ialdN X 4 0 rfl rfl (by omega) (by omega) d_Md_relate_66 ?_
  rw [ey]
  refine g_iload_n X 3 d_Md_relate_67 rfl rfl ?_
  refine g_calliV (n := 3) X [.int (nI x), .int (nI y), .int (nI kd)] (k_Md_ringsN mo (nI 0) K R qa qb qk qu qn qx qo qf d qr gm qg qv d2 qs vv qc qm qw AB OV FF FR x y kd (by omega) (by omega) (by omega) (hac) (hO) (hT)) t4_3 t4_5 ts_15 t1_9 t4_6 rfl rfl (by decide +kernel) ⟨by decide, by decide⟩ [9, 5, 6, 7, 8] [0, 1, 2, 3, 4] [(qa, .inl (cI, 200, .inl (nf Fa))), (qb, .inl (cI, 200, .inl (nf Fb))), (qk, .inl (cI, 200, .inl (nf Fk))), (qu, .inl (cZ, 200, .inl (zf UN))), (qn, .inl (cI, 48, .inl (nf M)))] rfl rfl rfl rfl (by decide) 0 rfl rfl rfl rfl (Nat.le_of_ble_eq_true rfl) d_Md_relate_68 ⟨by decide, by decide⟩ (fun r4 w9u4 hw4 => ?_)
  subst hw4
  refine b_if_eq X 76 d_Md_relate_71 (by decide) (fun h71 => ?_) (fun h71 => absurd h71 (by decide))
  refine g_aload_n X 0 d_Md_relate_76 rfl rfl ?_
  refine g_get (C := R_Md) (T := T_Md) (N := 22) X 5 3 in_Md rfl rfl (by decide) t3_150 rfl rfl d_Md_relate_77 ?_
  refine g_aload_n X 0 d_Md_relate_80 rfl rfl ?_
  refine g_get (C := R_Md) (T := T_Md) (N := 22) X 5 2 in_Md rfl rfl (by decide) t3_149 rfl rfl d_Md_relate_81 ?_
  refine g_iload_n X 1 d_Md_relate_84 rfl rfl ?_
  refine g_iastN X 0 0 [(qa, .inl (cI, 200, .inl (nf (updN Fa R i)))), (qb, .inl (cI, 200, .inl (nf Fb))), (qk, .inl (cI, 200, .inl (nf Fk))), (qu, .inl (cZ, 200, .inl (zf UN))), (qn, .inl (cI, 48, .inl (nf M))), (mo, .inr (8, [.int (nI 0), .int (nI K), .int (nI R), .ref qa, .ref qb, .ref qk, .ref qu, .ref qn, .ref qx, .ref qo, .ref qf, .int (nI d), .ref qr, .int (nI gm), .ref qg, .ref qv, .int (nI d2), .ref qs, .int (nI vv), .ref qc, .ref qm, .ref qw])), (qx, .inl (cZ, 2304, .inl (zf AB))), (qo, .inl (cZ, 2304, .inl (zf OV))), (qf, .inl (cI, 48, .inl (nf FF))), (qr, .inl (cI, 48, .inl (nf FR)))] rfl rfl (by omega) (by omega) rfl d_Md_relate_85 ?_
  refine g_aload_n X 0 d_Md_relate_86 rfl rfl ?_
  refine g_get (C := R_Md) (T := T_Md) (N := 22) X 5 4 in_Md rfl rfl (by decide) t3_151 rfl rfl d_Md_relate_87 ?_
  refine g_aload_n X 0 d_Md_relate_90 rfl rfl ?_
  refine g_get (C := R_Md) (T := T_Md) (N := 22) X 5 2 in_Md rfl rfl (by decide) t3_149 rfl rfl d_Md_relate_91 ?_
  refine g_iload_n X 2 d_Md_relate_94 rfl rfl ?_
  refine g_iastN X 1 0 [(qa, .inl (cI, 200, .inl (nf (updN Fa R i)))), (qb, .inl (cI, 200, .inl (nf (updN Fb R j)))), (qk, .inl (cI, 200, .inl (nf Fk))), (qu, .inl (cZ, 200, .inl (zf UN))), (qn, .inl (cI, 48, .inl (nf M))), (mo, .inr (8, [.int (nI 0), .int (nI K), .int (nI R), .ref qa, .ref qb, .ref qk, .ref qu, .ref qn, .ref qx, .ref qo, .ref qf, .int (nI d), .ref qr, .int (nI gm), .ref qg, .ref qv, .int (nI d2), .ref qs, .int (nI vv), .ref qc, .ref qm, .ref qw])), (qx, .inl (cZ, 2304, .inl (zf AB))), (qo, .inl (cZ, 2304, .inl (zf OV))), (qf, .inl (cI, 48, .inl (nf FF))), (qr, .inl (cI, 48, .inl (nf FR)))] rfl rfl (by omega) (by omega) rfl d_Md_relate_95 ?_
  refine g_aload_n X 0 d_Md_relate_96 rfl rfl ?_
  refine g_get (C := R_Md) (T := T_Md) (N := 22) X 5 5 in_Md rfl rfl (by decide) t3_152 rfl rfl d_Md_relate_97 ?_
  refine g_aload_n X 0 d_Md_relate_100 rfl rfl ?_
  refine g_get (C := R_Md) (T := T_Md) (N := 22) X 5 2 in_Md rfl rfl (by decide) t3_149 rfl rfl d_Md_relate_101 ?_
  refine g_iload_n X 3 d_Md_relate_104 rfl rfl ?_
  refine g_iastN X 2 0 [(qa, .inl (cI, 200, .inl (nf (updN Fa R i)))), (qb, .inl (cI, 200, .inl (nf (updN Fb R j)))), (qk, .inl (cI, 200, .inl (nf (updN Fk R kd)))), (qu, .inl (cZ, 200, .inl (zf UN))), (qn, .inl (cI, 48, .inl (nf M))), (mo, .inr (8, [.int (nI 0), .int (nI K), .int (nI R), .ref qa, .ref qb, .ref qk, .ref qu, .ref qn, .ref qx, .ref qo, .ref qf, .int (nI d), .ref qr, .int (nI gm), .ref qg, .ref qv, .int (nI d2), .ref qs, .int (nI vv), .ref qc, .ref qm, .ref qw])), (qx, .inl (cZ, 2304, .inl (zf AB))), (qo, .inl (cZ, 2304, .inl (zf OV))), (qf, .inl (cI, 48, .inl (nf FF))), (qr, .inl (cI, 48, .inl (nf FR)))] rfl rfl (by omega) (by omega) rfl d_Md_relate_105 ?_
  refine g_aload_n X 0 d_Md_relate_106 rfl rfl ?_
  refine g_dup X d_Md_relate_107 rfl ?_
  refine g_get (C := R_Md) (T := T_Md) (N := 22) X 5 2 in_Md rfl rfl (by decide) t3_149 rfl rfl d_Md_relate_108 ?_
  refine g_iconst (v := nI 1) X d_Md_relate_111 rfl ?_
  refine g_iadd X (nI (R + 1)) d_Md_relate_112 (nI_add R 1) ?_
  refine g_put (C := R_Md) (T := T_Md) (N := 22) (ty := .int) X 5 2 [(qa, .inl (cI, 200, .inl (nf (updN Fa R i)))), (qb, .inl (cI, 200, .inl (nf (updN Fb R j)))), (qk, .inl (cI, 200, .inl (nf (updN Fk R kd)))), (qu, .inl (cZ, 200, .inl (zf UN))), (qn, .inl (cI, 48, .inl (nf M))), (mo, .inr (8, [.int (nI 0), .int (nI K), .int (nI (R + 1)), .ref qa, .ref qb, .ref qk, .ref qu, .ref qn, .ref qx, .ref qo, .ref qf, .int (nI d), .ref qr, .int (nI gm), .ref qg, .ref qv, .int (nI d2), .ref qs, .int (nI vv), .ref qc, .ref qm, .ref qw])), (qx, .inl (cZ, 2304, .inl (zf AB))), (qo, .inl (cZ, 2304, .inl (zf OV))), (qf, .inl (cI, 48, .inl (nf FF))), (qr, .inl (cI, 48, .inl (nf FR)))] t_Md ty_Md nm_Md in_Md rfl rfl (by decide) t3_149 rfl rfl (by decide +kernel) rfl rfl (Nat.le_of_ble_eq_true rfl) rfl d_Md_relate_113 ?_
  refine g_aload_n X 0 d_Md_relate_116 rfl rfl ?_
  refine g_callvV (n := 0) X [] (k_Md_renew mo (nI 0) K (R + 1) qa qb qk qu qn qx qo qf d qr gm qg qv d2 qs vv qc qm qw (updN Fa R i) (updN Fb R j) (updN Fk R kd) UN M AB OV (by omega) (by omega) (fun r h => ⟨upd_lt hi (fun r h => (hr r h).1) r h, upd_lt hj (fun r h => (hr r h).2) r h⟩) (fun r h => Nat.le_of_lt_succ (upd_lt (K := 5) (by omega) (fun r h => Nat.lt_succ_of_le (hk4 r h)) r h))) t3_227 t3_229 ts_12 t1_9 t3_230 rfl rfl (by decide +kernel) ⟨by decide, by decide⟩ [5, 0, 1, 2, 3, 4, 6, 7] [8, 9] [(qf, .inl (cI, 48, .inl (nf FF))), (qr, .inl (cI, 48, .inl (nf FR)))] rfl rfl rfl rfl (by decide) 0 rfl rfl rfl rfl (Nat.le_of_ble_eq_true rfl) d_Md_relate_117 ⟨by decide, by decide⟩ (fun ⟨M9_5, AB9_5, OV9_5⟩ hrn => ?_)
  refine g_aload_n X 0 d_Md_relate_120 rfl rfl ?_
  refine g_get (C := R_Md) (T := T_Md) (N := 22) X 2 2 in_Md rfl rfl (by decide) t3_149 rfl rfl d_Md_relate_121 ?_
  refine g_iconst (v := nI 1) X d_Md_relate_124 rfl ?_
  refine g_isub X (nI ((R + 1) - 1)) d_Md_relate_125 (pk_sub (by omega)) ?_
  exact g_iret X hA9 hQ9 hr9 hlk9 ⟨M9_5, AB9_5, OV9_5⟩ [2, 3, 4, 5, 6, 7, 8, 9, 0, 1] rfl rfl d_Md_relate_126 (by (try dsimp only); exact (⟨by rw [Nat.add_sub_cancel], hrn⟩))
