variable {l : Launch} {D : va_G} {cI cJ cZ cQ : ClassId}
/-! the model's groups -/
def gtI (ov : Nat → Nat → Bool) (hm : Nat → Nat) (K i k : Nat) (T : Nat → Bool) : Prop := ∀ g, g < 12 → ∀ h, h < 12 → (T (12 * g + h) = true ↔ ∃ x y, ((x < i ∧ y < K) ∨ (x = i ∧ y < k)) ∧ gpX ov hm x y g h)
theorem gt_0 {ov : Nat → Nat → Bool} {hm : Nat → Nat} {K : Nat} {T : Nat → Bool} (h : ∀ k, k < 144 → T k = false) : gtI ov hm K 0 0 T := by
  intro g hg j hj
  rw [h _ (by omega)]
  constructor
  · intro h; cases h
  · rintro ⟨x, y, h1, -⟩
    omega
theorem gt_row {ov : Nat → Nat → Bool} {hm : Nat → Nat} {K i k : Nat} {T : Nat → Bool} (h : gtI ov hm K i k T) (hk : k = K) : gtI ov hm K (i + 1) 0 T := by
  subst hk
  intro g hg j hj
  rw [h g hg j hj]
  constructor
  · rintro ⟨x, y, h1, h2⟩
    exact ⟨x, y, by omega, h2⟩
  · rintro ⟨x, y, h1, h2⟩
    exact ⟨x, y, by omega, h2⟩
theorem gt_skip {ov : Nat → Nat → Bool} {hm : Nat → Nat} {K i k : Nat} {T : Nat → Bool} (h : gtI ov hm K i k T) (hx : ∀ g j, ¬ gpX ov hm i k g j) : gtI ov hm K i (k + 1) T := by
  intro g hg j hj
  rw [h g hg j hj]
  constructor
  · rintro ⟨x, y, h1, h2⟩
    exact ⟨x, y, by omega, h2⟩
  · rintro ⟨x, y, h1, h2⟩
    by_cases q : x = i ∧ y = k
    · obtain ⟨rfl, rfl⟩ := q
      exact absurd h2 (hx g j)
    · exact ⟨x, y, by omega, h2⟩
theorem gt_skip1 {ov : Nat → Nat → Bool} {hm : Nat → Nat} {K i k : Nat} {T : Nat → Bool} (h : gtI ov hm K i k T) (he : hI (hm i) = -1) : gtI ov hm K i (k + 1) T := gt_skip h (by
  rintro g j ⟨e1, -, l1, -⟩
  exact hI_eq he (by omega))
theorem gt_skip2 {ov : Nat → Nat → Bool} {hm : Nat → Nat} {K i k : Nat} {T : Nat → Bool} (h : gtI ov hm K i k T) (he : hI (hm k) = -1) : gtI ov hm K i (k + 1) T := gt_skip h (by
  rintro g j ⟨-, e1, -, l1, -⟩
  exact hI_eq he (by omega))
theorem gt_skip3 {ov : Nat → Nat → Bool} {hm : Nat → Nat} {K i k : Nat} {T : Nat → Bool} (h : gtI ov hm K i k T) (hk : ¬ hI (hm k) = -1) (he : hI (hm i) = hI (hm k)) : gtI ov hm K i (k + 1) T := gt_skip h (by
  rintro g j ⟨e1, e2, -, -, hne, -⟩
  have := hI_inj (hI_ne hk) he
  omega)
theorem gt_skip4 {ov : Nat → Nat → Bool} {hm : Nat → Nat} {K i k : Nat} {T : Nat → Bool} (h : gtI ov hm K i k T) (he : ov i k = false) : gtI ov hm K i (k + 1) T := gt_skip h (by
  rintro g j ⟨-, -, -, -, -, h9⟩
  rw [he] at h9
  cases h9)
theorem gt_put {ov : Nat → Nat → Bool} {hm : Nat → Nat} {K i k : Nat} {T : Nat → Bool} (h : gtI ov hm K i k T) (hi : ¬ hI (hm i) = -1) (hk : ¬ hI (hm k) = -1) (hne : ¬ hI (hm i) = hI (hm k)) (ho : ov i k = true) : gtI ov hm K i (k + 1) (updB T (12 * hm i + hm k) true) := by
  have l1 := hI_ne hi
  have l2 := hI_ne hk
  intro g hg j hj
  by_cases e : 12 * g + j = 12 * hm i + hm k
  · have e1 : g = hm i := by omega
    have e2 : j = hm k := by omega
    rw [e, updB_s]
    exact ⟨fun _ => ⟨i, k, by omega, e1.symm, e2.symm, hg, hj, fun q => hne (by rw [← e1, ← e2, q]), ho⟩, fun _ => rfl⟩
  · rw [updB_n e, h g hg j hj]
    constructor
    · rintro ⟨x, y, h1, h2⟩
      exact ⟨x, y, by omega, h2⟩
    · rintro ⟨x, y, h1, h2⟩
      by_cases q : x = i ∧ y = k
      · obtain ⟨rfl, rfl⟩ := q
        obtain ⟨a1, a2, -⟩ := h2
        omega
      · exact ⟨x, y, by omega, h2⟩
theorem gt_E {ov : Nat → Nat → Bool} {hm : Nat → Nat} {K : Nat} {T : Nat → Bool} (h : gtI ov hm K K 0 T) : tE 12 T = gpE ov hm K := by
  funext g j
  rw [Bool.eq_iff_iff, gpE_iff]
  by_cases hg : g < 12
  · by_cases hj : j < 12
    · rw [tE_eq hg hj, h g hg j hj]
      constructor
      · rintro ⟨x, y, h1, h2⟩
        exact ⟨x, y, by omega, by omega, h2⟩
      · rintro ⟨x, y, h1, h2, h3⟩
        exact ⟨x, y, Or.inl ⟨h1, h2⟩, h3⟩
    · constructor
      · intro z; simp [tE, hj] at z
      · rintro ⟨x, y, -, -, -, -, -, z, -⟩; omega
  · constructor
    · intro z; simp [tE, hg] at z
    · rintro ⟨x, y, -, -, -, -, z, -⟩; omega
/-! the ring of a group -/
def mnI (E : Nat → Nat → Bool) (F : Nat → Nat) (t i b : Nat) : Prop := b ≤ 99 ∧ (b < 99 → ∃ g, g < i ∧ E t g = true ∧ F g = b) ∧ ∀ g, g < i → E t g = true → b ≤ F g
theorem mn_0 {E : Nat → Nat → Bool} {F : Nat → Nat} {t : Nat} : mnI E F t 0 99 := ⟨Nat.le_refl _, fun h => absurd h (Nat.lt_irrefl _), fun g h => absurd h (Nat.not_lt_zero g)⟩
theorem mn_keep {E : Nat → Nat → Bool} {F : Nat → Nat} {t i b : Nat} (h : mnI E F t i b) (hx : E t i = true → b ≤ F i) : mnI E F t (i + 1) b := by
  refine ⟨h.1, fun q => ?_, fun g hg he => ?_⟩
  · obtain ⟨g, h1, h2⟩ := h.2.1 q
    exact ⟨g, by omega, h2⟩
  · by_cases e : g = i
    · subst e; exact hx he
    · exact h.2.2 g (by omega) he
theorem mn_put {E : Nat → Nat → Bool} {F : Nat → Nat} {t i b : Nat} (h : mnI E F t i b) (he : E t i = true) (hl : F i < b) : mnI E F t (i + 1) (F i) := by
  have hb := h.1
  refine ⟨by omega, fun _ => ⟨i, by omega, he, rfl⟩, fun g hg hg2 => ?_⟩
  by_cases e : g = i
  · subst e; exact Nat.le_refl _
  · have := h.2.2 g (by omega) hg2
    omega
theorem mn_ring {E : Nat → Nat → Bool} {F pp : Nat → Nat} {t b d : Nat} (hE : gin E 12) (hF : gfar E t 12 F) (h : mnI E F t 12 b) (hg : gring E t d pp) : b + 1 = d := by
  obtain ⟨hpos, hw, hmin⟩ := hg.1
  obtain ⟨k, rfl⟩ : ∃ k, d = k + 1 := ⟨d - 1, by omega⟩
  have hd := gD_le hE hg.1
  obtain ⟨z, hz1, hz2⟩ := hw
  have l1 := h.2.2 z (hE _ _ hz1).2 hz1
  have l2 := gfar_le hF k z hz2
  have hb : b < 99 := by omega
  obtain ⟨g, g1, g2, g3⟩ := h.2.1 hb
  have hw2 := (hF.2.1 g g1).2 (by omega)
  rw [g3] at hw2
  rcases Nat.lt_or_ge b k with q | q
  · exact absurd ⟨g, g2, hw2⟩ (hmin (b + 1) (by omega) (by omega))
  · omega
theorem mn_none {E : Nat → Nat → Bool} {F : Nat → Nat} {t b : Nat} (hF : gfar E t 12 F) (h : mnI E F t 12 b) (hn : ∀ k, ¬ gw E (k + 1) t t) : b = 99 := by
  rcases Nat.lt_or_ge b 99 with q | q
  · obtain ⟨g, g1, g2, g3⟩ := h.2.1 q
    have hw2 := (hF.2.1 g g1).2 (by omega)
    exact absurd ⟨g, g2, hw2⟩ (hn (F g))
  · have := h.1
    omega
def nzP (P : Nat → Prop) (j v : Nat) : Prop := v ≤ 12 ∧ (v < 12 → P v) ∧ ∀ z, j ≤ z → z < v → z < 12 → ¬ P z
theorem nz_0 {P : Nat → Prop} : nzP P 12 12 := ⟨Nat.le_refl 12, fun h => absurd h (Nat.lt_irrefl 12), fun z h1 _ h3 => by omega⟩
theorem nz_hit {P : Nat → Prop} {k : Nat} (hk : k < 12) (hp : P k) : nzP P k k := ⟨by omega, fun _ => hp, fun z h1 h2 _ => by omega⟩
theorem nz_miss {P : Nat → Prop} {k v : Nat} (h : nzP P (k + 1) v) (hp : ¬ P k) : nzP P k v := by
  refine ⟨h.1, h.2.1, fun z h1 h2 h3 => ?_⟩
  rcases Nat.lt_or_ge k z with q | q
  · exact h.2.2 z q h2 h3
  · have e : z = k := by omega
    subst e
    exact hp
theorem ro_next {E : Nat → Nat → Bool} {F pp : Nat → Nat} {t d k v w : Nat} (hE : gin E 12) (hF : gfar E t 12 F) (hg : gring E t d pp) (hk : k + 1 < d) (hw : w = pp k) (h : nzP (fun z => E w z = true ∧ F z = d - (k + 1)) 0 v) : v = pp (k + 1) ∧ v < 12 := by
  rw [show d - (k + 1) = d - 1 - k by omega] at h
  obtain ⟨h1, h2, h3⟩ := hg.2.2 k hk
  have hd := gD_le hE hg.1
  rw [← hw] at h1 h3
  have hx : pp (k + 1) < 12 := (hE _ _ h1).2
  have hnt : pp (k + 1) ≠ t := by
    intro q
    rw [q] at h2
    have := gD_uniq h2 hg.1
    omega
  have hF1 : F (pp (k + 1)) = d - 1 - k := (gfar_gd hF hx (by omega)).mpr ((gD_gd hnt).mp h2)
  have key : v = pp (k + 1) := by
    rcases Nat.lt_trichotomy v (pp (k + 1)) with q | q | q
    · obtain ⟨a1, a2⟩ := h.2.1 (by omega)
      have hv : v < 12 := by omega
      have hvt : v ≠ t := by
        intro e
        rw [e, hF.1] at a2
        omega
      exact absurd ((gD_gd hvt).mpr ((gfar_gd hF hv (by omega)).mp a2)) (h3 v q a1)
    · exact q
    · exact absurd ⟨h1, hF1⟩ (h.2.2 _ (Nat.zero_le _) q hx)
  exact ⟨key, by rw [key]; exact hx⟩
theorem ring_put {FG pp : Nat → Nat} {k v : Nat} (h : ∀ j, j < k → FG j = pp j) (e : v = pp k) : ∀ j, j < k + 1 → updN FG k v j = pp j := by
  intro j hj
  by_cases q : j = k
  · subst q; rw [updN_s, e]
  · rw [updN_n q]; exact h j (by omega)
theorem updN_back (F : Nat → Nat) (j v : Nat) : updN (updN F j v) j (F j) = F := by
  funext k
  by_cases e : k = j
  · subst e; exact updN_s
  · rw [updN_n e, updN_n e]
theorem fillH_step {F : Nat → Nat} {i : Nat} (h : ∀ k, k < i → F k = 12) : ∀ k, k < i + 1 → updN F i 12 k = 12 := fillN_step h
theorem sub_k {d k : Nat} (h : k + 1 < d) : d - 1 + 1 - (k + 1) = d - 1 - k := by omega

set_option maxHeartbeats 4000000 in
set_option maxRecDepth 100000 in
theorem k_Md_renewGroups (mo : Nat) (tw : Int32) (K : Nat) (R : Nat) (qa : Nat) (qb : Nat) (qk : Nat) (qu : Nat) (qn : Nat) (qx : Nat) (qo : Nat) (qf : Nat) (d : Nat) (qr : Nat) (gm : Nat) (qg : Nat) (qv : Nat) (d2 : Nat) (qs : Nat) (vv : Nat) (qc : Nat) (qm : Nat) (qw : Nat) (M : Nat → Nat) (OV : Nat → Bool) (hm : Nat → Nat) (GO : Nat → Bool) (hK : K ≤ 48) (hM : ∀ z, z < K → M z < 48) : CtV l y_Md_renewGroups (Cond.code y_Md_renewGroups c_Md_renewGroups 5 none :: TB) ({ frames := 0, cells := 0, slots := 0, locals := 0 } : Room) D (tysv cI cJ cZ cQ) [.ref mo] [(mo, .inr (8, [.int tw, .int (nI K), .int (nI R), .ref qa, .ref qb, .ref qk, .ref qu, .ref qn, .ref qx, .ref qo, .ref qf, .int (nI d), .ref qr, .int (nI gm), .ref qg, .ref qv, .int (nI d2), .ref qs, .int (nI vv), .ref qc, .ref qm, .ref qw])), (qn, .inl (cI, 48, .inl (nf M))), (qo, .inl (cZ, 2304, .inl (zf OV))), (qg, .inl (cI, 48, .inl (hf hm))), (qv, .inl (cZ, 144, .inl (zf GO)))] 0 0 (fun (G9 : Nat → Bool) => tE 12 G9 = gpE (fun x y => OV (48 * M x + M y)) hm K) (fun (G9 : Nat → Bool) => [(mo, .inr (8, [.int tw, .int (nI K), .int (nI R), .ref qa, .ref qb, .ref qk, .ref qu, .ref qn, .ref qx, .ref qo, .ref qf, .int (nI d), .ref qr, .int (nI gm), .ref qg, .ref qv, .int (nI d2), .ref qs, .int (nI vv), .ref qc, .ref qm, .ref qw])), (qn, .inl (cI, 48, .inl (nf M))), (qo, .inl (cZ, 2304, .inl (zf OV))), (qg, .inl (cI, 48, .inl (hf hm))), (qv, .inl (cZ, 144, .inl (zf G9)))]) := by
  refine CtV.of c_Md_renewGroups 5 none (by decide) rfl (Nat.le_of_ble_eq_true rfl) ?_
  intro p e s m args below meth c A Q hA9 hQ9 X hr9 hlk9 hin9
  have L24 : ∀ (N24 : Nat) (i : Nat) (G9 : Nat → Bool), (K - i) < N24 → (i ≤ K) → (gtI (fun x y => OV (48 * M x + M y)) hm K i 0 G9) → G p l e ({ frames := 0, cells := 0, slots := 0, locals := 0 } : Room) s m args below meth c 5 D A s.heap Q 0 0 [(mo, .inr (8, [.int tw, .int (nI K), .int (nI R), .ref qa, .ref qb, .ref qk, .ref qu, .ref qn, .ref qx, .ref qo, .ref qf, .int (nI d), .ref qr, .int (nI gm), .ref qg, .ref qv, .int (nI d2), .ref qs, .int (nI vv), .ref qc, .ref qm, .ref qw])), (qn, .inl (cI, 48, .inl (nf M))), (qo, .inl (cZ, 2304, .inl (zf OV))), (qg, .inl (cI, 48, .inl (hf hm))), (qv, .inl (cZ, 144, .inl (zf G9)))] [(0, .ref mo), (1, .int (nI i))] 24 [] := by
    intro N24
    induction N24 with
    | zero =>
      intro i G9 hN
      exact absurd hN (Nat.not_lt_zero _)
    | succ N24 ih24 =>
      intro i G9 hN24 hi h1
      refine g_iload_n X 1 d_Md_renewGroups_24 rfl rfl ?_
      refine g_aload_n X 0 d_Md_renewGroups_25 rfl rfl ?_
      refine g_get (C := R_Md) (T := T_Md) (N := 22) X 0 1 in_Md rfl rfl (by decide) t3_148 rfl rfl d_Md_renewGroups_26 ?_
      refine n_icmp_ge X 123 d_Md_renewGroups_29 (by decide) (by omega) (by omega) (fun h29 => ?_) (fun h29 => ?_)
      · exact g_vret X hA9 hQ9 hr9 hlk9 G9 [0, 1, 2, 3, 4] rfl rfl d_Md_renewGroups_123 (gt_E (by have e9 : i = K := (by omega); subst e9; exact h1))
      · have L34 : ∀ (N34 : Nat) (k : Nat) (G8 : Nat → Bool), (K - k) < N34 → (k ≤ K) → (gtI (fun x y => OV (48 * M x + M y)) hm K i k G8) → G p l e ({ frames := 0, cells := 0, slots := 0, locals := 0 } : Room) s m args below meth c 5 D A s.heap Q 0 0 [(mo, .inr (8, [.int tw, .int (nI K), .int (nI R), .ref qa, .ref qb, .ref qk, .ref qu, .ref qn, .ref qx, .ref qo, .ref qf, .int (nI d), .ref qr, .int (nI gm), .ref qg, .ref qv, .int (nI d2), .ref qs, .int (nI vv), .ref qc, .ref qm, .ref qw])), (qn, .inl (cI, 48, .inl (nf M))), (qo, .inl (cZ, 2304, .inl (zf OV))), (qg, .inl (cI, 48, .inl (hf hm))), (qv, .inl (cZ, 144, .inl (zf G8)))] [(0, .ref mo), (1, .int (nI i)), (2, .int (nI k))] 34 [] := by
          intro N34
          induction N34 with
          | zero =>
            intro k G8 hN
            exact absurd hN (Nat.not_lt_zero _)
          | succ N34 ih34 =>
            intro k G8 hN34 hk h2
            refine g_iload_n X 2 d_Md_renewGroups_34 rfl rfl ?_
            refine g_aload_n X 0 d_Md_renewGroups_35 rfl rfl ?_
            refine g_get (C := R_Md) (T := T_Md) (N := 22) X 0 1 in_Md rfl rfl (by decide) t3_148 rfl rfl d_Md_renewGroups_36 ?_
            refine n_icmp_ge X 117 d_Md_renewGroups_39 (by decide) (by omega) (by omega) (fun h39 => ?_) (fun h39 => ?_)
            · refine g_iinc X (nI (i + 1)) [(1, .int (nI (i + 1))), (0, .ref mo), (2, .int (nI k))] d_Md_renewGroups_117 (k := 1) rfl (nI_1 i) (by decide) rfl ?_
              refine g_goto X 24 d_Md_renewGroups_120 (by decide) ?_
              refine g_lv [1, 0] rfl ?_
              exact ih24 (i + 1) G8 (by omega) (by omega) (gt_row h2 (by omega))
            · refine g_aload_n X 0 d_Md_renewGroups_42 rfl rfl ?_
              refine g_get (C := R_Md) (T := T_Md) (N := 22) X 0 14 in_Md rfl rfl (by decide) t3_161 rfl rfl d_Md_renewGroups_43 ?_
              refine g_iload_n X 1 d_Md_renewGroups_46 rfl rfl ?_
              refine g_ialdH X 3 0 rfl rfl (by omega) (by omega) d_Md_renewGroups_47 ?_
              refine g_istore_n X [(3, .int (hI (hm i))), (0, .ref mo), (1, .int (nI i)), (2, .int (nI k))] d_Md_renewGroups_48 rfl (by decide) rfl ?_
              refine g_aload_n X 0 d_Md_renewGroups_49 rfl rfl ?_
              refine g_get (C := R_Md) (T := T_Md) (N := 22) X 0 14 in_Md rfl rfl (by decide) t3_161 rfl rfl d_Md_renewGroups_50 ?_
              refine g_iload_n X 2 d_Md_renewGroups_53 rfl rfl ?_
              refine g_ialdH X 3 0 rfl rfl (by omega) (by omega) d_Md_renewGroups_54 ?_
              refine g_istore X [(4, .int (hI (hm k))), (3, .int (hI (hm i))), (0, .ref mo), (1, .int (nI i)), (2, .int (nI k))] d_Md_renewGroups_55 (by decide) rfl ?_
              refine g_iload_n X 3 d_Md_renewGroups_57 rfl rfl ?_
              refine g_iconst (v := -1) X d_Md_renewGroups_58 rfl ?_
              refine g_icmp_eq X 111 d_Md_renewGroups_59 (by decide) (fun h59 => ?_) (fun h59 => ?_)
              · refine g_iinc X (nI (k + 1)) [(2, .int (nI (k + 1))), (4, .int (hI (hm k))), (3, .int (hI (hm i))), (0, .ref mo), (1, .int (nI i))] d_Md_renewGroups_111 (k := 4) rfl (nI_1 k) (by decide) rfl ?_
                refine g_goto X 34 d_Md_renewGroups_114 (by decide) ?_
                refine g_lv [3, 4, 0] rfl ?_
                exact ih34 (k + 1) G8 (by omega) (by omega) (by first | exact gt_skip1 h2 h59 | exact gt_skip2 h2 h65 | exact gt_skip3 h2 h65 h71 | exact gt_skip4 h2 h95 | exact gt_put h2 h59 h65 h71 h95)
              · refine g_iload X 4 d_Md_renewGroups_62 rfl ?_
                refine g_iconst (v := -1) X d_Md_renewGroups_64 rfl ?_
                refine g_icmp_eq X 111 d_Md_renewGroups_65 (by decide) (fun h65 => ?_) (fun h65 => ?_)
                · refine g_iinc X (nI (k + 1)) [(2, .int (nI (k + 1))), (4, .int (hI (hm k))), (3, .int (hI (hm i))), (0, .ref mo), (1, .int (nI i))] d_Md_renewGroups_111 (k := 4) rfl (nI_1 k) (by decide) rfl ?_
                  refine g_goto X 34 d_Md_renewGroups_114 (by decide) ?_
                  refine g_lv [3, 4, 0] rfl ?_
                  exact ih34 (k + 1) G8 (by omega) (by omega) (by first | exact gt_skip1 h2 h59 | exact gt_skip2 h2 h65 | exact gt_skip3 h2 h65 h71 | exact gt_skip4 h2 h95 | exact gt_put h2 h59 h65 h71 h95)
                · refine g_iload_n X 3 d_Md_renewGroups_68 rfl rfl ?_
                  refine g_iload X 4 d_Md_renewGroups_69 rfl ?_
                  refine g_icmp_eq X 111 d_Md_renewGroups_71 (by decide) (fun h71 => ?_) (fun h71 => ?_)
                  · refine g_iinc X (nI (k + 1)) [(2, .int (nI (k + 1))), (4, .int (hI (hm k))), (3, .int (hI (hm i))), (0, .ref mo), (1, .int (nI i))] d_Md_renewGroups_111 (k := 4) rfl (nI_1 k) (by decide) rfl ?_
                    refine g_goto X 34 d_Md_renewGroups_114 (by decide) ?_
                    refine g_lv [3, 4, 0] rfl ?_
                    exact ih34 (k + 1) G8 (by omega) (by omega) (by first | exact gt_skip1 h2 h59 | exact gt_skip2 h2 h65 | exact gt_skip3 h2 h65 h71 | exact gt_skip4 h2 h95 | exact gt_put h2 h59 h65 h71 h95)
                  · have m1 := hM i (by omega)
                    have m2 := hM k (by omega)
                    refine g_aload_n X 0 d_Md_renewGroups_74 rfl rfl ?_
                    refine g_get (C := R_Md) (T := T_Md) (N := 22) X 0 9 in_Md rfl rfl (by decide) t3_156 rfl rfl d_Md_renewGroups_75 ?_
                    refine g_bipush (v := nI 48) X d_Md_renewGroups_78 rfl ?_
                    refine g_aload_n X 0 d_Md_renewGroups_80 rfl rfl ?_
                    refine g_get (C := R_Md) (T := T_Md) (N := 22) X 0 7 in_Md rfl rfl (by decide) t3_154 rfl rfl d_Md_renewGroups_81 ?_
                    refine g_iload_n X 1 d_Md_renewGroups_84 rfl rfl ?_
                    refine g_ialdN X 1 0 rfl rfl (by omega) (by omega) d_Md_renewGroups_85 ?_
                    refine g_imul X (nI (48 * (M i))) d_Md_renewGroups_86 (pk_mul 48 (M i)) ?_
                    refine g_aload_n X 0 d_Md_renewGroups_87 rfl rfl ?_
                    refine g_get (C := R_Md) (T := T_Md) (N := 22) X 0 7 in_Md rfl rfl (by decide) t3_154 rfl rfl d_Md_renewGroups_88 ?_
                    refine g_iload_n X 2 d_Md_renewGroups_91 rfl rfl ?_
                    refine g_ialdN X 1 0 rfl rfl (by omega) (by omega) d_Md_renewGroups_92 ?_
                    refine g_iadd X (nI (48 * (M i) + M k)) d_Md_renewGroups_93 (nI_add (48 * (M i)) (M k)) ?_
                    refine g_zaldB X 2 2 rfl rfl (by omega) (by omega) d_Md_renewGroups_94 ?_
                    refine b_if_eq X 111 d_Md_renewGroups_95 (by decide) (fun h95 => ?_) (fun h95 => ?_)
                    · refine g_iinc X (nI (k + 1)) [(2, .int (nI (k + 1))), (4, .int (hI (hm k))), (3, .int (hI (hm i))), (0, .ref mo), (1, .int (nI i))] d_Md_renewGroups_111 (k := 4) rfl (nI_1 k) (by decide) rfl ?_
                      refine g_goto X 34 d_Md_renewGroups_114 (by decide) ?_
                      refine g_lv [3, 4, 0] rfl ?_
                      exact ih34 (k + 1) G8 (by omega) (by omega) (by first | exact gt_skip1 h2 h59 | exact gt_skip2 h2 h65 | exact gt_skip3 h2 h65 h71 | exact gt_skip4 h2 h95 | exact gt_put h2 h59 h65 h71 h95)
                    · refine g_aload_n X 0 d_Md_renewGroups_98 rfl rfl ?_
                      have l1 := hI_ne h59
                      have l2 := hI_ne h65
                      refine g_get (C := R_Md) (T := T_Md) (N := 22) X 0 15 in_Md rfl rfl (by decide) t3_162 rfl rfl d_Md_renewGroups_99 ?_
                      refine g_bipush (v := nI 12) X d_Md_renewGroups_102 rfl ?_
                      refine g_iload_n X 3 d_Md_renewGroups_104 rfl rfl ?_
                      refine g_topE (hI_t (hI_ne h59)) ?_
                      refine g_imul X (nI (12 * (hm i))) d_Md_renewGroups_105 (pk_mul 12 (hm i)) ?_
                      refine g_iload X 4 d_Md_renewGroups_106 rfl ?_
                      refine g_topE (hI_t (hI_ne h65)) ?_
                      refine g_iadd X (nI (12 * (hm i) + hm k)) d_Md_renewGroups_108 (nI_add (12 * (hm i)) (hm k)) ?_
                      refine g_iconst (v := nI 1) X d_Md_renewGroups_109 rfl ?_
                      refine g_topE (show nI 1 = bI true from rfl) ?_
                      refine g_zastB X 4 2 [(mo, .inr (8, [.int tw, .int (nI K), .int (nI R), .ref qa, .ref qb, .ref qk, .ref qu, .ref qn, .ref qx, .ref qo, .ref qf, .int (nI d), .ref qr, .int (nI gm), .ref qg, .ref qv, .int (nI d2), .ref qs, .int (nI vv), .ref qc, .ref qm, .ref qw])), (qn, .inl (cI, 48, .inl (nf M))), (qo, .inl (cZ, 2304, .inl (zf OV))), (qg, .inl (cI, 48, .inl (hf hm))), (qv, .inl (cZ, 144, .inl (zf (updB G8 (12 * (hm i) + hm k) true))))] rfl rfl (by omega) (by omega) rfl d_Md_renewGroups_110 ?_
                      refine g_iinc X (nI (k + 1)) [(2, .int (nI (k + 1))), (4, .int (hI (hm k))), (3, .int (hI (hm i))), (0, .ref mo), (1, .int (nI i))] d_Md_renewGroups_111 (k := 4) rfl (nI_1 k) (by decide) rfl ?_
                      refine g_goto X 34 d_Md_renewGroups_114 (by decide) ?_
                      refine g_lv [3, 4, 0] rfl ?_
                      exact ih34 (k + 1) (updB G8 (12 * (hm i) + hm k) true) (by omega) (by omega) (by first | exact gt_skip1 h2 h59 | exact gt_skip2 h2 h65 | exact gt_skip3 h2 h65 h71 | exact gt_skip4 h2 h95 | exact gt_put h2 h59 h65 h71 h95)
        refine g_iconst (v := nI 0) X d_Md_renewGroups_32 rfl ?_
        refine g_istore_n X [(2, .int (nI 0)), (0, .ref mo), (1, .int (nI i))] d_Md_renewGroups_33 rfl (by decide) rfl ?_
        refine g_lv [1, 2, 0] rfl ?_
        exact L34 ((K - 0) + 1) 0 G9 (Nat.lt_succ_self _) (by omega) (h1)
  have L2 : ∀ (N2 : Nat) (i : Nat) (G9 : Nat → Bool), (144 - i) < N2 → (i ≤ 144) → (∀ k, k < i → G9 k = false) → G p l e ({ frames := 0, cells := 0, slots := 0, locals := 0 } : Room) s m args below meth c 5 D A s.heap Q 0 0 [(mo, .inr (8, [.int tw, .int (nI K), .int (nI R), .ref qa, .ref qb, .ref qk, .ref qu, .ref qn, .ref qx, .ref qo, .ref qf, .int (nI d), .ref qr, .int (nI gm), .ref qg, .ref qv, .int (nI d2), .ref qs, .int (nI vv), .ref qc, .ref qm, .ref qw])), (qn, .inl (cI, 48, .inl (nf M))), (qo, .inl (cZ, 2304, .inl (zf OV))), (qg, .inl (cI, 48, .inl (hf hm))), (qv, .inl (cZ, 144, .inl (zf G9)))] [(0, .ref mo), (1, .int (nI i))] 2 [] := by
    intro N2
    induction N2 with
    | zero =>
      intro i G9 hN
      exact absurd hN (Nat.not_lt_zero _)
    | succ N2 ih2 =>
      intro i G9 hN2 hi h1
      refine g_iload_n X 1 d_Md_renewGroups_2 rfl rfl ?_
      refine g_sipush (v := nI 144) X d_Md_renewGroups_3 rfl ?_
      refine n_icmp_ge X 22 d_Md_renewGroups_6 (by decide) (by omega) (by omega) (fun h6 => ?_) (fun h6 => ?_)
      · refine g_iconst (v := nI 0) X d_Md_renewGroups_22 rfl ?_
        refine g_istore_n X [(1, .int (nI 0)), (0, .ref mo)] d_Md_renewGroups_23 rfl (by decide) rfl ?_
        refine g_lv [1, 0] rfl ?_
        exact L24 ((K - 0) + 1) 0 G9 (Nat.lt_succ_self _) (by omega) (gt_0 (fun k hk => h1 k (by omega)))
      · refine g_aload_n X 0 d_Md_renewGroups_9 rfl rfl ?_
        refine g_get (C := R_Md) (T := T_Md) (N := 22) X 0 15 in_Md rfl rfl (by decide) t3_162 rfl rfl d_Md_renewGroups_10 ?_
        refine g_iload_n X 1 d_Md_renewGroups_13 rfl rfl ?_
        refine g_iconst (v := nI 0) X d_Md_renewGroups_14 rfl ?_
        refine g_topE (show nI 0 = bI false from rfl) ?_
        refine g_zastB X 4 2 [(mo, .inr (8, [.int tw, .int (nI K), .int (nI R), .ref qa, .ref qb, .ref qk, .ref qu, .ref qn, .ref qx, .ref qo, .ref qf, .int (nI d), .ref qr, .int (nI gm), .ref qg, .ref qv, .int (nI d2), .ref qs, .int (nI vv), .ref qc, .ref qm, .ref qw])), (qn, .inl (cI, 48, .inl (nf M))), (qo, .inl (cZ, 2304, .inl (zf OV))), (qg, .inl (cI, 48, .inl (hf hm))), (qv, .inl (cZ, 144, .inl (zf (updB G9 i false))))] rfl rfl (by omega) (by omega) rfl d_Md_renewGroups_15 ?_
        refine g_iinc X (nI (i + 1)) [(1, .int (nI (i + 1))), (0, .ref mo)] d_Md_renewGroups_16 (k := 1) rfl (nI_1 i) (by decide) rfl ?_
        refine g_goto X 2 d_Md_renewGroups_19 (by decide) ?_
        refine g_lv [1, 0] rfl ?_
        exact ih2 (i + 1) (updB G9 i false) (by omega) (by omega) (fillB_step h1)
  refine g_iconst (v := nI 0) X d_Md_renewGroups_0 rfl ?_
  refine g_istore_n X [(1, .int (nI 0)), (0, .ref mo)] d_Md_renewGroups_1 rfl (by decide) rfl ?_
  refine g_lv [1, 0] rfl ?_
  exact L2 ((144 - 0) + 1) 0 GO (Nat.lt_succ_self _) (by omega) (fun j hj => absurd hj (Nat.not_lt_zero j))

set_option maxHeartbeats 4000000 in
set_option maxRecDepth 100000 in
theorem k_Md_ringOfN (mo : Nat) (tw : Int32) (K : Nat) (R : Nat) (qa : Nat) (qb : Nat) (qk : Nat) (qu : Nat) (qn : Nat) (qx : Nat) (qo : Nat) (qf : Nat) (d : Nat) (qr : Nat) (gm : Nat) (qg : Nat) (qv : Nat) (d2 : Nat) (qs : Nat) (vv : Nat) (qc : Nat) (qm : Nat) (qw : Nat) (FF : Nat → Nat) (GO : Nat → Bool) (FG : Nat → Nat) (t : Nat) (ht : t < 12) (hn : ∀ k, ¬ gw (tE 12 GO) (k + 1) t t) : CtI l y_Md_ringOf (Cond.code y_Md_ringOf c_Md_ringOf 8 (some .int) :: TB) ({ frames := 0, cells := 0, slots := 0, locals := 0 } : Room) D (tysv cI cJ cZ cQ) [.ref mo, .int (nI t)] [(mo, .inr (8, [.int tw, .int (nI K), .int (nI R), .ref qa, .ref qb, .ref qk, .ref qu, .ref qn, .ref qx, .ref qo, .ref qf, .int (nI d), .ref qr, .int (nI gm), .ref qg, .ref qv, .int (nI d2), .ref qs, .int (nI vv), .ref qc, .ref qm, .ref qw])), (qf, .inl (cI, 48, .inl (nf FF))), (qv, .inl (cZ, 144, .inl (zf GO))), (qs, .inl (cI, 12, .inl (nf FG)))] 0 0 (fun (r : Int32) (F9 : Nat → Nat) => r = nI 0) (fun (F9 : Nat → Nat) => [(mo, .inr (8, [.int tw, .int (nI K), .int (nI R), .ref qa, .ref qb, .ref qk, .ref qu, .ref qn, .ref qx, .ref qo, .ref qf, .int (nI d), .ref qr, .int (nI gm), .ref qg, .ref qv, .int (nI d2), .ref qs, .int (nI vv), .ref qc, .ref qm, .ref qw])), (qf, .inl (cI, 48, .inl (nf F9))), (qv, .inl (cZ, 144, .inl (zf GO))), (qs, .inl (cI, 12, .inl (nf FG)))]) := by
  refine CtI.of c_Md_ringOf 8 (some .int) (by decide) rfl (Nat.le_of_ble_eq_true rfl) ?_
  intro p e s m args below meth c A Q hA9 hQ9 X hr9 hlk9 hin9
  have L33 : ∀ (N33 : Nat) (b9 : Bool) (F9 : Nat → Nat), (if b9 = true then lsum F9 12 + 1 else 0) < N33 → (bfI (tE 12 GO) t 12 F9) → (b9 = false → ∀ k, k < 144 → GO k = true → F9 (k / 12) ≤ F9 (k % 12) + 1) → G p l e ({ frames := 0, cells := 0, slots := 0, locals := 0 } : Room) s m args below meth c 8 D A s.heap Q 0 0 [(mo, .inr (8, [.int tw, .int (nI K), .int (nI R), .ref qa, .ref qb, .ref qk, .ref qu, .ref qn, .ref qx, .ref qo, .ref qf, .int (nI d), .ref qr, .int (nI gm), .ref qg, .ref qv, .int (nI d2), .ref qs, .int (nI vv), .ref qc, .ref qm, .ref qw])), (qf, .inl (cI, 48, .inl (nf F9))), (qv, .inl (cZ, 144, .inl (zf GO))), (qs, .inl (cI, 12, .inl (nf FG)))] [(0, .ref mo), (1, .int (nI t)), (2, .int (bI b9))] 33 [] := by
    intro N33
    induction N33 with
    | zero =>
      intro b9 F9 hN
      exact absurd hN (Nat.not_lt_zero _)
    | succ N33 ih33 =>
      intro b9 F9 hN33 h1 h2
      refine g_iload_n X 2 d_Md_ringOf_33 rfl rfl ?_
      refine b_if_eq X 111 d_Md_ringOf_34 (by decide) (fun h34 => ?_) (fun h34 => ?_)
      · have hF := bf_end (by decide) h1 (h2 h34)
        refine g_bipush (v := nI 99) X d_Md_ringOf_111 rfl ?_
        have L117 : ∀ (N117 : Nat) (i : Nat) (b : Nat), (12 - i) < N117 → (i ≤ 12) → (mnI (tE 12 GO) F9 t i b) → G p l e ({ frames := 0, cells := 0, slots := 0, locals := 0 } : Room) s m args below meth c 8 D A s.heap Q 0 0 [(mo, .inr (8, [.int tw, .int (nI K), .int (nI R), .ref qa, .ref qb, .ref qk, .ref qu, .ref qn, .ref qx, .ref qo, .ref qf, .int (nI d), .ref qr, .int (nI gm), .ref qg, .ref qv, .int (nI d2), .ref qs, .int (nI vv), .ref qc, .ref qm, .ref qw])), (qf, .inl (cI, 48, .inl (nf F9))), (qv, .inl (cZ, 144, .inl (zf GO))), (qs, .inl (cI, 12, .inl (nf FG)))] [(0, .ref mo), (1, .int (nI t)), (3, .int (nI b)), (4, .int (nI i))] 117 [] := by
          intro N117
          induction N117 with
          | zero =>
            intro i b hN
            exact absurd hN (Nat.not_lt_zero _)
          | succ N117 ih117 =>
            intro i b hN117 hi hmn
            have hb4 := hmn.1
            refine g_iload X 4 d_Md_ringOf_117 rfl ?_
            refine g_bipush (v := nI 12) X d_Md_ringOf_119 rfl ?_
            refine n_icmp_ge X 168 d_Md_ringOf_121 (by decide) (by omega) (by omega) (fun h121 => ?_) (fun h121 => ?_)
            · have e9 : i = 12 := by omega
              subst e9
              refine g_iload_n X 3 d_Md_ringOf_168 rfl rfl ?_
              refine g_bipush (v := nI 99) X d_Md_ringOf_169 rfl ?_
              refine n_icmp_ne X 176 d_Md_ringOf_171 (by decide) (by omega) (by omega) (fun h171 => absurd h171 (not_not_intro (mn_none hF hmn hn))) (fun h171 => ?_)
              refine g_iconst (v := nI 0) X d_Md_ringOf_174 rfl ?_
              exact g_iret X hA9 hQ9 hr9 hlk9 F9 [0, 1, 2, 3] rfl rfl d_Md_ringOf_175 (rfl)
            · refine g_aload_n X 0 d_Md_ringOf_124 rfl rfl ?_
              refine g_get (C := R_Md) (T := T_Md) (N := 22) X 0 15 in_Md rfl rfl (by decide) t3_162 rfl rfl d_Md_ringOf_125 ?_
              refine g_bipush (v := nI 12) X d_Md_ringOf_128 rfl ?_
              refine g_iload_n X 1 d_Md_ringOf_130 rfl rfl ?_
              refine g_imul X (nI (12 * t)) d_Md_ringOf_131 (pk_mul 12 t) ?_
              refine g_iload X 4 d_Md_ringOf_132 rfl ?_
              refine g_iadd X (nI (12 * t + i)) d_Md_ringOf_134 (nI_add (12 * t) i) ?_
              refine g_zaldB X 2 2 rfl rfl (by omega) (by omega) d_Md_ringOf_135 ?_
              refine b_if_eq X 160 d_Md_ringOf_136 (by decide) (fun h136 => ?_) (fun h136 => ?_)
              · refine g_iload_n X 3 d_Md_ringOf_160 rfl rfl ?_
                refine g_istore_n X [(3, .int (nI b)), (0, .ref mo), (1, .int (nI t)), (4, .int (nI i))] d_Md_ringOf_161 rfl (by decide) rfl ?_
                refine g_iinc X (nI (i + 1)) [(4, .int (nI (i + 1))), (3, .int (nI b)), (0, .ref mo), (1, .int (nI t))] d_Md_ringOf_162 (k := 3) rfl (nI_1 i) (by decide) rfl ?_
                refine g_goto X 117 d_Md_ringOf_165 (by decide) ?_
                refine g_lv [2, 3, 1, 0] rfl ?_
                exact ih117 (i + 1) b (by omega) (by omega) (by first | exact mn_put hmn (by rw [tE_eq ht (by omega)]; exact h136) h147 | exact mn_keep hmn (fun _ => h147) | exact mn_keep hmn (fun z9 => by rw [tE_eq ht (by omega), h136] at z9; cases z9))
              · have hb3 := (hF.2.1 i (by omega)).1
                refine g_aload_n X 0 d_Md_ringOf_139 rfl rfl ?_
                refine g_get (C := R_Md) (T := T_Md) (N := 22) X 0 10 in_Md rfl rfl (by decide) t3_157 rfl rfl d_Md_ringOf_140 ?_
                refine g_iload X 4 d_Md_ringOf_143 rfl ?_
                refine g_ialdN X 1 0 rfl rfl (by omega) (by omega) d_Md_ringOf_145 ?_
                refine g_iload_n X 3 d_Md_ringOf_146 rfl rfl ?_
                refine n_icmp_ge X 160 d_Md_ringOf_147 (by decide) (by omega) (by omega) (fun h147 => ?_) (fun h147 => ?_)
                · refine g_iload_n X 3 d_Md_ringOf_160 rfl rfl ?_
                  refine g_istore_n X [(3, .int (nI b)), (0, .ref mo), (1, .int (nI t)), (4, .int (nI i))] d_Md_ringOf_161 rfl (by decide) rfl ?_
                  refine g_iinc X (nI (i + 1)) [(4, .int (nI (i + 1))), (3, .int (nI b)), (0, .ref mo), (1, .int (nI t))] d_Md_ringOf_162 (k := 3) rfl (nI_1 i) (by decide) rfl ?_
                  refine g_goto X 117 d_Md_ringOf_165 (by decide) ?_
                  refine g_lv [2, 3, 1, 0] rfl ?_
                  exact ih117 (i + 1) b (by omega) (by omega) (by first | exact mn_put hmn (by rw [tE_eq ht (by omega)]; exact h136) h147 | exact mn_keep hmn (fun _ => h147) | exact mn_keep hmn (fun z9 => by rw [tE_eq ht (by omega), h136] at z9; cases z9))
                · refine g_aload_n X 0 d_Md_ringOf_150 rfl rfl ?_
                  refine g_get (C := R_Md) (T := T_Md) (N := 22) X 0 10 in_Md rfl rfl (by decide) t3_157 rfl rfl d_Md_ringOf_151 ?_
                  refine g_iload X 4 d_Md_ringOf_154 rfl ?_
                  refine g_ialdN X 1 0 rfl rfl (by omega) (by omega) d_Md_ringOf_156 ?_
                  refine g_goto X 161 d_Md_ringOf_157 (by decide) ?_
                  refine g_istore_n X [(3, .int (nI (F9 i))), (0, .ref mo), (1, .int (nI t)), (4, .int (nI i))] d_Md_ringOf_161 rfl (by decide) rfl ?_
                  refine g_iinc X (nI (i + 1)) [(4, .int (nI (i + 1))), (3, .int (nI (F9 i))), (0, .ref mo), (1, .int (nI t))] d_Md_ringOf_162 (k := 3) rfl (nI_1 i) (by decide) rfl ?_
                  refine g_goto X 117 d_Md_ringOf_165 (by decide) ?_
                  refine g_lv [2, 3, 1, 0] rfl ?_
                  exact ih117 (i + 1) (F9 i) (by omega) (by omega) (by first | exact mn_put hmn (by rw [tE_eq ht (by omega)]; exact h136) h147 | exact mn_keep hmn (fun _ => h147) | exact mn_keep hmn (fun z9 => by rw [tE_eq ht (by omega), h136] at z9; cases z9))
        refine g_istore_n X [(3, .int (nI 99)), (0, .ref mo), (1, .int (nI t)), (2, .int (bI b9))] d_Md_ringOf_113 rfl (by decide) rfl ?_
        refine g_iconst (v := nI 0) X d_Md_ringOf_114 rfl ?_
        refine g_istore X [(4, .int (nI 0)), (3, .int (nI 99)), (0, .ref mo), (1, .int (nI t)), (2, .int (bI b9))] d_Md_ringOf_115 (by decide) rfl ?_
        refine g_lv [2, 3, 1, 0] rfl ?_
        exact L117 ((12 - 0) + 1) 0 99 (Nat.lt_succ_self _) (by omega) (mn_0)
      · refine g_iconst (v := nI 0) X d_Md_ringOf_37 rfl ?_
        refine g_topE (show nI 0 = bI false from rfl) ?_
        refine g_istore_n X [(2, .int (bI false)), (0, .ref mo), (1, .int (nI t))] d_Md_ringOf_38 rfl (by decide) rfl ?_
        have L41 : ∀ (N41 : Nat) (q : Nat) (c9 : Bool) (F8 : Nat → Nat), (144 - q) < N41 → (q ≤ 144) → (bfI (tE 12 GO) t 12 F8) → (bfR GO 12 q F9 F8 c9) → G p l e ({ frames := 0, cells := 0, slots := 0, locals := 0 } : Room) s m args below meth c 8 D A s.heap Q 0 0 [(mo, .inr (8, [.int tw, .int (nI K), .int (nI R), .ref qa, .ref qb, .ref qk, .ref qu, .ref qn, .ref qx, .ref qo, .ref qf, .int (nI d), .ref qr, .int (nI gm), .ref qg, .ref qv, .int (nI d2), .ref qs, .int (nI vv), .ref qc, .ref qm, .ref qw])), (qf, .inl (cI, 48, .inl (nf F8))), (qv, .inl (cZ, 144, .inl (zf GO))), (qs, .inl (cI, 12, .inl (nf FG)))] [(0, .ref mo), (1, .int (nI t)), (2, .int (bI c9)), (3, .int (nI q))] 41 [] := by
          intro N41
          induction N41 with
          | zero =>
            intro q c9 F8 hN
            exact absurd hN (Nat.not_lt_zero _)
          | succ N41 ih41 =>
            intro q c9 F8 hN41 hq h3 h4
            refine g_iload_n X 3 d_Md_ringOf_41 rfl rfl ?_
            refine g_sipush (v := nI 144) X d_Md_ringOf_42 rfl ?_
            refine n_icmp_ge X 108 d_Md_ringOf_45 (by decide) (by omega) (by omega) (fun h45 => ?_) (fun h45 => ?_)
            · refine g_goto X 33 d_Md_ringOf_108 (by decide) ?_
              refine g_lv [0, 1, 2] rfl ?_
              exact ih33 c9 F8 (mj_meas h34 hN33 h4.2) (h3) (fun q9 k hk he => (h4.1 q9).2 k (by omega) he)
            · have hq1 : q / 12 < 12 := by omega
              have hq2 : q % 12 < 12 := by omega
              have hb1 := (h3.2 _ hq1).1
              have hb2 := (h3.2 _ hq2).1
              refine g_aload_n X 0 d_Md_ringOf_48 rfl rfl ?_
              refine g_get (C := R_Md) (T := T_Md) (N := 22) X 0 15 in_Md rfl rfl (by decide) t3_162 rfl rfl d_Md_ringOf_49 ?_
              refine g_iload_n X 3 d_Md_ringOf_52 rfl rfl ?_
              refine g_zaldB X 2 2 rfl rfl (by omega) (by omega) d_Md_ringOf_53 ?_
              refine b_if_eq X 102 d_Md_ringOf_54 (by decide) (fun h54 => ?_) (fun h54 => ?_)
              · refine g_iinc X (nI (q + 1)) [(3, .int (nI (q + 1))), (0, .ref mo), (1, .int (nI t)), (2, .int (bI c9))] d_Md_ringOf_102 (k := 3) rfl (nI_1 q) (by decide) rfl ?_
                refine g_goto X 41 d_Md_ringOf_105 (by decide) ?_
                refine g_lv [1, 2, 3, 0] rfl ?_
                exact ih41 (q + 1) c9 F8 (by omega) (by omega) (by first | exact h3 | exact bf_putI (by decide) (by omega) h3 h54 h77) (by first | exact bf_skip h4 (vF h54) | exact bf_skip h4 (fun _ => h77) | exact bf_putR h4 (bf_less hq1 h77))
              · refine g_aload_n X 0 d_Md_ringOf_57 rfl rfl ?_
                refine g_get (C := R_Md) (T := T_Md) (N := 22) X 0 10 in_Md rfl rfl (by decide) t3_157 rfl rfl d_Md_ringOf_58 ?_
                refine g_iload_n X 3 d_Md_ringOf_61 rfl rfl ?_
                refine g_bipush (v := nI 12) X d_Md_ringOf_62 rfl ?_
                refine g_irem X (nI (q % 12)) d_Md_ringOf_64 (nI_ne0 (by omega) (by omega)) (pk_rem (by omega) (by omega) (by omega)) ?_
                refine g_ialdN X 1 0 rfl rfl (by omega) (by omega) d_Md_ringOf_65 ?_
                refine g_iconst (v := nI 1) X d_Md_ringOf_66 rfl ?_
                refine g_iadd X (nI (F8 (q % 12) + 1)) d_Md_ringOf_67 (nI_add (F8 (q % 12)) 1) ?_
                refine g_aload_n X 0 d_Md_ringOf_68 rfl rfl ?_
                refine g_get (C := R_Md) (T := T_Md) (N := 22) X 0 10 in_Md rfl rfl (by decide) t3_157 rfl rfl d_Md_ringOf_69 ?_
                refine g_iload_n X 3 d_Md_ringOf_72 rfl rfl ?_
                refine g_bipush (v := nI 12) X d_Md_ringOf_73 rfl ?_
                refine g_idiv X (nI (q / 12)) d_Md_ringOf_75 (nI_ne0 (by omega) (by omega)) (pk_div (by omega) (by omega) (by omega)) ?_
                refine g_ialdN X 1 0 rfl rfl (by omega) (by omega) d_Md_ringOf_76 ?_
                refine n_icmp_ge X 102 d_Md_ringOf_77 (by decide) (by omega) (by omega) (fun h77 => ?_) (fun h77 => ?_)
                · refine g_iinc X (nI (q + 1)) [(3, .int (nI (q + 1))), (0, .ref mo), (1, .int (nI t)), (2, .int (bI c9))] d_Md_ringOf_102 (k := 3) rfl (nI_1 q) (by decide) rfl ?_
                  refine g_goto X 41 d_Md_ringOf_105 (by decide) ?_
                  refine g_lv [1, 2, 3, 0] rfl ?_
                  exact ih41 (q + 1) c9 F8 (by omega) (by omega) (by first | exact h3 | exact bf_putI (by decide) (by omega) h3 h54 h77) (by first | exact bf_skip h4 (vF h54) | exact bf_skip h4 (fun _ => h77) | exact bf_putR h4 (bf_less hq1 h77))
                · refine g_aload_n X 0 d_Md_ringOf_80 rfl rfl ?_
                  refine g_get (C := R_Md) (T := T_Md) (N := 22) X 0 10 in_Md rfl rfl (by decide) t3_157 rfl rfl d_Md_ringOf_81 ?_
                  refine g_iload_n X 3 d_Md_ringOf_84 rfl rfl ?_
                  refine g_bipush (v := nI 12) X d_Md_ringOf_85 rfl ?_
                  refine g_idiv X (nI (q / 12)) d_Md_ringOf_87 (nI_ne0 (by omega) (by omega)) (pk_div (by omega) (by omega) (by omega)) ?_
                  refine g_aload_n X 0 d_Md_ringOf_88 rfl rfl ?_
                  refine g_get (C := R_Md) (T := T_Md) (N := 22) X 0 10 in_Md rfl rfl (by decide) t3_157 rfl rfl d_Md_ringOf_89 ?_
                  refine g_iload_n X 3 d_Md_ringOf_92 rfl rfl ?_
                  refine g_bipush (v := nI 12) X d_Md_ringOf_93 rfl ?_
                  refine g_irem X (nI (q % 12)) d_Md_ringOf_95 (nI_ne0 (by omega) (by omega)) (pk_rem (by omega) (by omega) (by omega)) ?_
                  refine g_ialdN X 1 0 rfl rfl (by omega) (by omega) d_Md_ringOf_96 ?_
                  refine g_iconst (v := nI 1) X d_Md_ringOf_97 rfl ?_
                  refine g_iadd X (nI (F8 (q % 12) + 1)) d_Md_ringOf_98 (nI_add (F8 (q % 12)) 1) ?_
                  refine g_iastN X 1 0 [(mo, .inr (8, [.int tw, .int (nI K), .int (nI R), .ref qa, .ref qb, .ref qk, .ref qu, .ref qn, .ref qx, .ref qo, .ref qf, .int (nI d), .ref qr, .int (nI gm), .ref qg, .ref qv, .int (nI d2), .ref qs, .int (nI vv), .ref qc, .ref qm, .ref qw])), (qf, .inl (cI, 48, .inl (nf (updN F8 (q / 12) (F8 (q % 12) + 1))))), (qv, .inl (cZ, 144, .inl (zf GO))), (qs, .inl (cI, 12, .inl (nf FG)))] rfl rfl (by omega) (by omega) rfl d_Md_ringOf_99 ?_
                  refine g_iconst (v := nI 1) X d_Md_ringOf_100 rfl ?_
                  refine g_topE (show nI 1 = bI true from rfl) ?_
                  refine g_istore_n X [(2, .int (bI true)), (0, .ref mo), (1, .int (nI t)), (3, .int (nI q))] d_Md_ringOf_101 rfl (by decide) rfl ?_
                  refine g_iinc X (nI (q + 1)) [(3, .int (nI (q + 1))), (2, .int (bI true)), (0, .ref mo), (1, .int (nI t))] d_Md_ringOf_102 (k := 3) rfl (nI_1 q) (by decide) rfl ?_
                  refine g_goto X 41 d_Md_ringOf_105 (by decide) ?_
                  refine g_lv [2, 3, 1, 0] rfl ?_
                  exact ih41 (q + 1) true (updN F8 (q / 12) (F8 (q % 12) + 1)) (by omega) (by omega) (by first | exact h3 | exact bf_putI (by decide) (by omega) h3 h54 h77) (by first | exact bf_skip h4 (vF h54) | exact bf_skip h4 (fun _ => h77) | exact bf_putR h4 (bf_less hq1 h77))
        refine g_iconst (v := nI 0) X d_Md_ringOf_39 rfl ?_
        refine g_istore_n X [(3, .int (nI 0)), (2, .int (bI false)), (0, .ref mo), (1, .int (nI t))] d_Md_ringOf_40 rfl (by decide) rfl ?_
        refine g_lv [2, 3, 1, 0] rfl ?_
        exact L41 ((144 - 0) + 1) 0 false F9 (Nat.lt_succ_self _) (by omega) (h1) (bf_0)
  have L2 : ∀ (N2 : Nat) (i : Nat) (F9 : Nat → Nat), (12 - i) < N2 → (i ≤ 12) → (∀ k, k < i → F9 k = if k = t then 0 else 99) → G p l e ({ frames := 0, cells := 0, slots := 0, locals := 0 } : Room) s m args below meth c 8 D A s.heap Q 0 0 [(mo, .inr (8, [.int tw, .int (nI K), .int (nI R), .ref qa, .ref qb, .ref qk, .ref qu, .ref qn, .ref qx, .ref qo, .ref qf, .int (nI d), .ref qr, .int (nI gm), .ref qg, .ref qv, .int (nI d2), .ref qs, .int (nI vv), .ref qc, .ref qm, .ref qw])), (qf, .inl (cI, 48, .inl (nf F9))), (qv, .inl (cZ, 144, .inl (zf GO))), (qs, .inl (cI, 12, .inl (nf FG)))] [(0, .ref mo), (1, .int (nI t)), (2, .int (nI i))] 2 [] := by
    intro N2
    induction N2 with
    | zero =>
      intro i F9 hN
      exact absurd hN (Nat.not_lt_zero _)
    | succ N2 ih2 =>
      intro i F9 hN2 hi h1
      refine g_iload_n X 2 d_Md_ringOf_2 rfl rfl ?_
      refine g_bipush (v := nI 12) X d_Md_ringOf_3 rfl ?_
      refine n_icmp_ge X 31 d_Md_ringOf_5 (by decide) (by omega) (by omega) (fun h5 => ?_) (fun h5 => ?_)
      · refine g_iconst (v := nI 1) X d_Md_ringOf_31 rfl ?_
        refine g_topE (show nI 1 = bI true from rfl) ?_
        refine g_istore_n X [(2, .int (bI true)), (0, .ref mo), (1, .int (nI t))] d_Md_ringOf_32 rfl (by decide) rfl ?_
        refine g_lv [1, 2, 0] rfl ?_
        exact L33 ((if true = true then lsum F9 12 + 1 else 0) + 1) true F9 (Nat.lt_succ_self _) (bf_start ht (fun k hk => h1 k (by omega))) (fun q9 => by cases q9)
      · refine g_aload_n X 0 d_Md_ringOf_8 rfl rfl ?_
        refine g_get (C := R_Md) (T := T_Md) (N := 22) X 0 10 in_Md rfl rfl (by decide) t3_157 rfl rfl d_Md_ringOf_9 ?_
        refine g_iload_n X 2 d_Md_ringOf_12 rfl rfl ?_
        refine g_iload_n X 2 d_Md_ringOf_13 rfl rfl ?_
        refine g_iload_n X 1 d_Md_ringOf_14 rfl rfl ?_
        refine n_icmp_ne X 22 d_Md_ringOf_15 (by decide) (by omega) (by omega) (fun h15 => ?_) (fun h15 => ?_)
        · refine g_bipush (v := nI 99) X d_Md_ringOf_22 rfl ?_
          refine g_iastN X 1 0 [(mo, .inr (8, [.int tw, .int (nI K), .int (nI R), .ref qa, .ref qb, .ref qk, .ref qu, .ref qn, .ref qx, .ref qo, .ref qf, .int (nI d), .ref qr, .int (nI gm), .ref qg, .ref qv, .int (nI d2), .ref qs, .int (nI vv), .ref qc, .ref qm, .ref qw])), (qf, .inl (cI, 48, .inl (nf (updN F9 i 99)))), (qv, .inl (cZ, 144, .inl (zf GO))), (qs, .inl (cI, 12, .inl (nf FG)))] rfl rfl (by omega) (by omega) rfl d_Md_ringOf_24 ?_
          refine g_iinc X (nI (i + 1)) [(2, .int (nI (i + 1))), (0, .ref mo), (1, .int (nI t))] d_Md_ringOf_25 (k := 2) rfl (nI_1 i) (by decide) rfl ?_
          refine g_goto X 2 d_Md_ringOf_28 (by decide) ?_
          refine g_lv [1, 2, 0] rfl ?_
          exact ih2 (i + 1) (updN F9 i 99) (by omega) (by omega) (by first | exact bf_i1 h1 h15 | exact bf_i2 h1 h15)
        · refine g_iconst (v := nI 0) X d_Md_ringOf_18 rfl ?_
          refine g_goto X 24 d_Md_ringOf_19 (by decide) ?_
          refine g_iastN X 1 0 [(mo, .inr (8, [.int tw, .int (nI K), .int (nI R), .ref qa, .ref qb, .ref qk, .ref qu, .ref qn, .ref qx, .ref qo, .ref qf, .int (nI d), .ref qr, .int (nI gm), .ref qg, .ref qv, .int (nI d2), .ref qs, .int (nI vv), .ref qc, .ref qm, .ref qw])), (qf, .inl (cI, 48, .inl (nf (updN F9 i 0)))), (qv, .inl (cZ, 144, .inl (zf GO))), (qs, .inl (cI, 12, .inl (nf FG)))] rfl rfl (by omega) (by omega) rfl d_Md_ringOf_24 ?_
          refine g_iinc X (nI (i + 1)) [(2, .int (nI (i + 1))), (0, .ref mo), (1, .int (nI t))] d_Md_ringOf_25 (k := 2) rfl (nI_1 i) (by decide) rfl ?_
          refine g_goto X 2 d_Md_ringOf_28 (by decide) ?_
          refine g_lv [1, 2, 0] rfl ?_
          exact ih2 (i + 1) (updN F9 i 0) (by omega) (by omega) (by first | exact bf_i1 h1 h15 | exact bf_i2 h1 h15)
  refine g_iconst (v := nI 0) X d_Md_ringOf_0 rfl ?_
  refine g_istore_n X [(2, .int (nI 0)), (0, .ref mo), (1, .int (nI t))] d_Md_ringOf_1 rfl (by decide) rfl ?_
  refine g_lv [1, 2, 0] rfl ?_
  exact L2 ((12 - 0) + 1) 0 FF (Nat.lt_succ_self _) (by omega) (fun j hj => absurd hj (Nat.not_lt_zero j))

set_option maxHeartbeats 4000000 in
set_option maxRecDepth 100000 in
theorem k_Md_ringOf (mo : Nat) (tw : Int32) (K : Nat) (R : Nat) (qa : Nat) (qb : Nat) (qk : Nat) (qu : Nat) (qn : Nat) (qx : Nat) (qo : Nat) (qf : Nat) (d : Nat) (qr : Nat) (gm : Nat) (qg : Nat) (qv : Nat) (d2 : Nat) (qs : Nat) (vv : Nat) (qc : Nat) (qm : Nat) (qw : Nat) (FF : Nat → Nat) (GO : Nat → Bool) (FG : Nat → Nat) (t : Nat) (n9 : Nat) (pp : Nat → Nat) (ht : t < 12) (hg : gring (tE 12 GO) t n9 pp) : CtI l y_Md_ringOf (Cond.code y_Md_ringOf c_Md_ringOf 8 (some .int) :: TB) ({ frames := 0, cells := 0, slots := 0, locals := 0 } : Room) D (tysv cI cJ cZ cQ) [.ref mo, .int (nI t)] [(mo, .inr (8, [.int tw, .int (nI K), .int (nI R), .ref qa, .ref qb, .ref qk, .ref qu, .ref qn, .ref qx, .ref qo, .ref qf, .int (nI d), .ref qr, .int (nI gm), .ref qg, .ref qv, .int (nI d2), .ref qs, .int (nI vv), .ref qc, .ref qm, .ref qw])), (qf, .inl (cI, 48, .inl (nf FF))), (qv, .inl (cZ, 144, .inl (zf GO))), (qs, .inl (cI, 12, .inl (nf FG)))] 0 0 (fun (r : Int32) (u : (Nat → Nat) × (Nat → Nat)) => r = nI n9 ∧ ∀ j, j < n9 → u.2 j = pp j) (fun (u : (Nat → Nat) × (Nat → Nat)) => [(mo, .inr (8, [.int tw, .int (nI K), .int (nI R), .ref qa, .ref qb, .ref qk, .ref qu, .ref qn, .ref qx, .ref qo, .ref qf, .int (nI d), .ref qr, .int (nI gm), .ref qg, .ref qv, .int (nI d2), .ref qs, .int (nI vv), .ref qc, .ref qm, .ref qw])), (qf, .inl (cI, 48, .inl (nf u.1))), (qv, .inl (cZ, 144, .inl (zf GO))), (qs, .inl (cI, 12, .inl (nf u.2)))]) := by
  refine CtI.of c_Md_ringOf 8 (some .int) (by decide) rfl (Nat.le_of_ble_eq_true rfl) ?_
  intro p e s m args below meth c A Q hA9 hQ9 X hr9 hlk9 hin9
  have L33 : ∀ (N33 : Nat) (b9 : Bool) (F9 : Nat → Nat), (if b9 = true then lsum F9 12 + 1 else 0) < N33 → (bfI (tE 12 GO) t 12 F9) → (b9 = false → ∀ k, k < 144 → GO k = true → F9 (k / 12) ≤ F9 (k % 12) + 1) → G p l e ({ frames := 0, cells := 0, slots := 0, locals := 0 } : Room) s m args below meth c 8 D A s.heap Q 0 0 [(mo, .inr (8, [.int tw, .int (nI K), .int (nI R), .ref qa, .ref qb, .ref qk, .ref qu, .ref qn, .ref qx, .ref qo, .ref qf, .int (nI d), .ref qr, .int (nI gm), .ref qg, .ref qv, .int (nI d2), .ref qs, .int (nI vv), .ref qc, .ref qm, .ref qw])), (qf, .inl (cI, 48, .inl (nf F9))), (qv, .inl (cZ, 144, .inl (zf GO))), (qs, .inl (cI, 12, .inl (nf FG)))] [(0, .ref mo), (1, .int (nI t)), (2, .int (bI b9))] 33 [] := by
    intro N33
    induction N33 with
    | zero =>
      intro b9 F9 hN
      exact absurd hN (Nat.not_lt_zero _)
    | succ N33 ih33 =>
      intro b9 F9 hN33 h1 h2
      refine g_iload_n X 2 d_Md_ringOf_33 rfl rfl ?_
      refine b_if_eq X 111 d_Md_ringOf_34 (by decide) (fun h34 => ?_) (fun h34 => ?_)
      · have hF := bf_end (by decide) h1 (h2 h34)
        refine g_bipush (v := nI 99) X d_Md_ringOf_111 rfl ?_
        have L117 : ∀ (N117 : Nat) (i : Nat) (b : Nat), (12 - i) < N117 → (i ≤ 12) → (mnI (tE 12 GO) F9 t i b) → G p l e ({ frames := 0, cells := 0, slots := 0, locals := 0 } : Room) s m args below meth c 8 D A s.heap Q 0 0 [(mo, .inr (8, [.int tw, .int (nI K), .int (nI R), .ref qa, .ref qb, .ref qk, .ref qu, .ref qn, .ref qx, .ref qo, .ref qf, .int (nI d), .ref qr, .int (nI gm), .ref qg, .ref qv, .int (nI d2), .ref qs, .int (nI vv), .ref qc, .ref qm, .ref qw])), (qf, .inl (cI, 48, .inl (nf F9))), (qv, .inl (cZ, 144, .inl (zf GO))), (qs, .inl (cI, 12, .inl (nf FG)))] [(0, .ref mo), (1, .int (nI t)), (3, .int (nI b)), (4, .int (nI i))] 117 [] := by
          intro N117
          induction N117 with
          | zero =>
            intro i b hN
            exact absurd hN (Nat.not_lt_zero _)
          | succ N117 ih117 =>
            intro i b hN117 hi hmn
            have hb4 := hmn.1
            refine g_iload X 4 d_Md_ringOf_117 rfl ?_
            refine g_bipush (v := nI 12) X d_Md_ringOf_119 rfl ?_
            refine n_icmp_ge X 168 d_Md_ringOf_121 (by decide) (by omega) (by omega) (fun h121 => ?_) (fun h121 => ?_)
            · have e9 : i = 12 := by omega
              subst e9
              have hd9 := mn_ring (tE_in GO) hF hmn hg
              have hd8 := gD_le (tE_in GO) hg.1
              refine g_iload_n X 3 d_Md_ringOf_168 rfl rfl ?_
              refine g_bipush (v := nI 99) X d_Md_ringOf_169 rfl ?_
              refine n_icmp_ne X 176 d_Md_ringOf_171 (by decide) (by omega) (by omega) (fun h171 => ?_) (fun h171 => absurd h171 (by omega))
              subst hd9
              refine g_aload_n X 0 d_Md_ringOf_176 rfl rfl ?_
              refine g_get (C := R_Md) (T := T_Md) (N := 22) X 0 17 in_Md rfl rfl (by decide) t3_164 rfl rfl d_Md_ringOf_177 ?_
              refine g_iconst (v := nI 0) X d_Md_ringOf_180 rfl ?_
              refine g_iload_n X 1 d_Md_ringOf_181 rfl rfl ?_
              refine g_iastN X 3 0 [(mo, .inr (8, [.int tw, .int (nI K), .int (nI R), .ref qa, .ref qb, .ref qk, .ref qu, .ref qn, .ref qx, .ref qo, .ref qf, .int (nI d), .ref qr, .int (nI gm), .ref qg, .ref qv, .int (nI d2), .ref qs, .int (nI vv), .ref qc, .ref qm, .ref qw])), (qf, .inl (cI, 48, .inl (nf F9))), (qv, .inl (cZ, 144, .inl (zf GO))), (qs, .inl (cI, 12, .inl (nf (updN FG 0 t))))] rfl rfl (by omega) (by omega) rfl d_Md_ringOf_182 ?_
              have L189 : ∀ (N189 : Nat) (k : Nat) (v : Nat) (G8 : Nat → Nat), (b - k) < N189 → (k ≤ b) → (v = pp k) → (v < 12) → (∀ j, j < k + 1 → G8 j = pp j) → G p l e ({ frames := 0, cells := 0, slots := 0, locals := 0 } : Room) s m args below meth c 8 D A s.heap Q 0 0 [(mo, .inr (8, [.int tw, .int (nI K), .int (nI R), .ref qa, .ref qb, .ref qk, .ref qu, .ref qn, .ref qx, .ref qo, .ref qf, .int (nI d), .ref qr, .int (nI gm), .ref qg, .ref qv, .int (nI d2), .ref qs, .int (nI vv), .ref qc, .ref qm, .ref qw])), (qf, .inl (cI, 48, .inl (nf F9))), (qv, .inl (cZ, 144, .inl (zf GO))), (qs, .inl (cI, 12, .inl (nf G8)))] [(0, .ref mo), (1, .int (nI t)), (3, .int (nI b)), (4, .int (nI v)), (5, .int (nI (k + 1)))] 189 [] := by
                intro N189
                induction N189 with
                | zero =>
                  intro k v G8 hN
                  exact absurd hN (Nat.not_lt_zero _)
                | succ N189 ih189 =>
                  intro k v G8 hN189 hk hv hv2 hG
                  refine g_iload X 5 d_Md_ringOf_189 rfl ?_
                  refine g_iload_n X 3 d_Md_ringOf_191 rfl rfl ?_
                  refine n_icmp_gt X 273 d_Md_ringOf_192 (by decide) (by omega) (by omega) (fun h192 => ?_) (fun h192 => ?_)
                  · refine g_iload_n X 3 d_Md_ringOf_273 rfl rfl ?_
                    refine g_iconst (v := nI 1) X d_Md_ringOf_274 rfl ?_
                    refine g_iadd X (nI (b + 1)) d_Md_ringOf_275 (nI_add b 1) ?_
                    exact g_iret X hA9 hQ9 hr9 hlk9 ⟨F9, G8⟩ [0, 1, 2, 3] rfl rfl d_Md_ringOf_276 (by (try dsimp only); exact (⟨rfl, fun j hj => hG j (by omega)⟩))
                  · refine g_iconst (v := -1) X d_Md_ringOf_195 rfl ?_
                    refine g_topE (show (-1 : Int32) = hI 12 from rfl) ?_
                    refine g_istore X [(6, .int (hI 12)), (0, .ref mo), (1, .int (nI t)), (3, .int (nI b)), (4, .int (nI v)), (5, .int (nI (k + 1)))] d_Md_ringOf_196 (by decide) rfl ?_
                    have L202 : ∀ (N202 : Nat) (j : Nat) (v5 : Nat), j < N202 → (j ≤ 12) → (nzP (fun z => (tE 12 GO) v z = true ∧ F9 z = b + 1 - (k + 1)) j v5) → G p l e ({ frames := 0, cells := 0, slots := 0, locals := 0 } : Room) s m args below meth c 8 D A s.heap Q 0 0 [(mo, .inr (8, [.int tw, .int (nI K), .int (nI R), .ref qa, .ref qb, .ref qk, .ref qu, .ref qn, .ref qx, .ref qo, .ref qf, .int (nI d), .ref qr, .int (nI gm), .ref qg, .ref qv, .int (nI d2), .ref qs, .int (nI vv), .ref qc, .ref qm, .ref qw])), (qf, .inl (cI, 48, .inl (nf F9))), (qv, .inl (cZ, 144, .inl (zf GO))), (qs, .inl (cI, 12, .inl (nf G8)))] [(0, .ref mo), (1, .int (nI t)), (3, .int (nI b)), (4, .int (nI v)), (5, .int (nI (k + 1))), (6, .int (hI v5)), (7, .int (dn j))] 202 [] := by
                      intro N202
                      induction N202 with
                      | zero =>
                        intro j v5 hN
                        exact absurd hN (Nat.not_lt_zero _)
                      | succ N202 ih202 =>
                        intro j v5 hN202 hj hnx
                        rcases Nat.eq_zero_or_pos j with q9 | q9
                        · subst q9
                          rw [dn_0]
                          refine g_iload X 7 d_Md_ringOf_202 rfl ?_
                          refine g_if_lt X 254 d_Md_ringOf_204 (by decide) (fun h204 => ?_) (fun h204 => absurd h204 (by decide))
                          refine g_aload_n X 0 d_Md_ringOf_254 rfl rfl ?_
                          refine g_get (C := R_Md) (T := T_Md) (N := 22) X 0 17 in_Md rfl rfl (by decide) t3_164 rfl rfl d_Md_ringOf_255 ?_
                          refine g_iload X 5 d_Md_ringOf_258 rfl ?_
                          refine g_iload X 6 d_Md_ringOf_260 rfl ?_
                          obtain ⟨e5, l5⟩ := ro_next (tE_in GO) hF hg (show k + 1 < b + 1 by omega) hv hnx
                          refine g_topE (hI_t l5) ?_
                          refine g_iastN X 3 0 [(mo, .inr (8, [.int tw, .int (nI K), .int (nI R), .ref qa, .ref qb, .ref qk, .ref qu, .ref qn, .ref qx, .ref qo, .ref qf, .int (nI d), .ref qr, .int (nI gm), .ref qg, .ref qv, .int (nI d2), .ref qs, .int (nI vv), .ref qc, .ref qm, .ref qw])), (qf, .inl (cI, 48, .inl (nf F9))), (qv, .inl (cZ, 144, .inl (zf GO))), (qs, .inl (cI, 12, .inl (nf (updN G8 (k + 1) v5))))] rfl rfl (by omega) (by omega) rfl d_Md_ringOf_262 ?_
                          refine g_iload X 6 d_Md_ringOf_263 rfl ?_
                          refine g_topE (hI_t l5) ?_
                          refine g_istore X [(4, .int (nI v5)), (0, .ref mo), (1, .int (nI t)), (3, .int (nI b)), (5, .int (nI (k + 1))), (6, .int (hI v5)), (7, .int (-1))] d_Md_ringOf_265 (by decide) rfl ?_
                          refine g_iinc X (nI (k + 1 + 1)) [(5, .int (nI (k + 1 + 1))), (4, .int (nI v5)), (0, .ref mo), (1, .int (nI t)), (3, .int (nI b)), (6, .int (hI v5)), (7, .int (-1))] d_Md_ringOf_267 (k := 4) rfl (nI_1 (k + 1)) (by decide) rfl ?_
                          refine g_goto X 189 d_Md_ringOf_270 (by decide) ?_
                          refine g_lv [2, 3, 4, 1, 0] rfl ?_
                          exact ih189 (k + 1) v5 (updN G8 (k + 1) v5) (by omega) (by omega) (e5) (l5) (ring_put hG e5)
                        · obtain ⟨k9, rfl⟩ : ∃ k9, j = k9 + 1 := ⟨j - 1, by omega⟩
                          rw [dn_s]
                          refine g_iload X 7 d_Md_ringOf_202 rfl ?_
                          refine n_if_lt X 254 d_Md_ringOf_204 (by decide) (by omega) (fun h204 => absurd h204 (by omega)) (fun h204 => ?_)
                          refine g_aload_n X 0 d_Md_ringOf_207 rfl rfl ?_
                          refine g_get (C := R_Md) (T := T_Md) (N := 22) X 0 15 in_Md rfl rfl (by decide) t3_162 rfl rfl d_Md_ringOf_208 ?_
                          refine g_bipush (v := nI 12) X d_Md_ringOf_211 rfl ?_
                          refine g_iload X 4 d_Md_ringOf_213 rfl ?_
                          refine g_imul X (nI (12 * v)) d_Md_ringOf_215 (pk_mul 12 v) ?_
                          refine g_iload X 7 d_Md_ringOf_216 rfl ?_
                          refine g_iadd X (nI (12 * v + k9)) d_Md_ringOf_218 (nI_add (12 * v) k9) ?_
                          refine g_zaldB X 2 2 rfl rfl (by omega) (by omega) d_Md_ringOf_219 ?_
                          refine b_if_eq X 244 d_Md_ringOf_220 (by decide) (fun h220 => ?_) (fun h220 => ?_)
                          · refine g_iload X 6 d_Md_ringOf_244 rfl ?_
                            refine g_istore X [(6, .int (hI v5)), (0, .ref mo), (1, .int (nI t)), (3, .int (nI b)), (4, .int (nI v)), (5, .int (nI (k + 1))), (7, .int (nI k9))] d_Md_ringOf_246 (by decide) rfl ?_
                            refine g_iinc X (dn k9) [(7, .int (dn k9)), (6, .int (hI v5)), (0, .ref mo), (1, .int (nI t)), (3, .int (nI b)), (4, .int (nI v)), (5, .int (nI (k + 1)))] d_Md_ringOf_248 (k := 6) rfl (rfl) (by decide) rfl ?_
                            refine g_goto X 202 d_Md_ringOf_251 (by decide) ?_
                            refine g_lv [2, 3, 4, 5, 6, 1, 0] rfl ?_
                            exact ih202 k9 v5 (by omega) (by omega) (by first | exact nz_hit (by omega) ⟨by rw [tE_eq hv2 (by omega)]; exact h220, h236⟩ | exact nz_miss hnx (fun z9 => by rw [tE_eq hv2 (by omega), h220] at z9; exact absurd z9.1 (by decide)) | exact nz_miss hnx (fun z9 => h236 z9.2))
                          · have hb9 := (hF.2.1 k9 (by omega)).1
                            refine g_aload_n X 0 d_Md_ringOf_223 rfl rfl ?_
                            refine g_get (C := R_Md) (T := T_Md) (N := 22) X 0 10 in_Md rfl rfl (by decide) t3_157 rfl rfl d_Md_ringOf_224 ?_
                            refine g_iload X 7 d_Md_ringOf_227 rfl ?_
                            refine g_ialdN X 1 0 rfl rfl (by omega) (by omega) d_Md_ringOf_229 ?_
                            refine g_iload_n X 3 d_Md_ringOf_230 rfl rfl ?_
                            refine g_iconst (v := nI 1) X d_Md_ringOf_231 rfl ?_
                            refine g_iadd X (nI (b + 1)) d_Md_ringOf_232 (nI_add b 1) ?_
                            refine g_iload X 5 d_Md_ringOf_233 rfl ?_
                            refine g_isub X (nI ((b + 1) - (k + 1))) d_Md_ringOf_235 (pk_sub (by omega)) ?_
                            refine n_icmp_ne X 244 d_Md_ringOf_236 (by decide) (by omega) (by omega) (fun h236 => ?_) (fun h236 => ?_)
                            · refine g_iload X 6 d_Md_ringOf_244 rfl ?_
                              refine g_istore X [(6, .int (hI v5)), (0, .ref mo), (1, .int (nI t)), (3, .int (nI b)), (4, .int (nI v)), (5, .int (nI (k + 1))), (7, .int (nI k9))] d_Md_ringOf_246 (by decide) rfl ?_
                              refine g_iinc X (dn k9) [(7, .int (dn k9)), (6, .int (hI v5)), (0, .ref mo), (1, .int (nI t)), (3, .int (nI b)), (4, .int (nI v)), (5, .int (nI (k + 1)))] d_Md_ringOf_248 (k := 6) rfl (rfl) (by decide) rfl ?_
                              refine g_goto X 202 d_Md_ringOf_251 (by decide) ?_
                              refine g_lv [2, 3, 4, 5, 6, 1, 0] rfl ?_
                              exact ih202 k9 v5 (by omega) (by omega) (by first | exact nz_hit (by omega) ⟨by rw [tE_eq hv2 (by omega)]; exact h220, h236⟩ | exact nz_miss hnx (fun z9 => by rw [tE_eq hv2 (by omega), h220] at z9; exact absurd z9.1 (by decide)) | exact nz_miss hnx (fun z9 => h236 z9.2))
                            · refine g_iload X 7 d_Md_ringOf_239 rfl ?_
                              refine g_goto X 246 d_Md_ringOf_241 (by decide) ?_
                              refine g_topE (hI_t (by omega)).symm ?_
                              refine g_istore X [(6, .int (hI k9)), (0, .ref mo), (1, .int (nI t)), (3, .int (nI b)), (4, .int (nI v)), (5, .int (nI (k + 1))), (7, .int (nI k9))] d_Md_ringOf_246 (by decide) rfl ?_
                              refine g_iinc X (dn k9) [(7, .int (dn k9)), (6, .int (hI k9)), (0, .ref mo), (1, .int (nI t)), (3, .int (nI b)), (4, .int (nI v)), (5, .int (nI (k + 1)))] d_Md_ringOf_248 (k := 6) rfl (rfl) (by decide) rfl ?_
                              refine g_goto X 202 d_Md_ringOf_251 (by decide) ?_
                              refine g_lv [2, 3, 4, 5, 6, 1, 0] rfl ?_
                              exact ih202 k9 k9 (by omega) (by omega) (by first | exact nz_hit (by omega) ⟨by rw [tE_eq hv2 (by omega)]; exact h220, h236⟩ | exact nz_miss hnx (fun z9 => by rw [tE_eq hv2 (by omega), h220] at z9; exact absurd z9.1 (by decide)) | exact nz_miss hnx (fun z9 => h236 z9.2))
                    refine g_bipush (v := nI 11) X d_Md_ringOf_198 rfl ?_
                    refine g_topE (show nI 11 = dn 12 from rfl) ?_
                    refine g_istore X [(7, .int (dn 12)), (6, .int (hI 12)), (0, .ref mo), (1, .int (nI t)), (3, .int (nI b)), (4, .int (nI v)), (5, .int (nI (k + 1)))] d_Md_ringOf_200 (by decide) rfl ?_
                    refine g_lv [2, 3, 4, 5, 6, 1, 0] rfl ?_
                    exact L202 ((12) + 1) 12 12 (Nat.lt_succ_self _) (by omega) (nz_0)
              refine g_iload_n X 1 d_Md_ringOf_183 rfl rfl ?_
              refine g_istore X [(4, .int (nI t)), (0, .ref mo), (1, .int (nI t)), (3, .int (nI b))] d_Md_ringOf_184 (by decide) rfl ?_
              refine g_iconst (v := nI 1) X d_Md_ringOf_186 rfl ?_
              refine g_istore X [(5, .int (nI 1)), (4, .int (nI t)), (0, .ref mo), (1, .int (nI t)), (3, .int (nI b))] d_Md_ringOf_187 (by decide) rfl ?_
              refine g_lv [2, 3, 4, 1, 0] rfl ?_
              exact L189 ((b - 0) + 1) 0 t (updN FG 0 t) (Nat.lt_succ_self _) (by omega) (hg.2.1.symm) (ht) (fun j hj => by have e9 : j = 0 := (by omega); subst e9; rw [updN_s]; exact hg.2.1.symm)
            · refine g_aload_n X 0 d_Md_ringOf_124 rfl rfl ?_
              refine g_get (C := R_Md) (T := T_Md) (N := 22) X 0 15 in_Md rfl rfl (by decide) t3_162 rfl rfl d_Md_ringOf_125 ?_
              refine g_bipush (v := nI 12) X d_Md_ringOf_128 rfl ?_
              refine g_iload_n X 1 d_Md_ringOf_130 rfl rfl ?_
              refine g_imul X (nI (12 * t)) d_Md_ringOf_131 (pk_mul 12 t) ?_
              refine g_iload X 4 d_Md_ringOf_132 rfl ?_
              refine g_iadd X (nI (12 * t + i)) d_Md_ringOf_134 (nI_add (12 * t) i) ?_
              refine g_zaldB X 2 2 rfl rfl (by omega) (by omega) d_Md_ringOf_135 ?_
              refine b_if_eq X 160 d_Md_ringOf_136 (by decide) (fun h136 => ?_) (fun h136 => ?_)
              · refine g_iload_n X 3 d_Md_ringOf_160 rfl rfl ?_
                refine g_istore_n X [(3, .int (nI b)), (0, .ref mo), (1, .int (nI t)), (4, .int (nI i))] d_Md_ringOf_161 rfl (by decide) rfl ?_
                refine g_iinc X (nI (i + 1)) [(4, .int (nI (i + 1))), (3, .int (nI b)), (0, .ref mo), (1, .int (nI t))] d_Md_ringOf_162 (k := 3) rfl (nI_1 i) (by decide) rfl ?_
                refine g_goto X 117 d_Md_ringOf_165 (by decide) ?_
                refine g_lv [2, 3, 1, 0] rfl ?_
                exact ih117 (i + 1) b (by omega) (by omega) (by first | exact mn_put hmn (by rw [tE_eq ht (by omega)]; exact h136) h147 | exact mn_keep hmn (fun _ => h147) | exact mn_keep hmn (fun z9 => by rw [tE_eq ht (by omega), h136] at z9; cases z9))
              · have hb3 := (hF.2.1 i (by omega)).1
                refine g_aload_n X 0 d_Md_ringOf_139 rfl rfl ?_
                refine g_get (C := R_Md) (T := T_Md) (N := 22) X 0 10 in_Md rfl rfl (by decide) t3_157 rfl rfl d_Md_ringOf_140 ?_
                refine g_iload X 4 d_Md_ringOf_143 rfl ?_
                refine g_ialdN X 1 0 rfl rfl (by omega) (by omega) d_Md_ringOf_145 ?_
                refine g_iload_n X 3 d_Md_ringOf_146 rfl rfl ?_
                refine n_icmp_ge X 160 d_Md_ringOf_147 (by decide) (by omega) (by omega) (fun h147 => ?_) (fun h147 => ?_)
                · refine g_iload_n X 3 d_Md_ringOf_160 rfl rfl ?_
                  refine g_istore_n X [(3, .int (nI b)), (0, .ref mo), (1, .int (nI t)), (4, .int (nI i))] d_Md_ringOf_161 rfl (by decide) rfl ?_
                  refine g_iinc X (nI (i + 1)) [(4, .int (nI (i + 1))), (3, .int (nI b)), (0, .ref mo), (1, .int (nI t))] d_Md_ringOf_162 (k := 3) rfl (nI_1 i) (by decide) rfl ?_
                  refine g_goto X 117 d_Md_ringOf_165 (by decide) ?_
                  refine g_lv [2, 3, 1, 0] rfl ?_
                  exact ih117 (i + 1) b (by omega) (by omega) (by first | exact mn_put hmn (by rw [tE_eq ht (by omega)]; exact h136) h147 | exact mn_keep hmn (fun _ => h147) | exact mn_keep hmn (fun z9 => by rw [tE_eq ht (by omega), h136] at z9; cases z9))
                · refine g_aload_n X 0 d_Md_ringOf_150 rfl rfl ?_
                  refine g_get (C := R_Md) (T := T_Md) (N := 22) X 0 10 in_Md rfl rfl (by decide) t3_157 rfl rfl d_Md_ringOf_151 ?_
                  refine g_iload X 4 d_Md_ringOf_154 rfl ?_
                  refine g_ialdN X 1 0 rfl rfl (by omega) (by omega) d_Md_ringOf_156 ?_
                  refine g_goto X 161 d_Md_ringOf_157 (by decide) ?_
                  refine g_istore_n X [(3, .int (nI (F9 i))), (0, .ref mo), (1, .int (nI t)), (4, .int (nI i))] d_Md_ringOf_161 rfl (by decide) rfl ?_
                  refine g_iinc X (nI (i + 1)) [(4, .int (nI (i + 1))), (3, .int (nI (F9 i))), (0, .ref mo), (1, .int (nI t))] d_Md_ringOf_162 (k := 3) rfl (nI_1 i) (by decide) rfl ?_
                  refine g_goto X 117 d_Md_ringOf_165 (by decide) ?_
                  refine g_lv [2, 3, 1, 0] rfl ?_
                  exact ih117 (i + 1) (F9 i) (by omega) (by omega) (by first | exact mn_put hmn (by rw [tE_eq ht (by omega)]; exact h136) h147 | exact mn_keep hmn (fun _ => h147) | exact mn_keep hmn (fun z9 => by rw [tE_eq ht (by omega), h136] at z9; cases z9))
        refine g_istore_n X [(3, .int (nI 99)), (0, .ref mo), (1, .int (nI t)), (2, .int (bI b9))] d_Md_ringOf_113 rfl (by decide) rfl ?_
        refine g_iconst (v := nI 0) X d_Md_ringOf_114 rfl ?_
        refine g_istore X [(4, .int (nI 0)), (3, .int (nI 99)), (0, .ref mo), (1, .int (nI t)), (2, .int (bI b9))] d_Md_ringOf_115 (by decide) rfl ?_
        refine g_lv [2, 3, 1, 0] rfl ?_
        exact L117 ((12 - 0) + 1) 0 99 (Nat.lt_succ_self _) (by omega) (mn_0)
      · refine g_iconst (v := nI 0) X d_Md_ringOf_37 rfl ?_
        refine g_topE (show nI 0 = bI false from rfl) ?_
        refine g_istore_n X [(2, .int (bI false)), (0, .ref mo), (1, .int (nI t))] d_Md_ringOf_38 rfl (by decide) rfl ?_
        have L41 : ∀ (N41 : Nat) (q : Nat) (c9 : Bool) (F8 : Nat → Nat), (144 - q) < N41 → (q ≤ 144) → (bfI (tE 12 GO) t 12 F8) → (bfR GO 12 q F9 F8 c9) → G p l e ({ frames := 0, cells := 0, slots := 0, locals := 0 } : Room) s m args below meth c 8 D A s.heap Q 0 0 [(mo, .inr (8, [.int tw, .int (nI K), .int (nI R), .ref qa, .ref qb, .ref qk, .ref qu, .ref qn, .ref qx, .ref qo, .ref qf, .int (nI d), .ref qr, .int (nI gm), .ref qg, .ref qv, .int (nI d2), .ref qs, .int (nI vv), .ref qc, .ref qm, .ref qw])), (qf, .inl (cI, 48, .inl (nf F8))), (qv, .inl (cZ, 144, .inl (zf GO))), (qs, .inl (cI, 12, .inl (nf FG)))] [(0, .ref mo), (1, .int (nI t)), (2, .int (bI c9)), (3, .int (nI q))] 41 [] := by
          intro N41
          induction N41 with
          | zero =>
            intro q c9 F8 hN
            exact absurd hN (Nat.not_lt_zero _)
          | succ N41 ih41 =>
            intro q c9 F8 hN41 hq h3 h4
            refine g_iload_n X 3 d_Md_ringOf_41 rfl rfl ?_
            refine g_sipush (v := nI 144) X d_Md_ringOf_42 rfl ?_
            refine n_icmp_ge X 108 d_Md_ringOf_45 (by decide) (by omega) (by omega) (fun h45 => ?_) (fun h45 => ?_)
            · refine g_goto X 33 d_Md_ringOf_108 (by decide) ?_
              refine g_lv [0, 1, 2] rfl ?_
              exact ih33 c9 F8 (mj_meas h34 hN33 h4.2) (h3) (fun q9 k hk he => (h4.1 q9).2 k (by omega) he)
            · have hq1 : q / 12 < 12 := by omega
              have hq2 : q % 12 < 12 := by omega
              have hb1 := (h3.2 _ hq1).1
              have hb2 := (h3.2 _ hq2).1
              refine g_aload_n X 0 d_Md_ringOf_48 rfl rfl ?_
              refine g_get (C := R_Md) (T := T_Md) (N := 22) X 0 15 in_Md rfl rfl (by decide) t3_162 rfl rfl d_Md_ringOf_49 ?_
              refine g_iload_n X 3 d_Md_ringOf_52 rfl rfl ?_
              refine g_zaldB X 2 2 rfl rfl (by omega) (by omega) d_Md_ringOf_53 ?_
              refine b_if_eq X 102 d_Md_ringOf_54 (by decide) (fun h54 => ?_) (fun h54 => ?_)
              · refine g_iinc X (nI (q + 1)) [(3, .int (nI (q + 1))), (0, .ref mo), (1, .int (nI t)), (2, .int (bI c9))] d_Md_ringOf_102 (k := 3) rfl (nI_1 q) (by decide) rfl ?_
                refine g_goto X 41 d_Md_ringOf_105 (by decide) ?_
                refine g_lv [1, 2, 3, 0] rfl ?_
                exact ih41 (q + 1) c9 F8 (by omega) (by omega) (by first | exact h3 | exact bf_putI (by decide) (by omega) h3 h54 h77) (by first | exact bf_skip h4 (vF h54) | exact bf_skip h4 (fun _ => h77) | exact bf_putR h4 (bf_less hq1 h77))
              · refine g_aload_n X 0 d_Md_ringOf_57 rfl rfl ?_
                refine g_get (C := R_Md) (T := T_Md) (N := 22) X 0 10 in_Md rfl rfl (by decide) t3_157 rfl rfl d_Md_ringOf_58 ?_
                refine g_iload_n X 3 d_Md_ringOf_61 rfl rfl ?_
                refine g_bipush (v := nI 12) X d_Md_ringOf_62 rfl ?_
                refine g_irem X (nI (q % 12)) d_Md_ringOf_64 (nI_ne0 (by omega) (by omega)) (pk_rem (by omega) (by omega) (by omega)) ?_
                refine g_ialdN X 1 0 rfl rfl (by omega) (by omega) d_Md_ringOf_65 ?_
                refine g_iconst (v := nI 1) X d_Md_ringOf_66 rfl ?_
                refine g_iadd X (nI (F8 (q % 12) + 1)) d_Md_ringOf_67 (nI_add (F8 (q % 12)) 1) ?_
                refine g_aload_n X 0 d_Md_ringOf_68 rfl rfl ?_
                refine g_get (C := R_Md) (T := T_Md) (N := 22) X 0 10 in_Md rfl rfl (by decide) t3_157 rfl rfl d_Md_ringOf_69 ?_
                refine g_iload_n X 3 d_Md_ringOf_72 rfl rfl ?_
                refine g_bipush (v := nI 12) X d_Md_ringOf_73 rfl ?_
                refine g_idiv X (nI (q / 12)) d_Md_ringOf_75 (nI_ne0 (by omega) (by omega)) (pk_div (by omega) (by omega) (by omega)) ?_
                refine g_ialdN X 1 0 rfl rfl (by omega) (by omega) d_Md_ringOf_76 ?_
                refine n_icmp_ge X 102 d_Md_ringOf_77 (by decide) (by omega) (by omega) (fun h77 => ?_) (fun h77 => ?_)
                · refine g_iinc X (nI (q + 1)) [(3, .int (nI (q + 1))), (0, .ref mo), (1, .int (nI t)), (2, .int (bI c9))] d_Md_ringOf_102 (k := 3) rfl (nI_1 q) (by decide) rfl ?_
                  refine g_goto X 41 d_Md_ringOf_105 (by decide) ?_
                  refine g_lv [1, 2, 3, 0] rfl ?_
                  exact ih41 (q + 1) c9 F8 (by omega) (by omega) (by first | exact h3 | exact bf_putI (by decide) (by omega) h3 h54 h77) (by first | exact bf_skip h4 (vF h54) | exact bf_skip h4 (fun _ => h77) | exact bf_putR h4 (bf_less hq1 h77))
                · refine g_aload_n X 0 d_Md_ringOf_80 rfl rfl ?_
                  refine g_get (C := R_Md) (T := T_Md) (N := 22) X 0 10 in_Md rfl rfl (by decide) t3_157 rfl rfl d_Md_ringOf_81 ?_
                  refine g_iload_n X 3 d_Md_ringOf_84 rfl rfl ?_
                  refine g_bipush (v := nI 12) X d_Md_ringOf_85 rfl ?_
                  refine g_idiv X (nI (q / 12)) d_Md_ringOf_87 (nI_ne0 (by omega) (by omega)) (pk_div (by omega) (by omega) (by omega)) ?_
                  refine g_aload_n X 0 d_Md_ringOf_88 rfl rfl ?_
                  refine g_get (C := R_Md) (T := T_Md) (N := 22) X 0 10 in_Md rfl rfl (by decide) t3_157 rfl rfl d_Md_ringOf_89 ?_
                  refine g_iload_n X 3 d_Md_ringOf_92 rfl rfl ?_
                  refine g_bipush (v := nI 12) X d_Md_ringOf_93 rfl ?_
                  refine g_irem X (nI (q % 12)) d_Md_ringOf_95 (nI_ne0 (by omega) (by omega)) (pk_rem (by omega) (by omega) (by omega)) ?_
                  refine g_ialdN X 1 0 rfl rfl (by omega) (by omega) d_Md_ringOf_96 ?_
                  refine g_iconst (v := nI 1) X d_Md_ringOf_97 rfl ?_
                  refine g_iadd X (nI (F8 (q % 12) + 1)) d_Md_ringOf_98 (nI_add (F8 (q % 12)) 1) ?_
                  refine g_iastN X 1 0 [(mo, .inr (8, [.int tw, .int (nI K), .int (nI R), .ref qa, .ref qb, .ref qk, .ref qu, .ref qn, .ref qx, .ref qo, .ref qf, .int (nI d), .ref qr, .int (nI gm), .ref qg, .ref qv, .int (nI d2), .ref qs, .int (nI vv), .ref qc, .ref qm, .ref qw])), (qf, .inl (cI, 48, .inl (nf (updN F8 (q / 12) (F8 (q % 12) + 1))))), (qv, .inl (cZ, 144, .inl (zf GO))), (qs, .inl (cI, 12, .inl (nf FG)))] rfl rfl (by omega) (by omega) rfl d_Md_ringOf_99 ?_
                  refine g_iconst (v := nI 1) X d_Md_ringOf_100 rfl ?_
                  refine g_topE (show nI 1 = bI true from rfl) ?_
                  refine g_istore_n X [(2, .int (bI true)), (0, .ref mo), (1, .int (nI t)), (3, .int (nI q))] d_Md_ringOf_101 rfl (by decide) rfl ?_
                  refine g_iinc X (nI (q + 1)) [(3, .int (nI (q + 1))), (2, .int (bI true)), (0, .ref mo), (1, .int (nI t))] d_Md_ringOf_102 (k := 3) rfl (nI_1 q) (by decide) rfl ?_
                  refine g_goto X 41 d_Md_ringOf_105 (by decide) ?_
                  refine g_lv [2, 3, 1, 0] rfl ?_
                  exact ih41 (q + 1) true (updN F8 (q / 12) (F8 (q % 12) + 1)) (by omega) (by omega) (by first | exact h3 | exact bf_putI (by decide) (by omega) h3 h54 h77) (by first | exact bf_skip h4 (vF h54) | exact bf_skip h4 (fun _ => h77) | exact bf_putR h4 (bf_less hq1 h77))
        refine g_iconst (v := nI 0) X d_Md_ringOf_39 rfl ?_
        refine g_istore_n X [(3, .int (nI 0)), (2, .int (bI false)), (0, .ref mo), (1, .int (nI t))] d_Md_ringOf_40 rfl (by decide) rfl ?_
        refine g_lv [2, 3, 1, 0] rfl ?_
        exact L41 ((144 - 0) + 1) 0 false F9 (Nat.lt_succ_self _) (by omega) (h1) (bf_0)
  have L2 : ∀ (N2 : Nat) (i : Nat) (F9 : Nat → Nat), (12 - i) < N2 → (i ≤ 12) → (∀ k, k < i → F9 k = if k = t then 0 else 99) → G p l e ({ frames := 0, cells := 0, slots := 0, locals := 0 } : Room) s m args below meth c 8 D A s.heap Q 0 0 [(mo, .inr (8, [.int tw, .int (nI K), .int (nI R), .ref qa, .ref qb, .ref qk, .ref qu, .ref qn, .ref qx, .ref qo, .ref qf, .int (nI d), .ref qr, .int (nI gm), .ref qg, .ref qv, .int (nI d2), .ref qs, .int (nI vv), .ref qc, .ref qm, .ref qw])), (qf, .inl (cI, 48, .inl (nf F9))), (qv, .inl (cZ, 144, .inl (zf GO))), (qs, .inl (cI, 12, .inl (nf FG)))] [(0, .ref mo), (1, .int (nI t)), (2, .int (nI i))] 2 [] := by
    intro N2
    induction N2 with
    | zero =>
      intro i F9 hN
      exact absurd hN (Nat.not_lt_zero _)
    | succ N2 ih2 =>
      intro i F9 hN2 hi h1
      refine g_iload_n X 2 d_Md_ringOf_2 rfl rfl ?_
      refine g_bipush (v := nI 12) X d_Md_ringOf_3 rfl ?_
      refine n_icmp_ge X 31 d_Md_ringOf_5 (by decide) (by omega) (by omega) (fun h5 => ?_) (fun h5 => ?_)
      · refine g_iconst (v := nI 1) X d_Md_ringOf_31 rfl ?_
        refine g_topE (show nI 1 = bI true from rfl) ?_
        refine g_istore_n X [(2, .int (bI true)), (0, .ref mo), (1, .int (nI t))] d_Md_ringOf_32 rfl (by decide) rfl ?_
        refine g_lv [1, 2, 0] rfl ?_
        exact L33 ((if true = true then lsum F9 12 + 1 else 0) + 1) true F9 (Nat.lt_succ_self _) (bf_start ht (fun k hk => h1 k (by omega))) (fun q9 => by cases q9)
      · refine g_aload_n X 0 d_Md_ringOf_8 rfl rfl ?_
        refine g_get (C := R_Md) (T := T_Md) (N := 22) X 0 10 in_Md rfl rfl (by decide) t3_157 rfl rfl d_Md_ringOf_9 ?_
        refine g_iload_n X 2 d_Md_ringOf_12 rfl rfl ?_
        refine g_iload_n X 2 d_Md_ringOf_13 rfl rfl ?_
        refine g_iload_n X 1 d_Md_ringOf_14 rfl rfl ?_
        refine n_icmp_ne X 22 d_Md_ringOf_15 (by decide) (by omega) (by omega) (fun h15 => ?_) (fun h15 => ?_)
        · refine g_bipush (v := nI 99) X d_Md_ringOf_22 rfl ?_
          refine g_iastN X 1 0 [(mo, .inr (8, [.int tw, .int (nI K), .int (nI R), .ref qa, .ref qb, .ref qk, .ref qu, .ref qn, .ref qx, .ref qo, .ref qf, .int (nI d), .ref qr, .int (nI gm), .ref qg, .ref qv, .int (nI d2), .ref qs, .int (nI vv), .ref qc, .ref qm, .ref qw])), (qf, .inl (cI, 48, .inl (nf (updN F9 i 99)))), (qv, .inl (cZ, 144, .inl (zf GO))), (qs, .inl (cI, 12, .inl (nf FG)))] rfl rfl (by omega) (by omega) rfl d_Md_ringOf_24 ?_
          refine g_iinc X (nI (i + 1)) [(2, .int (nI (i + 1))), (0, .ref mo), (1, .int (nI t))] d_Md_ringOf_25 (k := 2) rfl (nI_1 i) (by decide) rfl ?_
          refine g_goto X 2 d_Md_ringOf_28 (by decide) ?_
          refine g_lv [1, 2, 0] rfl ?_
          exact ih2 (i + 1) (updN F9 i 99) (by omega) (by omega) (by first | exact bf_i1 h1 h15 | exact bf_i2 h1 h15)
        · refine g_iconst (v := nI 0) X d_Md_ringOf_18 rfl ?_
          refine g_goto X 24 d_Md_ringOf_19 (by decide) ?_
          refine g_iastN X 1 0 [(mo, .inr (8, [.int tw, .int (nI K), .int (nI R), .ref qa, .ref qb, .ref qk, .ref qu, .ref qn, .ref qx, .ref qo, .ref qf, .int (nI d), .ref qr, .int (nI gm), .ref qg, .ref qv, .int (nI d2), .ref qs, .int (nI vv), .ref qc, .ref qm, .ref qw])), (qf, .inl (cI, 48, .inl (nf (updN F9 i 0)))), (qv, .inl (cZ, 144, .inl (zf GO))), (qs, .inl (cI, 12, .inl (nf FG)))] rfl rfl (by omega) (by omega) rfl d_Md_ringOf_24 ?_
          refine g_iinc X (nI (i + 1)) [(2, .int (nI (i + 1))), (0, .ref mo), (1, .int (nI t))] d_Md_ringOf_25 (k := 2) rfl (nI_1 i) (by decide) rfl ?_
          refine g_goto X 2 d_Md_ringOf_28 (by decide) ?_
          refine g_lv [1, 2, 0] rfl ?_
          exact ih2 (i + 1) (updN F9 i 0) (by omega) (by omega) (by first | exact bf_i1 h1 h15 | exact bf_i2 h1 h15)
  refine g_iconst (v := nI 0) X d_Md_ringOf_0 rfl ?_
  refine g_istore_n X [(2, .int (nI 0)), (0, .ref mo), (1, .int (nI t))] d_Md_ringOf_1 rfl (by decide) rfl ?_
  refine g_lv [1, 2, 0] rfl ?_
  exact L2 ((12 - 0) + 1) 0 FF (Nat.lt_succ_self _) (by omega) (fun j hj => absurd hj (Nat.not_lt_zero j))

set_option maxHeartbeats 4000000 in
set_option maxRecDepth 100000 in
theorem k_Md_into (mo : Nat) (tw : Int32) (K : Nat) (R : Nat) (qa : Nat) (qb : Nat) (qk : Nat) (qu : Nat) (qn : Nat) (qx : Nat) (qo : Nat) (qf : Nat) (d : Nat) (qr : Nat) (gm : Nat) (qg : Nat) (qv : Nat) (d2 : Nat) (qs : Nat) (vv : Nat) (qc : Nat) (qm : Nat) (qw : Nat) (M : Nat → Nat) (OV : Nat → Bool) (FF : Nat → Nat) (hm : Nat → Nat) (GO : Nat → Bool) (FG : Nat → Nat) (g : Nat) (j : Nat) (hK : K ≤ 48) (hM : ∀ z, z < K → M z < 48) (hgm : gm ≤ 12) (hg0 : g < gm) (hj : j < K) (hd : ∀ k, ¬ gw (gpE (fun x y => OV (48 * M x + M y)) (updN hm j g) K) (k + 1) g g) : CtI l y_Md_into (Cond.code y_Md_into c_Md_into 5 (some .boolean) :: TB) ({ frames := 1, cells := 0, slots := 0, locals := 27 } : Room) D (tysv cI cJ cZ cQ) [.ref mo, .int (nI g), .int (nI j)] [(mo, .inr (8, [.int tw, .int (nI K), .int (nI R), .ref qa, .ref qb, .ref qk, .ref qu, .ref qn, .ref qx, .ref qo, .ref qf, .int (nI d), .ref qr, .int (nI gm), .ref qg, .ref qv, .int (nI d2), .ref qs, .int (nI vv), .ref qc, .ref qm, .ref qw])), (qn, .inl (cI, 48, .inl (nf M))), (qo, .inl (cZ, 2304, .inl (zf OV))), (qf, .inl (cI, 48, .inl (nf FF))), (qg, .inl (cI, 48, .inl (hf hm))), (qv, .inl (cZ, 144, .inl (zf GO))), (qs, .inl (cI, 12, .inl (nf FG)))] 0 0 (fun (r : Int32) (u : (Nat → Nat) × (Nat → Bool)) => r = bI true) (fun (u : (Nat → Nat) × (Nat → Bool)) => [(mo, .inr (8, [.int (nI 0), .int (nI K), .int (nI R), .ref qa, .ref qb, .ref qk, .ref qu, .ref qn, .ref qx, .ref qo, .ref qf, .int (nI d), .ref qr, .int (nI gm), .ref qg, .ref qv, .int (nI d2), .ref qs, .int (nI vv), .ref qc, .ref qm, .ref qw])), (qn, .inl (cI, 48, .inl (nf M))), (qo, .inl (cZ, 2304, .inl (zf OV))), (qf, .inl (cI, 48, .inl (nf u.1))), (qg, .inl (cI, 48, .inl (hf (updN hm j g)))), (qv, .inl (cZ, 144, .inl (zf u.2))), (qs, .inl (cI, 12, .inl (nf FG)))]) := by
  refine CtI.of c_Md_into 5 (some .boolean) (by decide) rfl (Nat.le_of_ble_eq_true rfl) ?_
  intro p e s m args below meth c A Q hA9 hQ9 X hr9 hlk9 hin9
  refine g_aload_n X 0 d_Md_into_0 rfl rfl ?_
  refine g_iload_n X 1 d_Md_into_1 rfl rfl ?_
  refine n_if_lt X 25 d_Md_into_2 (by decide) (by omega) (fun h2 => absurd h2 (by omega)) (fun h2 => ?_)
  refine g_iload_n X 1 d_Md_into_5 rfl rfl ?_
  refine g_aload_n X 0 d_Md_into_6 rfl rfl ?_
  refine g_get (C := R_Md) (T := T_Md) (N := 22) X 0 13 in_Md rfl rfl (by decide) t3_160 rfl rfl d_Md_into_7 ?_
  refine n_icmp_ge X 25 d_Md_into_10 (by decide) (by omega) (by omega) (fun h10 => absurd h10 (by omega)) (fun h10 => ?_)
  refine g_aload_n X 0 d_Md_into_13 rfl rfl ?_
  refine g_iload_n X 2 d_Md_into_14 rfl rfl ?_
  refine g_calliV (n := 1) X [.int (nI j)] (k_Md_isContext mo tw K R qa qb qk qu qn qx qo qf d qr gm qg qv d2 qs vv qc qm qw j (by omega) (by omega)) t3_239 t4_1 ts_14 t1_9 t4_2 rfl rfl (by decide +kernel) ⟨by decide, by decide⟩ [0] [1, 2, 3, 4, 5, 6] [(qn, .inl (cI, 48, .inl (nf M))), (qo, .inl (cZ, 2304, .inl (zf OV))), (qf, .inl (cI, 48, .inl (nf FF))), (qg, .inl (cI, 48, .inl (hf hm))), (qv, .inl (cZ, 144, .inl (zf GO))), (qs, .inl (cI, 12, .inl (nf FG)))] rfl rfl rfl rfl (by decide) 0 rfl rfl rfl rfl (Nat.le_of_ble_eq_true rfl) d_Md_into_15 ⟨by decide, by decide⟩ (fun r1 w9u1 hw1 => ?_)
  subst hw1
  refine b_if_eq X 25 d_Md_into_18 (by decide) (fun h18 => absurd h18 (by decide)) (fun h18 => ?_)
  refine g_iconst (v := nI 1) X d_Md_into_21 rfl ?_
  refine g_goto X 26 d_Md_into_22 (by decide) ?_
  refine g_iconst (v := nI 1) X d_Md_into_26 rfl ?_
  refine g_calliV (n := 2) X [.int (bI true), .int (bI true)] (k_Md_goes mo tw K R qa qb qk qu qn qx qo qf d qr gm qg qv d2 qs vv qc qm qw ) t3_223 t3_225 ts_11 t1_9 t3_226 rfl rfl (by decide +kernel) ⟨by decide, by decide⟩ [6] [0, 1, 2, 3, 4, 5] [(qn, .inl (cI, 48, .inl (nf M))), (qo, .inl (cZ, 2304, .inl (zf OV))), (qf, .inl (cI, 48, .inl (nf FF))), (qg, .inl (cI, 48, .inl (hf hm))), (qv, .inl (cZ, 144, .inl (zf GO))), (qs, .inl (cI, 12, .inl (nf FG)))] rfl rfl rfl rfl (by decide) 0 rfl rfl rfl rfl (Nat.le_of_ble_eq_true rfl) d_Md_into_27 ⟨by decide, by decide⟩ (fun r2 w9u2 hw2 => ?_)
  subst hw2
  refine b_if_ne X 35 d_Md_into_30 (by decide) (fun h30 => ?_) (fun h30 => absurd h30 (by decide))
  refine g_aload_n X 0 d_Md_into_35 rfl rfl ?_
  refine g_get (C := R_Md) (T := T_Md) (N := 22) X 6 14 in_Md rfl rfl (by decide) t3_161 rfl rfl d_Md_into_36 ?_
  refine g_iload_n X 2 d_Md_into_39 rfl rfl ?_
  refine g_ialdH X 3 0 rfl rfl (by omega) (by omega) d_Md_into_40 ?_
  refine g_istore_n X [(3, .int (hI (hm j))), (0, .ref mo), (1, .int (nI g)), (2, .int (nI j))] d_Md_into_41 rfl (by decide) rfl ?_
  refine g_aload_n X 0 d_Md_into_42 rfl rfl ?_
  refine g_get (C := R_Md) (T := T_Md) (N := 22) X 6 14 in_Md rfl rfl (by decide) t3_161 rfl rfl d_Md_into_43 ?_
  refine g_iload_n X 2 d_Md_into_46 rfl rfl ?_
  refine g_iload_n X 1 d_Md_into_47 rfl rfl ?_
  refine g_topE (hI_t (by omega)).symm ?_
  refine g_iastH X 3 0 [(qn, .inl (cI, 48, .inl (nf M))), (qo, .inl (cZ, 2304, .inl (zf OV))), (qf, .inl (cI, 48, .inl (nf FF))), (qg, .inl (cI, 48, .inl (hf (updN hm j g)))), (qv, .inl (cZ, 144, .inl (zf GO))), (qs, .inl (cI, 12, .inl (nf FG))), (mo, .inr (8, [.int (nI 0), .int (nI K), .int (nI R), .ref qa, .ref qb, .ref qk, .ref qu, .ref qn, .ref qx, .ref qo, .ref qf, .int (nI d), .ref qr, .int (nI gm), .ref qg, .ref qv, .int (nI d2), .ref qs, .int (nI vv), .ref qc, .ref qm, .ref qw]))] rfl rfl (by omega) (by omega) rfl d_Md_into_48 ?_
  refine g_aload_n X 0 d_Md_into_49 rfl rfl ?_
  refine g_callvV (n := 0) X [] (k_Md_renewGroups mo (nI 0) K R qa qb qk qu qn qx qo qf d qr gm qg qv d2 qs vv qc qm qw M OV (updN hm j g) GO (by omega) (hM)) t4_63 t4_65 ts_20 t1_9 t4_66 rfl rfl (by decide +kernel) ⟨by decide, by decide⟩ [6, 0, 1, 3, 4] [2, 5] [(qf, .inl (cI, 48, .inl (nf FF))), (qs, .inl (cI, 12, .inl (nf FG)))] rfl rfl rfl rfl (by decide) 0 rfl rfl rfl rfl (Nat.le_of_ble_eq_true rfl) d_Md_into_50 ⟨by decide, by decide⟩ (fun G9_3 hE => ?_)
  refine g_aload_n X 0 d_Md_into_53 rfl rfl ?_
  refine g_iload_n X 1 d_Md_into_54 rfl rfl ?_
  refine g_calliV (n := 1) X [.int (nI g)] (k_Md_ringOfN mo (nI 0) K R qa qb qk qu qn qx qo qf d qr gm qg qv d2 qs vv qc qm qw FF G9_3 FG g (by omega) (by rw [hE]; exact hd)) t4_67 t4_69 ts_21 t1_9 t4_70 rfl rfl (by decide +kernel) ⟨by decide, by decide⟩ [2, 0, 6, 1] [3, 4, 5] [(qn, .inl (cI, 48, .inl (nf M))), (qo, .inl (cZ, 2304, .inl (zf OV))), (qg, .inl (cI, 48, .inl (hf (updN hm j g))))] rfl rfl rfl rfl (by decide) 0 rfl rfl rfl rfl (Nat.le_of_ble_eq_true rfl) d_Md_into_55 ⟨by decide, by decide⟩ (fun r4 F9_4 hw4 => ?_)
  subst hw4
  refine g_istore X [(4, .int (nI 0)), (3, .int (hI (hm j))), (0, .ref mo), (1, .int (nI g)), (2, .int (nI j))] d_Md_into_58 (by decide) rfl ?_
  refine g_iload X 4 d_Md_into_60 rfl ?_
  refine n_if_le X 78 d_Md_into_62 (by decide) (by omega) (fun h62 => ?_) (fun h62 => absurd h62 (by omega))
  refine g_iload X 4 d_Md_into_78 rfl ?_
  refine n_if_ne X 87 d_Md_into_80 (by decide) (by omega) (fun h80 => absurd h80 (by omega)) (fun h80 => ?_)
  refine g_iconst (v := nI 1) X d_Md_into_83 rfl ?_
  refine g_goto X 88 d_Md_into_84 (by decide) ?_
  exact g_zret X hA9 hQ9 hr9 (by first | exact Or.inl rfl | exact Or.inr rfl) hlk9 ⟨F9_4, G9_3⟩ [3, 0, 1, 4, 2, 5, 6] rfl rfl d_Md_into_88 (rfl)

set_option maxHeartbeats 4000000 in
set_option maxRecDepth 100000 in
theorem k_Md_intoR (mo : Nat) (tw : Int32) (K : Nat) (R : Nat) (qa : Nat) (qb : Nat) (qk : Nat) (qu : Nat) (qn : Nat) (qx : Nat) (qo : Nat) (qf : Nat) (d : Nat) (qr : Nat) (gm : Nat) (qg : Nat) (qv : Nat) (d2 : Nat) (qs : Nat) (vv : Nat) (qc : Nat) (qm : Nat) (qw : Nat) (M : Nat → Nat) (OV : Nat → Bool) (FF : Nat → Nat) (hm : Nat → Nat) (GO : Nat → Bool) (FG : Nat → Nat) (g : Nat) (j : Nat) (n9 : Nat) (pp : Nat → Nat) (hK : K ≤ 48) (hM : ∀ z, z < K → M z < 48) (hgm : gm ≤ 12) (hg0 : g < gm) (hj : j < K) (hd : gring (gpE (fun x y => OV (48 * M x + M y)) (updN hm j g) K) g n9 pp) : CtI l y_Md_into (Cond.code y_Md_into c_Md_into 5 (some .boolean) :: TB) ({ frames := 1, cells := 0, slots := 0, locals := 27 } : Room) D (tysv cI cJ cZ cQ) [.ref mo, .int (nI g), .int (nI j)] [(mo, .inr (8, [.int tw, .int (nI K), .int (nI R), .ref qa, .ref qb, .ref qk, .ref qu, .ref qn, .ref qx, .ref qo, .ref qf, .int (nI d), .ref qr, .int (nI gm), .ref qg, .ref qv, .int (nI d2), .ref qs, .int (nI vv), .ref qc, .ref qm, .ref qw])), (qn, .inl (cI, 48, .inl (nf M))), (qo, .inl (cZ, 2304, .inl (zf OV))), (qf, .inl (cI, 48, .inl (nf FF))), (qg, .inl (cI, 48, .inl (hf hm))), (qv, .inl (cZ, 144, .inl (zf GO))), (qs, .inl (cI, 12, .inl (nf FG)))] 0 0 (fun (r : Int32) (u : (Nat → Nat) × (Nat → Bool) × (Nat → Nat)) => r = bI false ∧ ∀ j, j < n9 → u.2.2 j = pp j) (fun (u : (Nat → Nat) × (Nat → Bool) × (Nat → Nat)) => [(mo, .inr (8, [.int (nI 0), .int (nI K), .int (nI R), .ref qa, .ref qb, .ref qk, .ref qu, .ref qn, .ref qx, .ref qo, .ref qf, .int (nI d), .ref qr, .int (nI gm), .ref qg, .ref qv, .int (nI n9), .ref qs, .int (nI vv), .ref qc, .ref qm, .ref qw])), (qn, .inl (cI, 48, .inl (nf M))), (qo, .inl (cZ, 2304, .inl (zf OV))), (qf, .inl (cI, 48, .inl (nf u.1))), (qg, .inl (cI, 48, .inl (hf hm))), (qv, .inl (cZ, 144, .inl (zf u.2.1))), (qs, .inl (cI, 12, .inl (nf u.2.2)))]) := by
  refine CtI.of c_Md_into 5 (some .boolean) (by decide) rfl (Nat.le_of_ble_eq_true rfl) ?_
  intro p e s m args below meth c A Q hA9 hQ9 X hr9 hlk9 hin9
  have hd1 := hd.1.1
  have hd2 := gD_le (gpE_in (fun x y => OV (48 * M x + M y)) (updN hm j g) K) hd.1
  refine g_aload_n X 0 d_Md_into_0 rfl rfl ?_
  refine g_iload_n X 1 d_Md_into_1 rfl rfl ?_
  refine n_if_lt X 25 d_Md_into_2 (by decide) (by omega) (fun h2 => absurd h2 (by omega)) (fun h2 => ?_)
  refine g_iload_n X 1 d_Md_into_5 rfl rfl ?_
  refine g_aload_n X 0 d_Md_into_6 rfl rfl ?_
  refine g_get (C := R_Md) (T := T_Md) (N := 22) X 0 13 in_Md rfl rfl (by decide) t3_160 rfl rfl d_Md_into_7 ?_
  refine n_icmp_ge X 25 d_Md_into_10 (by decide) (by omega) (by omega) (fun h10 => absurd h10 (by omega)) (fun h10 => ?_)
  refine g_aload_n X 0 d_Md_into_13 rfl rfl ?_
  refine g_iload_n X 2 d_Md_into_14 rfl rfl ?_
  refine g_calliV (n := 1) X [.int (nI j)] (k_Md_isContext mo tw K R qa qb qk qu qn qx qo qf d qr gm qg qv d2 qs vv qc qm qw j (by omega) (by omega)) t3_239 t4_1 ts_14 t1_9 t4_2 rfl rfl (by decide +kernel) ⟨by decide, by decide⟩ [0] [1, 2, 3, 4, 5, 6] [(qn, .inl (cI, 48, .inl (nf M))), (qo, .inl (cZ, 2304, .inl (zf OV))), (qf, .inl (cI, 48, .inl (nf FF))), (qg, .inl (cI, 48, .inl (hf hm))), (qv, .inl (cZ, 144, .inl (zf GO))), (qs, .inl (cI, 12, .inl (nf FG)))] rfl rfl rfl rfl (by decide) 0 rfl rfl rfl rfl (Nat.le_of_ble_eq_true rfl) d_Md_into_15 ⟨by decide, by decide⟩ (fun r1 w9u1 hw1 => ?_)
  subst hw1
  refine b_if_eq X 25 d_Md_into_18 (by decide) (fun h18 => absurd h18 (by decide)) (fun h18 => ?_)
  refine g_iconst (v := nI 1) X d_Md_into_21 rfl ?_
  refine g_goto X 26 d_Md_into_22 (by decide) ?_
  refine g_iconst (v := nI 1) X d_Md_into_26 rfl ?_
  refine g_calliV (n := 2) X [.int (bI true), .int (bI true)] (k_Md_goes mo tw K R qa qb qk qu qn qx qo qf d qr gm qg qv d2 qs vv qc qm qw ) t3_223 t3_225 ts_11 t1_9 t3_226 rfl rfl (by decide +kernel) ⟨by decide, by decide⟩ [6] [0, 1, 2, 3, 4, 5] [(qn, .inl (cI, 48, .inl (nf M))), (qo, .inl (cZ, 2304, .inl (zf OV))), (qf, .inl (cI, 48, .inl (nf FF))), (qg, .inl (cI, 48, .inl (hf hm))), (qv, .inl (cZ, 144, .inl (zf GO))), (qs, .inl (cI, 12, .inl (nf FG)))] rfl rfl rfl rfl (by decide) 0 rfl rfl rfl rfl (Nat.le_of_ble_eq_true rfl) d_Md_into_27 ⟨by decide, by decide⟩ (fun r2 w9u2 hw2 => ?_)
  subst hw2
  refine b_if_ne X 35 d_Md_into_30 (by decide) (fun h30 => ?_) (fun h30 => absurd h30 (by decide))
  refine g_aload_n X 0 d_Md_into_35 rfl rfl ?_
  refine g_get (C := R_Md) (T := T_Md) (N := 22) X 6 14 in_Md rfl rfl (by decide) t3_161 rfl rfl d_Md_into_36 ?_
  refine g_iload_n X 2 d_Md_into_39 rfl rfl ?_
  refine g_ialdH X 3 0 rfl rfl (by omega) (by omega) d_Md_into_40 ?_
  refine g_istore_n X [(3, .int (hI (hm j))), (0, .ref mo), (1, .int (nI g)), (2, .int (nI j))] d_Md_into_41 rfl (by decide) rfl ?_
  refine g_aload_n X 0 d_Md_into_42 rfl rfl ?_
  refine g_get (C := R_Md) (T := T_Md) (N := 22) X 6 14 in_Md rfl rfl (by decide) t3_161 rfl rfl d_Md_into_43 ?_
  refine g_iload_n X 2 d_Md_into_46 rfl rfl ?_
  refine g_iload_n X 1 d_Md_into_47 rfl rfl ?_
  refine g_topE (hI_t (by omega)).symm ?_
  refine g_iastH X 3 0 [(qn, .inl (cI, 48, .inl (nf M))), (qo, .inl (cZ, 2304, .inl (zf OV))), (qf, .inl (cI, 48, .inl (nf FF))), (qg, .inl (cI, 48, .inl (hf (updN hm j g)))), (qv, .inl (cZ, 144, .inl (zf GO))), (qs, .inl (cI, 12, .inl (nf FG))), (mo, .inr (8, [.int (nI 0), .int (nI K), .int (nI R), .ref qa, .ref qb, .ref qk, .ref qu, .ref qn, .ref qx, .ref qo, .ref qf, .int (nI d), .ref qr, .int (nI gm), .ref qg, .ref qv, .int (nI d2), .ref qs, .int (nI vv), .ref qc, .ref qm, .ref qw]))] rfl rfl (by omega) (by omega) rfl d_Md_into_48 ?_
  refine g_aload_n X 0 d_Md_into_49 rfl rfl ?_
  refine g_callvV (n := 0) X [] (k_Md_renewGroups mo (nI 0) K R qa qb qk qu qn qx qo qf d qr gm qg qv d2 qs vv qc qm qw M OV (updN hm j g) GO (by omega) (hM)) t4_63 t4_65 ts_20 t1_9 t4_66 rfl rfl (by decide +kernel) ⟨by decide, by decide⟩ [6, 0, 1, 3, 4] [2, 5] [(qf, .inl (cI, 48, .inl (nf FF))), (qs, .inl (cI, 12, .inl (nf FG)))] rfl rfl rfl rfl (by decide) 0 rfl rfl rfl rfl (Nat.le_of_ble_eq_true rfl) d_Md_into_50 ⟨by decide, by decide⟩ (fun G9_3 hE => ?_)
  refine g_aload_n X 0 d_Md_into_53 rfl rfl ?_
  refine g_iload_n X 1 d_Md_into_54 rfl rfl ?_
  refine g_calliV (n := 1) X [.int (nI g)] (k_Md_ringOf mo (nI 0) K R qa qb qk qu qn qx qo qf d qr gm qg qv d2 qs vv qc qm qw FF G9_3 FG g n9 pp (by omega) (by rw [hE]; exact hd)) t4_67 t4_69 ts_21 t1_9 t4_70 rfl rfl (by decide +kernel) ⟨by decide, by decide⟩ [2, 0, 6, 1] [3, 4, 5] [(qn, .inl (cI, 48, .inl (nf M))), (qo, .inl (cZ, 2304, .inl (zf OV))), (qg, .inl (cI, 48, .inl (hf (updN hm j g))))] rfl rfl rfl rfl (by decide) 0 rfl rfl rfl rfl (Nat.le_of_ble_eq_true rfl) d_Md_into_55 ⟨by decide, by decide⟩ (fun r4 ⟨F9_4, G9_4⟩ hPP => ?_)
  obtain ⟨rfl, hPP⟩ := hPP
  refine g_istore X [(4, .int (nI n9)), (3, .int (hI (hm j))), (0, .ref mo), (1, .int (nI g)), (2, .int (nI j))] d_Md_into_58 (by decide) rfl ?_
  refine g_iload X 4 d_Md_into_60 rfl ?_
  refine n_if_le X 78 d_Md_into_62 (by decide) (by omega) (fun h62 => absurd h62 (by omega)) (fun h62 => ?_)
  refine g_aload_n X 0 d_Md_into_65 rfl rfl ?_
  refine g_iload X 4 d_Md_into_66 rfl ?_
  refine g_put (C := R_Md) (T := T_Md) (N := 22) (ty := .int) X 3 16 [(qn, .inl (cI, 48, .inl (nf M))), (qo, .inl (cZ, 2304, .inl (zf OV))), (qg, .inl (cI, 48, .inl (hf (updN hm j g)))), (mo, .inr (8, [.int (nI 0), .int (nI K), .int (nI R), .ref qa, .ref qb, .ref qk, .ref qu, .ref qn, .ref qx, .ref qo, .ref qf, .int (nI d), .ref qr, .int (nI gm), .ref qg, .ref qv, .int (nI n9), .ref qs, .int (nI vv), .ref qc, .ref qm, .ref qw])), (qf, .inl (cI, 48, .inl (nf F9_4))), (qv, .inl (cZ, 144, .inl (zf G9_3))), (qs, .inl (cI, 12, .inl (nf G9_4)))] t_Md ty_Md nm_Md in_Md rfl rfl (by decide) t3_163 rfl rfl (by decide +kernel) rfl rfl (Nat.le_of_ble_eq_true rfl) rfl d_Md_into_68 ?_
  refine g_aload_n X 0 d_Md_into_71 rfl rfl ?_
  refine g_get (C := R_Md) (T := T_Md) (N := 22) X 3 14 in_Md rfl rfl (by decide) t3_161 rfl rfl d_Md_into_72 ?_
  refine g_iload_n X 2 d_Md_into_75 rfl rfl ?_
  refine g_iload_n X 3 d_Md_into_76 rfl rfl ?_
  refine g_iastH X 2 0 [(qn, .inl (cI, 48, .inl (nf M))), (qo, .inl (cZ, 2304, .inl (zf OV))), (qg, .inl (cI, 48, .inl (hf (updN (updN hm j g) j (hm j))))), (mo, .inr (8, [.int (nI 0), .int (nI K), .int (nI R), .ref qa, .ref qb, .ref qk, .ref qu, .ref qn, .ref qx, .ref qo, .ref qf, .int (nI d), .ref qr, .int (nI gm), .ref qg, .ref qv, .int (nI n9), .ref qs, .int (nI vv), .ref qc, .ref qm, .ref qw])), (qf, .inl (cI, 48, .inl (nf F9_4))), (qv, .inl (cZ, 144, .inl (zf G9_3))), (qs, .inl (cI, 12, .inl (nf G9_4)))] rfl rfl (by omega) (by omega) rfl d_Md_into_77 ?_
  rw [updN_back]
  refine g_iload X 4 d_Md_into_78 rfl ?_
  refine n_if_ne X 87 d_Md_into_80 (by decide) (by omega) (fun h80 => ?_) (fun h80 => absurd h80 (by omega))
  refine g_iconst (v := nI 0) X d_Md_into_87 rfl ?_
  exact g_zret X hA9 hQ9 hr9 (by first | exact Or.inl rfl | exact Or.inr rfl) hlk9 ⟨F9_4, G9_3, G9_4⟩ [3, 0, 1, 4, 2, 5, 6] rfl rfl d_Md_into_88 (by (try dsimp only); exact (⟨rfl, hPP⟩))

set_option maxHeartbeats 4000000 in
set_option maxRecDepth 100000 in
theorem k_Md_intoB (mo : Nat) (tw : Int32) (K : Nat) (R : Nat) (qa : Nat) (qb : Nat) (qk : Nat) (qu : Nat) (qn : Nat) (qx : Nat) (qo : Nat) (qf : Nat) (d : Nat) (qr : Nat) (gm : Nat) (qg : Nat) (qv : Nat) (d2 : Nat) (qs : Nat) (vv : Nat) (qc : Nat) (qm : Nat) (qw : Nat) (x : Int32) (y : Int32) (hK : K ≤ 48) (hgm : gm ≤ 12) (hB : badI gm x ∨ ((∃ i, i < gm ∧ x = nI i) ∧ badI K y)) : CtI l y_Md_into (Cond.code y_Md_into c_Md_into 5 (some .boolean) :: TB) ({ frames := 1, cells := 0, slots := 0, locals := 22 } : Room) D (tysv cI cJ cZ cQ) [.ref mo, .int x, .int y] [(mo, .inr (8, [.int tw, .int (nI K), .int (nI R), .ref qa, .ref qb, .ref qk, .ref qu, .ref qn, .ref qx, .ref qo, .ref qf, .int (nI d), .ref qr, .int (nI gm), .ref qg, .ref qv, .int (nI d2), .ref qs, .int (nI vv), .ref qc, .ref qm, .ref qw]))] 0 0 (fun (r : Int32) (_ : Unit) => r = bI false) (fun (_ : Unit) => [(mo, .inr (8, [.int (nI 1), .int (nI K), .int (nI R), .ref qa, .ref qb, .ref qk, .ref qu, .ref qn, .ref qx, .ref qo, .ref qf, .int (nI d), .ref qr, .int (nI gm), .ref qg, .ref qv, .int (nI d2), .ref qs, .int (nI vv), .ref qc, .ref qm, .ref qw]))]) := by
  refine CtI.of c_Md_into 5 (some .boolean) (by decide) rfl (Nat.le_of_ble_eq_true rfl) ?_
  intro p e s m args below meth c A Q hA9 hQ9 X hr9 hlk9 hin9
  rcases hB with b1 | ⟨⟨i, hi, rfl⟩, b1⟩
  · have b2 := b1
    refine g_aload_n X 0 d_Md_into_0 rfl rfl ?_
    refine g_iload_n X 1 d_Md_into_1 rfl rfl ?_
    refine g_if_lt X 25 d_Md_into_2 (by decide) (fun h2 => ?_) (fun h2 => ?_)
    · refine g_iconst (v := nI 0) X d_Md_into_25 rfl ?_
      refine g_iconst (v := nI 1) X d_Md_into_26 rfl ?_
      refine g_calliV (n := 2) X [.int (bI false), .int (bI true)] (k_Md_goes1 mo tw K R qa qb qk qu qn qx qo qf d qr gm qg qv d2 qs vv qc qm qw true ) t3_223 t3_225 ts_11 t1_9 t3_226 rfl rfl (by decide +kernel) ⟨by decide, by decide⟩ [0] [] [] rfl rfl rfl rfl (by decide) 0 rfl rfl rfl rfl (Nat.le_of_ble_eq_true rfl) d_Md_into_27 ⟨by decide, by decide⟩ (fun r1 w9u1 hw1 => ?_)
      subst hw1
      refine b_if_ne X 35 d_Md_into_30 (by decide) (fun h30 => absurd h30 (by decide)) (fun h30 => ?_)
      refine g_iconst (v := nI 0) X d_Md_into_33 rfl ?_
      exact g_zret X hA9 hQ9 hr9 (by first | exact Or.inl rfl | exact Or.inr rfl) hlk9 () [0] rfl rfl d_Md_into_34 (rfl)
    · refine g_iload_n X 1 d_Md_into_5 rfl rfl ?_
      refine g_aload_n X 0 d_Md_into_6 rfl rfl ?_
      refine g_get (C := R_Md) (T := T_Md) (N := 22) X 0 13 in_Md rfl rfl (by decide) t3_160 rfl rfl d_Md_into_7 ?_
      refine g_icmp_ge X 25 d_Md_into_10 (by decide) (fun h10 => ?_) (fun h10 => absurd h10 (not_not_intro (b1.resolve_left h2)))
      refine g_iconst (v := nI 0) X d_Md_into_25 rfl ?_
      refine g_iconst (v := nI 1) X d_Md_into_26 rfl ?_
      refine g_calliV (n := 2) X [.int (bI false), .int (bI true)] (k_Md_goes1 mo tw K R qa qb qk qu qn qx qo qf d qr gm qg qv d2 qs vv qc qm qw true ) t3_223 t3_225 ts_11 t1_9 t3_226 rfl rfl (by decide +kernel) ⟨by decide, by decide⟩ [0] [] [] rfl rfl rfl rfl (by decide) 0 rfl rfl rfl rfl (Nat.le_of_ble_eq_true rfl) d_Md_into_27 ⟨by decide, by decide⟩ (fun r2 w9u2 hw2 => ?_)
      subst hw2
      refine b_if_ne X 35 d_Md_into_30 (by decide) (fun h30 => absurd h30 (by decide)) (fun h30 => ?_)
      refine g_iconst (v := nI 0) X d_Md_into_33 rfl ?_
      exact g_zret X hA9 hQ9 hr9 (by first | exact Or.inl rfl | exact Or.inr rfl) hlk9 () [0] rfl rfl d_Md_into_34 (rfl)
  · have b2 := b1
    refine g_aload_n X 0 d_Md_into_0 rfl rfl ?_
    refine g_iload_n X 1 d_Md_into_1 rfl rfl ?_
    refine n_if_lt X 25 d_Md_into_2 (by decide) (by omega) (fun h2 => absurd h2 (by omega)) (fun h2 => ?_)
    refine g_iload_n X 1 d_Md_into_5 rfl rfl ?_
    refine g_aload_n X 0 d_Md_into_6 rfl rfl ?_
    refine g_get (C := R_Md) (T := T_Md) (N := 22) X 0 13 in_Md rfl rfl (by decide) t3_160 rfl rfl d_Md_into_7 ?_
    refine n_icmp_ge X 25 d_Md_into_10 (by decide) (by omega) (by omega) (fun h10 => absurd h10 (by omega)) (fun h10 => ?_)
    refine g_aload_n X 0 d_Md_into_13 rfl rfl ?_
    refine g_iload_n X 2 d_Md_into_14 rfl rfl ?_
    refine g_calliV (n := 1) X [.int y] (k_Md_isContextN mo tw K R qa qb qk qu qn qx qo qf d qr gm qg qv d2 qs vv qc qm qw y (by omega) (b1)) t3_239 t4_1 ts_14 t1_9 t4_2 rfl rfl (by decide +kernel) ⟨by decide, by decide⟩ [0] [] [] rfl rfl rfl rfl (by decide) 0 rfl rfl rfl rfl (Nat.le_of_ble_eq_true rfl) d_Md_into_15 ⟨by decide, by decide⟩ (fun r3 w9u3 hw3 => ?_)
    subst hw3
    refine b_if_eq X 25 d_Md_into_18 (by decide) (fun h18 => ?_) (fun h18 => absurd h18 (by decide))
    refine g_iconst (v := nI 0) X d_Md_into_25 rfl ?_
    refine g_iconst (v := nI 1) X d_Md_into_26 rfl ?_
    refine g_calliV (n := 2) X [.int (bI false), .int (bI true)] (k_Md_goes1 mo tw K R qa qb qk qu qn qx qo qf d qr gm qg qv d2 qs vv qc qm qw true ) t3_223 t3_225 ts_11 t1_9 t3_226 rfl rfl (by decide +kernel) ⟨by decide, by decide⟩ [0] [] [] rfl rfl rfl rfl (by decide) 0 rfl rfl rfl rfl (Nat.le_of_ble_eq_true rfl) d_Md_into_27 ⟨by decide, by decide⟩ (fun r4 w9u4 hw4 => ?_)
    subst hw4
    refine b_if_ne X 35 d_Md_into_30 (by decide) (fun h30 => absurd h30 (by decide)) (fun h30 => ?_)
    refine g_iconst (v := nI 0) X d_Md_into_33 rfl ?_
    exact g_zret X hA9 hQ9 hr9 (by first | exact Or.inl rfl | exact Or.inr rfl) hlk9 () [0] rfl rfl d_Md_into_34 (rfl)

set_option maxHeartbeats 4000000 in
set_option maxRecDepth 100000 in
theorem k_Md_init (mo : Nat)  : CtV l y_Md_init (Cond.code y_Md_init c_Md_init 2 none :: TB) ({ frames := 1, cells := 15, slots := 24580, locals := 12 } : Room) D (tysv cI cJ cZ cQ) [.ref mo] [(mo, .inr (8, [.int (nI 0), .int (nI 0), .int (nI 0), .null, .null, .null, .null, .null, .null, .null, .null, .int (nI 0), .null, .int (nI 0), .null, .null, .int (nI 0), .null, .int (nI 0), .null, .null, .null]))] 15 24580 (fun (u : Nat × Nat × Nat × Nat × Nat × Nat × Nat × Nat × Nat × Nat × Nat × Nat × Nat × Nat × Nat × (Nat → Nat)) => ∀ k, k < 48 → u.2.2.2.2.2.2.2.2.2.2.2.2.2.2.2 k = 12) (fun (u : Nat × Nat × Nat × Nat × Nat × Nat × Nat × Nat × Nat × Nat × Nat × Nat × Nat × Nat × Nat × (Nat → Nat)) => [(mo, .inr (8, [.int (nI 0), .int (nI 0), .int (nI 0), .ref u.1, .ref u.2.1, .ref u.2.2.1, .ref u.2.2.2.1, .ref u.2.2.2.2.1, .ref u.2.2.2.2.2.1, .ref u.2.2.2.2.2.2.1, .ref u.2.2.2.2.2.2.2.1, .int (nI 0), .ref u.2.2.2.2.2.2.2.2.1, .int (nI 0), .ref u.2.2.2.2.2.2.2.2.2.1, .ref u.2.2.2.2.2.2.2.2.2.2.1, .int (nI 0), .ref u.2.2.2.2.2.2.2.2.2.2.2.1, .int (nI 0), .ref u.2.2.2.2.2.2.2.2.2.2.2.2.1, .ref u.2.2.2.2.2.2.2.2.2.2.2.2.2.1, .ref u.2.2.2.2.2.2.2.2.2.2.2.2.2.2.1])), (u.1, .inl (cI, 200, .inl (nf (fun _ => 0)))), (u.2.1, .inl (cI, 200, .inl (nf (fun _ => 0)))), (u.2.2.1, .inl (cI, 200, .inl (nf (fun _ => 0)))), (u.2.2.2.1, .inl (cZ, 200, .inl (zf (fun _ => false)))), (u.2.2.2.2.1, .inl (cI, 48, .inl (nf (fun _ => 0)))), (u.2.2.2.2.2.1, .inl (cZ, 2304, .inl (zf (fun _ => false)))), (u.2.2.2.2.2.2.1, .inl (cZ, 2304, .inl (zf (fun _ => false)))), (u.2.2.2.2.2.2.2.1, .inl (cI, 48, .inl (nf (fun _ => 0)))), (u.2.2.2.2.2.2.2.2.1, .inl (cI, 48, .inl (nf (fun _ => 0)))), (u.2.2.2.2.2.2.2.2.2.1, .inl (cI, 48, .inl (hf u.2.2.2.2.2.2.2.2.2.2.2.2.2.2.2))), (u.2.2.2.2.2.2.2.2.2.2.1, .inl (cZ, 144, .inl (zf (fun _ => false)))), (u.2.2.2.2.2.2.2.2.2.2.2.1, .inl (cI, 12, .inl (nf (fun _ => 0)))), (u.2.2.2.2.2.2.2.2.2.2.2.2.1, .inl (cI, 8, .inl (nf (fun _ => 0)))), (u.2.2.2.2.2.2.2.2.2.2.2.2.2.1, .inl (cI, 384, .inl (nf (fun _ => 0)))), (u.2.2.2.2.2.2.2.2.2.2.2.2.2.2.1, .inl (cZ, 18432, .inl (zf (fun _ => false))))]) := by
  refine CtV.of c_Md_init 2 none (by decide) rfl (Nat.le_of_ble_eq_true rfl) ?_
  intro p e s m args below meth c A Q hA9 hQ9 X hr9 hlk9 hin9
  refine g_aload_n X 0 d_Md_init_0 rfl rfl ?_
  refine g_objInit X t3_146 t1_23 t1_24 d_Md_init_1 (by decide) (Nat.le_of_ble_eq_true rfl) ?_
  refine g_aload_n X 0 d_Md_init_4 rfl rfl ?_
  refine g_sipush (v := nI 200) X d_Md_init_5 rfl ?_
  refine g_newaI X 0 rfl t1_44 (by omega) (by decide) (by decide) d_Md_init_8 (fun q1 => ?_)
  refine g_putF (C := R_Md) (T := T_Md) (N := 22) (ty := .array .int) X 0 3 [(mo, .inr (8, [.int (nI 0), .int (nI 0), .int (nI 0), .ref q1, .null, .null, .null, .null, .null, .null, .null, .int (nI 0), .null, .int (nI 0), .null, .null, .int (nI 0), .null, .int (nI 0), .null, .null, .null])), (q1, .inl (cI, 200, .inl (fun _ => 0)))] t_Md ty_Md nm_Md in_Md rfl rfl (by decide) t3_150 rfl rfl hin9 rfl (by decide +kernel) rfl rfl (Nat.le_of_ble_eq_true rfl) rfl d_Md_init_10 ?_
  refine g_aload_n X 0 d_Md_init_13 rfl rfl ?_
  refine g_sipush (v := nI 200) X d_Md_init_14 rfl ?_
  refine g_newaI X 0 rfl t1_44 (by omega) (by decide) (by decide) d_Md_init_17 (fun q2 => ?_)
  refine g_putF (C := R_Md) (T := T_Md) (N := 22) (ty := .array .int) X 0 4 [(mo, .inr (8, [.int (nI 0), .int (nI 0), .int (nI 0), .ref q1, .ref q2, .null, .null, .null, .null, .null, .null, .int (nI 0), .null, .int (nI 0), .null, .null, .int (nI 0), .null, .int (nI 0), .null, .null, .null])), (q1, .inl (cI, 200, .inl (fun _ => 0))), (q2, .inl (cI, 200, .inl (fun _ => 0)))] t_Md ty_Md nm_Md in_Md rfl rfl (by decide) t3_151 rfl rfl hin9 rfl (by decide +kernel) rfl rfl (Nat.le_of_ble_eq_true rfl) rfl d_Md_init_19 ?_
  refine g_aload_n X 0 d_Md_init_22 rfl rfl ?_
  refine g_sipush (v := nI 200) X d_Md_init_23 rfl ?_
  refine g_newaI X 0 rfl t1_44 (by omega) (by decide) (by decide) d_Md_init_26 (fun q3 => ?_)
  refine g_putF (C := R_Md) (T := T_Md) (N := 22) (ty := .array .int) X 0 5 [(mo, .inr (8, [.int (nI 0), .int (nI 0), .int (nI 0), .ref q1, .ref q2, .ref q3, .null, .null, .null, .null, .null, .int (nI 0), .null, .int (nI 0), .null, .null, .int (nI 0), .null, .int (nI 0), .null, .null, .null])), (q1, .inl (cI, 200, .inl (fun _ => 0))), (q2, .inl (cI, 200, .inl (fun _ => 0))), (q3, .inl (cI, 200, .inl (fun _ => 0)))] t_Md ty_Md nm_Md in_Md rfl rfl (by decide) t3_152 rfl rfl hin9 rfl (by decide +kernel) rfl rfl (Nat.le_of_ble_eq_true rfl) rfl d_Md_init_28 ?_
  refine g_aload_n X 0 d_Md_init_31 rfl rfl ?_
  refine g_sipush (v := nI 200) X d_Md_init_32 rfl ?_
  refine g_newaZ X 2 rfl t3_214 (by omega) (by decide) (by decide) d_Md_init_35 (fun q4 => ?_)
  refine g_putF (C := R_Md) (T := T_Md) (N := 22) (ty := .array .boolean) X 0 6 [(mo, .inr (8, [.int (nI 0), .int (nI 0), .int (nI 0), .ref q1, .ref q2, .ref q3, .ref q4, .null, .null, .null, .null, .int (nI 0), .null, .int (nI 0), .null, .null, .int (nI 0), .null, .int (nI 0), .null, .null, .null])), (q1, .inl (cI, 200, .inl (fun _ => 0))), (q2, .inl (cI, 200, .inl (fun _ => 0))), (q3, .inl (cI, 200, .inl (fun _ => 0))), (q4, .inl (cZ, 200, .inl (fun _ => 0)))] t_Md ty_Md nm_Md in_Md rfl rfl (by decide) t3_153 rfl rfl hin9 rfl (by decide +kernel) rfl rfl (Nat.le_of_ble_eq_true rfl) rfl d_Md_init_37 ?_
  refine g_aload_n X 0 d_Md_init_40 rfl rfl ?_
  refine g_bipush (v := nI 48) X d_Md_init_41 rfl ?_
  refine g_newaI X 0 rfl t1_44 (by omega) (by decide) (by decide) d_Md_init_43 (fun q5 => ?_)
  refine g_putF (C := R_Md) (T := T_Md) (N := 22) (ty := .array .int) X 0 7 [(mo, .inr (8, [.int (nI 0), .int (nI 0), .int (nI 0), .ref q1, .ref q2, .ref q3, .ref q4, .ref q5, .null, .null, .null, .int (nI 0), .null, .int (nI 0), .null, .null, .int (nI 0), .null, .int (nI 0), .null, .null, .null])), (q1, .inl (cI, 200, .inl (fun _ => 0))), (q2, .inl (cI, 200, .inl (fun _ => 0))), (q3, .inl (cI, 200, .inl (fun _ => 0))), (q4, .inl (cZ, 200, .inl (fun _ => 0))), (q5, .inl (cI, 48, .inl (fun _ => 0)))] t_Md ty_Md nm_Md in_Md rfl rfl (by decide) t3_154 rfl rfl hin9 rfl (by decide +kernel) rfl rfl (Nat.le_of_ble_eq_true rfl) rfl d_Md_init_45 ?_
  refine g_aload_n X 0 d_Md_init_48 rfl rfl ?_
  refine g_sipush (v := nI 2304) X d_Md_init_49 rfl ?_
  refine g_newaZ X 2 rfl t3_214 (by omega) (by decide) (by decide) d_Md_init_52 (fun q6 => ?_)
  refine g_putF (C := R_Md) (T := T_Md) (N := 22) (ty := .array .boolean) X 0 8 [(mo, .inr (8, [.int (nI 0), .int (nI 0), .int (nI 0), .ref q1, .ref q2, .ref q3, .ref q4, .ref q5, .ref q6, .null, .null, .int (nI 0), .null, .int (nI 0), .null, .null, .int (nI 0), .null, .int (nI 0), .null, .null, .null])), (q1, .inl (cI, 200, .inl (fun _ => 0))), (q2, .inl (cI, 200, .inl (fun _ => 0))), (q3, .inl (cI, 200, .inl (fun _ => 0))), (q4, .inl (cZ, 200, .inl (fun _ => 0))), (q5, .inl (cI, 48, .inl (fun _ => 0))), (q6, .inl (cZ, 2304, .inl (fun _ => 0)))] t_Md ty_Md nm_Md in_Md rfl rfl (by decide) t3_155 rfl rfl hin9 rfl (by decide +kernel) rfl rfl (Nat.le_of_ble_eq_true rfl) rfl d_Md_init_54 ?_
  refine g_aload_n X 0 d_Md_init_57 rfl rfl ?_
  refine g_sipush (v := nI 2304) X d_Md_init_58 rfl ?_
  refine g_newaZ X 2 rfl t3_214 (by omega) (by decide) (by decide) d_Md_init_61 (fun q7 => ?_)
  refine g_putF (C := R_Md) (T := T_Md) (N := 22) (ty := .array .boolean) X 0 9 [(mo, .inr (8, [.int (nI 0), .int (nI 0), .int (nI 0), .ref q1, .ref q2, .ref q3, .ref q4, .ref q5, .ref q6, .ref q7, .null, .int (nI 0), .null, .int (nI 0), .null, .null, .int (nI 0), .null, .int (nI 0), .null, .null, .null])), (q1, .inl (cI, 200, .inl (fun _ => 0))), (q2, .inl (cI, 200, .inl (fun _ => 0))), (q3, .inl (cI, 200, .inl (fun _ => 0))), (q4, .inl (cZ, 200, .inl (fun _ => 0))), (q5, .inl (cI, 48, .inl (fun _ => 0))), (q6, .inl (cZ, 2304, .inl (fun _ => 0))), (q7, .inl (cZ, 2304, .inl (fun _ => 0)))] t_Md ty_Md nm_Md in_Md rfl rfl (by decide) t3_156 rfl rfl hin9 rfl (by decide +kernel) rfl rfl (Nat.le_of_ble_eq_true rfl) rfl d_Md_init_63 ?_
  refine g_aload_n X 0 d_Md_init_66 rfl rfl ?_
  refine g_bipush (v := nI 48) X d_Md_init_67 rfl ?_
  refine g_newaI X 0 rfl t1_44 (by omega) (by decide) (by decide) d_Md_init_69 (fun q8 => ?_)
  refine g_putF (C := R_Md) (T := T_Md) (N := 22) (ty := .array .int) X 0 10 [(mo, .inr (8, [.int (nI 0), .int (nI 0), .int (nI 0), .ref q1, .ref q2, .ref q3, .ref q4, .ref q5, .ref q6, .ref q7, .ref q8, .int (nI 0), .null, .int (nI 0), .null, .null, .int (nI 0), .null, .int (nI 0), .null, .null, .null])), (q1, .inl (cI, 200, .inl (fun _ => 0))), (q2, .inl (cI, 200, .inl (fun _ => 0))), (q3, .inl (cI, 200, .inl (fun _ => 0))), (q4, .inl (cZ, 200, .inl (fun _ => 0))), (q5, .inl (cI, 48, .inl (fun _ => 0))), (q6, .inl (cZ, 2304, .inl (fun _ => 0))), (q7, .inl (cZ, 2304, .inl (fun _ => 0))), (q8, .inl (cI, 48, .inl (fun _ => 0)))] t_Md ty_Md nm_Md in_Md rfl rfl (by decide) t3_157 rfl rfl hin9 rfl (by decide +kernel) rfl rfl (Nat.le_of_ble_eq_true rfl) rfl d_Md_init_71 ?_
  refine g_aload_n X 0 d_Md_init_74 rfl rfl ?_
  refine g_bipush (v := nI 48) X d_Md_init_75 rfl ?_
  refine g_newaI X 0 rfl t1_44 (by omega) (by decide) (by decide) d_Md_init_77 (fun q9 => ?_)
  refine g_putF (C := R_Md) (T := T_Md) (N := 22) (ty := .array .int) X 0 12 [(mo, .inr (8, [.int (nI 0), .int (nI 0), .int (nI 0), .ref q1, .ref q2, .ref q3, .ref q4, .ref q5, .ref q6, .ref q7, .ref q8, .int (nI 0), .ref q9, .int (nI 0), .null, .null, .int (nI 0), .null, .int (nI 0), .null, .null, .null])), (q1, .inl (cI, 200, .inl (fun _ => 0))), (q2, .inl (cI, 200, .inl (fun _ => 0))), (q3, .inl (cI, 200, .inl (fun _ => 0))), (q4, .inl (cZ, 200, .inl (fun _ => 0))), (q5, .inl (cI, 48, .inl (fun _ => 0))), (q6, .inl (cZ, 2304, .inl (fun _ => 0))), (q7, .inl (cZ, 2304, .inl (fun _ => 0))), (q8, .inl (cI, 48, .inl (fun _ => 0))), (q9, .inl (cI, 48, .inl (fun _ => 0)))] t_Md ty_Md nm_Md in_Md rfl rfl (by decide) t3_159 rfl rfl hin9 rfl (by decide +kernel) rfl rfl (Nat.le_of_ble_eq_true rfl) rfl d_Md_init_79 ?_
  refine g_aload_n X 0 d_Md_init_82 rfl rfl ?_
  refine g_bipush (v := nI 48) X d_Md_init_83 rfl ?_
  refine g_newaI X 0 rfl t1_44 (by omega) (by decide) (by decide) d_Md_init_85 (fun q10 => ?_)
  refine g_putF (C := R_Md) (T := T_Md) (N := 22) (ty := .array .int) X 0 14 [(mo, .inr (8, [.int (nI 0), .int (nI 0), .int (nI 0), .ref q1, .ref q2, .ref q3, .ref q4, .ref q5, .ref q6, .ref q7, .ref q8, .int (nI 0), .ref q9, .int (nI 0), .ref q10, .null, .int (nI 0), .null, .int (nI 0), .null, .null, .null])), (q1, .inl (cI, 200, .inl (fun _ => 0))), (q2, .inl (cI, 200, .inl (fun _ => 0))), (q3, .inl (cI, 200, .inl (fun _ => 0))), (q4, .inl (cZ, 200, .inl (fun _ => 0))), (q5, .inl (cI, 48, .inl (fun _ => 0))), (q6, .inl (cZ, 2304, .inl (fun _ => 0))), (q7, .inl (cZ, 2304, .inl (fun _ => 0))), (q8, .inl (cI, 48, .inl (fun _ => 0))), (q9, .inl (cI, 48, .inl (fun _ => 0))), (q10, .inl (cI, 48, .inl (fun _ => 0)))] t_Md ty_Md nm_Md in_Md rfl rfl (by decide) t3_161 rfl rfl hin9 rfl (by decide +kernel) rfl rfl (Nat.le_of_ble_eq_true rfl) rfl d_Md_init_87 ?_
  refine g_aload_n X 0 d_Md_init_90 rfl rfl ?_
  refine g_sipush (v := nI 144) X d_Md_init_91 rfl ?_
  refine g_newaZ X 2 rfl t3_214 (by omega) (by decide) (by decide) d_Md_init_94 (fun q11 => ?_)
  refine g_putF (C := R_Md) (T := T_Md) (N := 22) (ty := .array .boolean) X 0 15 [(mo, .inr (8, [.int (nI 0), .int (nI 0), .int (nI 0), .ref q1, .ref q2, .ref q3, .ref q4, .ref q5, .ref q6, .ref q7, .ref q8, .int (nI 0), .ref q9, .int (nI 0), .ref q10, .ref q11, .int (nI 0), .null, .int (nI 0), .null, .null, .null])), (q1, .inl (cI, 200, .inl (fun _ => 0))), (q2, .inl (cI, 200, .inl (fun _ => 0))), (q3, .inl (cI, 200, .inl (fun _ => 0))), (q4, .inl (cZ, 200, .inl (fun _ => 0))), (q5, .inl (cI, 48, .inl (fun _ => 0))), (q6, .inl (cZ, 2304, .inl (fun _ => 0))), (q7, .inl (cZ, 2304, .inl (fun _ => 0))), (q8, .inl (cI, 48, .inl (fun _ => 0))), (q9, .inl (cI, 48, .inl (fun _ => 0))), (q10, .inl (cI, 48, .inl (fun _ => 0))), (q11, .inl (cZ, 144, .inl (fun _ => 0)))] t_Md ty_Md nm_Md in_Md rfl rfl (by decide) t3_162 rfl rfl hin9 rfl (by decide +kernel) rfl rfl (Nat.le_of_ble_eq_true rfl) rfl d_Md_init_96 ?_
  refine g_aload_n X 0 d_Md_init_99 rfl rfl ?_
  refine g_bipush (v := nI 12) X d_Md_init_100 rfl ?_
  refine g_newaI X 0 rfl t1_44 (by omega) (by decide) (by decide) d_Md_init_102 (fun q12 => ?_)
  refine g_putF (C := R_Md) (T := T_Md) (N := 22) (ty := .array .int) X 0 17 [(mo, .inr (8, [.int (nI 0), .int (nI 0), .int (nI 0), .ref q1, .ref q2, .ref q3, .ref q4, .ref q5, .ref q6, .ref q7, .ref q8, .int (nI 0), .ref q9, .int (nI 0), .ref q10, .ref q11, .int (nI 0), .ref q12, .int (nI 0), .null, .null, .null])), (q1, .inl (cI, 200, .inl (fun _ => 0))), (q2, .inl (cI, 200, .inl (fun _ => 0))), (q3, .inl (cI, 200, .inl (fun _ => 0))), (q4, .inl (cZ, 200, .inl (fun _ => 0))), (q5, .inl (cI, 48, .inl (fun _ => 0))), (q6, .inl (cZ, 2304, .inl (fun _ => 0))), (q7, .inl (cZ, 2304, .inl (fun _ => 0))), (q8, .inl (cI, 48, .inl (fun _ => 0))), (q9, .inl (cI, 48, .inl (fun _ => 0))), (q10, .inl (cI, 48, .inl (fun _ => 0))), (q11, .inl (cZ, 144, .inl (fun _ => 0))), (q12, .inl (cI, 12, .inl (fun _ => 0)))] t_Md ty_Md nm_Md in_Md rfl rfl (by decide) t3_164 rfl rfl hin9 rfl (by decide +kernel) rfl rfl (Nat.le_of_ble_eq_true rfl) rfl d_Md_init_104 ?_
  refine g_aload_n X 0 d_Md_init_107 rfl rfl ?_
  refine g_bipush (v := nI 8) X d_Md_init_108 rfl ?_
  refine g_newaI X 0 rfl t1_44 (by omega) (by decide) (by decide) d_Md_init_110 (fun q13 => ?_)
  refine g_putF (C := R_Md) (T := T_Md) (N := 22) (ty := .array .int) X 0 19 [(mo, .inr (8, [.int (nI 0), .int (nI 0), .int (nI 0), .ref q1, .ref q2, .ref q3, .ref q4, .ref q5, .ref q6, .ref q7, .ref q8, .int (nI 0), .ref q9, .int (nI 0), .ref q10, .ref q11, .int (nI 0), .ref q12, .int (nI 0), .ref q13, .null, .null])), (q1, .inl (cI, 200, .inl (fun _ => 0))), (q2, .inl (cI, 200, .inl (fun _ => 0))), (q3, .inl (cI, 200, .inl (fun _ => 0))), (q4, .inl (cZ, 200, .inl (fun _ => 0))), (q5, .inl (cI, 48, .inl (fun _ => 0))), (q6, .inl (cZ, 2304, .inl (fun _ => 0))), (q7, .inl (cZ, 2304, .inl (fun _ => 0))), (q8, .inl (cI, 48, .inl (fun _ => 0))), (q9, .inl (cI, 48, .inl (fun _ => 0))), (q10, .inl (cI, 48, .inl (fun _ => 0))), (q11, .inl (cZ, 144, .inl (fun _ => 0))), (q12, .inl (cI, 12, .inl (fun _ => 0))), (q13, .inl (cI, 8, .inl (fun _ => 0)))] t_Md ty_Md nm_Md in_Md rfl rfl (by decide) t3_166 rfl rfl hin9 rfl (by decide +kernel) rfl rfl (Nat.le_of_ble_eq_true rfl) rfl d_Md_init_112 ?_
  refine g_aload_n X 0 d_Md_init_115 rfl rfl ?_
  refine g_sipush (v := nI 384) X d_Md_init_116 rfl ?_
  refine g_newaI X 0 rfl t1_44 (by omega) (by decide) (by decide) d_Md_init_119 (fun q14 => ?_)
  refine g_putF (C := R_Md) (T := T_Md) (N := 22) (ty := .array .int) X 0 20 [(mo, .inr (8, [.int (nI 0), .int (nI 0), .int (nI 0), .ref q1, .ref q2, .ref q3, .ref q4, .ref q5, .ref q6, .ref q7, .ref q8, .int (nI 0), .ref q9, .int (nI 0), .ref q10, .ref q11, .int (nI 0), .ref q12, .int (nI 0), .ref q13, .ref q14, .null])), (q1, .inl (cI, 200, .inl (fun _ => 0))), (q2, .inl (cI, 200, .inl (fun _ => 0))), (q3, .inl (cI, 200, .inl (fun _ => 0))), (q4, .inl (cZ, 200, .inl (fun _ => 0))), (q5, .inl (cI, 48, .inl (fun _ => 0))), (q6, .inl (cZ, 2304, .inl (fun _ => 0))), (q7, .inl (cZ, 2304, .inl (fun _ => 0))), (q8, .inl (cI, 48, .inl (fun _ => 0))), (q9, .inl (cI, 48, .inl (fun _ => 0))), (q10, .inl (cI, 48, .inl (fun _ => 0))), (q11, .inl (cZ, 144, .inl (fun _ => 0))), (q12, .inl (cI, 12, .inl (fun _ => 0))), (q13, .inl (cI, 8, .inl (fun _ => 0))), (q14, .inl (cI, 384, .inl (fun _ => 0)))] t_Md ty_Md nm_Md in_Md rfl rfl (by decide) t3_167 rfl rfl hin9 rfl (by decide +kernel) rfl rfl (Nat.le_of_ble_eq_true rfl) rfl d_Md_init_121 ?_
  refine g_aload_n X 0 d_Md_init_124 rfl rfl ?_
  refine g_sipush (v := nI 18432) X d_Md_init_125 rfl ?_
  refine g_newaZ X 2 rfl t3_214 (by omega) (by decide) (by decide) d_Md_init_128 (fun q15 => ?_)
  refine g_putF (C := R_Md) (T := T_Md) (N := 22) (ty := .array .boolean) X 0 21 [(mo, .inr (8, [.int (nI 0), .int (nI 0), .int (nI 0), .ref q1, .ref q2, .ref q3, .ref q4, .ref q5, .ref q6, .ref q7, .ref q8, .int (nI 0), .ref q9, .int (nI 0), .ref q10, .ref q11, .int (nI 0), .ref q12, .int (nI 0), .ref q13, .ref q14, .ref q15])), (q1, .inl (cI, 200, .inl (fun _ => 0))), (q2, .inl (cI, 200, .inl (fun _ => 0))), (q3, .inl (cI, 200, .inl (fun _ => 0))), (q4, .inl (cZ, 200, .inl (fun _ => 0))), (q5, .inl (cI, 48, .inl (fun _ => 0))), (q6, .inl (cZ, 2304, .inl (fun _ => 0))), (q7, .inl (cZ, 2304, .inl (fun _ => 0))), (q8, .inl (cI, 48, .inl (fun _ => 0))), (q9, .inl (cI, 48, .inl (fun _ => 0))), (q10, .inl (cI, 48, .inl (fun _ => 0))), (q11, .inl (cZ, 144, .inl (fun _ => 0))), (q12, .inl (cI, 12, .inl (fun _ => 0))), (q13, .inl (cI, 8, .inl (fun _ => 0))), (q14, .inl (cI, 384, .inl (fun _ => 0))), (q15, .inl (cZ, 18432, .inl (fun _ => 0)))] t_Md ty_Md nm_Md in_Md rfl rfl (by decide) t3_168 rfl rfl hin9 rfl (by decide +kernel) rfl rfl (Nat.le_of_ble_eq_true rfl) rfl d_Md_init_130 ?_
  have L135 : ∀ (N135 : Nat) (i : Nat) (G9 : Nat → Nat), (48 - i) < N135 → (i ≤ 48) → (∀ k, k < i → G9 k = 12) → G p l e ({ frames := 1, cells := 15, slots := 24580, locals := 12 } : Room) s m args below meth c 2 D A s.heap Q 15 24580 [(mo, .inr (8, [.int (nI 0), .int (nI 0), .int (nI 0), .ref q1, .ref q2, .ref q3, .ref q4, .ref q5, .ref q6, .ref q7, .ref q8, .int (nI 0), .ref q9, .int (nI 0), .ref q10, .ref q11, .int (nI 0), .ref q12, .int (nI 0), .ref q13, .ref q14, .ref q15])), (q1, .inl (cI, 200, .inl (nf (fun _ => 0)))), (q2, .inl (cI, 200, .inl (nf (fun _ => 0)))), (q3, .inl (cI, 200, .inl (nf (fun _ => 0)))), (q4, .inl (cZ, 200, .inl (zf (fun _ => false)))), (q5, .inl (cI, 48, .inl (nf (fun _ => 0)))), (q6, .inl (cZ, 2304, .inl (zf (fun _ => false)))), (q7, .inl (cZ, 2304, .inl (zf (fun _ => false)))), (q8, .inl (cI, 48, .inl (nf (fun _ => 0)))), (q9, .inl (cI, 48, .inl (nf (fun _ => 0)))), (q10, .inl (cI, 48, .inl (hf G9))), (q11, .inl (cZ, 144, .inl (zf (fun _ => false)))), (q12, .inl (cI, 12, .inl (nf (fun _ => 0)))), (q13, .inl (cI, 8, .inl (nf (fun _ => 0)))), (q14, .inl (cI, 384, .inl (nf (fun _ => 0)))), (q15, .inl (cZ, 18432, .inl (zf (fun _ => false))))] [(0, .ref mo), (1, .int (nI i))] 135 [] := by
    intro N135
    induction N135 with
    | zero =>
      intro i G9 hN
      exact absurd hN (Nat.not_lt_zero _)
    | succ N135 ih135 =>
      intro i G9 hN135 hi h1
      refine g_iload_n X 1 d_Md_init_135 rfl rfl ?_
      refine g_bipush (v := nI 48) X d_Md_init_136 rfl ?_
      refine n_icmp_ge X 154 d_Md_init_138 (by decide) (by omega) (by omega) (fun h138 => ?_) (fun h138 => ?_)
      · exact g_vret X hA9 hQ9 hr9 hlk9 ⟨q1, q2, q3, q4, q5, q6, q7, q8, q9, q10, q11, q12, q13, q14, q15, G9⟩ [0, 1, 2, 3, 4, 5, 6, 7, 8, 9, 10, 11, 12, 13, 14, 15] rfl rfl d_Md_init_154 (by (try dsimp only); exact (fun k hk => h1 k (by omega)))
      · refine g_aload_n X 0 d_Md_init_141 rfl rfl ?_
        refine g_get (C := R_Md) (T := T_Md) (N := 22) X 0 14 in_Md rfl rfl (by decide) t3_161 rfl rfl d_Md_init_142 ?_
        refine g_iload_n X 1 d_Md_init_145 rfl rfl ?_
        refine g_iconst (v := -1) X d_Md_init_146 rfl ?_
        refine g_topE (show (-1 : Int32) = hI 12 from rfl) ?_
        refine g_iastH X 10 0 [(mo, .inr (8, [.int (nI 0), .int (nI 0), .int (nI 0), .ref q1, .ref q2, .ref q3, .ref q4, .ref q5, .ref q6, .ref q7, .ref q8, .int (nI 0), .ref q9, .int (nI 0), .ref q10, .ref q11, .int (nI 0), .ref q12, .int (nI 0), .ref q13, .ref q14, .ref q15])), (q1, .inl (cI, 200, .inl (nf (fun _ => 0)))), (q2, .inl (cI, 200, .inl (nf (fun _ => 0)))), (q3, .inl (cI, 200, .inl (nf (fun _ => 0)))), (q4, .inl (cZ, 200, .inl (zf (fun _ => false)))), (q5, .inl (cI, 48, .inl (nf (fun _ => 0)))), (q6, .inl (cZ, 2304, .inl (zf (fun _ => false)))), (q7, .inl (cZ, 2304, .inl (zf (fun _ => false)))), (q8, .inl (cI, 48, .inl (nf (fun _ => 0)))), (q9, .inl (cI, 48, .inl (nf (fun _ => 0)))), (q10, .inl (cI, 48, .inl (hf (updN G9 i 12)))), (q11, .inl (cZ, 144, .inl (zf (fun _ => false)))), (q12, .inl (cI, 12, .inl (nf (fun _ => 0)))), (q13, .inl (cI, 8, .inl (nf (fun _ => 0)))), (q14, .inl (cI, 384, .inl (nf (fun _ => 0)))), (q15, .inl (cZ, 18432, .inl (zf (fun _ => false))))] rfl rfl (by omega) (by omega) rfl d_Md_init_147 ?_
        refine g_iinc X (nI (i + 1)) [(1, .int (nI (i + 1))), (0, .ref mo)] d_Md_init_148 (k := 1) rfl (nI_1 i) (by decide) rfl ?_
        refine g_goto X 135 d_Md_init_151 (by decide) ?_
        refine g_lv [1, 0] rfl ?_
        exact ih135 (i + 1) (updN G9 i 12) (by omega) (by omega) (fillH_step h1)
  refine g_iconst (v := nI 0) X d_Md_init_133 rfl ?_
  refine g_istore_n X [(1, .int (nI 0)), (0, .ref mo)] d_Md_init_134 rfl (by decide) rfl ?_
  refine g_lv [1, 0] rfl ?_
  exact L135 ((48 - 0) + 1) 0 (fun _ => 0) (Nat.lt_succ_self _) (by omega) (fun j hj => absurd hj (Nat.not_lt_zero j))
