variable {l : Launch} {D : va_G} {cI cJ cZ cQ : ClassId}
/-- a truth as the law writes it down -/
def bL (b : Bool) : Int64 := if b = true then 1 else 0

set_option maxHeartbeats 4000000 in
set_option maxRecDepth 100000 in
theorem k_Lw_context (ho : Nat) (hr : Nat) (hs : Nat) (h : Nat) (hg : Nat) (ha : Nat) (vm : Int32) (sn : Nat) (ss : Nat) (su : Nat) (K : Nat) (xn : Nat) (fN : Nat → Int32) (qo : Nat) (fo : Nat → Int64) (hK : K < 48) : CtH l y_Lw_context (Cond.codeWith y_Lw_context c_Lw_context 3 (some .int)  [(0, 8, 11, 13)] :: TB) ({ frames := 3, cells := 0, slots := 0, locals := 62 } : Room) D (tysv cI cJ cZ cQ) [.ref ho, .ref qo] [(qo, .inl (cJ, 1, .inr (.inl fo))), (ho, .inr (7, [.ref hr, .ref hs, .ref h, .ref hg, .ref ha, .int vm])), (hs, .inr (4, [.ref sn, .ref ss, .ref su, .int (nI K)])), (sn, .inr (0, [.ref xn])), (xn, .inl (cI, 48, .inl fN))] 0 0 (fun (r : Int32) (_ : Unit) => r = nI 0) (fun (_ : Unit) => [(qo, .inl (cJ, 1, .inr (.inl (vp_updL fo 0 ((nI K).toInt64))))), (ho, .inr (7, [.ref hr, .ref hs, .ref h, .ref hg, .ref ha, .int vm])), (hs, .inr (4, [.ref sn, .ref ss, .ref su, .int (nI (K + 1))])), (sn, .inr (0, [.ref xn])), (xn, .inl (cI, 48, .inl (upd fN K (nI K))))]) := by
  refine CtH.of c_Lw_context 3 (some .int)  [(0, 8, 11, 13)] (by decide) rfl (Nat.le_of_ble_eq_true rfl) ?_
  intro p e s m args below meth c A Q hA9 hQ9 X hr9 hx9
  have hlk9 := hx9.2.2.2
  refine g_aload_n X 1 d_Lw_context_0 rfl rfl ?_
  refine g_iconst (v := nI 0) X d_Lw_context_1 rfl ?_
  refine g_aload_n X 0 d_Lw_context_2 rfl rfl ?_
  refine g_calliV (n := 0) X [] (k_RO_context ho hr hs h hg ha vm sn ss su K xn fN (hK)) t1_196 t1_197 t1_198 t1_1 t1_199 rfl rfl (by decide +kernel) ⟨by decide, by decide⟩ [1, 2, 3, 4] [0] [(qo, .inl (cJ, 1, .inr (.inl fo)))] rfl rfl rfl rfl (by decide) 0 rfl rfl rfl rfl (Nat.le_of_ble_eq_true rfl) d_Lw_context_3 ⟨by decide, by decide⟩ (fun r1 w9u1 hw9 => ?_)
  subst hw9
  refine g_i2l X ((nI K).toInt64) d_Lw_context_6 rfl ?_
  refine g_last X 0 1 [(qo, .inl (cJ, 1, .inr (.inl (vp_updL fo 0 ((nI K).toInt64))))), (ho, .inr (7, [.ref hr, .ref hs, .ref h, .ref hg, .ref ha, .int vm])), (hs, .inr (4, [.ref sn, .ref ss, .ref su, .int (nI (K + 1))])), (sn, .inr (0, [.ref xn])), (xn, .inl (cI, 48, .inl (upd fN K (nI K))))] rfl rfl (by omega) (by omega) rfl d_Lw_context_7 ?_
  refine g_goto X 14 d_Lw_context_8 (by decide) ?_
  refine g_iconst (v := nI 0) X d_Lw_context_14 rfl ?_
  exact g_iret X hA9 hQ9 hr9 hlk9 () [0, 1, 2, 3, 4] rfl rfl d_Lw_context_15 (rfl)

set_option maxHeartbeats 4000000 in
set_option maxRecDepth 100000 in
theorem k_Lw_relateR (ho : Nat) (hr : Nat) (hs : Nat) (h : Nat) (hg : Nat) (ha : Nat) (vm : Int32) (sn : Nat) (ss : Nat) (su : Nat) (K : Nat) (xs : Nat) (fS : Nat → Int64) (rp : Nat) (ly : Nat) (ln : Int32) (ap : Nat) (P : Nat → Int32) (Y : Nat → Int64) (x : Nat) (y : Nat) (kd : Nat) (xn : Nat) (fN : Nat → Int32) (ru : Nat) (rw : Nat) (rk : Nat) (R : Nat) (sd : Nat) (i : Nat) (j : Nat) (d : Nat) (pp : Nat → Nat) (qo : Nat) (fo : Nat → Int64) (hK : K ≤ 48) (hR : R < 200) (hi : i < K) (hj : j < K) (hk : kd ≤ 4) (ex : fN i = nI x) (ey : fN j = nI y) (hx : x < 48) (hy : y < 48) (hf : ∀ z, z < 48 → ∀ j, lb (fS z) j = true → j < 48) (hT : (kd < 3 ∧ gring (gadd (rowE 48 fS) x y) x d pp) ∨ (kd = 3 ∧ x ≠ y ∧ gring (gadd (rowE 48 fS) y x) x d pp) ∨ (kd = 3 ∧ x ≠ y ∧ (∀ k, ¬ gw (gadd (rowE 48 fS) y x) (k + 1) x x) ∧ gring (gadd (rowE 48 fS) x y) y d pp)) : CtH l y_Lw_relate (Cond.codeWith y_Lw_relate c_Lw_relate 6 (some .int)  [(0, 12, 15, 19), (0, 12, 19, 13)] :: TB) ({ frames := 7, cells := 0, slots := 0, locals := 165 } : Room) D (tysv cI cJ cZ cQ) [.ref ho, .int (nI i), .int (nI j), .int (nI kd), .ref qo] [(qo, .inl (cJ, 1, .inr (.inl fo))), (ho, .inr (7, [.ref hr, .ref hs, .ref h, .ref hg, .ref ha, .int vm])), (hs, .inr (4, [.ref sn, .ref ss, .ref su, .int (nI K)])), (sn, .inr (0, [.ref xn])), (xn, .inl (cI, 48, .inl fN)), (ss, .inr (1, [.ref xs])), (xs, .inl (cJ, 48, .inr (.inl fS))), (h, .inr (3, [.ref rp, .ref ly, .int ln])), (rp, .inr (0, [.ref ap])), (ap, .inl (cI, 48, .inl P)), (ly, .inl (cJ, 48, .inr (.inl Y))), (hr, .inr (2, [.ref ru, .ref rw, .ref rk, .int (nI R), .int (nI sd)]))] 0 0 (fun (r : Int32) (u : (Nat → Int32) × (Nat → Int64)) => r = nI 0 ∧ ∀ j, j < d → u.1 j = nI (pp j)) (fun (u : (Nat → Int32) × (Nat → Int64)) => [(qo, .inl (cJ, 1, .inr (.inl (vp_updL fo 0 ((-1).toInt64))))), (ho, .inr (7, [.ref hr, .ref hs, .ref h, .ref hg, .ref ha, .int vm])), (hs, .inr (4, [.ref sn, .ref ss, .ref su, .int (nI K)])), (sn, .inr (0, [.ref xn])), (xn, .inl (cI, 48, .inl fN)), (ss, .inr (1, [.ref xs])), (xs, .inl (cJ, 48, .inr (.inl fS))), (h, .inr (3, [.ref rp, .ref ly, .int (nI d)])), (rp, .inr (0, [.ref ap])), (ap, .inl (cI, 48, .inl u.1)), (ly, .inl (cJ, 48, .inr (.inl u.2))), (hr, .inr (2, [.ref ru, .ref rw, .ref rk, .int (nI R), .int (nI sd)]))]) := by
  refine CtH.of c_Lw_relate 6 (some .int)  [(0, 12, 15, 19), (0, 12, 19, 13)] (by decide) rfl (Nat.le_of_ble_eq_true rfl) ?_
  intro p e s m args below meth c A Q hA9 hQ9 X hr9 hx9
  have hlk9 := hx9.2.2.2
  refine g_aload X 4 d_Lw_relate_0 rfl ?_
  refine g_iconst (v := nI 0) X d_Lw_relate_2 rfl ?_
  refine g_aload_n X 0 d_Lw_relate_3 rfl rfl ?_
  refine g_iload_n X 1 d_Lw_relate_4 rfl rfl ?_
  refine g_iload_n X 2 d_Lw_relate_5 rfl rfl ?_
  refine g_iload_n X 3 d_Lw_relate_6 rfl rfl ?_
  refine g_calliV (n := 3) X [.int (nI i), .int (nI j), .int (nI kd)] (k_RO_relateR ho hr hs h hg ha vm sn ss su K xs fS rp ly ln ap P Y x y kd xn fN ru rw rk R sd i j d pp (hK) (hR) (hi) (hj) (hk) (ex) (ey) (hx) (hy) (hf) (hT)) t2_43 t2_44 t2_45 t1_1 t2_46 rfl rfl (by decide +kernel) ⟨by decide, by decide⟩ [1, 2, 3, 4, 5, 6, 7, 8, 9, 10, 11] [0] [(qo, .inl (cJ, 1, .inr (.inl fo)))] rfl rfl rfl rfl (by decide) 0 rfl rfl rfl rfl (Nat.le_of_ble_eq_true rfl) d_Lw_relate_7 ⟨by decide, by decide⟩ (fun r1 ⟨P2_1, Z_1⟩ hw9 => ?_)
  obtain ⟨rfl, hw9⟩ := hw9
  refine g_i2l X ((-1).toInt64) d_Lw_relate_10 rfl ?_
  refine g_last X 0 1 [(qo, .inl (cJ, 1, .inr (.inl (vp_updL fo 0 ((-1).toInt64))))), (ho, .inr (7, [.ref hr, .ref hs, .ref h, .ref hg, .ref ha, .int vm])), (hs, .inr (4, [.ref sn, .ref ss, .ref su, .int (nI K)])), (sn, .inr (0, [.ref xn])), (xn, .inl (cI, 48, .inl fN)), (ss, .inr (1, [.ref xs])), (xs, .inl (cJ, 48, .inr (.inl fS))), (h, .inr (3, [.ref rp, .ref ly, .int (nI d)])), (rp, .inr (0, [.ref ap])), (ap, .inl (cI, 48, .inl P2_1)), (ly, .inl (cJ, 48, .inr (.inl Z_1))), (hr, .inr (2, [.ref ru, .ref rw, .ref rk, .int (nI R), .int (nI sd)]))] rfl rfl (by omega) (by omega) rfl d_Lw_relate_11 ?_
  refine g_goto X 23 d_Lw_relate_12 (by decide) ?_
  refine g_iconst (v := nI 0) X d_Lw_relate_23 rfl ?_
  exact g_iret X hA9 hQ9 hr9 hlk9 ⟨P2_1, Z_1⟩ [0, 1, 2, 3, 4, 5, 6, 7, 8, 9, 10, 11] rfl rfl d_Lw_relate_24 (by (try dsimp only); exact (⟨rfl, hw9⟩))

set_option maxHeartbeats 4000000 in
set_option maxRecDepth 100000 in
theorem k_Lw_relateC (ho : Nat) (hr : Nat) (hs : Nat) (h : Nat) (hg : Nat) (ha : Nat) (vm : Int32) (sn : Nat) (ss : Nat) (su : Nat) (K : Nat) (xs : Nat) (fS : Nat → Int64) (rp : Nat) (ly : Nat) (ln : Int32) (Y : Nat → Int64) (x : Nat) (y : Nat) (xn : Nat) (fN : Nat → Int32) (ru : Nat) (rw : Nat) (rk : Nat) (R : Nat) (sd : Nat) (i : Nat) (j : Nat) (au : Nat) (aw : Nat) (ak : Nat) (fA : Nat → Int32) (fB : Nat → Int32) (fK : Nat → Int32) (qo : Nat) (fo : Nat → Int64) (hK : K ≤ 48) (hR : R < 200) (hi : i < K) (hj : j < K) (ex : fN i = nI x) (ey : fN j = nI y) (hx : x < 48) (hy : y < 48) (hf : ∀ z, z < 48 → ∀ j, lb (fS z) j = true → j < 48) (hs9 : sd ≤ 200) : CtH l y_Lw_relate (Cond.codeWith y_Lw_relate c_Lw_relate 6 (some .int)  [(0, 12, 15, 19), (0, 12, 19, 13)] :: TB) ({ frames := 6, cells := 0, slots := 0, locals := 149 } : Room) D (tysv cI cJ cZ cQ) [.ref ho, .int (nI i), .int (nI j), .int (nI 4), .ref qo] [(qo, .inl (cJ, 1, .inr (.inl fo))), (ho, .inr (7, [.ref hr, .ref hs, .ref h, .ref hg, .ref ha, .int vm])), (hs, .inr (4, [.ref sn, .ref ss, .ref su, .int (nI K)])), (sn, .inr (0, [.ref xn])), (xn, .inl (cI, 48, .inl fN)), (ss, .inr (1, [.ref xs])), (xs, .inl (cJ, 48, .inr (.inl fS))), (h, .inr (3, [.ref rp, .ref ly, .int ln])), (ly, .inl (cJ, 48, .inr (.inl Y))), (hr, .inr (2, [.ref ru, .ref rw, .ref rk, .int (nI R), .int (nI sd)])), (ru, .inr (0, [.ref au])), (au, .inl (cI, 200, .inl fA)), (rw, .inr (0, [.ref aw])), (aw, .inl (cI, 200, .inl fB)), (rk, .inr (0, [.ref ak])), (ak, .inl (cI, 200, .inl fK))] 0 0 (fun (r : Int32) (Z : Nat → Int64) => r = nI 0) (fun (Z : Nat → Int64) => [(qo, .inl (cJ, 1, .inr (.inl (vp_updL fo 0 ((nI R).toInt64))))), (ho, .inr (7, [.ref hr, .ref hs, .ref h, .ref hg, .ref ha, .int vm])), (hs, .inr (4, [.ref sn, .ref ss, .ref su, .int (nI K)])), (sn, .inr (0, [.ref xn])), (xn, .inl (cI, 48, .inl fN)), (ss, .inr (1, [.ref xs])), (xs, .inl (cJ, 48, .inr (.inl fS))), (h, .inr (3, [.ref rp, .ref ly, .int ln])), (ly, .inl (cJ, 48, .inr (.inl Z))), (hr, .inr (2, [.ref ru, .ref rw, .ref rk, .int (nI (R + 1)), .int (nI (sd + 1))])), (ru, .inr (0, [.ref au])), (au, .inl (cI, 200, .inl (upd fA R (nI i)))), (rw, .inr (0, [.ref aw])), (aw, .inl (cI, 200, .inl (upd fB R (nI j)))), (rk, .inr (0, [.ref ak])), (ak, .inl (cI, 200, .inl (upd fK R (nI 4))))]) := by
  refine CtH.of c_Lw_relate 6 (some .int)  [(0, 12, 15, 19), (0, 12, 19, 13)] (by decide) rfl (Nat.le_of_ble_eq_true rfl) ?_
  intro p e s m args below meth c A Q hA9 hQ9 X hr9 hx9
  have hlk9 := hx9.2.2.2
  refine g_aload X 4 d_Lw_relate_0 rfl ?_
  refine g_iconst (v := nI 0) X d_Lw_relate_2 rfl ?_
  refine g_aload_n X 0 d_Lw_relate_3 rfl rfl ?_
  refine g_iload_n X 1 d_Lw_relate_4 rfl rfl ?_
  refine g_iload_n X 2 d_Lw_relate_5 rfl rfl ?_
  refine g_iload_n X 3 d_Lw_relate_6 rfl rfl ?_
  refine g_calliV (n := 3) X [.int (nI i), .int (nI j), .int (nI 4)] (k_RO_relateC ho hr hs h hg ha vm sn ss su K xs fS rp ly ln Y x y xn fN ru rw rk R sd i j au aw ak fA fB fK (hK) (hR) (hi) (hj) (ex) (ey) (hx) (hy) (hf) (hs9)) t2_43 t2_44 t2_45 t1_1 t2_46 rfl rfl (by decide +kernel) ⟨by decide, by decide⟩ [1, 2, 3, 4, 5, 6, 7, 8, 9, 10, 11, 12, 13, 14, 15] [0] [(qo, .inl (cJ, 1, .inr (.inl fo)))] rfl rfl rfl rfl (by decide) 0 rfl rfl rfl rfl (Nat.le_of_ble_eq_true rfl) d_Lw_relate_7 ⟨by decide, by decide⟩ (fun r1 Z_1 hw9 => ?_)
  subst hw9
  refine g_i2l X ((nI R).toInt64) d_Lw_relate_10 rfl ?_
  refine g_last X 0 1 [(qo, .inl (cJ, 1, .inr (.inl (vp_updL fo 0 ((nI R).toInt64))))), (ho, .inr (7, [.ref hr, .ref hs, .ref h, .ref hg, .ref ha, .int vm])), (hs, .inr (4, [.ref sn, .ref ss, .ref su, .int (nI K)])), (sn, .inr (0, [.ref xn])), (xn, .inl (cI, 48, .inl fN)), (ss, .inr (1, [.ref xs])), (xs, .inl (cJ, 48, .inr (.inl fS))), (h, .inr (3, [.ref rp, .ref ly, .int ln])), (ly, .inl (cJ, 48, .inr (.inl Z_1))), (hr, .inr (2, [.ref ru, .ref rw, .ref rk, .int (nI (R + 1)), .int (nI (sd + 1))])), (ru, .inr (0, [.ref au])), (au, .inl (cI, 200, .inl (upd fA R (nI i)))), (rw, .inr (0, [.ref aw])), (aw, .inl (cI, 200, .inl (upd fB R (nI j)))), (rk, .inr (0, [.ref ak])), (ak, .inl (cI, 200, .inl (upd fK R (nI 4))))] rfl rfl (by omega) (by omega) rfl d_Lw_relate_11 ?_
  refine g_goto X 23 d_Lw_relate_12 (by decide) ?_
  refine g_iconst (v := nI 0) X d_Lw_relate_23 rfl ?_
  exact g_iret X hA9 hQ9 hr9 hlk9 Z_1 [0, 1, 2, 3, 4, 5, 6, 7, 8, 9, 10, 11, 12, 13, 14, 15] rfl rfl d_Lw_relate_24 (rfl)

set_option maxHeartbeats 4000000 in
set_option maxRecDepth 100000 in
theorem k_Lw_relateA (ho : Nat) (hr : Nat) (hs : Nat) (h : Nat) (hg : Nat) (ha : Nat) (vm : Int32) (sn : Nat) (ss : Nat) (su : Nat) (K : Nat) (xs : Nat) (fS : Nat → Int64) (rp : Nat) (ly : Nat) (ln : Int32) (Y : Nat → Int64) (x : Nat) (y : Nat) (kd : Nat) (xn : Nat) (fN : Nat → Int32) (ru : Nat) (rw : Nat) (rk : Nat) (R : Nat) (sd : Nat) (i : Nat) (j : Nat) (au : Nat) (aw : Nat) (ak : Nat) (fA : Nat → Int32) (fB : Nat → Int32) (fK : Nat → Int32) (xu : Nat) (fU : Nat → Int64) (a : Nat → Nat) (b : Nat → Nat) (qo : Nat) (fo : Nat → Int64) (hK : K ≤ 48) (hR : R < 200) (hi : i < K) (hj : j < K) (hk : kd ≤ 4) (ex : fN i = nI x) (ey : fN j = nI y) (hx : x < 48) (hy : y < 48) (hf : ∀ z, z < 48 → ∀ j, lb (fS z) j = true → j < 48) (hs9 : sd ≤ 200) (hk4 : kd < 4) (hT : kd = 4 ∨ (kd < 3 ∧ (∀ k, ¬ gw (gadd (rowE 48 fS) x y) (k + 1) x x)) ∨ (kd = 3 ∧ x = y) ∨ (kd = 3 ∧ x ≠ y ∧ (∀ k, ¬ gw (gadd (rowE 48 fS) y x) (k + 1) x x) ∧ (∀ k, ¬ gw (gadd (rowE 48 fS) x y) (k + 1) y y))) (hA : ∀ r, r < R → fA r = nI (a r) ∧ a r < K) (hB : ∀ r, r < R → fB r = nI (b r) ∧ b r < K) (hN : ∀ k, K ≤ k → k < 48 → fN k = -1) : CtH l y_Lw_relate (Cond.codeWith y_Lw_relate c_Lw_relate 6 (some .int)  [(0, 12, 15, 19), (0, 12, 19, 13)] :: TB) ({ frames := 6, cells := 0, slots := 0, locals := 149 } : Room) D (tysv cI cJ cZ cQ) [.ref ho, .int (nI i), .int (nI j), .int (nI kd), .ref qo] [(qo, .inl (cJ, 1, .inr (.inl fo))), (ho, .inr (7, [.ref hr, .ref hs, .ref h, .ref hg, .ref ha, .int vm])), (hs, .inr (4, [.ref sn, .ref ss, .ref su, .int (nI K)])), (sn, .inr (0, [.ref xn])), (xn, .inl (cI, 48, .inl fN)), (ss, .inr (1, [.ref xs])), (xs, .inl (cJ, 48, .inr (.inl fS))), (su, .inr (1, [.ref xu])), (xu, .inl (cJ, 48, .inr (.inl fU))), (h, .inr (3, [.ref rp, .ref ly, .int ln])), (ly, .inl (cJ, 48, .inr (.inl Y))), (hr, .inr (2, [.ref ru, .ref rw, .ref rk, .int (nI R), .int (nI sd)])), (ru, .inr (0, [.ref au])), (au, .inl (cI, 200, .inl fA)), (rw, .inr (0, [.ref aw])), (aw, .inl (cI, 200, .inl fB)), (rk, .inr (0, [.ref ak])), (ak, .inl (cI, 200, .inl fK))] 0 0 (fun (r : Int32) (u : (Nat → Int64) × (Nat → Int32) × (Nat → Int64) × (Nat → Int64)) => r = nI 0 ∧ (∀ x, x < K → u.2.1 x = nI (jnum (addN a R i) (addN b R j) (fun r => isEq (upd fK R (nI kd) r)) (R + 1) x)) ∧ (∀ k, K ≤ k → k < 48 → u.2.1 k = -1) ∧ (∀ x, x < 48 → ∀ z9, lb (u.2.2.1 x) z9 = (jst (addN a R i) (addN b R j) (jnum (addN a R i) (addN b R j) (fun r => isEq (upd fK R (nI kd) r)) (R + 1)) (fun r => isAb (upd fK R (nI kd) r)) (R + 1)) x z9) ∧ ∀ x, x < 48 → ∀ z9, lb (u.2.2.2 x) z9 = gwar (jst (addN a R i) (addN b R j) (jnum (addN a R i) (addN b R j) (fun r => isEq (upd fK R (nI kd) r)) (R + 1)) (fun r => isAb (upd fK R (nI kd) r)) (R + 1)) 48 x z9) (fun (u : (Nat → Int64) × (Nat → Int32) × (Nat → Int64) × (Nat → Int64)) => [(qo, .inl (cJ, 1, .inr (.inl (vp_updL fo 0 ((nI R).toInt64))))), (ho, .inr (7, [.ref hr, .ref hs, .ref h, .ref hg, .ref ha, .int vm])), (hs, .inr (4, [.ref sn, .ref ss, .ref su, .int (nI K)])), (sn, .inr (0, [.ref xn])), (xn, .inl (cI, 48, .inl u.2.1)), (ss, .inr (1, [.ref xs])), (xs, .inl (cJ, 48, .inr (.inl u.2.2.1))), (su, .inr (1, [.ref xu])), (xu, .inl (cJ, 48, .inr (.inl u.2.2.2))), (h, .inr (3, [.ref rp, .ref ly, .int ln])), (ly, .inl (cJ, 48, .inr (.inl u.1))), (hr, .inr (2, [.ref ru, .ref rw, .ref rk, .int (nI (R + 1)), .int (nI (sd + 1))])), (ru, .inr (0, [.ref au])), (au, .inl (cI, 200, .inl (upd fA R (nI i)))), (rw, .inr (0, [.ref aw])), (aw, .inl (cI, 200, .inl (upd fB R (nI j)))), (rk, .inr (0, [.ref ak])), (ak, .inl (cI, 200, .inl (upd fK R (nI kd))))]) := by
  refine CtH.of c_Lw_relate 6 (some .int)  [(0, 12, 15, 19), (0, 12, 19, 13)] (by decide) rfl (Nat.le_of_ble_eq_true rfl) ?_
  intro p e s m args below meth c A Q hA9 hQ9 X hr9 hx9
  have hlk9 := hx9.2.2.2
  refine g_aload X 4 d_Lw_relate_0 rfl ?_
  refine g_iconst (v := nI 0) X d_Lw_relate_2 rfl ?_
  refine g_aload_n X 0 d_Lw_relate_3 rfl rfl ?_
  refine g_iload_n X 1 d_Lw_relate_4 rfl rfl ?_
  refine g_iload_n X 2 d_Lw_relate_5 rfl rfl ?_
  refine g_iload_n X 3 d_Lw_relate_6 rfl rfl ?_
  refine g_calliV (n := 3) X [.int (nI i), .int (nI j), .int (nI kd)] (k_RO_relateA ho hr hs h hg ha vm sn ss su K xs fS rp ly ln Y x y kd xn fN ru rw rk R sd i j au aw ak fA fB fK xu fU a b (hK) (hR) (hi) (hj) (hk) (ex) (ey) (hx) (hy) (hf) (hs9) (hk4) (hT) (hA) (hB) (hN)) t2_43 t2_44 t2_45 t1_1 t2_46 rfl rfl (by decide +kernel) ⟨by decide, by decide⟩ [1, 2, 3, 4, 5, 6, 7, 8, 9, 10, 11, 12, 13, 14, 15, 16, 17] [0] [(qo, .inl (cJ, 1, .inr (.inl fo)))] rfl rfl rfl rfl (by decide) 0 rfl rfl rfl rfl (Nat.le_of_ble_eq_true rfl) d_Lw_relate_7 ⟨by decide, by decide⟩ (fun r1 ⟨Z_1, gN_1, gS_1, gU_1⟩ hw9 => ?_)
  obtain ⟨rfl, hw9⟩ := hw9
  refine g_i2l X ((nI R).toInt64) d_Lw_relate_10 rfl ?_
  refine g_last X 0 1 [(qo, .inl (cJ, 1, .inr (.inl (vp_updL fo 0 ((nI R).toInt64))))), (ho, .inr (7, [.ref hr, .ref hs, .ref h, .ref hg, .ref ha, .int vm])), (hs, .inr (4, [.ref sn, .ref ss, .ref su, .int (nI K)])), (sn, .inr (0, [.ref xn])), (xn, .inl (cI, 48, .inl gN_1)), (ss, .inr (1, [.ref xs])), (xs, .inl (cJ, 48, .inr (.inl gS_1))), (su, .inr (1, [.ref xu])), (xu, .inl (cJ, 48, .inr (.inl gU_1))), (h, .inr (3, [.ref rp, .ref ly, .int ln])), (ly, .inl (cJ, 48, .inr (.inl Z_1))), (hr, .inr (2, [.ref ru, .ref rw, .ref rk, .int (nI (R + 1)), .int (nI (sd + 1))])), (ru, .inr (0, [.ref au])), (au, .inl (cI, 200, .inl (upd fA R (nI i)))), (rw, .inr (0, [.ref aw])), (aw, .inl (cI, 200, .inl (upd fB R (nI j)))), (rk, .inr (0, [.ref ak])), (ak, .inl (cI, 200, .inl (upd fK R (nI kd))))] rfl rfl (by omega) (by omega) rfl d_Lw_relate_11 ?_
  refine g_goto X 23 d_Lw_relate_12 (by decide) ?_
  refine g_iconst (v := nI 0) X d_Lw_relate_23 rfl ?_
  exact g_iret X hA9 hQ9 hr9 hlk9 ⟨Z_1, gN_1, gS_1, gU_1⟩ [0, 1, 2, 3, 4, 5, 6, 7, 8, 9, 10, 11, 12, 13, 14, 15, 16, 17] rfl rfl d_Lw_relate_24 (by (try dsimp only); exact (⟨rfl, hw9⟩))

set_option maxHeartbeats 4000000 in
set_option maxRecDepth 100000 in
theorem k_Lw_ring (ho : Nat) (hr : Nat) (hs : Nat) (h : Nat) (hg : Nat) (ha : Nat) (vm : Int32) (rp : Nat) (ly : Nat) (d : Nat) (ap : Nat) (P : Nat → Int32) (k : Nat) (qo : Nat) (fo : Nat → Int64) (hk : k < d) (hd : d ≤ 48) : CtH l y_Lw_ring (Cond.codeWith y_Lw_ring c_Lw_ring 4 (some .int)  [(0, 9, 12, 19)] :: TB) ({ frames := 3, cells := 0, slots := 0, locals := 63 } : Room) D (tysv cI cJ cZ cQ) [.ref ho, .int (nI k), .ref qo] [(qo, .inl (cJ, 1, .inr (.inl fo))), (ho, .inr (7, [.ref hr, .ref hs, .ref h, .ref hg, .ref ha, .int vm])), (h, .inr (3, [.ref rp, .ref ly, .int (nI d)])), (rp, .inr (0, [.ref ap])), (ap, .inl (cI, 48, .inl P))] 0 0 (fun (r : Int32) (_ : Unit) => r = nI 0) (fun (_ : Unit) => [(qo, .inl (cJ, 1, .inr (.inl (vp_updL fo 0 ((P k).toInt64))))), (ho, .inr (7, [.ref hr, .ref hs, .ref h, .ref hg, .ref ha, .int vm])), (h, .inr (3, [.ref rp, .ref ly, .int (nI d)])), (rp, .inr (0, [.ref ap])), (ap, .inl (cI, 48, .inl P))]) := by
  refine CtH.of c_Lw_ring 4 (some .int)  [(0, 9, 12, 19)] (by decide) rfl (Nat.le_of_ble_eq_true rfl) ?_
  intro p e s m args below meth c A Q hA9 hQ9 X hr9 hx9
  have hlk9 := hx9.2.2.2
  refine g_aload_n X 2 d_Lw_ring_0 rfl rfl ?_
  refine g_iconst (v := nI 0) X d_Lw_ring_1 rfl ?_
  refine g_aload_n X 0 d_Lw_ring_2 rfl rfl ?_
  refine g_iload_n X 1 d_Lw_ring_3 rfl rfl ?_
  refine g_calliV (n := 1) X [.int (nI k)] (k_RO_ring ho hr hs h hg ha vm rp ly d ap P k (hk) (hd)) t2_164 t2_165 t2_166 t1_1 t2_167 rfl rfl (by decide +kernel) ⟨by decide, by decide⟩ [1, 2, 3, 4] [0] [(qo, .inl (cJ, 1, .inr (.inl fo)))] rfl rfl rfl rfl (by decide) 0 rfl rfl rfl rfl (Nat.le_of_ble_eq_true rfl) d_Lw_ring_4 ⟨by decide, by decide⟩ (fun r1 w9u1 hw9 => ?_)
  subst hw9
  refine g_i2l X ((P k).toInt64) d_Lw_ring_7 rfl ?_
  refine g_last X 0 1 [(qo, .inl (cJ, 1, .inr (.inl (vp_updL fo 0 ((P k).toInt64))))), (ho, .inr (7, [.ref hr, .ref hs, .ref h, .ref hg, .ref ha, .int vm])), (h, .inr (3, [.ref rp, .ref ly, .int (nI d)])), (rp, .inr (0, [.ref ap])), (ap, .inl (cI, 48, .inl P))] rfl rfl (by omega) (by omega) rfl d_Lw_ring_8 ?_
  refine g_goto X 15 d_Lw_ring_9 (by decide) ?_
  refine g_iconst (v := nI 0) X d_Lw_ring_15 rfl ?_
  exact g_iret X hA9 hQ9 hr9 hlk9 () [0, 1, 2, 3, 4] rfl rfl d_Lw_ring_16 (rfl)

set_option maxHeartbeats 4000000 in
set_option maxRecDepth 100000 in
theorem k_Lw_ringN (ho : Nat) (hr : Nat) (hs : Nat) (h : Nat) (hg : Nat) (ha : Nat) (vm : Int32) (rp : Nat) (ly : Nat) (d : Nat) (k : Nat) (qo : Nat) (fo : Nat → Int64) (hk : d ≤ k) (hk2 : k < 2 ^ 31) : CtH l y_Lw_ring (Cond.codeWith y_Lw_ring c_Lw_ring 4 (some .int)  [(0, 9, 12, 19)] :: TB) ({ frames := 2, cells := 0, slots := 0, locals := 42 } : Room) D (tysv cI cJ cZ cQ) [.ref ho, .int (nI k), .ref qo] [(qo, .inl (cJ, 1, .inr (.inl fo))), (ho, .inr (7, [.ref hr, .ref hs, .ref h, .ref hg, .ref ha, .int vm])), (h, .inr (3, [.ref rp, .ref ly, .int (nI d)]))] 0 0 (fun (r : Int32) (_ : Unit) => r = nI 0) (fun (_ : Unit) => [(qo, .inl (cJ, 1, .inr (.inl (vp_updL fo 0 ((-1).toInt64))))), (ho, .inr (7, [.ref hr, .ref hs, .ref h, .ref hg, .ref ha, .int vm])), (h, .inr (3, [.ref rp, .ref ly, .int (nI d)]))]) := by
  refine CtH.of c_Lw_ring 4 (some .int)  [(0, 9, 12, 19)] (by decide) rfl (Nat.le_of_ble_eq_true rfl) ?_
  intro p e s m args below meth c A Q hA9 hQ9 X hr9 hx9
  have hlk9 := hx9.2.2.2
  refine g_aload_n X 2 d_Lw_ring_0 rfl rfl ?_
  refine g_iconst (v := nI 0) X d_Lw_ring_1 rfl ?_
  refine g_aload_n X 0 d_Lw_ring_2 rfl rfl ?_
  refine g_iload_n X 1 d_Lw_ring_3 rfl rfl ?_
  refine g_calliV (n := 1) X [.int (nI k)] (k_RO_ringN ho hr hs h hg ha vm rp ly d k (hk) (hk2)) t2_164 t2_165 t2_166 t1_1 t2_167 rfl rfl (by decide +kernel) ⟨by decide, by decide⟩ [1, 2] [0] [(qo, .inl (cJ, 1, .inr (.inl fo)))] rfl rfl rfl rfl (by decide) 0 rfl rfl rfl rfl (Nat.le_of_ble_eq_true rfl) d_Lw_ring_4 ⟨by decide, by decide⟩ (fun r1 w9u1 hw9 => ?_)
  subst hw9
  refine g_i2l X ((-1).toInt64) d_Lw_ring_7 rfl ?_
  refine g_last X 0 1 [(qo, .inl (cJ, 1, .inr (.inl (vp_updL fo 0 ((-1).toInt64))))), (ho, .inr (7, [.ref hr, .ref hs, .ref h, .ref hg, .ref ha, .int vm])), (h, .inr (3, [.ref rp, .ref ly, .int (nI d)]))] rfl rfl (by omega) (by omega) rfl d_Lw_ring_8 ?_
  refine g_goto X 15 d_Lw_ring_9 (by decide) ?_
  refine g_iconst (v := nI 0) X d_Lw_ring_15 rfl ?_
  exact g_iret X hA9 hQ9 hr9 hlk9 () [0, 1, 2] rfl rfl d_Lw_ring_16 (rfl)

set_option maxHeartbeats 4000000 in
set_option maxRecDepth 100000 in
theorem k_Lw_undoN (ho : Nat) (hr : Nat) (hs : Nat) (h : Nat) (hg : Nat) (ha : Nat) (vm : Int32) (ru : Nat) (rw : Nat) (rk : Nat) (R : Nat) (sd : Nat) (ak : Nat) (fK : Nat → Int32) (j : Nat) (qo : Nat) (fo : Nat → Int64) (hj : j < R) (hR : R ≤ 200) (hk : fK j = -1) : CtH l y_Lw_undo (Cond.codeWith y_Lw_undo c_Lw_undo 4 (some .int)  [(0, 16, 19, 19)] :: TB) ({ frames := 3, cells := 0, slots := 0, locals := 63 } : Room) D (tysv cI cJ cZ cQ) [.ref ho, .int (nI j), .ref qo] [(qo, .inl (cJ, 1, .inr (.inl fo))), (ho, .inr (7, [.ref hr, .ref hs, .ref h, .ref hg, .ref ha, .int vm])), (hr, .inr (2, [.ref ru, .ref rw, .ref rk, .int (nI R), .int (nI sd)])), (rk, .inr (0, [.ref ak])), (ak, .inl (cI, 200, .inl fK))] 0 0 (fun (r : Int32) (_ : Unit) => r = nI 0) (fun (_ : Unit) => [(qo, .inl (cJ, 1, .inr (.inl (vp_updL fo 0 0)))), (ho, .inr (7, [.ref hr, .ref hs, .ref h, .ref hg, .ref ha, .int vm])), (hr, .inr (2, [.ref ru, .ref rw, .ref rk, .int (nI R), .int (nI sd)])), (rk, .inr (0, [.ref ak])), (ak, .inl (cI, 200, .inl fK))]) := by
  refine CtH.of c_Lw_undo 4 (some .int)  [(0, 16, 19, 19)] (by decide) rfl (Nat.le_of_ble_eq_true rfl) ?_
  intro p e s m args below meth c A Q hA9 hQ9 X hr9 hx9
  have hlk9 := hx9.2.2.2
  refine g_aload_n X 2 d_Lw_undo_0 rfl rfl ?_
  refine g_iconst (v := nI 0) X d_Lw_undo_1 rfl ?_
  refine g_aload_n X 0 d_Lw_undo_2 rfl rfl ?_
  refine g_iload_n X 1 d_Lw_undo_3 rfl rfl ?_
  refine g_calliV (n := 1) X [.int (nI j)] (k_RO_undoN ho hr hs h hg ha vm ru rw rk R sd ak fK j (hj) (hR) (hk)) t2_180 t2_181 t2_182 t1_1 t2_183 rfl rfl (by decide +kernel) ⟨by decide, by decide⟩ [1, 2, 3, 4] [0] [(qo, .inl (cJ, 1, .inr (.inl fo)))] rfl rfl rfl rfl (by decide) 0 rfl rfl rfl rfl (Nat.le_of_ble_eq_true rfl) d_Lw_undo_4 ⟨by decide, by decide⟩ (fun r1 w9u1 hw9 => ?_)
  subst hw9
  refine b_if_eq X 14 d_Lw_undo_7 (by decide) (fun h7 => ?_) (fun h7 => absurd h7 (by decide))
  refine g_lconst (v := 0) X d_Lw_undo_14 rfl ?_
  refine g_last X 0 1 [(qo, .inl (cJ, 1, .inr (.inl (vp_updL fo 0 0)))), (ho, .inr (7, [.ref hr, .ref hs, .ref h, .ref hg, .ref ha, .int vm])), (hr, .inr (2, [.ref ru, .ref rw, .ref rk, .int (nI R), .int (nI sd)])), (rk, .inr (0, [.ref ak])), (ak, .inl (cI, 200, .inl fK))] rfl rfl (by omega) (by omega) rfl d_Lw_undo_15 ?_
  refine g_goto X 22 d_Lw_undo_16 (by decide) ?_
  refine g_iconst (v := nI 0) X d_Lw_undo_22 rfl ?_
  exact g_iret X hA9 hQ9 hr9 hlk9 () [0, 1, 2, 3, 4] rfl rfl d_Lw_undo_23 (rfl)

set_option maxHeartbeats 4000000 in
set_option maxRecDepth 100000 in
theorem k_Lw_undo (ho : Nat) (hr : Nat) (hs : Nat) (h : Nat) (hg : Nat) (ha : Nat) (vm : Int32) (ru : Nat) (rw : Nat) (rk : Nat) (R : Nat) (sd : Nat) (au : Nat) (aw : Nat) (ak : Nat) (fA : Nat → Int32) (fB : Nat → Int32) (fK : Nat → Int32) (sn : Nat) (ss : Nat) (su : Nat) (K : Nat) (xn : Nat) (fN : Nat → Int32) (xs : Nat) (fS : Nat → Int64) (xu : Nat) (fU : Nat → Int64) (a : Nat → Nat) (b : Nat → Nat) (j : Nat) (qo : Nat) (fo : Nat → Int64) (hj : j < R) (hk : ¬ fK j = -1) (hs9 : 0 < sd) (hK : K ≤ 48) (hR : R ≤ 200) (hA : ∀ r, r < R → fA r = nI (a r) ∧ a r < K) (hB : ∀ r, r < R → fB r = nI (b r) ∧ b r < K) (hN : ∀ k, K ≤ k → k < 48 → fN k = -1) : CtH l y_Lw_undo (Cond.codeWith y_Lw_undo c_Lw_undo 4 (some .int)  [(0, 16, 19, 19)] :: TB) ({ frames := 5, cells := 0, slots := 0, locals := 111 } : Room) D (tysv cI cJ cZ cQ) [.ref ho, .int (nI j), .ref qo] [(qo, .inl (cJ, 1, .inr (.inl fo))), (ho, .inr (7, [.ref hr, .ref hs, .ref h, .ref hg, .ref ha, .int vm])), (hs, .inr (4, [.ref sn, .ref ss, .ref su, .int (nI K)])), (sn, .inr (0, [.ref xn])), (xn, .inl (cI, 48, .inl fN)), (ss, .inr (1, [.ref xs])), (xs, .inl (cJ, 48, .inr (.inl fS))), (su, .inr (1, [.ref xu])), (xu, .inl (cJ, 48, .inr (.inl fU))), (hr, .inr (2, [.ref ru, .ref rw, .ref rk, .int (nI R), .int (nI sd)])), (ru, .inr (0, [.ref au])), (au, .inl (cI, 200, .inl fA)), (rw, .inr (0, [.ref aw])), (aw, .inl (cI, 200, .inl fB)), (rk, .inr (0, [.ref ak])), (ak, .inl (cI, 200, .inl fK))] 0 0 (fun (r : Int32) (u : (Nat → Int32) × (Nat → Int64) × (Nat → Int64)) => r = nI 0 ∧ (∀ x, x < K → u.1 x = nI (jnum a b (fun r => isEq (upd fK j (-1) r)) R x)) ∧ (∀ k, K ≤ k → k < 48 → u.1 k = -1) ∧ (∀ x, x < 48 → ∀ z9, lb (u.2.1 x) z9 = (jst a b (jnum a b (fun r => isEq (upd fK j (-1) r)) R) (fun r => isAb (upd fK j (-1) r)) R) x z9) ∧ ∀ x, x < 48 → ∀ z9, lb (u.2.2 x) z9 = gwar (jst a b (jnum a b (fun r => isEq (upd fK j (-1) r)) R) (fun r => isAb (upd fK j (-1) r)) R) 48 x z9) (fun (u : (Nat → Int32) × (Nat → Int64) × (Nat → Int64)) => [(qo, .inl (cJ, 1, .inr (.inl (vp_updL fo 0 1)))), (ho, .inr (7, [.ref hr, .ref hs, .ref h, .ref hg, .ref ha, .int vm])), (hs, .inr (4, [.ref sn, .ref ss, .ref su, .int (nI K)])), (sn, .inr (0, [.ref xn])), (xn, .inl (cI, 48, .inl u.1)), (ss, .inr (1, [.ref xs])), (xs, .inl (cJ, 48, .inr (.inl u.2.1))), (su, .inr (1, [.ref xu])), (xu, .inl (cJ, 48, .inr (.inl u.2.2))), (hr, .inr (2, [.ref ru, .ref rw, .ref rk, .int (nI R), .int (nI (sd - 1))])), (ru, .inr (0, [.ref au])), (au, .inl (cI, 200, .inl fA)), (rw, .inr (0, [.ref aw])), (aw, .inl (cI, 200, .inl fB)), (rk, .inr (0, [.ref ak])), (ak, .inl (cI, 200, .inl (upd fK j (-1))))]) := by
  refine CtH.of c_Lw_undo 4 (some .int)  [(0, 16, 19, 19)] (by decide) rfl (Nat.le_of_ble_eq_true rfl) ?_
  intro p e s m args below meth c A Q hA9 hQ9 X hr9 hx9
  have hlk9 := hx9.2.2.2
  refine g_aload_n X 2 d_Lw_undo_0 rfl rfl ?_
  refine g_iconst (v := nI 0) X d_Lw_undo_1 rfl ?_
  refine g_aload_n X 0 d_Lw_undo_2 rfl rfl ?_
  refine g_iload_n X 1 d_Lw_undo_3 rfl rfl ?_
  refine g_calliV (n := 1) X [.int (nI j)] (k_RO_undo ho hr hs h hg ha vm ru rw rk R sd au aw ak fA fB fK sn ss su K xn fN xs fS xu fU a b j (hj) (hk) (hs9) (hK) (hR) (hA) (hB) (hN)) t2_180 t2_181 t2_182 t1_1 t2_183 rfl rfl (by decide +kernel) ⟨by decide, by decide⟩ [1, 2, 3, 4, 5, 6, 7, 8, 9, 10, 11, 12, 13, 14, 15] [0] [(qo, .inl (cJ, 1, .inr (.inl fo)))] rfl rfl rfl rfl (by decide) 0 rfl rfl rfl rfl (Nat.le_of_ble_eq_true rfl) d_Lw_undo_4 ⟨by decide, by decide⟩ (fun r1 ⟨gN_1, gS_1, gU_1⟩ hw9 => ?_)
  obtain ⟨rfl, hw9⟩ := hw9
  refine b_if_eq X 14 d_Lw_undo_7 (by decide) (fun h7 => absurd h7 (by decide)) (fun h7 => ?_)
  refine g_lconst (v := 1) X d_Lw_undo_10 rfl ?_
  refine g_goto X 15 d_Lw_undo_11 (by decide) ?_
  refine g_last X 0 1 [(qo, .inl (cJ, 1, .inr (.inl (vp_updL fo 0 1)))), (ho, .inr (7, [.ref hr, .ref hs, .ref h, .ref hg, .ref ha, .int vm])), (hs, .inr (4, [.ref sn, .ref ss, .ref su, .int (nI K)])), (sn, .inr (0, [.ref xn])), (xn, .inl (cI, 48, .inl gN_1)), (ss, .inr (1, [.ref xs])), (xs, .inl (cJ, 48, .inr (.inl gS_1))), (su, .inr (1, [.ref xu])), (xu, .inl (cJ, 48, .inr (.inl gU_1))), (hr, .inr (2, [.ref ru, .ref rw, .ref rk, .int (nI R), .int (nI (sd - 1))])), (ru, .inr (0, [.ref au])), (au, .inl (cI, 200, .inl fA)), (rw, .inr (0, [.ref aw])), (aw, .inl (cI, 200, .inl fB)), (rk, .inr (0, [.ref ak])), (ak, .inl (cI, 200, .inl (upd fK j (-1))))] rfl rfl (by omega) (by omega) rfl d_Lw_undo_15 ?_
  refine g_goto X 22 d_Lw_undo_16 (by decide) ?_
  refine g_iconst (v := nI 0) X d_Lw_undo_22 rfl ?_
  exact g_iret X hA9 hQ9 hr9 hlk9 ⟨gN_1, gS_1, gU_1⟩ [0, 1, 2, 3, 4, 5, 6, 7, 8, 9, 10, 11, 12, 13, 14, 15] rfl rfl d_Lw_undo_23 (by (try dsimp only); exact (⟨rfl, hw9⟩))

set_option maxHeartbeats 4000000 in
set_option maxRecDepth 100000 in
theorem k_Lw_order (ho : Nat) (hr : Nat) (hs : Nat) (h : Nat) (hg : Nat) (ha : Nat) (vm : Int32) (sn : Nat) (ss : Nat) (su : Nat) (K : Nat) (xn : Nat) (fN : Nat → Int32) (xu : Nat) (fU : Nat → Int64) (i : Nat) (j : Nat) (x : Nat) (y : Nat) (qo : Nat) (fo : Nat → Int64) (hK : K ≤ 48) (hi : i < K) (hj : j < K) (hx : fN i = nI x) (hy : fN j = nI y) (hx2 : x < 48) (hy2 : y < 48) : CtH l y_Lw_order (Cond.codeWith y_Lw_order c_Lw_order 5 (some .int)  [(0, 10, 13, 19)] :: TB) ({ frames := 4, cells := 0, slots := 0, locals := 87 } : Room) D (tysv cI cJ cZ cQ) [.ref ho, .int (nI i), .int (nI j), .ref qo] [(qo, .inl (cJ, 1, .inr (.inl fo))), (ho, .inr (7, [.ref hr, .ref hs, .ref h, .ref hg, .ref ha, .int vm])), (hs, .inr (4, [.ref sn, .ref ss, .ref su, .int (nI K)])), (sn, .inr (0, [.ref xn])), (xn, .inl (cI, 48, .inl fN)), (su, .inr (1, [.ref xu])), (xu, .inl (cJ, 48, .inr (.inl fU)))] 0 0 (fun (r : Int32) (rv : Int32) => r = nI 0 ∧ rv = (if lb (fU x) y = true then 1 else if lb (fU y) x = true then -1 else 0)) (fun (rv : Int32) => [(qo, .inl (cJ, 1, .inr (.inl (vp_updL fo 0 (rv.toInt64))))), (ho, .inr (7, [.ref hr, .ref hs, .ref h, .ref hg, .ref ha, .int vm])), (hs, .inr (4, [.ref sn, .ref ss, .ref su, .int (nI K)])), (sn, .inr (0, [.ref xn])), (xn, .inl (cI, 48, .inl fN)), (su, .inr (1, [.ref xu])), (xu, .inl (cJ, 48, .inr (.inl fU)))]) := by
  refine CtH.of c_Lw_order 5 (some .int)  [(0, 10, 13, 19)] (by decide) rfl (Nat.le_of_ble_eq_true rfl) ?_
  intro p e s m args below meth c A Q hA9 hQ9 X hr9 hx9
  have hlk9 := hx9.2.2.2
  refine g_aload_n X 3 d_Lw_order_0 rfl rfl ?_
  refine g_iconst (v := nI 0) X d_Lw_order_1 rfl ?_
  refine g_aload_n X 0 d_Lw_order_2 rfl rfl ?_
  refine g_iload_n X 1 d_Lw_order_3 rfl rfl ?_
  refine g_iload_n X 2 d_Lw_order_4 rfl rfl ?_
  refine g_calliV (n := 2) X [.int (nI i), .int (nI j)] (k_RO_order ho hr hs h hg ha vm sn ss su K xn fN xu fU i j x y (hK) (hi) (hj) (hx) (hy) (hx2) (hy2)) t2_192 t2_193 t2_194 t1_1 t2_195 rfl rfl (by decide +kernel) ⟨by decide, by decide⟩ [1, 2, 3, 4, 5, 6] [0] [(qo, .inl (cJ, 1, .inr (.inl fo)))] rfl rfl rfl rfl (by decide) 0 rfl rfl rfl rfl (Nat.le_of_ble_eq_true rfl) d_Lw_order_5 ⟨by decide, by decide⟩ (fun r1 w9u1 hw9 => ?_)
  refine g_i2l X ((r1).toInt64) d_Lw_order_8 rfl ?_
  refine g_last X 0 1 [(qo, .inl (cJ, 1, .inr (.inl (vp_updL fo 0 ((r1).toInt64))))), (ho, .inr (7, [.ref hr, .ref hs, .ref h, .ref hg, .ref ha, .int vm])), (hs, .inr (4, [.ref sn, .ref ss, .ref su, .int (nI K)])), (sn, .inr (0, [.ref xn])), (xn, .inl (cI, 48, .inl fN)), (su, .inr (1, [.ref xu])), (xu, .inl (cJ, 48, .inr (.inl fU)))] rfl rfl (by omega) (by omega) rfl d_Lw_order_9 ?_
  refine g_goto X 17 d_Lw_order_10 (by decide) ?_
  refine g_iconst (v := nI 0) X d_Lw_order_17 rfl ?_
  exact g_iret X hA9 hQ9 hr9 hlk9 r1 [0, 1, 2, 3, 4, 5, 6] rfl rfl d_Lw_order_18 (⟨rfl, hw9⟩)

set_option maxHeartbeats 4000000 in
set_option maxRecDepth 100000 in
theorem k_Lw_linkU (ho : Nat) (hr : Nat) (hs : Nat) (h : Nat) (hg : Nat) (ha : Nat) (vm : Int32) (sn : Nat) (ss : Nat) (su : Nat) (K : Nat) (xu : Nat) (fU : Nat → Int64) (k : Nat) (qo : Nat) (fo : Nat → Int64) (hK : K ≤ 48) (hk2 : k < 2 ^ 20) (hk : k < lsum (fun z9 => cnt (lkB fU K z9) 64) K) (hf : ∀ u, u < 48 → ∀ x, lb (fU u) x = true → x < 48) : CtH l y_Lw_link (Cond.codeWith y_Lw_link c_Lw_link 5 (some .int)  [(0, 10, 13, 19)] :: TB) ({ frames := 5, cells := 0, slots := 0, locals := 118 } : Room) D (tysv cI cJ cZ cQ) [.ref ho, .int (nI k), .int (nI 0), .ref qo] [(qo, .inl (cJ, 1, .inr (.inl fo))), (ho, .inr (7, [.ref hr, .ref hs, .ref h, .ref hg, .ref ha, .int vm])), (hs, .inr (4, [.ref sn, .ref ss, .ref su, .int (nI K)])), (su, .inr (1, [.ref xu])), (xu, .inl (cJ, 48, .inr (.inl fU)))] 0 0 (fun (r : Int32) (u : Nat) => r = nI 0 ∧ u < K ∧ lsum (fun z9 => cnt (lkB fU K z9) 64) u ≤ k ∧ k < lsum (fun z9 => cnt (lkB fU K z9) 64) u + cnt (lkB fU K u) 64) (fun (u : Nat) => [(qo, .inl (cJ, 1, .inr (.inl (vp_updL fo 0 ((nI u).toInt64))))), (ho, .inr (7, [.ref hr, .ref hs, .ref h, .ref hg, .ref ha, .int vm])), (hs, .inr (4, [.ref sn, .ref ss, .ref su, .int (nI K)])), (su, .inr (1, [.ref xu])), (xu, .inl (cJ, 48, .inr (.inl fU)))]) := by
  refine CtH.of c_Lw_link 5 (some .int)  [(0, 10, 13, 19)] (by decide) rfl (Nat.le_of_ble_eq_true rfl) ?_
  intro p e s m args below meth c A Q hA9 hQ9 X hr9 hx9
  have hlk9 := hx9.2.2.2
  refine g_aload_n X 3 d_Lw_link_0 rfl rfl ?_
  refine g_iconst (v := nI 0) X d_Lw_link_1 rfl ?_
  refine g_aload_n X 0 d_Lw_link_2 rfl rfl ?_
  refine g_iload_n X 1 d_Lw_link_3 rfl rfl ?_
  refine g_iload_n X 2 d_Lw_link_4 rfl rfl ?_
  refine g_calliV (n := 2) X [.int (nI k), .int (nI 0)] (k_RO_linkU ho hr hs h hg ha vm sn ss su K xu fU k (hK) (hk2) (hk) (hf)) t2_203 t2_204 t2_205 t1_1 t2_206 rfl rfl (by decide +kernel) ⟨by decide, by decide⟩ [1, 2, 3, 4] [0] [(qo, .inl (cJ, 1, .inr (.inl fo)))] rfl rfl rfl rfl (by decide) 0 rfl rfl rfl rfl (Nat.le_of_ble_eq_true rfl) d_Lw_link_5 ⟨by decide, by decide⟩ (fun r1 u_1 hw9 => ?_)
  obtain ⟨rfl, hw9⟩ := hw9
  refine g_i2l X ((nI u_1).toInt64) d_Lw_link_8 rfl ?_
  refine g_last X 0 1 [(qo, .inl (cJ, 1, .inr (.inl (vp_updL fo 0 ((nI u_1).toInt64))))), (ho, .inr (7, [.ref hr, .ref hs, .ref h, .ref hg, .ref ha, .int vm])), (hs, .inr (4, [.ref sn, .ref ss, .ref su, .int (nI K)])), (su, .inr (1, [.ref xu])), (xu, .inl (cJ, 48, .inr (.inl fU)))] rfl rfl (by omega) (by omega) rfl d_Lw_link_9 ?_
  refine g_goto X 17 d_Lw_link_10 (by decide) ?_
  refine g_iconst (v := nI 0) X d_Lw_link_17 rfl ?_
  exact g_iret X hA9 hQ9 hr9 hlk9 u_1 [0, 1, 2, 3, 4] rfl rfl d_Lw_link_18 (⟨rfl, hw9⟩)

set_option maxHeartbeats 4000000 in
set_option maxRecDepth 100000 in
theorem k_Lw_linkL (ho : Nat) (hr : Nat) (hs : Nat) (h : Nat) (hg : Nat) (ha : Nat) (vm : Int32) (sn : Nat) (ss : Nat) (su : Nat) (K : Nat) (xu : Nat) (fU : Nat → Int64) (k : Nat) (qo : Nat) (fo : Nat → Int64) (hK : K ≤ 48) (hk2 : k < 2 ^ 20) (hk : k < lsum (fun z9 => cnt (lkB fU K z9) 64) K) (hf : ∀ u, u < 48 → ∀ x, lb (fU u) x = true → x < 48) : CtH l y_Lw_link (Cond.codeWith y_Lw_link c_Lw_link 5 (some .int)  [(0, 10, 13, 19)] :: TB) ({ frames := 5, cells := 0, slots := 0, locals := 118 } : Room) D (tysv cI cJ cZ cQ) [.ref ho, .int (nI k), .int (nI 1), .ref qo] [(qo, .inl (cJ, 1, .inr (.inl fo))), (ho, .inr (7, [.ref hr, .ref hs, .ref h, .ref hg, .ref ha, .int vm])), (hs, .inr (4, [.ref sn, .ref ss, .ref su, .int (nI K)])), (su, .inr (1, [.ref xu])), (xu, .inl (cJ, 48, .inr (.inl fU)))] 0 0 (fun (r : Int32) (u : Nat × Nat) => r = nI 0 ∧ u.1 < K ∧ lsum (fun z9 => cnt (lkB fU K z9) 64) u.1 ≤ k ∧ k < lsum (fun z9 => cnt (lkB fU K z9) 64) u.1 + cnt (lkB fU K u.1) 64 ∧ u.2 < 48 ∧ lkB fU K u.1 u.2 = true ∧ cnt (lkB fU K u.1) u.2 = k - lsum (fun z9 => cnt (lkB fU K z9) 64) u.1) (fun (u : Nat × Nat) => [(qo, .inl (cJ, 1, .inr (.inl (vp_updL fo 0 ((nI u.2).toInt64))))), (ho, .inr (7, [.ref hr, .ref hs, .ref h, .ref hg, .ref ha, .int vm])), (hs, .inr (4, [.ref sn, .ref ss, .ref su, .int (nI K)])), (su, .inr (1, [.ref xu])), (xu, .inl (cJ, 48, .inr (.inl fU)))]) := by
  refine CtH.of c_Lw_link 5 (some .int)  [(0, 10, 13, 19)] (by decide) rfl (Nat.le_of_ble_eq_true rfl) ?_
  intro p e s m args below meth c A Q hA9 hQ9 X hr9 hx9
  have hlk9 := hx9.2.2.2
  refine g_aload_n X 3 d_Lw_link_0 rfl rfl ?_
  refine g_iconst (v := nI 0) X d_Lw_link_1 rfl ?_
  refine g_aload_n X 0 d_Lw_link_2 rfl rfl ?_
  refine g_iload_n X 1 d_Lw_link_3 rfl rfl ?_
  refine g_iload_n X 2 d_Lw_link_4 rfl rfl ?_
  refine g_calliV (n := 2) X [.int (nI k), .int (nI 1)] (k_RO_linkL ho hr hs h hg ha vm sn ss su K xu fU k (hK) (hk2) (hk) (hf)) t2_203 t2_204 t2_205 t1_1 t2_206 rfl rfl (by decide +kernel) ⟨by decide, by decide⟩ [1, 2, 3, 4] [0] [(qo, .inl (cJ, 1, .inr (.inl fo)))] rfl rfl rfl rfl (by decide) 0 rfl rfl rfl rfl (Nat.le_of_ble_eq_true rfl) d_Lw_link_5 ⟨by decide, by decide⟩ (fun r1 ⟨u_1, x_1⟩ hw9 => ?_)
  obtain ⟨rfl, hw9⟩ := hw9
  refine g_i2l X ((nI x_1).toInt64) d_Lw_link_8 rfl ?_
  refine g_last X 0 1 [(qo, .inl (cJ, 1, .inr (.inl (vp_updL fo 0 ((nI x_1).toInt64))))), (ho, .inr (7, [.ref hr, .ref hs, .ref h, .ref hg, .ref ha, .int vm])), (hs, .inr (4, [.ref sn, .ref ss, .ref su, .int (nI K)])), (su, .inr (1, [.ref xu])), (xu, .inl (cJ, 48, .inr (.inl fU)))] rfl rfl (by omega) (by omega) rfl d_Lw_link_9 ?_
  refine g_goto X 17 d_Lw_link_10 (by decide) ?_
  refine g_iconst (v := nI 0) X d_Lw_link_17 rfl ?_
  exact g_iret X hA9 hQ9 hr9 hlk9 ⟨u_1, x_1⟩ [0, 1, 2, 3, 4] rfl rfl d_Lw_link_18 (by (try dsimp only); exact (⟨rfl, hw9⟩))

set_option maxHeartbeats 4000000 in
set_option maxRecDepth 100000 in
theorem k_Lw_equal (ho : Nat) (hr : Nat) (hs : Nat) (h : Nat) (hg : Nat) (ha : Nat) (vm : Int32) (sn : Nat) (ss : Nat) (su : Nat) (K : Nat) (xn : Nat) (fN : Nat → Int32) (j : Nat) (qo : Nat) (fo : Nat → Int64) (hj : j < K) (hK : K ≤ 48) : CtH l y_Lw_equal (Cond.codeWith y_Lw_equal c_Lw_equal 4 (some .int)  [(0, 9, 12, 19)] :: TB) ({ frames := 3, cells := 0, slots := 0, locals := 63 } : Room) D (tysv cI cJ cZ cQ) [.ref ho, .int (nI j), .ref qo] [(qo, .inl (cJ, 1, .inr (.inl fo))), (ho, .inr (7, [.ref hr, .ref hs, .ref h, .ref hg, .ref ha, .int vm])), (hs, .inr (4, [.ref sn, .ref ss, .ref su, .int (nI K)])), (sn, .inr (0, [.ref xn])), (xn, .inl (cI, 48, .inl fN))] 0 0 (fun (r : Int32) (_ : Unit) => r = nI 0) (fun (_ : Unit) => [(qo, .inl (cJ, 1, .inr (.inl (vp_updL fo 0 ((fN j).toInt64))))), (ho, .inr (7, [.ref hr, .ref hs, .ref h, .ref hg, .ref ha, .int vm])), (hs, .inr (4, [.ref sn, .ref ss, .ref su, .int (nI K)])), (sn, .inr (0, [.ref xn])), (xn, .inl (cI, 48, .inl fN))]) := by
  refine CtH.of c_Lw_equal 4 (some .int)  [(0, 9, 12, 19)] (by decide) rfl (Nat.le_of_ble_eq_true rfl) ?_
  intro p e s m args below meth c A Q hA9 hQ9 X hr9 hx9
  have hlk9 := hx9.2.2.2
  refine g_aload_n X 2 d_Lw_equal_0 rfl rfl ?_
  refine g_iconst (v := nI 0) X d_Lw_equal_1 rfl ?_
  refine g_aload_n X 0 d_Lw_equal_2 rfl rfl ?_
  refine g_iload_n X 1 d_Lw_equal_3 rfl rfl ?_
  refine g_calliV (n := 1) X [.int (nI j)] (k_RO_equal ho hr hs h hg ha vm sn ss su K xn fN j (hj) (hK)) t2_217 t2_218 t2_219 t1_1 t2_220 rfl rfl (by decide +kernel) ⟨by decide, by decide⟩ [1, 2, 3, 4] [0] [(qo, .inl (cJ, 1, .inr (.inl fo)))] rfl rfl rfl rfl (by decide) 0 rfl rfl rfl rfl (Nat.le_of_ble_eq_true rfl) d_Lw_equal_4 ⟨by decide, by decide⟩ (fun r1 w9u1 hw9 => ?_)
  subst hw9
  refine g_i2l X ((fN j).toInt64) d_Lw_equal_7 rfl ?_
  refine g_last X 0 1 [(qo, .inl (cJ, 1, .inr (.inl (vp_updL fo 0 ((fN j).toInt64))))), (ho, .inr (7, [.ref hr, .ref hs, .ref h, .ref hg, .ref ha, .int vm])), (hs, .inr (4, [.ref sn, .ref ss, .ref su, .int (nI K)])), (sn, .inr (0, [.ref xn])), (xn, .inl (cI, 48, .inl fN))] rfl rfl (by omega) (by omega) rfl d_Lw_equal_8 ?_
  refine g_goto X 15 d_Lw_equal_9 (by decide) ?_
  refine g_iconst (v := nI 0) X d_Lw_equal_15 rfl ?_
  exact g_iret X hA9 hQ9 hr9 hlk9 () [0, 1, 2, 3, 4] rfl rfl d_Lw_equal_16 (rfl)

set_option maxHeartbeats 4000000 in
set_option maxRecDepth 100000 in
theorem k_Lw_contemporary (ho : Nat) (hr : Nat) (hs : Nat) (h : Nat) (hg : Nat) (ha : Nat) (vm : Int32) (sn : Nat) (ss : Nat) (su : Nat) (K : Nat) (xn : Nat) (fN : Nat → Int32) (ru : Nat) (rw : Nat) (rk : Nat) (R : Nat) (sd : Nat) (au : Nat) (aw : Nat) (ak : Nat) (fA : Nat → Int32) (fB : Nat → Int32) (fK : Nat → Int32) (a : Nat → Nat) (b : Nat → Nat) (nm : Nat → Nat) (i : Nat) (j : Nat) (qo : Nat) (fo : Nat → Int64) (hK : K ≤ 48) (hR : R ≤ 200) (hA : ∀ r, r < R → fA r = nI (a r) ∧ a r < K) (hB : ∀ r, r < R → fB r = nI (b r) ∧ b r < K) (hN : ∀ z, z < K → fN z = nI (nm z) ∧ nm z < 48) (hi : i < K) (hj : j < K) : CtH l y_Lw_contemporary (Cond.codeWith y_Lw_contemporary c_Lw_contemporary 5 (some .int)  [(0, 17, 20, 19)] :: TB) ({ frames := 4, cells := 0, slots := 0, locals := 91 } : Room) D (tysv cI cJ cZ cQ) [.ref ho, .int (nI i), .int (nI j), .ref qo] [(qo, .inl (cJ, 1, .inr (.inl fo))), (ho, .inr (7, [.ref hr, .ref hs, .ref h, .ref hg, .ref ha, .int vm])), (hs, .inr (4, [.ref sn, .ref ss, .ref su, .int (nI K)])), (sn, .inr (0, [.ref xn])), (xn, .inl (cI, 48, .inl fN)), (hr, .inr (2, [.ref ru, .ref rw, .ref rk, .int (nI R), .int (nI sd)])), (ru, .inr (0, [.ref au])), (au, .inl (cI, 200, .inl fA)), (rw, .inr (0, [.ref aw])), (aw, .inl (cI, 200, .inl fB)), (rk, .inr (0, [.ref ak])), (ak, .inl (cI, 200, .inl fK))] 0 0 (fun (r : Int32) (ov : Int64) => r = nI 0 ∧ ov = bL (decide (nm i = nm j) || anyB (ctP fK a b nm i j) R)) (fun (ov : Int64) => [(qo, .inl (cJ, 1, .inr (.inl (vp_updL fo 0 ov)))), (ho, .inr (7, [.ref hr, .ref hs, .ref h, .ref hg, .ref ha, .int vm])), (hs, .inr (4, [.ref sn, .ref ss, .ref su, .int (nI K)])), (sn, .inr (0, [.ref xn])), (xn, .inl (cI, 48, .inl fN)), (hr, .inr (2, [.ref ru, .ref rw, .ref rk, .int (nI R), .int (nI sd)])), (ru, .inr (0, [.ref au])), (au, .inl (cI, 200, .inl fA)), (rw, .inr (0, [.ref aw])), (aw, .inl (cI, 200, .inl fB)), (rk, .inr (0, [.ref ak])), (ak, .inl (cI, 200, .inl fK))]) := by
  refine CtH.of c_Lw_contemporary 5 (some .int)  [(0, 17, 20, 19)] (by decide) rfl (Nat.le_of_ble_eq_true rfl) ?_
  intro p e s m args below meth c A Q hA9 hQ9 X hr9 hx9
  have hlk9 := hx9.2.2.2
  refine g_aload_n X 3 d_Lw_contemporary_0 rfl rfl ?_
  refine g_iconst (v := nI 0) X d_Lw_contemporary_1 rfl ?_
  refine g_aload_n X 0 d_Lw_contemporary_2 rfl rfl ?_
  refine g_iload_n X 1 d_Lw_contemporary_3 rfl rfl ?_
  refine g_iload_n X 2 d_Lw_contemporary_4 rfl rfl ?_
  refine g_calliV (n := 2) X [.int (nI i), .int (nI j)] (k_RO_contemporary ho hr hs h hg ha vm sn ss su K xn fN ru rw rk R sd au aw ak fA fB fK a b nm i j (hK) (hR) (hA) (hB) (hN) (hi) (hj)) t2_224 t2_225 t2_226 t1_1 t2_227 rfl rfl (by decide +kernel) ⟨by decide, by decide⟩ [1, 2, 3, 4, 5, 6, 7, 8, 9, 10, 11] [0] [(qo, .inl (cJ, 1, .inr (.inl fo)))] rfl rfl rfl rfl (by decide) 0 rfl rfl rfl rfl (Nat.le_of_ble_eq_true rfl) d_Lw_contemporary_5 ⟨by decide, by decide⟩ (fun r1 w9u1 hw9 => ?_)
  subst hw9
  refine b_if_eq X 15 d_Lw_contemporary_8 (by decide) (fun h8 => ?_) (fun h8 => ?_)
  · refine g_lconst (v := 0) X d_Lw_contemporary_15 rfl ?_
    refine g_last X 0 1 [(qo, .inl (cJ, 1, .inr (.inl (vp_updL fo 0 0)))), (ho, .inr (7, [.ref hr, .ref hs, .ref h, .ref hg, .ref ha, .int vm])), (hs, .inr (4, [.ref sn, .ref ss, .ref su, .int (nI K)])), (sn, .inr (0, [.ref xn])), (xn, .inl (cI, 48, .inl fN)), (hr, .inr (2, [.ref ru, .ref rw, .ref rk, .int (nI R), .int (nI sd)])), (ru, .inr (0, [.ref au])), (au, .inl (cI, 200, .inl fA)), (rw, .inr (0, [.ref aw])), (aw, .inl (cI, 200, .inl fB)), (rk, .inr (0, [.ref ak])), (ak, .inl (cI, 200, .inl fK))] rfl rfl (by omega) (by omega) rfl d_Lw_contemporary_16 ?_
    refine g_goto X 24 d_Lw_contemporary_17 (by decide) ?_
    refine g_iconst (v := nI 0) X d_Lw_contemporary_24 rfl ?_
    exact g_iret X hA9 hQ9 hr9 hlk9 0 [0, 1, 2, 3, 4, 5, 6, 7, 8, 9, 10, 11] rfl rfl d_Lw_contemporary_25 (⟨rfl, by rw [h8]; rfl⟩)
  · refine g_lconst (v := 1) X d_Lw_contemporary_11 rfl ?_
    refine g_goto X 16 d_Lw_contemporary_12 (by decide) ?_
    refine g_last X 0 1 [(qo, .inl (cJ, 1, .inr (.inl (vp_updL fo 0 1)))), (ho, .inr (7, [.ref hr, .ref hs, .ref h, .ref hg, .ref ha, .int vm])), (hs, .inr (4, [.ref sn, .ref ss, .ref su, .int (nI K)])), (sn, .inr (0, [.ref xn])), (xn, .inl (cI, 48, .inl fN)), (hr, .inr (2, [.ref ru, .ref rw, .ref rk, .int (nI R), .int (nI sd)])), (ru, .inr (0, [.ref au])), (au, .inl (cI, 200, .inl fA)), (rw, .inr (0, [.ref aw])), (aw, .inl (cI, 200, .inl fB)), (rk, .inr (0, [.ref ak])), (ak, .inl (cI, 200, .inl fK))] rfl rfl (by omega) (by omega) rfl d_Lw_contemporary_16 ?_
    refine g_goto X 24 d_Lw_contemporary_17 (by decide) ?_
    refine g_iconst (v := nI 0) X d_Lw_contemporary_24 rfl ?_
    exact g_iret X hA9 hQ9 hr9 hlk9 1 [0, 1, 2, 3, 4, 5, 6, 7, 8, 9, 10, 11] rfl rfl d_Lw_contemporary_25 (⟨rfl, by rw [h8]; rfl⟩)

set_option maxHeartbeats 4000000 in
set_option maxRecDepth 100000 in
theorem k_Lw_longest (ho : Nat) (hr : Nat) (hs : Nat) (h : Nat) (hg : Nat) (ha : Nat) (vm : Int32) (sn : Nat) (ss : Nat) (su : Nat) (K : Nat) (xn : Nat) (fN : Nat → Int32) (xu : Nat) (fU : Nat → Int64) (i : Nat) (x : Nat) (E : Nat → Nat → Bool) (qo : Nat) (fo : Nat → Int64) (hi : i < K) (hK : K ≤ 48) (hx : fN i = nI x) (hx2 : x < 48) (hE : gin E 48) (hac : ∀ z, ¬ gov E z z) (hU : ∀ y, y < 48 → ∀ j, lb (fU y) j = true ↔ gov E y j) : CtH l y_Lw_longest (Cond.codeWith y_Lw_longest c_Lw_longest 4 (some .int)  [(0, 9, 12, 19)] :: TB) ({ frames := 3, cells := 0, slots := 0, locals := 70 } : Room) D (tysv cI cJ cZ cQ) [.ref ho, .int (nI i), .ref qo] [(qo, .inl (cJ, 1, .inr (.inl fo))), (ho, .inr (7, [.ref hr, .ref hs, .ref h, .ref hg, .ref ha, .int vm])), (hs, .inr (4, [.ref sn, .ref ss, .ref su, .int (nI K)])), (sn, .inr (0, [.ref xn])), (xn, .inl (cI, 48, .inl fN)), (su, .inr (1, [.ref xu])), (xu, .inl (cJ, 48, .inr (.inl fU)))] 0 0 (fun (r : Int32) (z : Nat) => r = nI 0 ∧ z ≤ 48 ∧ glong E x z) (fun (z : Nat) => [(qo, .inl (cJ, 1, .inr (.inl (vp_updL fo 0 ((nI z).toInt64))))), (ho, .inr (7, [.ref hr, .ref hs, .ref h, .ref hg, .ref ha, .int vm])), (hs, .inr (4, [.ref sn, .ref ss, .ref su, .int (nI K)])), (sn, .inr (0, [.ref xn])), (xn, .inl (cI, 48, .inl fN)), (su, .inr (1, [.ref xu])), (xu, .inl (cJ, 48, .inr (.inl fU)))]) := by
  refine CtH.of c_Lw_longest 4 (some .int)  [(0, 9, 12, 19)] (by decide) rfl (Nat.le_of_ble_eq_true rfl) ?_
  intro p e s m args below meth c A Q hA9 hQ9 X hr9 hx9
  have hlk9 := hx9.2.2.2
  refine g_aload_n X 2 d_Lw_longest_0 rfl rfl ?_
  refine g_iconst (v := nI 0) X d_Lw_longest_1 rfl ?_
  refine g_aload_n X 0 d_Lw_longest_2 rfl rfl ?_
  refine g_iload_n X 1 d_Lw_longest_3 rfl rfl ?_
  refine g_calliV (n := 1) X [.int (nI i)] (k_RO_longest ho hr hs h hg ha vm sn ss su K xn fN xu fU i x E (hi) (hK) (hx) (hx2) (hE) (hac) (hU)) t2_239 t3_0 t3_1 t1_1 t3_2 rfl rfl (by decide +kernel) ⟨by decide, by decide⟩ [1, 2, 3, 4, 5, 6] [0] [(qo, .inl (cJ, 1, .inr (.inl fo)))] rfl rfl rfl rfl (by decide) 0 rfl rfl rfl rfl (Nat.le_of_ble_eq_true rfl) d_Lw_longest_4 ⟨by decide, by decide⟩ (fun r1 z_1 hw9 => ?_)
  obtain ⟨rfl, hw9⟩ := hw9
  refine g_i2l X ((nI z_1).toInt64) d_Lw_longest_7 rfl ?_
  refine g_last X 0 1 [(qo, .inl (cJ, 1, .inr (.inl (vp_updL fo 0 ((nI z_1).toInt64))))), (ho, .inr (7, [.ref hr, .ref hs, .ref h, .ref hg, .ref ha, .int vm])), (hs, .inr (4, [.ref sn, .ref ss, .ref su, .int (nI K)])), (sn, .inr (0, [.ref xn])), (xn, .inl (cI, 48, .inl fN)), (su, .inr (1, [.ref xu])), (xu, .inl (cJ, 48, .inr (.inl fU)))] rfl rfl (by omega) (by omega) rfl d_Lw_longest_8 ?_
  refine g_goto X 15 d_Lw_longest_9 (by decide) ?_
  refine g_iconst (v := nI 0) X d_Lw_longest_15 rfl ?_
  exact g_iret X hA9 hQ9 hr9 hlk9 z_1 [0, 1, 2, 3, 4, 5, 6] rfl rfl d_Lw_longest_16 (⟨rfl, hw9⟩)

set_option maxHeartbeats 4000000 in
set_option maxRecDepth 100000 in
theorem k_Lw_group (ho : Nat) (hr : Nat) (hs : Nat) (h : Nat) (hg : Nat) (ha : Nat) (vm : Int32) (gh : Nat) (gl : Nat) (gr : Nat) (gm : Nat) (qo : Nat) (fo : Nat → Int64) (hm9 : gm < 12) : CtH l y_Lw_group (Cond.codeWith y_Lw_group c_Lw_group 3 (some .int)  [(0, 8, 11, 13)] :: TB) ({ frames := 2, cells := 0, slots := 0, locals := 40 } : Room) D (tysv cI cJ cZ cQ) [.ref ho, .ref qo] [(qo, .inl (cJ, 1, .inr (.inl fo))), (ho, .inr (7, [.ref hr, .ref hs, .ref h, .ref hg, .ref ha, .int vm])), (hg, .inr (5, [.ref gh, .ref gl, .ref gr, .int (nI gm)]))] 0 0 (fun (r : Int32) (_ : Unit) => r = nI 0) (fun (_ : Unit) => [(qo, .inl (cJ, 1, .inr (.inl (vp_updL fo 0 ((nI gm).toInt64))))), (ho, .inr (7, [.ref hr, .ref hs, .ref h, .ref hg, .ref ha, .int vm])), (hg, .inr (5, [.ref gh, .ref gl, .ref gr, .int (nI (gm + 1))]))]) := by
  refine CtH.of c_Lw_group 3 (some .int)  [(0, 8, 11, 13)] (by decide) rfl (Nat.le_of_ble_eq_true rfl) ?_
  intro p e s m args below meth c A Q hA9 hQ9 X hr9 hx9
  have hlk9 := hx9.2.2.2
  refine g_aload_n X 1 d_Lw_group_0 rfl rfl ?_
  refine g_iconst (v := nI 0) X d_Lw_group_1 rfl ?_
  refine g_aload_n X 0 d_Lw_group_2 rfl rfl ?_
  refine g_calliV (n := 0) X [] (k_RO_group ho hr hs h hg ha vm gh gl gr gm (hm9)) t3_11 t3_12 t3_13 t1_1 t3_14 rfl rfl (by decide +kernel) ⟨by decide, by decide⟩ [1, 2] [0] [(qo, .inl (cJ, 1, .inr (.inl fo)))] rfl rfl rfl rfl (by decide) 0 rfl rfl rfl rfl (Nat.le_of_ble_eq_true rfl) d_Lw_group_3 ⟨by decide, by decide⟩ (fun r1 w9u1 hw9 => ?_)
  subst hw9
  refine g_i2l X ((nI gm).toInt64) d_Lw_group_6 rfl ?_
  refine g_last X 0 1 [(qo, .inl (cJ, 1, .inr (.inl (vp_updL fo 0 ((nI gm).toInt64))))), (ho, .inr (7, [.ref hr, .ref hs, .ref h, .ref hg, .ref ha, .int vm])), (hg, .inr (5, [.ref gh, .ref gl, .ref gr, .int (nI (gm + 1))]))] rfl rfl (by omega) (by omega) rfl d_Lw_group_7 ?_
  refine g_goto X 14 d_Lw_group_8 (by decide) ?_
  refine g_iconst (v := nI 0) X d_Lw_group_14 rfl ?_
  exact g_iret X hA9 hQ9 hr9 hlk9 () [0, 1, 2] rfl rfl d_Lw_group_15 (rfl)

set_option maxHeartbeats 4000000 in
set_option maxRecDepth 100000 in
theorem k_Lw_into (ho : Nat) (hr : Nat) (hs : Nat) (h : Nat) (hg : Nat) (ha : Nat) (vm : Int32) (gh : Nat) (gl : Nat) (gr : Nat) (xh : Nat) (fH : Nat → Int32) (xl : Nat) (fL : Nat → Int64) (rp : Nat) (ly : Nat) (ln : Int32) (ap : Nat) (P : Nat → Int32) (Y : Nat → Int64) (sn : Nat) (ss : Nat) (su : Nat) (K : Nat) (xn : Nat) (fN : Nat → Int32) (xu : Nat) (fU : Nat → Int64) (nm : Nat → Nat) (hm : Nat → Nat) (grp : Nat) (ctx : Nat) (gm : Nat) (qo : Nat) (fo : Nat → Int64) (hK : K ≤ 48) (hN : ∀ z, z < K → fN z = nI (nm z) ∧ nm z < 48) (hH : ∀ z, z < 48 → fH z = hI (hm z)) (hgp : grp < 12) (hcx : ctx < 48) (hgm : grp < gm) (hgm2 : gm ≤ 12) (hctx : ctx < K) (hd : ∀ k, ¬ gw (gpE (fun x y => lb (fU (nm x)) (nm y)) (fun z => if z = ctx then grp else hm z) K) (k + 1) grp grp) : CtH l y_Lw_into (Cond.codeWith y_Lw_into c_Lw_into 5 (some .int)  [(0, 17, 20, 19)] :: TB) ({ frames := 6, cells := 0, slots := 0, locals := 135 } : Room) D (tysv cI cJ cZ cQ) [.ref ho, .int (nI grp), .int (nI ctx), .ref qo] [(qo, .inl (cJ, 1, .inr (.inl fo))), (ho, .inr (7, [.ref hr, .ref hs, .ref h, .ref hg, .ref ha, .int vm])), (hg, .inr (5, [.ref gh, .ref gl, .ref gr, .int (nI gm)])), (gh, .inr (0, [.ref xh])), (xh, .inl (cI, 48, .inl fH)), (gl, .inr (1, [.ref xl])), (xl, .inl (cJ, 12, .inr (.inl fL))), (gr, .inr (3, [.ref rp, .ref ly, .int ln])), (rp, .inr (0, [.ref ap])), (ap, .inl (cI, 48, .inl P)), (ly, .inl (cJ, 48, .inr (.inl Y))), (hs, .inr (4, [.ref sn, .ref ss, .ref su, .int (nI K)])), (sn, .inr (0, [.ref xn])), (xn, .inl (cI, 48, .inl fN)), (su, .inr (1, [.ref xu])), (xu, .inl (cJ, 48, .inr (.inl fU)))] 0 0 (fun (r : Int32) (u : (Nat → Int64) × (Nat → Int64)) => r = nI 0) (fun (u : (Nat → Int64) × (Nat → Int64)) => [(qo, .inl (cJ, 1, .inr (.inl (vp_updL fo 0 1)))), (ho, .inr (7, [.ref hr, .ref hs, .ref h, .ref hg, .ref ha, .int vm])), (hg, .inr (5, [.ref gh, .ref gl, .ref gr, .int (nI gm)])), (gh, .inr (0, [.ref xh])), (xh, .inl (cI, 48, .inl (upd fH ctx (nI grp)))), (gl, .inr (1, [.ref xl])), (xl, .inl (cJ, 12, .inr (.inl u.1))), (gr, .inr (3, [.ref rp, .ref ly, .int ln])), (rp, .inr (0, [.ref ap])), (ap, .inl (cI, 48, .inl P)), (ly, .inl (cJ, 48, .inr (.inl u.2))), (hs, .inr (4, [.ref sn, .ref ss, .ref su, .int (nI K)])), (sn, .inr (0, [.ref xn])), (xn, .inl (cI, 48, .inl fN)), (su, .inr (1, [.ref xu])), (xu, .inl (cJ, 48, .inr (.inl fU)))]) := by
  refine CtH.of c_Lw_into 5 (some .int)  [(0, 17, 20, 19)] (by decide) rfl (Nat.le_of_ble_eq_true rfl) ?_
  intro p e s m args below meth c A Q hA9 hQ9 X hr9 hx9
  have hlk9 := hx9.2.2.2
  refine g_aload_n X 3 d_Lw_into_0 rfl rfl ?_
  refine g_iconst (v := nI 0) X d_Lw_into_1 rfl ?_
  refine g_aload_n X 0 d_Lw_into_2 rfl rfl ?_
  refine g_iload_n X 1 d_Lw_into_3 rfl rfl ?_
  refine g_iload_n X 2 d_Lw_into_4 rfl rfl ?_
  refine g_calliV (n := 2) X [.int (nI grp), .int (nI ctx)] (k_RO_into ho hr hs h hg ha vm gh gl gr xh fH xl fL rp ly ln ap P Y sn ss su K xn fN xu fU nm hm grp ctx gm (hK) (hN) (hH) (hgp) (hcx) (hgm) (hgm2) (hctx) (hd)) t3_27 t3_28 t3_29 t1_1 t3_30 rfl rfl (by decide +kernel) ⟨by decide, by decide⟩ [1, 2, 3, 4, 5, 6, 7, 8, 9, 10, 11, 12, 13, 14, 15] [0] [(qo, .inl (cJ, 1, .inr (.inl fo)))] rfl rfl rfl rfl (by decide) 0 rfl rfl rfl rfl (Nat.le_of_ble_eq_true rfl) d_Lw_into_5 ⟨by decide, by decide⟩ (fun r1 ⟨gL_1, Z_1⟩ hw9 => ?_)
  subst hw9
  refine b_if_eq X 15 d_Lw_into_8 (by decide) (fun h8 => absurd h8 (by decide)) (fun h8 => ?_)
  refine g_lconst (v := 1) X d_Lw_into_11 rfl ?_
  refine g_goto X 16 d_Lw_into_12 (by decide) ?_
  refine g_last X 0 1 [(qo, .inl (cJ, 1, .inr (.inl (vp_updL fo 0 1)))), (ho, .inr (7, [.ref hr, .ref hs, .ref h, .ref hg, .ref ha, .int vm])), (hg, .inr (5, [.ref gh, .ref gl, .ref gr, .int (nI gm)])), (gh, .inr (0, [.ref xh])), (xh, .inl (cI, 48, .inl (upd fH ctx (nI grp)))), (gl, .inr (1, [.ref xl])), (xl, .inl (cJ, 12, .inr (.inl gL_1))), (gr, .inr (3, [.ref rp, .ref ly, .int ln])), (rp, .inr (0, [.ref ap])), (ap, .inl (cI, 48, .inl P)), (ly, .inl (cJ, 48, .inr (.inl Z_1))), (hs, .inr (4, [.ref sn, .ref ss, .ref su, .int (nI K)])), (sn, .inr (0, [.ref xn])), (xn, .inl (cI, 48, .inl fN)), (su, .inr (1, [.ref xu])), (xu, .inl (cJ, 48, .inr (.inl fU)))] rfl rfl (by omega) (by omega) rfl d_Lw_into_16 ?_
  refine g_goto X 24 d_Lw_into_17 (by decide) ?_
  refine g_iconst (v := nI 0) X d_Lw_into_24 rfl ?_
  exact g_iret X hA9 hQ9 hr9 hlk9 ⟨gL_1, Z_1⟩ [0, 1, 2, 3, 4, 5, 6, 7, 8, 9, 10, 11, 12, 13, 14, 15] rfl rfl d_Lw_into_25 (rfl)

set_option maxHeartbeats 4000000 in
set_option maxRecDepth 100000 in
theorem k_Lw_intoR (ho : Nat) (hr : Nat) (hs : Nat) (h : Nat) (hg : Nat) (ha : Nat) (vm : Int32) (gh : Nat) (gl : Nat) (gr : Nat) (xh : Nat) (fH : Nat → Int32) (xl : Nat) (fL : Nat → Int64) (rp : Nat) (ly : Nat) (ln : Int32) (ap : Nat) (P : Nat → Int32) (Y : Nat → Int64) (sn : Nat) (ss : Nat) (su : Nat) (K : Nat) (xn : Nat) (fN : Nat → Int32) (xu : Nat) (fU : Nat → Int64) (nm : Nat → Nat) (hm : Nat → Nat) (grp : Nat) (ctx : Nat) (gm : Nat) (d : Nat) (pp : Nat → Nat) (qo : Nat) (fo : Nat → Int64) (hK : K ≤ 48) (hN : ∀ z, z < K → fN z = nI (nm z) ∧ nm z < 48) (hH : ∀ z, z < 48 → fH z = hI (hm z)) (hgp : grp < 12) (hcx : ctx < 48) (hgm : grp < gm) (hgm2 : gm ≤ 12) (hctx : ctx < K) (hd : gring (gpE (fun x y => lb (fU (nm x)) (nm y)) (fun z => if z = ctx then grp else hm z) K) grp d pp) : CtH l y_Lw_into (Cond.codeWith y_Lw_into c_Lw_into 5 (some .int)  [(0, 17, 20, 19)] :: TB) ({ frames := 6, cells := 0, slots := 0, locals := 137 } : Room) D (tysv cI cJ cZ cQ) [.ref ho, .int (nI grp), .int (nI ctx), .ref qo] [(qo, .inl (cJ, 1, .inr (.inl fo))), (ho, .inr (7, [.ref hr, .ref hs, .ref h, .ref hg, .ref ha, .int vm])), (hg, .inr (5, [.ref gh, .ref gl, .ref gr, .int (nI gm)])), (gh, .inr (0, [.ref xh])), (xh, .inl (cI, 48, .inl fH)), (gl, .inr (1, [.ref xl])), (xl, .inl (cJ, 12, .inr (.inl fL))), (gr, .inr (3, [.ref rp, .ref ly, .int ln])), (rp, .inr (0, [.ref ap])), (ap, .inl (cI, 48, .inl P)), (ly, .inl (cJ, 48, .inr (.inl Y))), (hs, .inr (4, [.ref sn, .ref ss, .ref su, .int (nI K)])), (sn, .inr (0, [.ref xn])), (xn, .inl (cI, 48, .inl fN)), (su, .inr (1, [.ref xu])), (xu, .inl (cJ, 48, .inr (.inl fU)))] 0 0 (fun (r : Int32) (u : (Nat → Int64) × (Nat → Int32) × (Nat → Int64)) => r = nI 0 ∧ ∀ j, j < d → u.2.1 j = nI (pp j)) (fun (u : (Nat → Int64) × (Nat → Int32) × (Nat → Int64)) => [(qo, .inl (cJ, 1, .inr (.inl (vp_updL fo 0 0)))), (ho, .inr (7, [.ref hr, .ref hs, .ref h, .ref hg, .ref ha, .int vm])), (hg, .inr (5, [.ref gh, .ref gl, .ref gr, .int (nI gm)])), (gh, .inr (0, [.ref xh])), (xh, .inl (cI, 48, .inl fH)), (gl, .inr (1, [.ref xl])), (xl, .inl (cJ, 12, .inr (.inl u.1))), (gr, .inr (3, [.ref rp, .ref ly, .int (nI d)])), (rp, .inr (0, [.ref ap])), (ap, .inl (cI, 48, .inl u.2.1)), (ly, .inl (cJ, 48, .inr (.inl u.2.2))), (hs, .inr (4, [.ref sn, .ref ss, .ref su, .int (nI K)])), (sn, .inr (0, [.ref xn])), (xn, .inl (cI, 48, .inl fN)), (su, .inr (1, [.ref xu])), (xu, .inl (cJ, 48, .inr (.inl fU)))]) := by
  refine CtH.of c_Lw_into 5 (some .int)  [(0, 17, 20, 19)] (by decide) rfl (Nat.le_of_ble_eq_true rfl) ?_
  intro p e s m args below meth c A Q hA9 hQ9 X hr9 hx9
  have hlk9 := hx9.2.2.2
  refine g_aload_n X 3 d_Lw_into_0 rfl rfl ?_
  refine g_iconst (v := nI 0) X d_Lw_into_1 rfl ?_
  refine g_aload_n X 0 d_Lw_into_2 rfl rfl ?_
  refine g_iload_n X 1 d_Lw_into_3 rfl rfl ?_
  refine g_iload_n X 2 d_Lw_into_4 rfl rfl ?_
  refine g_calliV (n := 2) X [.int (nI grp), .int (nI ctx)] (k_RO_intoR ho hr hs h hg ha vm gh gl gr xh fH xl fL rp ly ln ap P Y sn ss su K xn fN xu fU nm hm grp ctx gm d pp (hK) (hN) (hH) (hgp) (hcx) (hgm) (hgm2) (hctx) (hd)) t3_27 t3_28 t3_29 t1_1 t3_30 rfl rfl (by decide +kernel) ⟨by decide, by decide⟩ [1, 2, 3, 4, 5, 6, 7, 8, 9, 10, 11, 12, 13, 14, 15] [0] [(qo, .inl (cJ, 1, .inr (.inl fo)))] rfl rfl rfl rfl (by decide) 0 rfl rfl rfl rfl (Nat.le_of_ble_eq_true rfl) d_Lw_into_5 ⟨by decide, by decide⟩ (fun r1 ⟨gL_1, P2_1, Z_1⟩ hw9 => ?_)
  obtain ⟨rfl, hw9⟩ := hw9
  refine b_if_eq X 15 d_Lw_into_8 (by decide) (fun h8 => ?_) (fun h8 => absurd h8 (by decide))
  refine g_lconst (v := 0) X d_Lw_into_15 rfl ?_
  refine g_last X 0 1 [(qo, .inl (cJ, 1, .inr (.inl (vp_updL fo 0 0)))), (ho, .inr (7, [.ref hr, .ref hs, .ref h, .ref hg, .ref ha, .int vm])), (hg, .inr (5, [.ref gh, .ref gl, .ref gr, .int (nI gm)])), (gh, .inr (0, [.ref xh])), (xh, .inl (cI, 48, .inl fH)), (gl, .inr (1, [.ref xl])), (xl, .inl (cJ, 12, .inr (.inl gL_1))), (gr, .inr (3, [.ref rp, .ref ly, .int (nI d)])), (rp, .inr (0, [.ref ap])), (ap, .inl (cI, 48, .inl P2_1)), (ly, .inl (cJ, 48, .inr (.inl Z_1))), (hs, .inr (4, [.ref sn, .ref ss, .ref su, .int (nI K)])), (sn, .inr (0, [.ref xn])), (xn, .inl (cI, 48, .inl fN)), (su, .inr (1, [.ref xu])), (xu, .inl (cJ, 48, .inr (.inl fU)))] rfl rfl (by omega) (by omega) rfl d_Lw_into_16 ?_
  refine g_goto X 24 d_Lw_into_17 (by decide) ?_
  refine g_iconst (v := nI 0) X d_Lw_into_24 rfl ?_
  exact g_iret X hA9 hQ9 hr9 hlk9 ⟨gL_1, P2_1, Z_1⟩ [0, 1, 2, 3, 4, 5, 6, 7, 8, 9, 10, 11, 12, 13, 14, 15] rfl rfl d_Lw_into_25 (by (try dsimp only); exact (⟨rfl, hw9⟩))

set_option maxHeartbeats 4000000 in
set_option maxRecDepth 100000 in
theorem k_Lw_groupRing (ho : Nat) (hr : Nat) (hs : Nat) (h : Nat) (hg : Nat) (ha : Nat) (vm : Int32) (gh : Nat) (gl : Nat) (gr : Nat) (mk : Int32) (rp : Nat) (ly : Nat) (d : Nat) (ap : Nat) (P : Nat → Int32) (k : Nat) (qo : Nat) (fo : Nat → Int64) (hk : k < d) (hd : d ≤ 48) : CtH l y_Lw_groupRing (Cond.codeWith y_Lw_groupRing c_Lw_groupRing 4 (some .int)  [(0, 9, 12, 19)] :: TB) ({ frames := 4, cells := 0, slots := 0, locals := 84 } : Room) D (tysv cI cJ cZ cQ) [.ref ho, .int (nI k), .ref qo] [(qo, .inl (cJ, 1, .inr (.inl fo))), (ho, .inr (7, [.ref hr, .ref hs, .ref h, .ref hg, .ref ha, .int vm])), (hg, .inr (5, [.ref gh, .ref gl, .ref gr, .int mk])), (gr, .inr (3, [.ref rp, .ref ly, .int (nI d)])), (rp, .inr (0, [.ref ap])), (ap, .inl (cI, 48, .inl P))] 0 0 (fun (r : Int32) (_ : Unit) => r = nI 0) (fun (_ : Unit) => [(qo, .inl (cJ, 1, .inr (.inl (vp_updL fo 0 ((P k).toInt64))))), (ho, .inr (7, [.ref hr, .ref hs, .ref h, .ref hg, .ref ha, .int vm])), (hg, .inr (5, [.ref gh, .ref gl, .ref gr, .int mk])), (gr, .inr (3, [.ref rp, .ref ly, .int (nI d)])), (rp, .inr (0, [.ref ap])), (ap, .inl (cI, 48, .inl P))]) := by
  refine CtH.of c_Lw_groupRing 4 (some .int)  [(0, 9, 12, 19)] (by decide) rfl (Nat.le_of_ble_eq_true rfl) ?_
  intro p e s m args below meth c A Q hA9 hQ9 X hr9 hx9
  have hlk9 := hx9.2.2.2
  refine g_aload_n X 2 d_Lw_groupRing_0 rfl rfl ?_
  refine g_iconst (v := nI 0) X d_Lw_groupRing_1 rfl ?_
  refine g_aload_n X 0 d_Lw_groupRing_2 rfl rfl ?_
  refine g_iload_n X 1 d_Lw_groupRing_3 rfl rfl ?_
  refine g_calliV (n := 1) X [.int (nI k)] (k_RO_groupRing ho hr hs h hg ha vm gh gl gr mk rp ly d ap P k (hk) (hd)) t3_50 t3_51 t3_52 t1_1 t3_53 rfl rfl (by decide +kernel) ⟨by decide, by decide⟩ [1, 2, 3, 4, 5] [0] [(qo, .inl (cJ, 1, .inr (.inl fo)))] rfl rfl rfl rfl (by decide) 0 rfl rfl rfl rfl (Nat.le_of_ble_eq_true rfl) d_Lw_groupRing_4 ⟨by decide, by decide⟩ (fun r1 w9u1 hw9 => ?_)
  subst hw9
  refine g_i2l X ((P k).toInt64) d_Lw_groupRing_7 rfl ?_
  refine g_last X 0 1 [(qo, .inl (cJ, 1, .inr (.inl (vp_updL fo 0 ((P k).toInt64))))), (ho, .inr (7, [.ref hr, .ref hs, .ref h, .ref hg, .ref ha, .int vm])), (hg, .inr (5, [.ref gh, .ref gl, .ref gr, .int mk])), (gr, .inr (3, [.ref rp, .ref ly, .int (nI d)])), (rp, .inr (0, [.ref ap])), (ap, .inl (cI, 48, .inl P))] rfl rfl (by omega) (by omega) rfl d_Lw_groupRing_8 ?_
  refine g_goto X 15 d_Lw_groupRing_9 (by decide) ?_
  refine g_iconst (v := nI 0) X d_Lw_groupRing_15 rfl ?_
  exact g_iret X hA9 hQ9 hr9 hlk9 () [0, 1, 2, 3, 4, 5] rfl rfl d_Lw_groupRing_16 (rfl)

set_option maxHeartbeats 4000000 in
set_option maxRecDepth 100000 in
theorem k_Lw_groupRingN (ho : Nat) (hr : Nat) (hs : Nat) (h : Nat) (hg : Nat) (ha : Nat) (vm : Int32) (gh : Nat) (gl : Nat) (gr : Nat) (mk : Int32) (rp : Nat) (ly : Nat) (d : Nat) (k : Nat) (qo : Nat) (fo : Nat → Int64) (hk : d ≤ k) (hk2 : k < 2 ^ 31) : CtH l y_Lw_groupRing (Cond.codeWith y_Lw_groupRing c_Lw_groupRing 4 (some .int)  [(0, 9, 12, 19)] :: TB) ({ frames := 3, cells := 0, slots := 0, locals := 63 } : Room) D (tysv cI cJ cZ cQ) [.ref ho, .int (nI k), .ref qo] [(qo, .inl (cJ, 1, .inr (.inl fo))), (ho, .inr (7, [.ref hr, .ref hs, .ref h, .ref hg, .ref ha, .int vm])), (hg, .inr (5, [.ref gh, .ref gl, .ref gr, .int mk])), (gr, .inr (3, [.ref rp, .ref ly, .int (nI d)]))] 0 0 (fun (r : Int32) (_ : Unit) => r = nI 0) (fun (_ : Unit) => [(qo, .inl (cJ, 1, .inr (.inl (vp_updL fo 0 ((-1).toInt64))))), (ho, .inr (7, [.ref hr, .ref hs, .ref h, .ref hg, .ref ha, .int vm])), (hg, .inr (5, [.ref gh, .ref gl, .ref gr, .int mk])), (gr, .inr (3, [.ref rp, .ref ly, .int (nI d)]))]) := by
  refine CtH.of c_Lw_groupRing 4 (some .int)  [(0, 9, 12, 19)] (by decide) rfl (Nat.le_of_ble_eq_true rfl) ?_
  intro p e s m args below meth c A Q hA9 hQ9 X hr9 hx9
  have hlk9 := hx9.2.2.2
  refine g_aload_n X 2 d_Lw_groupRing_0 rfl rfl ?_
  refine g_iconst (v := nI 0) X d_Lw_groupRing_1 rfl ?_
  refine g_aload_n X 0 d_Lw_groupRing_2 rfl rfl ?_
  refine g_iload_n X 1 d_Lw_groupRing_3 rfl rfl ?_
  refine g_calliV (n := 1) X [.int (nI k)] (k_RO_groupRingN ho hr hs h hg ha vm gh gl gr mk rp ly d k (hk) (hk2)) t3_50 t3_51 t3_52 t1_1 t3_53 rfl rfl (by decide +kernel) ⟨by decide, by decide⟩ [1, 2, 3] [0] [(qo, .inl (cJ, 1, .inr (.inl fo)))] rfl rfl rfl rfl (by decide) 0 rfl rfl rfl rfl (Nat.le_of_ble_eq_true rfl) d_Lw_groupRing_4 ⟨by decide, by decide⟩ (fun r1 w9u1 hw9 => ?_)
  subst hw9
  refine g_i2l X ((-1).toInt64) d_Lw_groupRing_7 rfl ?_
  refine g_last X 0 1 [(qo, .inl (cJ, 1, .inr (.inl (vp_updL fo 0 ((-1).toInt64))))), (ho, .inr (7, [.ref hr, .ref hs, .ref h, .ref hg, .ref ha, .int vm])), (hg, .inr (5, [.ref gh, .ref gl, .ref gr, .int mk])), (gr, .inr (3, [.ref rp, .ref ly, .int (nI d)]))] rfl rfl (by omega) (by omega) rfl d_Lw_groupRing_8 ?_
  refine g_goto X 15 d_Lw_groupRing_9 (by decide) ?_
  refine g_iconst (v := nI 0) X d_Lw_groupRing_15 rfl ?_
  exact g_iret X hA9 hQ9 hr9 hlk9 () [0, 1, 2, 3] rfl rfl d_Lw_groupRing_16 (rfl)

set_option maxHeartbeats 4000000 in
set_option maxRecDepth 100000 in
theorem k_Lw_groupOf (ho : Nat) (hr : Nat) (hs : Nat) (h : Nat) (hg : Nat) (ha : Nat) (vm : Int32) (sn : Nat) (ss : Nat) (su : Nat) (K : Nat) (gh : Nat) (gl : Nat) (gr : Nat) (mk : Int32) (xh : Nat) (fH : Nat → Int32) (j : Nat) (qo : Nat) (fo : Nat → Int64) (hj : j < K) (hK : K ≤ 48) : CtH l y_Lw_groupOf (Cond.codeWith y_Lw_groupOf c_Lw_groupOf 4 (some .int)  [(0, 9, 12, 19)] :: TB) ({ frames := 3, cells := 0, slots := 0, locals := 63 } : Room) D (tysv cI cJ cZ cQ) [.ref ho, .int (nI j), .ref qo] [(qo, .inl (cJ, 1, .inr (.inl fo))), (ho, .inr (7, [.ref hr, .ref hs, .ref h, .ref hg, .ref ha, .int vm])), (hs, .inr (4, [.ref sn, .ref ss, .ref su, .int (nI K)])), (hg, .inr (5, [.ref gh, .ref gl, .ref gr, .int mk])), (gh, .inr (0, [.ref xh])), (xh, .inl (cI, 48, .inl fH))] 0 0 (fun (r : Int32) (_ : Unit) => r = nI 0) (fun (_ : Unit) => [(qo, .inl (cJ, 1, .inr (.inl (vp_updL fo 0 ((fH j).toInt64))))), (ho, .inr (7, [.ref hr, .ref hs, .ref h, .ref hg, .ref ha, .int vm])), (hs, .inr (4, [.ref sn, .ref ss, .ref su, .int (nI K)])), (hg, .inr (5, [.ref gh, .ref gl, .ref gr, .int mk])), (gh, .inr (0, [.ref xh])), (xh, .inl (cI, 48, .inl fH))]) := by
  refine CtH.of c_Lw_groupOf 4 (some .int)  [(0, 9, 12, 19)] (by decide) rfl (Nat.le_of_ble_eq_true rfl) ?_
  intro p e s m args below meth c A Q hA9 hQ9 X hr9 hx9
  have hlk9 := hx9.2.2.2
  refine g_aload_n X 2 d_Lw_groupOf_0 rfl rfl ?_
  refine g_iconst (v := nI 0) X d_Lw_groupOf_1 rfl ?_
  refine g_aload_n X 0 d_Lw_groupOf_2 rfl rfl ?_
  refine g_iload_n X 1 d_Lw_groupOf_3 rfl rfl ?_
  refine g_calliV (n := 1) X [.int (nI j)] (k_RO_groupOf ho hr hs h hg ha vm sn ss su K gh gl gr mk xh fH j (hj) (hK)) t3_62 t3_63 t3_64 t1_1 t3_65 rfl rfl (by decide +kernel) ⟨by decide, by decide⟩ [1, 2, 3, 4, 5] [0] [(qo, .inl (cJ, 1, .inr (.inl fo)))] rfl rfl rfl rfl (by decide) 0 rfl rfl rfl rfl (Nat.le_of_ble_eq_true rfl) d_Lw_groupOf_4 ⟨by decide, by decide⟩ (fun r1 w9u1 hw9 => ?_)
  subst hw9
  refine g_i2l X ((fH j).toInt64) d_Lw_groupOf_7 rfl ?_
  refine g_last X 0 1 [(qo, .inl (cJ, 1, .inr (.inl (vp_updL fo 0 ((fH j).toInt64))))), (ho, .inr (7, [.ref hr, .ref hs, .ref h, .ref hg, .ref ha, .int vm])), (hs, .inr (4, [.ref sn, .ref ss, .ref su, .int (nI K)])), (hg, .inr (5, [.ref gh, .ref gl, .ref gr, .int mk])), (gh, .inr (0, [.ref xh])), (xh, .inl (cI, 48, .inl fH))] rfl rfl (by omega) (by omega) rfl d_Lw_groupOf_8 ?_
  refine g_goto X 15 d_Lw_groupOf_9 (by decide) ?_
  refine g_iconst (v := nI 0) X d_Lw_groupOf_15 rfl ?_
  exact g_iret X hA9 hQ9 hr9 hlk9 () [0, 1, 2, 3, 4, 5] rfl rfl d_Lw_groupOf_16 (rfl)

set_option maxHeartbeats 4000000 in
set_option maxRecDepth 100000 in
theorem k_Lw_version (ho : Nat) (hr : Nat) (hs : Nat) (h : Nat) (hg : Nat) (ha : Nat) (vv : Nat) (fV : Nat → Option Nat) (sn : Nat) (ss : Nat) (su : Nat) (K : Nat) (xn : Nat) (fN : Nat → Int32) (xu : Nat) (fU : Nat → Int64) (nm : Nat → Nat) (qo : Nat) (fo : Nat → Int64) (hv9 : vv < 8) (hK : K ≤ 48) (hN : ∀ z, z < K → fN z = nI (nm z) ∧ nm z < 48) : CtH l y_Lw_version (Cond.codeWith y_Lw_version c_Lw_version 3 (some .int)  [(0, 8, 11, 13)] :: TB) ({ frames := 5, cells := 7, slots := 150, locals := 108 } : Room) D (tysv cI cJ cZ cQ) [.ref ho, .ref qo] [(qo, .inl (cJ, 1, .inr (.inl fo))), (ho, .inr (7, [.ref hr, .ref hs, .ref h, .ref hg, .ref ha, .int (nI vv)])), (ha, .inl (cQ, 8, .inr (.inr (.inr (.inr fV))))), (hs, .inr (4, [.ref sn, .ref ss, .ref su, .int (nI K)])), (sn, .inr (0, [.ref xn])), (xn, .inl (cI, 48, .inl fN)), (su, .inr (1, [.ref xu])), (xu, .inl (cJ, 48, .inr (.inl fU)))] 7 150 (fun (r : Int32) (u : Nat × Nat × Nat × Nat × Nat × Nat × Nat × (Nat → Int32) × (Nat → Int64) × (Nat → Int64)) => r = nI 0 ∧ (∀ k, k < K → u.2.2.2.2.2.2.2.1 k = fN k) ∧ (∀ k, K ≤ k → k < 48 → u.2.2.2.2.2.2.2.1 k = -1) ∧ vvA (fun x y => lb (fU (nm x)) (nm y)) K K 0 u.2.2.2.2.2.2.2.2.1 ∧ vvB (fun x y => lb (fU (nm x)) (nm y)) K K 0 u.2.2.2.2.2.2.2.2.2) (fun (u : Nat × Nat × Nat × Nat × Nat × Nat × Nat × (Nat → Int32) × (Nat → Int64) × (Nat → Int64)) => [(qo, .inl (cJ, 1, .inr (.inl (vp_updL fo 0 ((nI vv).toInt64))))), (ho, .inr (7, [.ref hr, .ref hs, .ref h, .ref hg, .ref ha, .int (nI (vv + 1))])), (ha, .inl (cQ, 8, .inr (.inr (.inr (.inr (va_up fV vv (some u.1))))))), (hs, .inr (4, [.ref sn, .ref ss, .ref su, .int (nI K)])), (sn, .inr (0, [.ref xn])), (xn, .inl (cI, 48, .inl fN)), (su, .inr (1, [.ref xu])), (xu, .inl (cJ, 48, .inr (.inl fU))), (u.1, .inr (6, [.ref u.2.1, .ref u.2.2.2.1, .ref u.2.2.2.2.2.1])), (u.2.1, .inr (0, [.ref u.2.2.1])), (u.2.2.1, .inl (cI, 48, .inl u.2.2.2.2.2.2.2.1)), (u.2.2.2.1, .inr (1, [.ref u.2.2.2.2.1])), (u.2.2.2.2.1, .inl (cJ, 48, .inr (.inl u.2.2.2.2.2.2.2.2.1))), (u.2.2.2.2.2.1, .inr (1, [.ref u.2.2.2.2.2.2.1])), (u.2.2.2.2.2.2.1, .inl (cJ, 48, .inr (.inl u.2.2.2.2.2.2.2.2.2)))]) := by
  refine CtH.of c_Lw_version 3 (some .int)  [(0, 8, 11, 13)] (by decide) rfl (Nat.le_of_ble_eq_true rfl) ?_
  intro p e s m args below meth c A Q hA9 hQ9 X hr9 hx9
  have hlk9 := hx9.2.2.2
  refine g_aload_n X 1 d_Lw_version_0 rfl rfl ?_
  refine g_iconst (v := nI 0) X d_Lw_version_1 rfl ?_
  refine g_aload_n X 0 d_Lw_version_2 rfl rfl ?_
  refine g_calliV (n := 0) X [] (k_RO_version ho hr hs h hg ha vv fV sn ss su K xn fN xu fU nm (hv9) (hK) (hN)) t3_73 t3_74 t3_75 t1_1 t3_76 rfl rfl (by decide +kernel) ⟨by decide, by decide⟩ [1, 2, 3, 4, 5, 6, 7] [0] [(qo, .inl (cJ, 1, .inr (.inl fo)))] rfl rfl rfl rfl (by decide) 0 rfl rfl rfl rfl (Nat.le_of_ble_eq_true rfl) d_Lw_version_3 ⟨by decide, by decide⟩ (fun r1 ⟨hv_1, vn_1, yn_1, vu_1, yu_1, vo_1, yo_1, gN_1, gA_1, gB_1⟩ hw9 => ?_)
  obtain ⟨rfl, hw9⟩ := hw9
  refine g_i2l X ((nI vv).toInt64) d_Lw_version_6 rfl ?_
  refine g_last X 0 1 [(qo, .inl (cJ, 1, .inr (.inl (vp_updL fo 0 ((nI vv).toInt64))))), (ho, .inr (7, [.ref hr, .ref hs, .ref h, .ref hg, .ref ha, .int (nI (vv + 1))])), (ha, .inl (cQ, 8, .inr (.inr (.inr (.inr (va_up fV vv (some hv_1))))))), (hs, .inr (4, [.ref sn, .ref ss, .ref su, .int (nI K)])), (sn, .inr (0, [.ref xn])), (xn, .inl (cI, 48, .inl fN)), (su, .inr (1, [.ref xu])), (xu, .inl (cJ, 48, .inr (.inl fU))), (hv_1, .inr (6, [.ref vn_1, .ref vu_1, .ref vo_1])), (vn_1, .inr (0, [.ref yn_1])), (yn_1, .inl (cI, 48, .inl gN_1)), (vu_1, .inr (1, [.ref yu_1])), (yu_1, .inl (cJ, 48, .inr (.inl gA_1))), (vo_1, .inr (1, [.ref yo_1])), (yo_1, .inl (cJ, 48, .inr (.inl gB_1)))] rfl rfl (by omega) (by omega) rfl d_Lw_version_7 ?_
  refine g_goto X 14 d_Lw_version_8 (by decide) ?_
  refine g_iconst (v := nI 0) X d_Lw_version_14 rfl ?_
  exact g_iret X hA9 hQ9 hr9 hlk9 ⟨hv_1, vn_1, yn_1, vu_1, yu_1, vo_1, yo_1, gN_1, gA_1, gB_1⟩ [0, 1, 2, 3, 4, 5, 6, 7, 8, 9, 10, 11, 12, 13, 14] rfl rfl d_Lw_version_15 (by (try dsimp only); exact (⟨rfl, hw9⟩))

set_option maxHeartbeats 4000000 in
set_option maxRecDepth 100000 in
theorem k_Lw_differs (ho : Nat) (hr : Nat) (hs : Nat) (h : Nat) (hg : Nat) (ha : Nat) (vm : Int32) (fV : Nat → Option Nat) (hv : Nat) (vn : Nat) (vu : Nat) (vo : Nat) (yn : Nat) (yu : Nat) (yo : Nat) (n1 : Nat → Int32) (u1 : Nat → Int64) (o1 : Nat → Int64) (hw : Nat) (wn : Nat) (wu : Nat) (wo : Nat) (zn : Nat) (zu : Nat) (zo : Nat) (n2 : Nat → Int32) (u2 : Nat → Int64) (o2 : Nat → Int64) (i : Nat) (j : Nat) (k : Nat) (qo : Nat) (fo : Nat → Int64) (hi : i < 8) (hj : j < 8) (hi2 : fV i = some hv) (hj2 : fV j = some hw) (hk : k < 2 ^ 20) (hx : ∃ x, x < 48 ∧ dfB n1 n2 u1 u2 o1 o2 x = true ∧ cnt (dfB n1 n2 u1 u2 o1 o2) x = k) : CtH l y_Lw_differs (Cond.codeWith y_Lw_differs c_Lw_differs 6 (some .int)  [(0, 12, 15, 19)] :: TB) ({ frames := 4, cells := 0, slots := 0, locals := 91 } : Room) D (tysv cI cJ cZ cQ) [.ref ho, .int (nI i), .int (nI j), .int (nI k), .ref qo] [(qo, .inl (cJ, 1, .inr (.inl fo))), (ho, .inr (7, [.ref hr, .ref hs, .ref h, .ref hg, .ref ha, .int vm])), (ha, .inl (cQ, 8, .inr (.inr (.inr (.inr fV))))), (hv, .inr (6, [.ref vn, .ref vu, .ref vo])), (vn, .inr (0, [.ref yn])), (yn, .inl (cI, 48, .inl n1)), (vu, .inr (1, [.ref yu])), (yu, .inl (cJ, 48, .inr (.inl u1))), (vo, .inr (1, [.ref yo])), (yo, .inl (cJ, 48, .inr (.inl o1))), (hw, .inr (6, [.ref wn, .ref wu, .ref wo])), (wn, .inr (0, [.ref zn])), (zn, .inl (cI, 48, .inl n2)), (wu, .inr (1, [.ref zu])), (zu, .inl (cJ, 48, .inr (.inl u2))), (wo, .inr (1, [.ref zo])), (zo, .inl (cJ, 48, .inr (.inl o2)))] 0 0 (fun (r : Int32) (x : Nat) => r = nI 0 ∧ x < 48 ∧ dfB n1 n2 u1 u2 o1 o2 x = true ∧ cnt (dfB n1 n2 u1 u2 o1 o2) x = k) (fun (x : Nat) => [(qo, .inl (cJ, 1, .inr (.inl (vp_updL fo 0 ((nI x).toInt64))))), (ho, .inr (7, [.ref hr, .ref hs, .ref h, .ref hg, .ref ha, .int vm])), (ha, .inl (cQ, 8, .inr (.inr (.inr (.inr fV))))), (hv, .inr (6, [.ref vn, .ref vu, .ref vo])), (vn, .inr (0, [.ref yn])), (yn, .inl (cI, 48, .inl n1)), (vu, .inr (1, [.ref yu])), (yu, .inl (cJ, 48, .inr (.inl u1))), (vo, .inr (1, [.ref yo])), (yo, .inl (cJ, 48, .inr (.inl o1))), (hw, .inr (6, [.ref wn, .ref wu, .ref wo])), (wn, .inr (0, [.ref zn])), (zn, .inl (cI, 48, .inl n2)), (wu, .inr (1, [.ref zu])), (zu, .inl (cJ, 48, .inr (.inl u2))), (wo, .inr (1, [.ref zo])), (zo, .inl (cJ, 48, .inr (.inl o2)))]) := by
  refine CtH.of c_Lw_differs 6 (some .int)  [(0, 12, 15, 19)] (by decide) rfl (Nat.le_of_ble_eq_true rfl) ?_
  intro p e s m args below meth c A Q hA9 hQ9 X hr9 hx9
  have hlk9 := hx9.2.2.2
  refine g_aload X 4 d_Lw_differs_0 rfl ?_
  refine g_iconst (v := nI 0) X d_Lw_differs_2 rfl ?_
  refine g_aload_n X 0 d_Lw_differs_3 rfl rfl ?_
  refine g_iload_n X 1 d_Lw_differs_4 rfl rfl ?_
  refine g_iload_n X 2 d_Lw_differs_5 rfl rfl ?_
  refine g_iload_n X 3 d_Lw_differs_6 rfl rfl ?_
  refine g_calliV (n := 3) X [.int (nI i), .int (nI j), .int (nI k)] (k_RO_differs ho hr hs h hg ha vm fV hv vn vu vo yn yu yo n1 u1 o1 hw wn wu wo zn zu zo n2 u2 o2 i j k (hi) (hj) (hi2) (hj2) (hk) (hx)) t3_105 t3_106 t3_107 t1_1 t3_108 rfl rfl (by decide +kernel) ⟨by decide, by decide⟩ [1, 2, 3, 4, 5, 6, 7, 8, 9, 10, 11, 12, 13, 14, 15, 16] [0] [(qo, .inl (cJ, 1, .inr (.inl fo)))] rfl rfl rfl rfl (by decide) 0 rfl rfl rfl rfl (Nat.le_of_ble_eq_true rfl) d_Lw_differs_7 ⟨by decide, by decide⟩ (fun r1 x_1 hw9 => ?_)
  obtain ⟨rfl, hw9⟩ := hw9
  refine g_i2l X ((nI x_1).toInt64) d_Lw_differs_10 rfl ?_
  refine g_last X 0 1 [(qo, .inl (cJ, 1, .inr (.inl (vp_updL fo 0 ((nI x_1).toInt64))))), (ho, .inr (7, [.ref hr, .ref hs, .ref h, .ref hg, .ref ha, .int vm])), (ha, .inl (cQ, 8, .inr (.inr (.inr (.inr fV))))), (hv, .inr (6, [.ref vn, .ref vu, .ref vo])), (vn, .inr (0, [.ref yn])), (yn, .inl (cI, 48, .inl n1)), (vu, .inr (1, [.ref yu])), (yu, .inl (cJ, 48, .inr (.inl u1))), (vo, .inr (1, [.ref yo])), (yo, .inl (cJ, 48, .inr (.inl o1))), (hw, .inr (6, [.ref wn, .ref wu, .ref wo])), (wn, .inr (0, [.ref zn])), (zn, .inl (cI, 48, .inl n2)), (wu, .inr (1, [.ref zu])), (zu, .inl (cJ, 48, .inr (.inl u2))), (wo, .inr (1, [.ref zo])), (zo, .inl (cJ, 48, .inr (.inl o2)))] rfl rfl (by omega) (by omega) rfl d_Lw_differs_11 ?_
  refine g_goto X 19 d_Lw_differs_12 (by decide) ?_
  refine g_iconst (v := nI 0) X d_Lw_differs_19 rfl ?_
  exact g_iret X hA9 hQ9 hr9 hlk9 x_1 [0, 1, 2, 3, 4, 5, 6, 7, 8, 9, 10, 11, 12, 13, 14, 15, 16] rfl rfl d_Lw_differs_20 (⟨rfl, hw9⟩)

set_option maxHeartbeats 4000000 in
set_option maxRecDepth 100000 in
theorem k_Lw_differsN (ho : Nat) (hr : Nat) (hs : Nat) (h : Nat) (hg : Nat) (ha : Nat) (vm : Int32) (fV : Nat → Option Nat) (hv : Nat) (vn : Nat) (vu : Nat) (vo : Nat) (yn : Nat) (yu : Nat) (yo : Nat) (n1 : Nat → Int32) (u1 : Nat → Int64) (o1 : Nat → Int64) (hw : Nat) (wn : Nat) (wu : Nat) (wo : Nat) (zn : Nat) (zu : Nat) (zo : Nat) (n2 : Nat → Int32) (u2 : Nat → Int64) (o2 : Nat → Int64) (i : Nat) (j : Nat) (k : Nat) (qo : Nat) (fo : Nat → Int64) (hi : i < 8) (hj : j < 8) (hi2 : fV i = some hv) (hj2 : fV j = some hw) (hk : k < 2 ^ 31) (hx : cnt (dfB n1 n2 u1 u2 o1 o2) 48 ≤ k) : CtH l y_Lw_differs (Cond.codeWith y_Lw_differs c_Lw_differs 6 (some .int)  [(0, 12, 15, 19)] :: TB) ({ frames := 4, cells := 0, slots := 0, locals := 91 } : Room) D (tysv cI cJ cZ cQ) [.ref ho, .int (nI i), .int (nI j), .int (nI k), .ref qo] [(qo, .inl (cJ, 1, .inr (.inl fo))), (ho, .inr (7, [.ref hr, .ref hs, .ref h, .ref hg, .ref ha, .int vm])), (ha, .inl (cQ, 8, .inr (.inr (.inr (.inr fV))))), (hv, .inr (6, [.ref vn, .ref vu, .ref vo])), (vn, .inr (0, [.ref yn])), (yn, .inl (cI, 48, .inl n1)), (vu, .inr (1, [.ref yu])), (yu, .inl (cJ, 48, .inr (.inl u1))), (vo, .inr (1, [.ref yo])), (yo, .inl (cJ, 48, .inr (.inl o1))), (hw, .inr (6, [.ref wn, .ref wu, .ref wo])), (wn, .inr (0, [.ref zn])), (zn, .inl (cI, 48, .inl n2)), (wu, .inr (1, [.ref zu])), (zu, .inl (cJ, 48, .inr (.inl u2))), (wo, .inr (1, [.ref zo])), (zo, .inl (cJ, 48, .inr (.inl o2)))] 0 0 (fun (r : Int32) (_ : Unit) => r = nI 0) (fun (_ : Unit) => [(qo, .inl (cJ, 1, .inr (.inl (vp_updL fo 0 ((-1).toInt64))))), (ho, .inr (7, [.ref hr, .ref hs, .ref h, .ref hg, .ref ha, .int vm])), (ha, .inl (cQ, 8, .inr (.inr (.inr (.inr fV))))), (hv, .inr (6, [.ref vn, .ref vu, .ref vo])), (vn, .inr (0, [.ref yn])), (yn, .inl (cI, 48, .inl n1)), (vu, .inr (1, [.ref yu])), (yu, .inl (cJ, 48, .inr (.inl u1))), (vo, .inr (1, [.ref yo])), (yo, .inl (cJ, 48, .inr (.inl o1))), (hw, .inr (6, [.ref wn, .ref wu, .ref wo])), (wn, .inr (0, [.ref zn])), (zn, .inl (cI, 48, .inl n2)), (wu, .inr (1, [.ref zu])), (zu, .inl (cJ, 48, .inr (.inl u2))), (wo, .inr (1, [.ref zo])), (zo, .inl (cJ, 48, .inr (.inl o2)))]) := by
  refine CtH.of c_Lw_differs 6 (some .int)  [(0, 12, 15, 19)] (by decide) rfl (Nat.le_of_ble_eq_true rfl) ?_
  intro p e s m args below meth c A Q hA9 hQ9 X hr9 hx9
  have hlk9 := hx9.2.2.2
  refine g_aload X 4 d_Lw_differs_0 rfl ?_
  refine g_iconst (v := nI 0) X d_Lw_differs_2 rfl ?_
  refine g_aload_n X 0 d_Lw_differs_3 rfl rfl ?_
  refine g_iload_n X 1 d_Lw_differs_4 rfl rfl ?_
  refine g_iload_n X 2 d_Lw_differs_5 rfl rfl ?_
  refine g_iload_n X 3 d_Lw_differs_6 rfl rfl ?_
  refine g_calliV (n := 3) X [.int (nI i), .int (nI j), .int (nI k)] (k_RO_differsN ho hr hs h hg ha vm fV hv vn vu vo yn yu yo n1 u1 o1 hw wn wu wo zn zu zo n2 u2 o2 i j k (hi) (hj) (hi2) (hj2) (hk) (hx)) t3_105 t3_106 t3_107 t1_1 t3_108 rfl rfl (by decide +kernel) ⟨by decide, by decide⟩ [1, 2, 3, 4, 5, 6, 7, 8, 9, 10, 11, 12, 13, 14, 15, 16] [0] [(qo, .inl (cJ, 1, .inr (.inl fo)))] rfl rfl rfl rfl (by decide) 0 rfl rfl rfl rfl (Nat.le_of_ble_eq_true rfl) d_Lw_differs_7 ⟨by decide, by decide⟩ (fun r1 w9u1 hw9 => ?_)
  subst hw9
  refine g_i2l X ((-1).toInt64) d_Lw_differs_10 rfl ?_
  refine g_last X 0 1 [(qo, .inl (cJ, 1, .inr (.inl (vp_updL fo 0 ((-1).toInt64))))), (ho, .inr (7, [.ref hr, .ref hs, .ref h, .ref hg, .ref ha, .int vm])), (ha, .inl (cQ, 8, .inr (.inr (.inr (.inr fV))))), (hv, .inr (6, [.ref vn, .ref vu, .ref vo])), (vn, .inr (0, [.ref yn])), (yn, .inl (cI, 48, .inl n1)), (vu, .inr (1, [.ref yu])), (yu, .inl (cJ, 48, .inr (.inl u1))), (vo, .inr (1, [.ref yo])), (yo, .inl (cJ, 48, .inr (.inl o1))), (hw, .inr (6, [.ref wn, .ref wu, .ref wo])), (wn, .inr (0, [.ref zn])), (zn, .inl (cI, 48, .inl n2)), (wu, .inr (1, [.ref zu])), (zu, .inl (cJ, 48, .inr (.inl u2))), (wo, .inr (1, [.ref zo])), (zo, .inl (cJ, 48, .inr (.inl o2)))] rfl rfl (by omega) (by omega) rfl d_Lw_differs_11 ?_
  refine g_goto X 19 d_Lw_differs_12 (by decide) ?_
  refine g_iconst (v := nI 0) X d_Lw_differs_19 rfl ?_
  exact g_iret X hA9 hQ9 hr9 hlk9 () [0, 1, 2, 3, 4, 5, 6, 7, 8, 9, 10, 11, 12, 13, 14, 15, 16] rfl rfl d_Lw_differs_20 (rfl)

set_option maxHeartbeats 4000000 in
set_option maxRecDepth 100000 in
theorem k_Lw_differsS (ho : Nat) (hr : Nat) (hs : Nat) (h : Nat) (hg : Nat) (ha : Nat) (vm : Int32) (fV : Nat → Option Nat) (hv : Nat) (vn : Nat) (vu : Nat) (vo : Nat) (yn : Nat) (yu : Nat) (yo : Nat) (n1 : Nat → Int32) (u1 : Nat → Int64) (o1 : Nat → Int64) (i : Nat) (j : Nat) (k : Nat) (qo : Nat) (fo : Nat → Int64) (hi : i < 8) (hj : j < 8) (hi2 : fV i = some hv) (hj2 : fV j = some hv) (hk : k < 2 ^ 31) : CtH l y_Lw_differs (Cond.codeWith y_Lw_differs c_Lw_differs 6 (some .int)  [(0, 12, 15, 19)] :: TB) ({ frames := 4, cells := 0, slots := 0, locals := 91 } : Room) D (tysv cI cJ cZ cQ) [.ref ho, .int (nI i), .int (nI j), .int (nI k), .ref qo] [(qo, .inl (cJ, 1, .inr (.inl fo))), (ho, .inr (7, [.ref hr, .ref hs, .ref h, .ref hg, .ref ha, .int vm])), (ha, .inl (cQ, 8, .inr (.inr (.inr (.inr fV))))), (hv, .inr (6, [.ref vn, .ref vu, .ref vo])), (vn, .inr (0, [.ref yn])), (yn, .inl (cI, 48, .inl n1)), (vu, .inr (1, [.ref yu])), (yu, .inl (cJ, 48, .inr (.inl u1))), (vo, .inr (1, [.ref yo])), (yo, .inl (cJ, 48, .inr (.inl o1)))] 0 0 (fun (r : Int32) (_ : Unit) => r = nI 0) (fun (_ : Unit) => [(qo, .inl (cJ, 1, .inr (.inl (vp_updL fo 0 ((-1).toInt64))))), (ho, .inr (7, [.ref hr, .ref hs, .ref h, .ref hg, .ref ha, .int vm])), (ha, .inl (cQ, 8, .inr (.inr (.inr (.inr fV))))), (hv, .inr (6, [.ref vn, .ref vu, .ref vo])), (vn, .inr (0, [.ref yn])), (yn, .inl (cI, 48, .inl n1)), (vu, .inr (1, [.ref yu])), (yu, .inl (cJ, 48, .inr (.inl u1))), (vo, .inr (1, [.ref yo])), (yo, .inl (cJ, 48, .inr (.inl o1)))]) := by
  refine CtH.of c_Lw_differs 6 (some .int)  [(0, 12, 15, 19)] (by decide) rfl (Nat.le_of_ble_eq_true rfl) ?_
  intro p e s m args below meth c A Q hA9 hQ9 X hr9 hx9
  have hlk9 := hx9.2.2.2
  refine g_aload X 4 d_Lw_differs_0 rfl ?_
  refine g_iconst (v := nI 0) X d_Lw_differs_2 rfl ?_
  refine g_aload_n X 0 d_Lw_differs_3 rfl rfl ?_
  refine g_iload_n X 1 d_Lw_differs_4 rfl rfl ?_
  refine g_iload_n X 2 d_Lw_differs_5 rfl rfl ?_
  refine g_iload_n X 3 d_Lw_differs_6 rfl rfl ?_
  refine g_calliV (n := 3) X [.int (nI i), .int (nI j), .int (nI k)] (k_RO_differsS ho hr hs h hg ha vm fV hv vn vu vo yn yu yo n1 u1 o1 i j k (hi) (hj) (hi2) (hj2) (hk)) t3_105 t3_106 t3_107 t1_1 t3_108 rfl rfl (by decide +kernel) ⟨by decide, by decide⟩ [1, 2, 3, 4, 5, 6, 7, 8, 9] [0] [(qo, .inl (cJ, 1, .inr (.inl fo)))] rfl rfl rfl rfl (by decide) 0 rfl rfl rfl rfl (Nat.le_of_ble_eq_true rfl) d_Lw_differs_7 ⟨by decide, by decide⟩ (fun r1 w9u1 hw9 => ?_)
  subst hw9
  refine g_i2l X ((-1).toInt64) d_Lw_differs_10 rfl ?_
  refine g_last X 0 1 [(qo, .inl (cJ, 1, .inr (.inl (vp_updL fo 0 ((-1).toInt64))))), (ho, .inr (7, [.ref hr, .ref hs, .ref h, .ref hg, .ref ha, .int vm])), (ha, .inl (cQ, 8, .inr (.inr (.inr (.inr fV))))), (hv, .inr (6, [.ref vn, .ref vu, .ref vo])), (vn, .inr (0, [.ref yn])), (yn, .inl (cI, 48, .inl n1)), (vu, .inr (1, [.ref yu])), (yu, .inl (cJ, 48, .inr (.inl u1))), (vo, .inr (1, [.ref yo])), (yo, .inl (cJ, 48, .inr (.inl o1)))] rfl rfl (by omega) (by omega) rfl d_Lw_differs_11 ?_
  refine g_goto X 19 d_Lw_differs_12 (by decide) ?_
  refine g_iconst (v := nI 0) X d_Lw_differs_19 rfl ?_
  exact g_iret X hA9 hQ9 hr9 hlk9 () [0, 1, 2, 3, 4, 5, 6, 7, 8, 9] rfl rfl d_Lw_differs_20 (rfl)

set_option maxHeartbeats 4000000 in
set_option maxRecDepth 100000 in
theorem k_Lw_count0 (ho : Nat) (hr : Nat) (hs : Nat) (h : Nat) (hg : Nat) (ha : Nat) (vm : Int32) (sn : Nat) (ss : Nat) (su : Nat) (K : Nat) (qo : Nat) (fo : Nat → Int64)  : CtH l y_Lw_count (Cond.codeWith y_Lw_count c_Lw_count 4 (some .int)  [(0, 9, 12, 19)] :: TB) ({ frames := 2, cells := 0, slots := 0, locals := 41 } : Room) D (tysv cI cJ cZ cQ) [.ref ho, .int (nI 0), .ref qo] [(qo, .inl (cJ, 1, .inr (.inl fo))), (ho, .inr (7, [.ref hr, .ref hs, .ref h, .ref hg, .ref ha, .int vm])), (hs, .inr (4, [.ref sn, .ref ss, .ref su, .int (nI K)]))] 0 0 (fun (r : Int32) (_ : Unit) => r = nI 0) (fun (_ : Unit) => [(qo, .inl (cJ, 1, .inr (.inl (vp_updL fo 0 ((nI K).toInt64))))), (ho, .inr (7, [.ref hr, .ref hs, .ref h, .ref hg, .ref ha, .int vm])), (hs, .inr (4, [.ref sn, .ref ss, .ref su, .int (nI K)]))]) := by
  refine CtH.of c_Lw_count 4 (some .int)  [(0, 9, 12, 19)] (by decide) rfl (Nat.le_of_ble_eq_true rfl) ?_
  intro p e s m args below meth c A Q hA9 hQ9 X hr9 hx9
  have hlk9 := hx9.2.2.2
  refine g_aload_n X 2 d_Lw_count_0 rfl rfl ?_
  refine g_iconst (v := nI 0) X d_Lw_count_1 rfl ?_
  refine g_aload_n X 0 d_Lw_count_2 rfl rfl ?_
  refine g_iload_n X 1 d_Lw_count_3 rfl rfl ?_
  refine g_calliV (n := 1) X [.int (nI 0)] (k_RO_count0 ho hr hs h hg ha vm sn ss su K ) t3_124 t3_125 t3_126 t1_1 t3_127 rfl rfl (by decide +kernel) ⟨by decide, by decide⟩ [1, 2] [0] [(qo, .inl (cJ, 1, .inr (.inl fo)))] rfl rfl rfl rfl (by decide) 0 rfl rfl rfl rfl (Nat.le_of_ble_eq_true rfl) d_Lw_count_4 ⟨by decide, by decide⟩ (fun r1 w9u1 hw9 => ?_)
  subst hw9
  refine g_i2l X ((nI K).toInt64) d_Lw_count_7 rfl ?_
  refine g_last X 0 1 [(qo, .inl (cJ, 1, .inr (.inl (vp_updL fo 0 ((nI K).toInt64))))), (ho, .inr (7, [.ref hr, .ref hs, .ref h, .ref hg, .ref ha, .int vm])), (hs, .inr (4, [.ref sn, .ref ss, .ref su, .int (nI K)]))] rfl rfl (by omega) (by omega) rfl d_Lw_count_8 ?_
  refine g_goto X 15 d_Lw_count_9 (by decide) ?_
  refine g_iconst (v := nI 0) X d_Lw_count_15 rfl ?_
  exact g_iret X hA9 hQ9 hr9 hlk9 () [0, 1, 2] rfl rfl d_Lw_count_16 (rfl)

set_option maxHeartbeats 4000000 in
set_option maxRecDepth 100000 in
theorem k_Lw_count1 (ho : Nat) (hr : Nat) (hs : Nat) (h : Nat) (hg : Nat) (ha : Nat) (vm : Int32) (ru : Nat) (rw : Nat) (rk : Nat) (R : Nat) (sd : Nat) (qo : Nat) (fo : Nat → Int64)  : CtH l y_Lw_count (Cond.codeWith y_Lw_count c_Lw_count 4 (some .int)  [(0, 9, 12, 19)] :: TB) ({ frames := 2, cells := 0, slots := 0, locals := 41 } : Room) D (tysv cI cJ cZ cQ) [.ref ho, .int (nI 1), .ref qo] [(qo, .inl (cJ, 1, .inr (.inl fo))), (ho, .inr (7, [.ref hr, .ref hs, .ref h, .ref hg, .ref ha, .int vm])), (hr, .inr (2, [.ref ru, .ref rw, .ref rk, .int (nI R), .int (nI sd)]))] 0 0 (fun (r : Int32) (_ : Unit) => r = nI 0) (fun (_ : Unit) => [(qo, .inl (cJ, 1, .inr (.inl (vp_updL fo 0 ((nI sd).toInt64))))), (ho, .inr (7, [.ref hr, .ref hs, .ref h, .ref hg, .ref ha, .int vm])), (hr, .inr (2, [.ref ru, .ref rw, .ref rk, .int (nI R), .int (nI sd)]))]) := by
  refine CtH.of c_Lw_count 4 (some .int)  [(0, 9, 12, 19)] (by decide) rfl (Nat.le_of_ble_eq_true rfl) ?_
  intro p e s m args below meth c A Q hA9 hQ9 X hr9 hx9
  have hlk9 := hx9.2.2.2
  refine g_aload_n X 2 d_Lw_count_0 rfl rfl ?_
  refine g_iconst (v := nI 0) X d_Lw_count_1 rfl ?_
  refine g_aload_n X 0 d_Lw_count_2 rfl rfl ?_
  refine g_iload_n X 1 d_Lw_count_3 rfl rfl ?_
  refine g_calliV (n := 1) X [.int (nI 1)] (k_RO_count1 ho hr hs h hg ha vm ru rw rk R sd ) t3_124 t3_125 t3_126 t1_1 t3_127 rfl rfl (by decide +kernel) ⟨by decide, by decide⟩ [1, 2] [0] [(qo, .inl (cJ, 1, .inr (.inl fo)))] rfl rfl rfl rfl (by decide) 0 rfl rfl rfl rfl (Nat.le_of_ble_eq_true rfl) d_Lw_count_4 ⟨by decide, by decide⟩ (fun r1 w9u1 hw9 => ?_)
  subst hw9
  refine g_i2l X ((nI sd).toInt64) d_Lw_count_7 rfl ?_
  refine g_last X 0 1 [(qo, .inl (cJ, 1, .inr (.inl (vp_updL fo 0 ((nI sd).toInt64))))), (ho, .inr (7, [.ref hr, .ref hs, .ref h, .ref hg, .ref ha, .int vm])), (hr, .inr (2, [.ref ru, .ref rw, .ref rk, .int (nI R), .int (nI sd)]))] rfl rfl (by omega) (by omega) rfl d_Lw_count_8 ?_
  refine g_goto X 15 d_Lw_count_9 (by decide) ?_
  refine g_iconst (v := nI 0) X d_Lw_count_15 rfl ?_
  exact g_iret X hA9 hQ9 hr9 hlk9 () [0, 1, 2] rfl rfl d_Lw_count_16 (rfl)

set_option maxHeartbeats 4000000 in
set_option maxRecDepth 100000 in
theorem k_Lw_count2 (ho : Nat) (hr : Nat) (hs : Nat) (h : Nat) (hg : Nat) (ha : Nat) (vm : Int32) (sn : Nat) (ss : Nat) (su : Nat) (K : Nat) (xn : Nat) (fN : Nat → Int32) (qo : Nat) (fo : Nat → Int64) (hK : K ≤ 48) : CtH l y_Lw_count (Cond.codeWith y_Lw_count c_Lw_count 4 (some .int)  [(0, 9, 12, 19)] :: TB) ({ frames := 3, cells := 0, slots := 0, locals := 64 } : Room) D (tysv cI cJ cZ cQ) [.ref ho, .int (nI 2), .ref qo] [(qo, .inl (cJ, 1, .inr (.inl fo))), (ho, .inr (7, [.ref hr, .ref hs, .ref h, .ref hg, .ref ha, .int vm])), (hs, .inr (4, [.ref sn, .ref ss, .ref su, .int (nI K)])), (sn, .inr (0, [.ref xn])), (xn, .inl (cI, 48, .inl fN))] 0 0 (fun (r : Int32) (_ : Unit) => r = nI 0) (fun (_ : Unit) => [(qo, .inl (cJ, 1, .inr (.inl (vp_updL fo 0 ((nI (cnt (fun z => decide (fN z = nI z)) K)).toInt64))))), (ho, .inr (7, [.ref hr, .ref hs, .ref h, .ref hg, .ref ha, .int vm])), (hs, .inr (4, [.ref sn, .ref ss, .ref su, .int (nI K)])), (sn, .inr (0, [.ref xn])), (xn, .inl (cI, 48, .inl fN))]) := by
  refine CtH.of c_Lw_count 4 (some .int)  [(0, 9, 12, 19)] (by decide) rfl (Nat.le_of_ble_eq_true rfl) ?_
  intro p e s m args below meth c A Q hA9 hQ9 X hr9 hx9
  have hlk9 := hx9.2.2.2
  refine g_aload_n X 2 d_Lw_count_0 rfl rfl ?_
  refine g_iconst (v := nI 0) X d_Lw_count_1 rfl ?_
  refine g_aload_n X 0 d_Lw_count_2 rfl rfl ?_
  refine g_iload_n X 1 d_Lw_count_3 rfl rfl ?_
  refine g_calliV (n := 1) X [.int (nI 2)] (k_RO_count2 ho hr hs h hg ha vm sn ss su K xn fN (hK)) t3_124 t3_125 t3_126 t1_1 t3_127 rfl rfl (by decide +kernel) ⟨by decide, by decide⟩ [1, 2, 3, 4] [0] [(qo, .inl (cJ, 1, .inr (.inl fo)))] rfl rfl rfl rfl (by decide) 0 rfl rfl rfl rfl (Nat.le_of_ble_eq_true rfl) d_Lw_count_4 ⟨by decide, by decide⟩ (fun r1 w9u1 hw9 => ?_)
  subst hw9
  refine g_i2l X ((nI (cnt (fun z => decide (fN z = nI z)) K)).toInt64) d_Lw_count_7 rfl ?_
  refine g_last X 0 1 [(qo, .inl (cJ, 1, .inr (.inl (vp_updL fo 0 ((nI (cnt (fun z => decide (fN z = nI z)) K)).toInt64))))), (ho, .inr (7, [.ref hr, .ref hs, .ref h, .ref hg, .ref ha, .int vm])), (hs, .inr (4, [.ref sn, .ref ss, .ref su, .int (nI K)])), (sn, .inr (0, [.ref xn])), (xn, .inl (cI, 48, .inl fN))] rfl rfl (by omega) (by omega) rfl d_Lw_count_8 ?_
  refine g_goto X 15 d_Lw_count_9 (by decide) ?_
  refine g_iconst (v := nI 0) X d_Lw_count_15 rfl ?_
  exact g_iret X hA9 hQ9 hr9 hlk9 () [0, 1, 2, 3, 4] rfl rfl d_Lw_count_16 (rfl)

set_option maxHeartbeats 4000000 in
set_option maxRecDepth 100000 in
theorem k_Lw_count3 (ho : Nat) (hr : Nat) (hs : Nat) (h : Nat) (hg : Nat) (ha : Nat) (vm : Int32) (sn : Nat) (ss : Nat) (su : Nat) (K : Nat) (xu : Nat) (fU : Nat → Int64) (qo : Nat) (fo : Nat → Int64) (hK : K ≤ 48) : CtH l y_Lw_count (Cond.codeWith y_Lw_count c_Lw_count 4 (some .int)  [(0, 9, 12, 19)] :: TB) ({ frames := 4, cells := 0, slots := 0, locals := 85 } : Room) D (tysv cI cJ cZ cQ) [.ref ho, .int (nI 3), .ref qo] [(qo, .inl (cJ, 1, .inr (.inl fo))), (ho, .inr (7, [.ref hr, .ref hs, .ref h, .ref hg, .ref ha, .int vm])), (hs, .inr (4, [.ref sn, .ref ss, .ref su, .int (nI K)])), (su, .inr (1, [.ref xu])), (xu, .inl (cJ, 48, .inr (.inl fU)))] 0 0 (fun (r : Int32) (_ : Unit) => r = nI 0) (fun (_ : Unit) => [(qo, .inl (cJ, 1, .inr (.inl (vp_updL fo 0 ((nI (lsum (fun z9 => cnt (lb (fU z9)) 64) K)).toInt64))))), (ho, .inr (7, [.ref hr, .ref hs, .ref h, .ref hg, .ref ha, .int vm])), (hs, .inr (4, [.ref sn, .ref ss, .ref su, .int (nI K)])), (su, .inr (1, [.ref xu])), (xu, .inl (cJ, 48, .inr (.inl fU)))]) := by
  refine CtH.of c_Lw_count 4 (some .int)  [(0, 9, 12, 19)] (by decide) rfl (Nat.le_of_ble_eq_true rfl) ?_
  intro p e s m args below meth c A Q hA9 hQ9 X hr9 hx9
  have hlk9 := hx9.2.2.2
  refine g_aload_n X 2 d_Lw_count_0 rfl rfl ?_
  refine g_iconst (v := nI 0) X d_Lw_count_1 rfl ?_
  refine g_aload_n X 0 d_Lw_count_2 rfl rfl ?_
  refine g_iload_n X 1 d_Lw_count_3 rfl rfl ?_
  refine g_calliV (n := 1) X [.int (nI 3)] (k_RO_count3 ho hr hs h hg ha vm sn ss su K xu fU (hK)) t3_124 t3_125 t3_126 t1_1 t3_127 rfl rfl (by decide +kernel) ⟨by decide, by decide⟩ [1, 2, 3, 4] [0] [(qo, .inl (cJ, 1, .inr (.inl fo)))] rfl rfl rfl rfl (by decide) 0 rfl rfl rfl rfl (Nat.le_of_ble_eq_true rfl) d_Lw_count_4 ⟨by decide, by decide⟩ (fun r1 w9u1 hw9 => ?_)
  subst hw9
  refine g_i2l X ((nI (lsum (fun z9 => cnt (lb (fU z9)) 64) K)).toInt64) d_Lw_count_7 rfl ?_
  refine g_last X 0 1 [(qo, .inl (cJ, 1, .inr (.inl (vp_updL fo 0 ((nI (lsum (fun z9 => cnt (lb (fU z9)) 64) K)).toInt64))))), (ho, .inr (7, [.ref hr, .ref hs, .ref h, .ref hg, .ref ha, .int vm])), (hs, .inr (4, [.ref sn, .ref ss, .ref su, .int (nI K)])), (su, .inr (1, [.ref xu])), (xu, .inl (cJ, 48, .inr (.inl fU)))] rfl rfl (by omega) (by omega) rfl d_Lw_count_8 ?_
  refine g_goto X 15 d_Lw_count_9 (by decide) ?_
  refine g_iconst (v := nI 0) X d_Lw_count_15 rfl ?_
  exact g_iret X hA9 hQ9 hr9 hlk9 () [0, 1, 2, 3, 4] rfl rfl d_Lw_count_16 (rfl)

set_option maxHeartbeats 4000000 in
set_option maxRecDepth 100000 in
theorem k_Lw_count4 (ho : Nat) (hr : Nat) (hs : Nat) (h : Nat) (hg : Nat) (ha : Nat) (vm : Int32) (gh : Nat) (gl : Nat) (gr : Nat) (gm : Nat) (qo : Nat) (fo : Nat → Int64)  : CtH l y_Lw_count (Cond.codeWith y_Lw_count c_Lw_count 4 (some .int)  [(0, 9, 12, 19)] :: TB) ({ frames := 2, cells := 0, slots := 0, locals := 41 } : Room) D (tysv cI cJ cZ cQ) [.ref ho, .int (nI 4), .ref qo] [(qo, .inl (cJ, 1, .inr (.inl fo))), (ho, .inr (7, [.ref hr, .ref hs, .ref h, .ref hg, .ref ha, .int vm])), (hg, .inr (5, [.ref gh, .ref gl, .ref gr, .int (nI gm)]))] 0 0 (fun (r : Int32) (_ : Unit) => r = nI 0) (fun (_ : Unit) => [(qo, .inl (cJ, 1, .inr (.inl (vp_updL fo 0 ((nI gm).toInt64))))), (ho, .inr (7, [.ref hr, .ref hs, .ref h, .ref hg, .ref ha, .int vm])), (hg, .inr (5, [.ref gh, .ref gl, .ref gr, .int (nI gm)]))]) := by
  refine CtH.of c_Lw_count 4 (some .int)  [(0, 9, 12, 19)] (by decide) rfl (Nat.le_of_ble_eq_true rfl) ?_
  intro p e s m args below meth c A Q hA9 hQ9 X hr9 hx9
  have hlk9 := hx9.2.2.2
  refine g_aload_n X 2 d_Lw_count_0 rfl rfl ?_
  refine g_iconst (v := nI 0) X d_Lw_count_1 rfl ?_
  refine g_aload_n X 0 d_Lw_count_2 rfl rfl ?_
  refine g_iload_n X 1 d_Lw_count_3 rfl rfl ?_
  refine g_calliV (n := 1) X [.int (nI 4)] (k_RO_count4 ho hr hs h hg ha vm gh gl gr gm ) t3_124 t3_125 t3_126 t1_1 t3_127 rfl rfl (by decide +kernel) ⟨by decide, by decide⟩ [1, 2] [0] [(qo, .inl (cJ, 1, .inr (.inl fo)))] rfl rfl rfl rfl (by decide) 0 rfl rfl rfl rfl (Nat.le_of_ble_eq_true rfl) d_Lw_count_4 ⟨by decide, by decide⟩ (fun r1 w9u1 hw9 => ?_)
  subst hw9
  refine g_i2l X ((nI gm).toInt64) d_Lw_count_7 rfl ?_
  refine g_last X 0 1 [(qo, .inl (cJ, 1, .inr (.inl (vp_updL fo 0 ((nI gm).toInt64))))), (ho, .inr (7, [.ref hr, .ref hs, .ref h, .ref hg, .ref ha, .int vm])), (hg, .inr (5, [.ref gh, .ref gl, .ref gr, .int (nI gm)]))] rfl rfl (by omega) (by omega) rfl d_Lw_count_8 ?_
  refine g_goto X 15 d_Lw_count_9 (by decide) ?_
  refine g_iconst (v := nI 0) X d_Lw_count_15 rfl ?_
  exact g_iret X hA9 hQ9 hr9 hlk9 () [0, 1, 2] rfl rfl d_Lw_count_16 (rfl)

set_option maxHeartbeats 4000000 in
set_option maxRecDepth 100000 in
theorem kx_Lw_context (ho : Nat) (hr : Nat) (hs : Nat) (h : Nat) (hg : Nat) (ha : Nat) (vm : Int32) (sn : Nat) (ss : Nat) (su : Nat) (K : Nat) (qo : Nat) (fo : Nat → Int64) (hK : K = 48) : CtH l y_Lw_context (Cond.codeWith y_Lw_context c_Lw_context 3 (some .int)  [(0, 8, 11, 13)] :: TB) ({ frames := 7, cells := 1, slots := 6, locals := 102 } : Room) D (tysv cI cJ cZ cQ) [.ref ho, .ref qo] [(qo, .inl (cJ, 1, .inr (.inl fo))), (ho, .inr (7, [.ref hr, .ref hs, .ref h, .ref hg, .ref ha, .int vm])), (hs, .inr (4, [.ref sn, .ref ss, .ref su, .int (nI K)]))] 1 6 (fun (r : Int32) (_ : Unit) => r = nI 1) (fun (_ : Unit) => [(qo, .inl (cJ, 1, .inr (.inl fo))), (ho, .inr (7, [.ref hr, .ref hs, .ref h, .ref hg, .ref ha, .int vm])), (hs, .inr (4, [.ref sn, .ref ss, .ref su, .int (nI K)]))]) := by
  refine CtH.of c_Lw_context 3 (some .int)  [(0, 8, 11, 13)] (by decide) rfl (Nat.le_of_ble_eq_true rfl) ?_
  intro p e s m args below meth c A Q hA9 hQ9 X hr9 hx9
  have hlk9 := hx9.2.2.2
  refine g_aload_n X 1 d_Lw_context_0 rfl rfl ?_
  refine g_iconst (v := nI 0) X d_Lw_context_1 rfl ?_
  refine g_aload_n X 0 d_Lw_context_2 rfl rfl ?_
  refine g_callXV (n := 0) X hx9 [] (kx_RO_context ho hr hs h hg ha vm sn ss su K (hK)) t1_196 t1_197 t1_198 t1_1 t1_199 rfl rfl (by decide +kernel) ⟨by decide, by decide⟩ [1, 2] [0] [(qo, .inl (cJ, 1, .inr (.inl fo)))] rfl rfl rfl rfl (by decide) 0 rfl rfl rfl rfl (Nat.le_of_ble_eq_true rfl) d_Lw_context_3 ⟨by decide, by decide⟩ ?_
  refine gx_catch X hx9 [] ⟨0, 8, 11, 13⟩ [] rfl (fun z hz => nomatch hz) (by decide) (by decide) t1_195 (va_Nw.use rfl hx9.2.1.2.2.2.2.2.2.1) (fun q9 => ?_)
  refine g_astore_n X [(2, .ref q9), (0, .ref ho), (1, .ref qo)] d_Lw_context_11 rfl (by decide) rfl ?_
  refine g_iconst (v := nI 1) X d_Lw_context_12 rfl ?_
  exact g_iret X hA9 hQ9 hr9 hlk9 () [0, 1, 2] rfl rfl d_Lw_context_13 (rfl)

set_option maxHeartbeats 4000000 in
set_option maxRecDepth 100000 in
theorem kx_Lw_relate1 (ho : Nat) (hr : Nat) (hs : Nat) (h : Nat) (hg : Nat) (ha : Nat) (vm : Int32) (sn : Nat) (ss : Nat) (su : Nat) (K : Nat) (x : Int32) (y : Int32) (z : Int32) (qo : Nat) (fo : Nat → Int64) (hK : K ≤ 48) (hx : badI K x) : CtH l y_Lw_relate (Cond.codeWith y_Lw_relate c_Lw_relate 6 (some .int)  [(0, 12, 15, 19), (0, 12, 19, 13)] :: TB) ({ frames := 8, cells := 1, slots := 6, locals := 127 } : Room) D (tysv cI cJ cZ cQ) [.ref ho, .int x, .int y, .int z, .ref qo] [(qo, .inl (cJ, 1, .inr (.inl fo))), (ho, .inr (7, [.ref hr, .ref hs, .ref h, .ref hg, .ref ha, .int vm])), (hs, .inr (4, [.ref sn, .ref ss, .ref su, .int (nI K)]))] 1 6 (fun (r : Int32) (_ : Unit) => r = nI 1) (fun (_ : Unit) => [(qo, .inl (cJ, 1, .inr (.inl fo))), (ho, .inr (7, [.ref hr, .ref hs, .ref h, .ref hg, .ref ha, .int vm])), (hs, .inr (4, [.ref sn, .ref ss, .ref su, .int (nI K)]))]) := by
  refine CtH.of c_Lw_relate 6 (some .int)  [(0, 12, 15, 19), (0, 12, 19, 13)] (by decide) rfl (Nat.le_of_ble_eq_true rfl) ?_
  intro p e s m args below meth c A Q hA9 hQ9 X hr9 hx9
  have hlk9 := hx9.2.2.2
  refine g_aload X 4 d_Lw_relate_0 rfl ?_
  refine g_iconst (v := nI 0) X d_Lw_relate_2 rfl ?_
  refine g_aload_n X 0 d_Lw_relate_3 rfl rfl ?_
  refine g_iload_n X 1 d_Lw_relate_4 rfl rfl ?_
  refine g_iload_n X 2 d_Lw_relate_5 rfl rfl ?_
  refine g_iload_n X 3 d_Lw_relate_6 rfl rfl ?_
  refine g_callXV (n := 3) X hx9 [.int x, .int y, .int z] (kx_RO_relate1 ho hr hs h hg ha vm sn ss su K x y z (hK) (hx)) t2_43 t2_44 t2_45 t1_1 t2_46 rfl rfl (by decide +kernel) ⟨by decide, by decide⟩ [1, 2] [0] [(qo, .inl (cJ, 1, .inr (.inl fo)))] rfl rfl rfl rfl (by decide) 0 rfl rfl rfl rfl (Nat.le_of_ble_eq_true rfl) d_Lw_relate_7 ⟨by decide, by decide⟩ ?_
  refine gx_catch X hx9 [] ⟨0, 12, 15, 19⟩ [⟨0, 12, 19, 13⟩] rfl (fun z hz => nomatch hz) (by decide) (by decide) t2_42 (va_Nw.use rfl hx9.2.1.2.2.2.2.2.2.2.1) (fun q9 => ?_)
  refine g_astore X [(5, .ref q9), (0, .ref ho), (1, .int x), (2, .int y), (3, .int z), (4, .ref qo)] d_Lw_relate_15 (by decide) rfl ?_
  refine g_iconst (v := nI 1) X d_Lw_relate_17 rfl ?_
  exact g_iret X hA9 hQ9 hr9 hlk9 () [0, 1, 2] rfl rfl d_Lw_relate_18 (rfl)

set_option maxHeartbeats 4000000 in
set_option maxRecDepth 100000 in
theorem kx_Lw_relate2 (ho : Nat) (hr : Nat) (hs : Nat) (h : Nat) (hg : Nat) (ha : Nat) (vm : Int32) (sn : Nat) (ss : Nat) (su : Nat) (K : Nat) (i : Nat) (x : Int32) (z : Int32) (qo : Nat) (fo : Nat → Int64) (hK : K ≤ 48) (hx : badI K x) (hi : i < K) : CtH l y_Lw_relate (Cond.codeWith y_Lw_relate c_Lw_relate 6 (some .int)  [(0, 12, 15, 19), (0, 12, 19, 13)] :: TB) ({ frames := 8, cells := 1, slots := 6, locals := 127 } : Room) D (tysv cI cJ cZ cQ) [.ref ho, .int (nI i), .int x, .int z, .ref qo] [(qo, .inl (cJ, 1, .inr (.inl fo))), (ho, .inr (7, [.ref hr, .ref hs, .ref h, .ref hg, .ref ha, .int vm])), (hs, .inr (4, [.ref sn, .ref ss, .ref su, .int (nI K)]))] 1 6 (fun (r : Int32) (_ : Unit) => r = nI 1) (fun (_ : Unit) => [(qo, .inl (cJ, 1, .inr (.inl fo))), (ho, .inr (7, [.ref hr, .ref hs, .ref h, .ref hg, .ref ha, .int vm])), (hs, .inr (4, [.ref sn, .ref ss, .ref su, .int (nI K)]))]) := by
  refine CtH.of c_Lw_relate 6 (some .int)  [(0, 12, 15, 19), (0, 12, 19, 13)] (by decide) rfl (Nat.le_of_ble_eq_true rfl) ?_
  intro p e s m args below meth c A Q hA9 hQ9 X hr9 hx9
  have hlk9 := hx9.2.2.2
  refine g_aload X 4 d_Lw_relate_0 rfl ?_
  refine g_iconst (v := nI 0) X d_Lw_relate_2 rfl ?_
  refine g_aload_n X 0 d_Lw_relate_3 rfl rfl ?_
  refine g_iload_n X 1 d_Lw_relate_4 rfl rfl ?_
  refine g_iload_n X 2 d_Lw_relate_5 rfl rfl ?_
  refine g_iload_n X 3 d_Lw_relate_6 rfl rfl ?_
  refine g_callXV (n := 3) X hx9 [.int (nI i), .int x, .int z] (kx_RO_relate2 ho hr hs h hg ha vm sn ss su K i x z (hK) (hx) (hi)) t2_43 t2_44 t2_45 t1_1 t2_46 rfl rfl (by decide +kernel) ⟨by decide, by decide⟩ [1, 2] [0] [(qo, .inl (cJ, 1, .inr (.inl fo)))] rfl rfl rfl rfl (by decide) 0 rfl rfl rfl rfl (Nat.le_of_ble_eq_true rfl) d_Lw_relate_7 ⟨by decide, by decide⟩ ?_
  refine gx_catch X hx9 [] ⟨0, 12, 15, 19⟩ [⟨0, 12, 19, 13⟩] rfl (fun z hz => nomatch hz) (by decide) (by decide) t2_42 (va_Nw.use rfl hx9.2.1.2.2.2.2.2.2.2.1) (fun q9 => ?_)
  refine g_astore X [(5, .ref q9), (0, .ref ho), (1, .int (nI i)), (2, .int x), (3, .int z), (4, .ref qo)] d_Lw_relate_15 (by decide) rfl ?_
  refine g_iconst (v := nI 1) X d_Lw_relate_17 rfl ?_
  exact g_iret X hA9 hQ9 hr9 hlk9 () [0, 1, 2] rfl rfl d_Lw_relate_18 (rfl)

set_option maxHeartbeats 4000000 in
set_option maxRecDepth 100000 in
theorem kx_Lw_relate3 (ho : Nat) (hr : Nat) (hs : Nat) (h : Nat) (hg : Nat) (ha : Nat) (vm : Int32) (sn : Nat) (ss : Nat) (su : Nat) (K : Nat) (i : Nat) (j : Nat) (x : Int32) (qo : Nat) (fo : Nat → Int64) (hK : K ≤ 48) (hx : badI 5 x) (hi : i < K) (hj : j < K) : CtH l y_Lw_relate (Cond.codeWith y_Lw_relate c_Lw_relate 6 (some .int)  [(0, 12, 15, 19), (0, 12, 19, 13)] :: TB) ({ frames := 7, cells := 1, slots := 6, locals := 106 } : Room) D (tysv cI cJ cZ cQ) [.ref ho, .int (nI i), .int (nI j), .int x, .ref qo] [(qo, .inl (cJ, 1, .inr (.inl fo))), (ho, .inr (7, [.ref hr, .ref hs, .ref h, .ref hg, .ref ha, .int vm])), (hs, .inr (4, [.ref sn, .ref ss, .ref su, .int (nI K)]))] 1 6 (fun (r : Int32) (_ : Unit) => r = nI 1) (fun (_ : Unit) => [(qo, .inl (cJ, 1, .inr (.inl fo))), (ho, .inr (7, [.ref hr, .ref hs, .ref h, .ref hg, .ref ha, .int vm])), (hs, .inr (4, [.ref sn, .ref ss, .ref su, .int (nI K)]))]) := by
  refine CtH.of c_Lw_relate 6 (some .int)  [(0, 12, 15, 19), (0, 12, 19, 13)] (by decide) rfl (Nat.le_of_ble_eq_true rfl) ?_
  intro p e s m args below meth c A Q hA9 hQ9 X hr9 hx9
  have hlk9 := hx9.2.2.2
  refine g_aload X 4 d_Lw_relate_0 rfl ?_
  refine g_iconst (v := nI 0) X d_Lw_relate_2 rfl ?_
  refine g_aload_n X 0 d_Lw_relate_3 rfl rfl ?_
  refine g_iload_n X 1 d_Lw_relate_4 rfl rfl ?_
  refine g_iload_n X 2 d_Lw_relate_5 rfl rfl ?_
  refine g_iload_n X 3 d_Lw_relate_6 rfl rfl ?_
  refine g_callXV (n := 3) X hx9 [.int (nI i), .int (nI j), .int x] (kx_RO_relate3 ho hr hs h hg ha vm sn ss su K i j x (hK) (hx) (hi) (hj)) t2_43 t2_44 t2_45 t1_1 t2_46 rfl rfl (by decide +kernel) ⟨by decide, by decide⟩ [1, 2] [0] [(qo, .inl (cJ, 1, .inr (.inl fo)))] rfl rfl rfl rfl (by decide) 0 rfl rfl rfl rfl (Nat.le_of_ble_eq_true rfl) d_Lw_relate_7 ⟨by decide, by decide⟩ ?_
  refine gx_catch X hx9 [] ⟨0, 12, 15, 19⟩ [⟨0, 12, 19, 13⟩] rfl (fun z hz => nomatch hz) (by decide) (by decide) t2_42 (va_Nw.use rfl hx9.2.1.2.2.2.2.2.2.2.1) (fun q9 => ?_)
  refine g_astore X [(5, .ref q9), (0, .ref ho), (1, .int (nI i)), (2, .int (nI j)), (3, .int x), (4, .ref qo)] d_Lw_relate_15 (by decide) rfl ?_
  refine g_iconst (v := nI 1) X d_Lw_relate_17 rfl ?_
  exact g_iret X hA9 hQ9 hr9 hlk9 () [0, 1, 2] rfl rfl d_Lw_relate_18 (rfl)

set_option maxHeartbeats 4000000 in
set_option maxRecDepth 100000 in
theorem kx_Lw_relate4 (ho : Nat) (hr : Nat) (hs : Nat) (h : Nat) (hg : Nat) (ha : Nat) (vm : Int32) (sn : Nat) (ss : Nat) (su : Nat) (K : Nat) (ru : Nat) (rw : Nat) (rk : Nat) (R : Nat) (sd : Nat) (i : Nat) (j : Nat) (kd : Nat) (qo : Nat) (fo : Nat → Int64) (hK : K ≤ 48) (hR : R = 200) (hi : i < K) (hj : j < K) (hk : kd ≤ 4) : CtH l y_Lw_relate (Cond.codeWith y_Lw_relate c_Lw_relate 6 (some .int)  [(0, 12, 15, 19), (0, 12, 19, 13)] :: TB) ({ frames := 7, cells := 1, slots := 6, locals := 106 } : Room) D (tysv cI cJ cZ cQ) [.ref ho, .int (nI i), .int (nI j), .int (nI kd), .ref qo] [(qo, .inl (cJ, 1, .inr (.inl fo))), (ho, .inr (7, [.ref hr, .ref hs, .ref h, .ref hg, .ref ha, .int vm])), (hs, .inr (4, [.ref sn, .ref ss, .ref su, .int (nI K)])), (hr, .inr (2, [.ref ru, .ref rw, .ref rk, .int (nI R), .int (nI sd)]))] 1 6 (fun (r : Int32) (_ : Unit) => r = nI 2) (fun (_ : Unit) => [(qo, .inl (cJ, 1, .inr (.inl fo))), (ho, .inr (7, [.ref hr, .ref hs, .ref h, .ref hg, .ref ha, .int vm])), (hs, .inr (4, [.ref sn, .ref ss, .ref su, .int (nI K)])), (hr, .inr (2, [.ref ru, .ref rw, .ref rk, .int (nI R), .int (nI sd)]))]) := by
  refine CtH.of c_Lw_relate 6 (some .int)  [(0, 12, 15, 19), (0, 12, 19, 13)] (by decide) rfl (Nat.le_of_ble_eq_true rfl) ?_
  intro p e s m args below meth c A Q hA9 hQ9 X hr9 hx9
  have hlk9 := hx9.2.2.2
  refine g_aload X 4 d_Lw_relate_0 rfl ?_
  refine g_iconst (v := nI 0) X d_Lw_relate_2 rfl ?_
  refine g_aload_n X 0 d_Lw_relate_3 rfl rfl ?_
  refine g_iload_n X 1 d_Lw_relate_4 rfl rfl ?_
  refine g_iload_n X 2 d_Lw_relate_5 rfl rfl ?_
  refine g_iload_n X 3 d_Lw_relate_6 rfl rfl ?_
  refine g_callXV (n := 3) X hx9 [.int (nI i), .int (nI j), .int (nI kd)] (kx_RO_relate4 ho hr hs h hg ha vm sn ss su K ru rw rk R sd i j kd (hK) (hR) (hi) (hj) (hk)) t2_43 t2_44 t2_45 t1_1 t2_46 rfl rfl (by decide +kernel) ⟨by decide, by decide⟩ [1, 2, 3] [0] [(qo, .inl (cJ, 1, .inr (.inl fo)))] rfl rfl rfl rfl (by decide) 0 rfl rfl rfl rfl (Nat.le_of_ble_eq_true rfl) d_Lw_relate_7 ⟨by decide, by decide⟩ ?_
  refine gx_catch X hx9 [⟨0, 12, 15, 19⟩] ⟨0, 12, 19, 13⟩ [] rfl (fun z hz => Or.inr (by rw [List.mem_singleton.mp hz]; exact ⟨by decide, _, t2_42, hx9.2.1.2.2.2.2.2.2.2.2⟩)) (by decide) (by decide) t1_195 (va_Nw.use rfl hx9.2.1.2.2.2.2.2.2.1) (fun q9 => ?_)
  refine g_astore X [(5, .ref q9), (0, .ref ho), (1, .int (nI i)), (2, .int (nI j)), (3, .int (nI kd)), (4, .ref qo)] d_Lw_relate_19 (by decide) rfl ?_
  refine g_iconst (v := nI 2) X d_Lw_relate_21 rfl ?_
  exact g_iret X hA9 hQ9 hr9 hlk9 () [0, 1, 2, 3] rfl rfl d_Lw_relate_22 (rfl)

set_option maxHeartbeats 4000000 in
set_option maxRecDepth 100000 in
theorem kx_Lw_ring (ho : Nat) (hr : Nat) (hs : Nat) (h : Nat) (hg : Nat) (ha : Nat) (vm : Int32) (x : Int32) (qo : Nat) (fo : Nat → Int64) (hx : x < 0) : CtH l y_Lw_ring (Cond.codeWith y_Lw_ring c_Lw_ring 4 (some .int)  [(0, 9, 12, 19)] :: TB) ({ frames := 8, cells := 1, slots := 6, locals := 123 } : Room) D (tysv cI cJ cZ cQ) [.ref ho, .int x, .ref qo] [(qo, .inl (cJ, 1, .inr (.inl fo))), (ho, .inr (7, [.ref hr, .ref hs, .ref h, .ref hg, .ref ha, .int vm]))] 1 6 (fun (r : Int32) (_ : Unit) => r = nI 1) (fun (_ : Unit) => [(qo, .inl (cJ, 1, .inr (.inl fo))), (ho, .inr (7, [.ref hr, .ref hs, .ref h, .ref hg, .ref ha, .int vm]))]) := by
  refine CtH.of c_Lw_ring 4 (some .int)  [(0, 9, 12, 19)] (by decide) rfl (Nat.le_of_ble_eq_true rfl) ?_
  intro p e s m args below meth c A Q hA9 hQ9 X hr9 hx9
  have hlk9 := hx9.2.2.2
  refine g_aload_n X 2 d_Lw_ring_0 rfl rfl ?_
  refine g_iconst (v := nI 0) X d_Lw_ring_1 rfl ?_
  refine g_aload_n X 0 d_Lw_ring_2 rfl rfl ?_
  refine g_iload_n X 1 d_Lw_ring_3 rfl rfl ?_
  refine g_callXV (n := 1) X hx9 [.int x] (kx_RO_ring ho hr hs h hg ha vm x (hx)) t2_164 t2_165 t2_166 t1_1 t2_167 rfl rfl (by decide +kernel) ⟨by decide, by decide⟩ [1] [0] [(qo, .inl (cJ, 1, .inr (.inl fo)))] rfl rfl rfl rfl (by decide) 0 rfl rfl rfl rfl (Nat.le_of_ble_eq_true rfl) d_Lw_ring_4 ⟨by decide, by decide⟩ ?_
  refine gx_catch X hx9 [] ⟨0, 9, 12, 19⟩ [] rfl (fun z hz => nomatch hz) (by decide) (by decide) t2_42 (va_Nw.use rfl hx9.2.1.2.2.2.2.2.2.2.1) (fun q9 => ?_)
  refine g_astore_n X [(3, .ref q9), (0, .ref ho), (1, .int x), (2, .ref qo)] d_Lw_ring_12 rfl (by decide) rfl ?_
  refine g_iconst (v := nI 1) X d_Lw_ring_13 rfl ?_
  exact g_iret X hA9 hQ9 hr9 hlk9 () [0, 1] rfl rfl d_Lw_ring_14 (rfl)

set_option maxHeartbeats 4000000 in
set_option maxRecDepth 100000 in
theorem kx_Lw_groupRing (ho : Nat) (hr : Nat) (hs : Nat) (h : Nat) (hg : Nat) (ha : Nat) (vm : Int32) (x : Int32) (qo : Nat) (fo : Nat → Int64) (hx : x < 0) : CtH l y_Lw_groupRing (Cond.codeWith y_Lw_groupRing c_Lw_groupRing 4 (some .int)  [(0, 9, 12, 19)] :: TB) ({ frames := 8, cells := 1, slots := 6, locals := 123 } : Room) D (tysv cI cJ cZ cQ) [.ref ho, .int x, .ref qo] [(qo, .inl (cJ, 1, .inr (.inl fo))), (ho, .inr (7, [.ref hr, .ref hs, .ref h, .ref hg, .ref ha, .int vm]))] 1 6 (fun (r : Int32) (_ : Unit) => r = nI 1) (fun (_ : Unit) => [(qo, .inl (cJ, 1, .inr (.inl fo))), (ho, .inr (7, [.ref hr, .ref hs, .ref h, .ref hg, .ref ha, .int vm]))]) := by
  refine CtH.of c_Lw_groupRing 4 (some .int)  [(0, 9, 12, 19)] (by decide) rfl (Nat.le_of_ble_eq_true rfl) ?_
  intro p e s m args below meth c A Q hA9 hQ9 X hr9 hx9
  have hlk9 := hx9.2.2.2
  refine g_aload_n X 2 d_Lw_groupRing_0 rfl rfl ?_
  refine g_iconst (v := nI 0) X d_Lw_groupRing_1 rfl ?_
  refine g_aload_n X 0 d_Lw_groupRing_2 rfl rfl ?_
  refine g_iload_n X 1 d_Lw_groupRing_3 rfl rfl ?_
  refine g_callXV (n := 1) X hx9 [.int x] (kx_RO_groupRing ho hr hs h hg ha vm x (hx)) t3_50 t3_51 t3_52 t1_1 t3_53 rfl rfl (by decide +kernel) ⟨by decide, by decide⟩ [1] [0] [(qo, .inl (cJ, 1, .inr (.inl fo)))] rfl rfl rfl rfl (by decide) 0 rfl rfl rfl rfl (Nat.le_of_ble_eq_true rfl) d_Lw_groupRing_4 ⟨by decide, by decide⟩ ?_
  refine gx_catch X hx9 [] ⟨0, 9, 12, 19⟩ [] rfl (fun z hz => nomatch hz) (by decide) (by decide) t2_42 (va_Nw.use rfl hx9.2.1.2.2.2.2.2.2.2.1) (fun q9 => ?_)
  refine g_astore_n X [(3, .ref q9), (0, .ref ho), (1, .int x), (2, .ref qo)] d_Lw_groupRing_12 rfl (by decide) rfl ?_
  refine g_iconst (v := nI 1) X d_Lw_groupRing_13 rfl ?_
  exact g_iret X hA9 hQ9 hr9 hlk9 () [0, 1] rfl rfl d_Lw_groupRing_14 (rfl)

set_option maxHeartbeats 4000000 in
set_option maxRecDepth 100000 in
theorem kx_Lw_undo (ho : Nat) (hr : Nat) (hs : Nat) (h : Nat) (hg : Nat) (ha : Nat) (vm : Int32) (ru : Nat) (rw : Nat) (rk : Nat) (R : Nat) (sd : Nat) (x : Int32) (qo : Nat) (fo : Nat → Int64) (hR : R ≤ 200) (hx : badI R x) : CtH l y_Lw_undo (Cond.codeWith y_Lw_undo c_Lw_undo 4 (some .int)  [(0, 16, 19, 19)] :: TB) ({ frames := 7, cells := 1, slots := 6, locals := 103 } : Room) D (tysv cI cJ cZ cQ) [.ref ho, .int x, .ref qo] [(qo, .inl (cJ, 1, .inr (.inl fo))), (ho, .inr (7, [.ref hr, .ref hs, .ref h, .ref hg, .ref ha, .int vm])), (hr, .inr (2, [.ref ru, .ref rw, .ref rk, .int (nI R), .int (nI sd)]))] 1 6 (fun (r : Int32) (_ : Unit) => r = nI 1) (fun (_ : Unit) => [(qo, .inl (cJ, 1, .inr (.inl fo))), (ho, .inr (7, [.ref hr, .ref hs, .ref h, .ref hg, .ref ha, .int vm])), (hr, .inr (2, [.ref ru, .ref rw, .ref rk, .int (nI R), .int (nI sd)]))]) := by
  refine CtH.of c_Lw_undo 4 (some .int)  [(0, 16, 19, 19)] (by decide) rfl (Nat.le_of_ble_eq_true rfl) ?_
  intro p e s m args below meth c A Q hA9 hQ9 X hr9 hx9
  have hlk9 := hx9.2.2.2
  refine g_aload_n X 2 d_Lw_undo_0 rfl rfl ?_
  refine g_iconst (v := nI 0) X d_Lw_undo_1 rfl ?_
  refine g_aload_n X 0 d_Lw_undo_2 rfl rfl ?_
  refine g_iload_n X 1 d_Lw_undo_3 rfl rfl ?_
  refine g_callXV (n := 1) X hx9 [.int x] (kx_RO_undo ho hr hs h hg ha vm ru rw rk R sd x (hR) (hx)) t2_180 t2_181 t2_182 t1_1 t2_183 rfl rfl (by decide +kernel) ⟨by decide, by decide⟩ [1, 2] [0] [(qo, .inl (cJ, 1, .inr (.inl fo)))] rfl rfl rfl rfl (by decide) 0 rfl rfl rfl rfl (Nat.le_of_ble_eq_true rfl) d_Lw_undo_4 ⟨by decide, by decide⟩ ?_
  refine gx_catch X hx9 [] ⟨0, 16, 19, 19⟩ [] rfl (fun z hz => nomatch hz) (by decide) (by decide) t2_42 (va_Nw.use rfl hx9.2.1.2.2.2.2.2.2.2.1) (fun q9 => ?_)
  refine g_astore_n X [(3, .ref q9), (0, .ref ho), (1, .int x), (2, .ref qo)] d_Lw_undo_19 rfl (by decide) rfl ?_
  refine g_iconst (v := nI 1) X d_Lw_undo_20 rfl ?_
  exact g_iret X hA9 hQ9 hr9 hlk9 () [0, 1, 2] rfl rfl d_Lw_undo_21 (rfl)

set_option maxHeartbeats 4000000 in
set_option maxRecDepth 100000 in
theorem kx_Lw_order1 (ho : Nat) (hr : Nat) (hs : Nat) (h : Nat) (hg : Nat) (ha : Nat) (vm : Int32) (sn : Nat) (ss : Nat) (su : Nat) (K : Nat) (x : Int32) (y : Int32) (qo : Nat) (fo : Nat → Int64) (hK : K ≤ 48) (hx : badI K x) : CtH l y_Lw_order (Cond.codeWith y_Lw_order c_Lw_order 5 (some .int)  [(0, 10, 13, 19)] :: TB) ({ frames := 8, cells := 1, slots := 6, locals := 125 } : Room) D (tysv cI cJ cZ cQ) [.ref ho, .int x, .int y, .ref qo] [(qo, .inl (cJ, 1, .inr (.inl fo))), (ho, .inr (7, [.ref hr, .ref hs, .ref h, .ref hg, .ref ha, .int vm])), (hs, .inr (4, [.ref sn, .ref ss, .ref su, .int (nI K)]))] 1 6 (fun (r : Int32) (_ : Unit) => r = nI 1) (fun (_ : Unit) => [(qo, .inl (cJ, 1, .inr (.inl fo))), (ho, .inr (7, [.ref hr, .ref hs, .ref h, .ref hg, .ref ha, .int vm])), (hs, .inr (4, [.ref sn, .ref ss, .ref su, .int (nI K)]))]) := by
  refine CtH.of c_Lw_order 5 (some .int)  [(0, 10, 13, 19)] (by decide) rfl (Nat.le_of_ble_eq_true rfl) ?_
  intro p e s m args below meth c A Q hA9 hQ9 X hr9 hx9
  have hlk9 := hx9.2.2.2
  refine g_aload_n X 3 d_Lw_order_0 rfl rfl ?_
  refine g_iconst (v := nI 0) X d_Lw_order_1 rfl ?_
  refine g_aload_n X 0 d_Lw_order_2 rfl rfl ?_
  refine g_iload_n X 1 d_Lw_order_3 rfl rfl ?_
  refine g_iload_n X 2 d_Lw_order_4 rfl rfl ?_
  refine g_callXV (n := 2) X hx9 [.int x, .int y] (kx_RO_order1 ho hr hs h hg ha vm sn ss su K x y (hK) (hx)) t2_192 t2_193 t2_194 t1_1 t2_195 rfl rfl (by decide +kernel) ⟨by decide, by decide⟩ [1, 2] [0] [(qo, .inl (cJ, 1, .inr (.inl fo)))] rfl rfl rfl rfl (by decide) 0 rfl rfl rfl rfl (Nat.le_of_ble_eq_true rfl) d_Lw_order_5 ⟨by decide, by decide⟩ ?_
  refine gx_catch X hx9 [] ⟨0, 10, 13, 19⟩ [] rfl (fun z hz => nomatch hz) (by decide) (by decide) t2_42 (va_Nw.use rfl hx9.2.1.2.2.2.2.2.2.2.1) (fun q9 => ?_)
  refine g_astore X [(4, .ref q9), (0, .ref ho), (1, .int x), (2, .int y), (3, .ref qo)] d_Lw_order_13 (by decide) rfl ?_
  refine g_iconst (v := nI 1) X d_Lw_order_15 rfl ?_
  exact g_iret X hA9 hQ9 hr9 hlk9 () [0, 1, 2] rfl rfl d_Lw_order_16 (rfl)

set_option maxHeartbeats 4000000 in
set_option maxRecDepth 100000 in
theorem kx_Lw_order2 (ho : Nat) (hr : Nat) (hs : Nat) (h : Nat) (hg : Nat) (ha : Nat) (vm : Int32) (sn : Nat) (ss : Nat) (su : Nat) (K : Nat) (i : Nat) (x : Int32) (qo : Nat) (fo : Nat → Int64) (hK : K ≤ 48) (hx : badI K x) (hi : i < K) : CtH l y_Lw_order (Cond.codeWith y_Lw_order c_Lw_order 5 (some .int)  [(0, 10, 13, 19)] :: TB) ({ frames := 8, cells := 1, slots := 6, locals := 125 } : Room) D (tysv cI cJ cZ cQ) [.ref ho, .int (nI i), .int x, .ref qo] [(qo, .inl (cJ, 1, .inr (.inl fo))), (ho, .inr (7, [.ref hr, .ref hs, .ref h, .ref hg, .ref ha, .int vm])), (hs, .inr (4, [.ref sn, .ref ss, .ref su, .int (nI K)]))] 1 6 (fun (r : Int32) (_ : Unit) => r = nI 1) (fun (_ : Unit) => [(qo, .inl (cJ, 1, .inr (.inl fo))), (ho, .inr (7, [.ref hr, .ref hs, .ref h, .ref hg, .ref ha, .int vm])), (hs, .inr (4, [.ref sn, .ref ss, .ref su, .int (nI K)]))]) := by
  refine CtH.of c_Lw_order 5 (some .int)  [(0, 10, 13, 19)] (by decide) rfl (Nat.le_of_ble_eq_true rfl) ?_
  intro p e s m args below meth c A Q hA9 hQ9 X hr9 hx9
  have hlk9 := hx9.2.2.2
  refine g_aload_n X 3 d_Lw_order_0 rfl rfl ?_
  refine g_iconst (v := nI 0) X d_Lw_order_1 rfl ?_
  refine g_aload_n X 0 d_Lw_order_2 rfl rfl ?_
  refine g_iload_n X 1 d_Lw_order_3 rfl rfl ?_
  refine g_iload_n X 2 d_Lw_order_4 rfl rfl ?_
  refine g_callXV (n := 2) X hx9 [.int (nI i), .int x] (kx_RO_order2 ho hr hs h hg ha vm sn ss su K i x (hK) (hx) (hi)) t2_192 t2_193 t2_194 t1_1 t2_195 rfl rfl (by decide +kernel) ⟨by decide, by decide⟩ [1, 2] [0] [(qo, .inl (cJ, 1, .inr (.inl fo)))] rfl rfl rfl rfl (by decide) 0 rfl rfl rfl rfl (Nat.le_of_ble_eq_true rfl) d_Lw_order_5 ⟨by decide, by decide⟩ ?_
  refine gx_catch X hx9 [] ⟨0, 10, 13, 19⟩ [] rfl (fun z hz => nomatch hz) (by decide) (by decide) t2_42 (va_Nw.use rfl hx9.2.1.2.2.2.2.2.2.2.1) (fun q9 => ?_)
  refine g_astore X [(4, .ref q9), (0, .ref ho), (1, .int (nI i)), (2, .int x), (3, .ref qo)] d_Lw_order_13 (by decide) rfl ?_
  refine g_iconst (v := nI 1) X d_Lw_order_15 rfl ?_
  exact g_iret X hA9 hQ9 hr9 hlk9 () [0, 1, 2] rfl rfl d_Lw_order_16 (rfl)

set_option maxHeartbeats 4000000 in
set_option maxRecDepth 100000 in
theorem kx_Lw_contemporary1 (ho : Nat) (hr : Nat) (hs : Nat) (h : Nat) (hg : Nat) (ha : Nat) (vm : Int32) (sn : Nat) (ss : Nat) (su : Nat) (K : Nat) (x : Int32) (y : Int32) (qo : Nat) (fo : Nat → Int64) (hK : K ≤ 48) (hx : badI K x) : CtH l y_Lw_contemporary (Cond.codeWith y_Lw_contemporary c_Lw_contemporary 5 (some .int)  [(0, 17, 20, 19)] :: TB) ({ frames := 8, cells := 1, slots := 6, locals := 125 } : Room) D (tysv cI cJ cZ cQ) [.ref ho, .int x, .int y, .ref qo] [(qo, .inl (cJ, 1, .inr (.inl fo))), (ho, .inr (7, [.ref hr, .ref hs, .ref h, .ref hg, .ref ha, .int vm])), (hs, .inr (4, [.ref sn, .ref ss, .ref su, .int (nI K)]))] 1 6 (fun (r : Int32) (_ : Unit) => r = nI 1) (fun (_ : Unit) => [(qo, .inl (cJ, 1, .inr (.inl fo))), (ho, .inr (7, [.ref hr, .ref hs, .ref h, .ref hg, .ref ha, .int vm])), (hs, .inr (4, [.ref sn, .ref ss, .ref su, .int (nI K)]))]) := by
  refine CtH.of c_Lw_contemporary 5 (some .int)  [(0, 17, 20, 19)] (by decide) rfl (Nat.le_of_ble_eq_true rfl) ?_
  intro p e s m args below meth c A Q hA9 hQ9 X hr9 hx9
  have hlk9 := hx9.2.2.2
  refine g_aload_n X 3 d_Lw_contemporary_0 rfl rfl ?_
  refine g_iconst (v := nI 0) X d_Lw_contemporary_1 rfl ?_
  refine g_aload_n X 0 d_Lw_contemporary_2 rfl rfl ?_
  refine g_iload_n X 1 d_Lw_contemporary_3 rfl rfl ?_
  refine g_iload_n X 2 d_Lw_contemporary_4 rfl rfl ?_
  refine g_callXV (n := 2) X hx9 [.int x, .int y] (kx_RO_contemporary1 ho hr hs h hg ha vm sn ss su K x y (hK) (hx)) t2_224 t2_225 t2_226 t1_1 t2_227 rfl rfl (by decide +kernel) ⟨by decide, by decide⟩ [1, 2] [0] [(qo, .inl (cJ, 1, .inr (.inl fo)))] rfl rfl rfl rfl (by decide) 0 rfl rfl rfl rfl (Nat.le_of_ble_eq_true rfl) d_Lw_contemporary_5 ⟨by decide, by decide⟩ ?_
  refine gx_catch X hx9 [] ⟨0, 17, 20, 19⟩ [] rfl (fun z hz => nomatch hz) (by decide) (by decide) t2_42 (va_Nw.use rfl hx9.2.1.2.2.2.2.2.2.2.1) (fun q9 => ?_)
  refine g_astore X [(4, .ref q9), (0, .ref ho), (1, .int x), (2, .int y), (3, .ref qo)] d_Lw_contemporary_20 (by decide) rfl ?_
  refine g_iconst (v := nI 1) X d_Lw_contemporary_22 rfl ?_
  exact g_iret X hA9 hQ9 hr9 hlk9 () [0, 1, 2] rfl rfl d_Lw_contemporary_23 (rfl)

set_option maxHeartbeats 4000000 in
set_option maxRecDepth 100000 in
theorem kx_Lw_contemporary2 (ho : Nat) (hr : Nat) (hs : Nat) (h : Nat) (hg : Nat) (ha : Nat) (vm : Int32) (sn : Nat) (ss : Nat) (su : Nat) (K : Nat) (i : Nat) (x : Int32) (qo : Nat) (fo : Nat → Int64) (hK : K ≤ 48) (hx : badI K x) (hi : i < K) : CtH l y_Lw_contemporary (Cond.codeWith y_Lw_contemporary c_Lw_contemporary 5 (some .int)  [(0, 17, 20, 19)] :: TB) ({ frames := 8, cells := 1, slots := 6, locals := 125 } : Room) D (tysv cI cJ cZ cQ) [.ref ho, .int (nI i), .int x, .ref qo] [(qo, .inl (cJ, 1, .inr (.inl fo))), (ho, .inr (7, [.ref hr, .ref hs, .ref h, .ref hg, .ref ha, .int vm])), (hs, .inr (4, [.ref sn, .ref ss, .ref su, .int (nI K)]))] 1 6 (fun (r : Int32) (_ : Unit) => r = nI 1) (fun (_ : Unit) => [(qo, .inl (cJ, 1, .inr (.inl fo))), (ho, .inr (7, [.ref hr, .ref hs, .ref h, .ref hg, .ref ha, .int vm])), (hs, .inr (4, [.ref sn, .ref ss, .ref su, .int (nI K)]))]) := by
  refine CtH.of c_Lw_contemporary 5 (some .int)  [(0, 17, 20, 19)] (by decide) rfl (Nat.le_of_ble_eq_true rfl) ?_
  intro p e s m args below meth c A Q hA9 hQ9 X hr9 hx9
  have hlk9 := hx9.2.2.2
  refine g_aload_n X 3 d_Lw_contemporary_0 rfl rfl ?_
  refine g_iconst (v := nI 0) X d_Lw_contemporary_1 rfl ?_
  refine g_aload_n X 0 d_Lw_contemporary_2 rfl rfl ?_
  refine g_iload_n X 1 d_Lw_contemporary_3 rfl rfl ?_
  refine g_iload_n X 2 d_Lw_contemporary_4 rfl rfl ?_
  refine g_callXV (n := 2) X hx9 [.int (nI i), .int x] (kx_RO_contemporary2 ho hr hs h hg ha vm sn ss su K i x (hK) (hx) (hi)) t2_224 t2_225 t2_226 t1_1 t2_227 rfl rfl (by decide +kernel) ⟨by decide, by decide⟩ [1, 2] [0] [(qo, .inl (cJ, 1, .inr (.inl fo)))] rfl rfl rfl rfl (by decide) 0 rfl rfl rfl rfl (Nat.le_of_ble_eq_true rfl) d_Lw_contemporary_5 ⟨by decide, by decide⟩ ?_
  refine gx_catch X hx9 [] ⟨0, 17, 20, 19⟩ [] rfl (fun z hz => nomatch hz) (by decide) (by decide) t2_42 (va_Nw.use rfl hx9.2.1.2.2.2.2.2.2.2.1) (fun q9 => ?_)
  refine g_astore X [(4, .ref q9), (0, .ref ho), (1, .int (nI i)), (2, .int x), (3, .ref qo)] d_Lw_contemporary_20 (by decide) rfl ?_
  refine g_iconst (v := nI 1) X d_Lw_contemporary_22 rfl ?_
  exact g_iret X hA9 hQ9 hr9 hlk9 () [0, 1, 2] rfl rfl d_Lw_contemporary_23 (rfl)

set_option maxHeartbeats 4000000 in
set_option maxRecDepth 100000 in
theorem kx_Lw_equal (ho : Nat) (hr : Nat) (hs : Nat) (h : Nat) (hg : Nat) (ha : Nat) (vm : Int32) (sn : Nat) (ss : Nat) (su : Nat) (K : Nat) (x : Int32) (qo : Nat) (fo : Nat → Int64) (hK : K ≤ 48) (hx : badI K x) : CtH l y_Lw_equal (Cond.codeWith y_Lw_equal c_Lw_equal 4 (some .int)  [(0, 9, 12, 19)] :: TB) ({ frames := 8, cells := 1, slots := 6, locals := 124 } : Room) D (tysv cI cJ cZ cQ) [.ref ho, .int x, .ref qo] [(qo, .inl (cJ, 1, .inr (.inl fo))), (ho, .inr (7, [.ref hr, .ref hs, .ref h, .ref hg, .ref ha, .int vm])), (hs, .inr (4, [.ref sn, .ref ss, .ref su, .int (nI K)]))] 1 6 (fun (r : Int32) (_ : Unit) => r = nI 1) (fun (_ : Unit) => [(qo, .inl (cJ, 1, .inr (.inl fo))), (ho, .inr (7, [.ref hr, .ref hs, .ref h, .ref hg, .ref ha, .int vm])), (hs, .inr (4, [.ref sn, .ref ss, .ref su, .int (nI K)]))]) := by
  refine CtH.of c_Lw_equal 4 (some .int)  [(0, 9, 12, 19)] (by decide) rfl (Nat.le_of_ble_eq_true rfl) ?_
  intro p e s m args below meth c A Q hA9 hQ9 X hr9 hx9
  have hlk9 := hx9.2.2.2
  refine g_aload_n X 2 d_Lw_equal_0 rfl rfl ?_
  refine g_iconst (v := nI 0) X d_Lw_equal_1 rfl ?_
  refine g_aload_n X 0 d_Lw_equal_2 rfl rfl ?_
  refine g_iload_n X 1 d_Lw_equal_3 rfl rfl ?_
  refine g_callXV (n := 1) X hx9 [.int x] (kx_RO_equal ho hr hs h hg ha vm sn ss su K x (hK) (hx)) t2_217 t2_218 t2_219 t1_1 t2_220 rfl rfl (by decide +kernel) ⟨by decide, by decide⟩ [1, 2] [0] [(qo, .inl (cJ, 1, .inr (.inl fo)))] rfl rfl rfl rfl (by decide) 0 rfl rfl rfl rfl (Nat.le_of_ble_eq_true rfl) d_Lw_equal_4 ⟨by decide, by decide⟩ ?_
  refine gx_catch X hx9 [] ⟨0, 9, 12, 19⟩ [] rfl (fun z hz => nomatch hz) (by decide) (by decide) t2_42 (va_Nw.use rfl hx9.2.1.2.2.2.2.2.2.2.1) (fun q9 => ?_)
  refine g_astore_n X [(3, .ref q9), (0, .ref ho), (1, .int x), (2, .ref qo)] d_Lw_equal_12 rfl (by decide) rfl ?_
  refine g_iconst (v := nI 1) X d_Lw_equal_13 rfl ?_
  exact g_iret X hA9 hQ9 hr9 hlk9 () [0, 1, 2] rfl rfl d_Lw_equal_14 (rfl)

set_option maxHeartbeats 4000000 in
set_option maxRecDepth 100000 in
theorem kx_Lw_longest (ho : Nat) (hr : Nat) (hs : Nat) (h : Nat) (hg : Nat) (ha : Nat) (vm : Int32) (sn : Nat) (ss : Nat) (su : Nat) (K : Nat) (x : Int32) (qo : Nat) (fo : Nat → Int64) (hK : K ≤ 48) (hx : badI K x) : CtH l y_Lw_longest (Cond.codeWith y_Lw_longest c_Lw_longest 4 (some .int)  [(0, 9, 12, 19)] :: TB) ({ frames := 8, cells := 1, slots := 6, locals := 124 } : Room) D (tysv cI cJ cZ cQ) [.ref ho, .int x, .ref qo] [(qo, .inl (cJ, 1, .inr (.inl fo))), (ho, .inr (7, [.ref hr, .ref hs, .ref h, .ref hg, .ref ha, .int vm])), (hs, .inr (4, [.ref sn, .ref ss, .ref su, .int (nI K)]))] 1 6 (fun (r : Int32) (_ : Unit) => r = nI 1) (fun (_ : Unit) => [(qo, .inl (cJ, 1, .inr (.inl fo))), (ho, .inr (7, [.ref hr, .ref hs, .ref h, .ref hg, .ref ha, .int vm])), (hs, .inr (4, [.ref sn, .ref ss, .ref su, .int (nI K)]))]) := by
  refine CtH.of c_Lw_longest 4 (some .int)  [(0, 9, 12, 19)] (by decide) rfl (Nat.le_of_ble_eq_true rfl) ?_
  intro p e s m args below meth c A Q hA9 hQ9 X hr9 hx9
  have hlk9 := hx9.2.2.2
  refine g_aload_n X 2 d_Lw_longest_0 rfl rfl ?_
  refine g_iconst (v := nI 0) X d_Lw_longest_1 rfl ?_
  refine g_aload_n X 0 d_Lw_longest_2 rfl rfl ?_
  refine g_iload_n X 1 d_Lw_longest_3 rfl rfl ?_
  refine g_callXV (n := 1) X hx9 [.int x] (kx_RO_longest ho hr hs h hg ha vm sn ss su K x (hK) (hx)) t2_239 t3_0 t3_1 t1_1 t3_2 rfl rfl (by decide +kernel) ⟨by decide, by decide⟩ [1, 2] [0] [(qo, .inl (cJ, 1, .inr (.inl fo)))] rfl rfl rfl rfl (by decide) 0 rfl rfl rfl rfl (Nat.le_of_ble_eq_true rfl) d_Lw_longest_4 ⟨by decide, by decide⟩ ?_
  refine gx_catch X hx9 [] ⟨0, 9, 12, 19⟩ [] rfl (fun z hz => nomatch hz) (by decide) (by decide) t2_42 (va_Nw.use rfl hx9.2.1.2.2.2.2.2.2.2.1) (fun q9 => ?_)
  refine g_astore_n X [(3, .ref q9), (0, .ref ho), (1, .int x), (2, .ref qo)] d_Lw_longest_12 rfl (by decide) rfl ?_
  refine g_iconst (v := nI 1) X d_Lw_longest_13 rfl ?_
  exact g_iret X hA9 hQ9 hr9 hlk9 () [0, 1, 2] rfl rfl d_Lw_longest_14 (rfl)

set_option maxHeartbeats 4000000 in
set_option maxRecDepth 100000 in
theorem kx_Lw_groupOf (ho : Nat) (hr : Nat) (hs : Nat) (h : Nat) (hg : Nat) (ha : Nat) (vm : Int32) (sn : Nat) (ss : Nat) (su : Nat) (K : Nat) (x : Int32) (qo : Nat) (fo : Nat → Int64) (hK : K ≤ 48) (hx : badI K x) : CtH l y_Lw_groupOf (Cond.codeWith y_Lw_groupOf c_Lw_groupOf 4 (some .int)  [(0, 9, 12, 19)] :: TB) ({ frames := 8, cells := 1, slots := 6, locals := 124 } : Room) D (tysv cI cJ cZ cQ) [.ref ho, .int x, .ref qo] [(qo, .inl (cJ, 1, .inr (.inl fo))), (ho, .inr (7, [.ref hr, .ref hs, .ref h, .ref hg, .ref ha, .int vm])), (hs, .inr (4, [.ref sn, .ref ss, .ref su, .int (nI K)]))] 1 6 (fun (r : Int32) (_ : Unit) => r = nI 1) (fun (_ : Unit) => [(qo, .inl (cJ, 1, .inr (.inl fo))), (ho, .inr (7, [.ref hr, .ref hs, .ref h, .ref hg, .ref ha, .int vm])), (hs, .inr (4, [.ref sn, .ref ss, .ref su, .int (nI K)]))]) := by
  refine CtH.of c_Lw_groupOf 4 (some .int)  [(0, 9, 12, 19)] (by decide) rfl (Nat.le_of_ble_eq_true rfl) ?_
  intro p e s m args below meth c A Q hA9 hQ9 X hr9 hx9
  have hlk9 := hx9.2.2.2
  refine g_aload_n X 2 d_Lw_groupOf_0 rfl rfl ?_
  refine g_iconst (v := nI 0) X d_Lw_groupOf_1 rfl ?_
  refine g_aload_n X 0 d_Lw_groupOf_2 rfl rfl ?_
  refine g_iload_n X 1 d_Lw_groupOf_3 rfl rfl ?_
  refine g_callXV (n := 1) X hx9 [.int x] (kx_RO_groupOf ho hr hs h hg ha vm sn ss su K x (hK) (hx)) t3_62 t3_63 t3_64 t1_1 t3_65 rfl rfl (by decide +kernel) ⟨by decide, by decide⟩ [1, 2] [0] [(qo, .inl (cJ, 1, .inr (.inl fo)))] rfl rfl rfl rfl (by decide) 0 rfl rfl rfl rfl (Nat.le_of_ble_eq_true rfl) d_Lw_groupOf_4 ⟨by decide, by decide⟩ ?_
  refine gx_catch X hx9 [] ⟨0, 9, 12, 19⟩ [] rfl (fun z hz => nomatch hz) (by decide) (by decide) t2_42 (va_Nw.use rfl hx9.2.1.2.2.2.2.2.2.2.1) (fun q9 => ?_)
  refine g_astore_n X [(3, .ref q9), (0, .ref ho), (1, .int x), (2, .ref qo)] d_Lw_groupOf_12 rfl (by decide) rfl ?_
  refine g_iconst (v := nI 1) X d_Lw_groupOf_13 rfl ?_
  exact g_iret X hA9 hQ9 hr9 hlk9 () [0, 1, 2] rfl rfl d_Lw_groupOf_14 (rfl)

set_option maxHeartbeats 4000000 in
set_option maxRecDepth 100000 in
theorem kx_Lw_linkW (ho : Nat) (hr : Nat) (hs : Nat) (h : Nat) (hg : Nat) (ha : Nat) (vm : Int32) (x : Int32) (y : Int32) (qo : Nat) (fo : Nat → Int64) (hy : badI 2 y) : CtH l y_Lw_link (Cond.codeWith y_Lw_link c_Lw_link 5 (some .int)  [(0, 10, 13, 19)] :: TB) ({ frames := 7, cells := 1, slots := 6, locals := 104 } : Room) D (tysv cI cJ cZ cQ) [.ref ho, .int x, .int y, .ref qo] [(qo, .inl (cJ, 1, .inr (.inl fo))), (ho, .inr (7, [.ref hr, .ref hs, .ref h, .ref hg, .ref ha, .int vm]))] 1 6 (fun (r : Int32) (_ : Unit) => r = nI 1) (fun (_ : Unit) => [(qo, .inl (cJ, 1, .inr (.inl fo))), (ho, .inr (7, [.ref hr, .ref hs, .ref h, .ref hg, .ref ha, .int vm]))]) := by
  refine CtH.of c_Lw_link 5 (some .int)  [(0, 10, 13, 19)] (by decide) rfl (Nat.le_of_ble_eq_true rfl) ?_
  intro p e s m args below meth c A Q hA9 hQ9 X hr9 hx9
  have hlk9 := hx9.2.2.2
  refine g_aload_n X 3 d_Lw_link_0 rfl rfl ?_
  refine g_iconst (v := nI 0) X d_Lw_link_1 rfl ?_
  refine g_aload_n X 0 d_Lw_link_2 rfl rfl ?_
  refine g_iload_n X 1 d_Lw_link_3 rfl rfl ?_
  refine g_iload_n X 2 d_Lw_link_4 rfl rfl ?_
  refine g_callXV (n := 2) X hx9 [.int x, .int y] (kx_RO_linkW ho hr hs h hg ha vm x y (hy)) t2_203 t2_204 t2_205 t1_1 t2_206 rfl rfl (by decide +kernel) ⟨by decide, by decide⟩ [1] [0] [(qo, .inl (cJ, 1, .inr (.inl fo)))] rfl rfl rfl rfl (by decide) 0 rfl rfl rfl rfl (Nat.le_of_ble_eq_true rfl) d_Lw_link_5 ⟨by decide, by decide⟩ ?_
  refine gx_catch X hx9 [] ⟨0, 10, 13, 19⟩ [] rfl (fun z hz => nomatch hz) (by decide) (by decide) t2_42 (va_Nw.use rfl hx9.2.1.2.2.2.2.2.2.2.1) (fun q9 => ?_)
  refine g_astore X [(4, .ref q9), (0, .ref ho), (1, .int x), (2, .int y), (3, .ref qo)] d_Lw_link_13 (by decide) rfl ?_
  refine g_iconst (v := nI 1) X d_Lw_link_15 rfl ?_
  exact g_iret X hA9 hQ9 hr9 hlk9 () [0, 1] rfl rfl d_Lw_link_16 (rfl)

set_option maxHeartbeats 4000000 in
set_option maxRecDepth 100000 in
theorem kx_Lw_linkK0 (ho : Nat) (hr : Nat) (hs : Nat) (h : Nat) (hg : Nat) (ha : Nat) (vm : Int32) (x : Int32) (qo : Nat) (fo : Nat → Int64) (hx : x < 0) : CtH l y_Lw_link (Cond.codeWith y_Lw_link c_Lw_link 5 (some .int)  [(0, 10, 13, 19)] :: TB) ({ frames := 7, cells := 1, slots := 6, locals := 104 } : Room) D (tysv cI cJ cZ cQ) [.ref ho, .int x, .int (nI 0), .ref qo] [(qo, .inl (cJ, 1, .inr (.inl fo))), (ho, .inr (7, [.ref hr, .ref hs, .ref h, .ref hg, .ref ha, .int vm]))] 1 6 (fun (r : Int32) (_ : Unit) => r = nI 1) (fun (_ : Unit) => [(qo, .inl (cJ, 1, .inr (.inl fo))), (ho, .inr (7, [.ref hr, .ref hs, .ref h, .ref hg, .ref ha, .int vm]))]) := by
  refine CtH.of c_Lw_link 5 (some .int)  [(0, 10, 13, 19)] (by decide) rfl (Nat.le_of_ble_eq_true rfl) ?_
  intro p e s m args below meth c A Q hA9 hQ9 X hr9 hx9
  have hlk9 := hx9.2.2.2
  refine g_aload_n X 3 d_Lw_link_0 rfl rfl ?_
  refine g_iconst (v := nI 0) X d_Lw_link_1 rfl ?_
  refine g_aload_n X 0 d_Lw_link_2 rfl rfl ?_
  refine g_iload_n X 1 d_Lw_link_3 rfl rfl ?_
  refine g_iload_n X 2 d_Lw_link_4 rfl rfl ?_
  refine g_callXV (n := 2) X hx9 [.int x, .int (nI 0)] (kx_RO_linkK0 ho hr hs h hg ha vm x (hx)) t2_203 t2_204 t2_205 t1_1 t2_206 rfl rfl (by decide +kernel) ⟨by decide, by decide⟩ [1] [0] [(qo, .inl (cJ, 1, .inr (.inl fo)))] rfl rfl rfl rfl (by decide) 0 rfl rfl rfl rfl (Nat.le_of_ble_eq_true rfl) d_Lw_link_5 ⟨by decide, by decide⟩ ?_
  refine gx_catch X hx9 [] ⟨0, 10, 13, 19⟩ [] rfl (fun z hz => nomatch hz) (by decide) (by decide) t2_42 (va_Nw.use rfl hx9.2.1.2.2.2.2.2.2.2.1) (fun q9 => ?_)
  refine g_astore X [(4, .ref q9), (0, .ref ho), (1, .int x), (2, .int (nI 0)), (3, .ref qo)] d_Lw_link_13 (by decide) rfl ?_
  refine g_iconst (v := nI 1) X d_Lw_link_15 rfl ?_
  exact g_iret X hA9 hQ9 hr9 hlk9 () [0, 1] rfl rfl d_Lw_link_16 (rfl)

set_option maxHeartbeats 4000000 in
set_option maxRecDepth 100000 in
theorem kx_Lw_linkN0 (ho : Nat) (hr : Nat) (hs : Nat) (h : Nat) (hg : Nat) (ha : Nat) (vm : Int32) (sn : Nat) (ss : Nat) (su : Nat) (K : Nat) (xu : Nat) (fU : Nat → Int64) (k : Nat) (qo : Nat) (fo : Nat → Int64) (hK : K ≤ 48) (hk2 : k < 2 ^ 31) (hk : lsum (fun z9 => cnt (lkB fU K z9) 64) K ≤ k) : CtH l y_Lw_link (Cond.codeWith y_Lw_link c_Lw_link 5 (some .int)  [(0, 10, 13, 19)] :: TB) ({ frames := 7, cells := 1, slots := 6, locals := 113 } : Room) D (tysv cI cJ cZ cQ) [.ref ho, .int (nI k), .int (nI 0), .ref qo] [(qo, .inl (cJ, 1, .inr (.inl fo))), (ho, .inr (7, [.ref hr, .ref hs, .ref h, .ref hg, .ref ha, .int vm])), (hs, .inr (4, [.ref sn, .ref ss, .ref su, .int (nI K)])), (su, .inr (1, [.ref xu])), (xu, .inl (cJ, 48, .inr (.inl fU)))] 1 6 (fun (r : Int32) (_ : Unit) => r = nI 1) (fun (_ : Unit) => [(qo, .inl (cJ, 1, .inr (.inl fo))), (ho, .inr (7, [.ref hr, .ref hs, .ref h, .ref hg, .ref ha, .int vm])), (hs, .inr (4, [.ref sn, .ref ss, .ref su, .int (nI K)])), (su, .inr (1, [.ref xu])), (xu, .inl (cJ, 48, .inr (.inl fU)))]) := by
  refine CtH.of c_Lw_link 5 (some .int)  [(0, 10, 13, 19)] (by decide) rfl (Nat.le_of_ble_eq_true rfl) ?_
  intro p e s m args below meth c A Q hA9 hQ9 X hr9 hx9
  have hlk9 := hx9.2.2.2
  refine g_aload_n X 3 d_Lw_link_0 rfl rfl ?_
  refine g_iconst (v := nI 0) X d_Lw_link_1 rfl ?_
  refine g_aload_n X 0 d_Lw_link_2 rfl rfl ?_
  refine g_iload_n X 1 d_Lw_link_3 rfl rfl ?_
  refine g_iload_n X 2 d_Lw_link_4 rfl rfl ?_
  refine g_callXV (n := 2) X hx9 [.int (nI k), .int (nI 0)] (kx_RO_linkN0 ho hr hs h hg ha vm sn ss su K xu fU k (hK) (hk2) (hk)) t2_203 t2_204 t2_205 t1_1 t2_206 rfl rfl (by decide +kernel) ⟨by decide, by decide⟩ [1, 2, 3, 4] [0] [(qo, .inl (cJ, 1, .inr (.inl fo)))] rfl rfl rfl rfl (by decide) 0 rfl rfl rfl rfl (Nat.le_of_ble_eq_true rfl) d_Lw_link_5 ⟨by decide, by decide⟩ ?_
  refine gx_catch X hx9 [] ⟨0, 10, 13, 19⟩ [] rfl (fun z hz => nomatch hz) (by decide) (by decide) t2_42 (va_Nw.use rfl hx9.2.1.2.2.2.2.2.2.2.1) (fun q9 => ?_)
  refine g_astore X [(4, .ref q9), (0, .ref ho), (1, .int (nI k)), (2, .int (nI 0)), (3, .ref qo)] d_Lw_link_13 (by decide) rfl ?_
  refine g_iconst (v := nI 1) X d_Lw_link_15 rfl ?_
  exact g_iret X hA9 hQ9 hr9 hlk9 () [0, 1, 2, 3, 4] rfl rfl d_Lw_link_16 (rfl)

set_option maxHeartbeats 4000000 in
set_option maxRecDepth 100000 in
theorem kx_Lw_linkK1 (ho : Nat) (hr : Nat) (hs : Nat) (h : Nat) (hg : Nat) (ha : Nat) (vm : Int32) (x : Int32) (qo : Nat) (fo : Nat → Int64) (hx : x < 0) : CtH l y_Lw_link (Cond.codeWith y_Lw_link c_Lw_link 5 (some .int)  [(0, 10, 13, 19)] :: TB) ({ frames := 7, cells := 1, slots := 6, locals := 104 } : Room) D (tysv cI cJ cZ cQ) [.ref ho, .int x, .int (nI 1), .ref qo] [(qo, .inl (cJ, 1, .inr (.inl fo))), (ho, .inr (7, [.ref hr, .ref hs, .ref h, .ref hg, .ref ha, .int vm]))] 1 6 (fun (r : Int32) (_ : Unit) => r = nI 1) (fun (_ : Unit) => [(qo, .inl (cJ, 1, .inr (.inl fo))), (ho, .inr (7, [.ref hr, .ref hs, .ref h, .ref hg, .ref ha, .int vm]))]) := by
  refine CtH.of c_Lw_link 5 (some .int)  [(0, 10, 13, 19)] (by decide) rfl (Nat.le_of_ble_eq_true rfl) ?_
  intro p e s m args below meth c A Q hA9 hQ9 X hr9 hx9
  have hlk9 := hx9.2.2.2
  refine g_aload_n X 3 d_Lw_link_0 rfl rfl ?_
  refine g_iconst (v := nI 0) X d_Lw_link_1 rfl ?_
  refine g_aload_n X 0 d_Lw_link_2 rfl rfl ?_
  refine g_iload_n X 1 d_Lw_link_3 rfl rfl ?_
  refine g_iload_n X 2 d_Lw_link_4 rfl rfl ?_
  refine g_callXV (n := 2) X hx9 [.int x, .int (nI 1)] (kx_RO_linkK1 ho hr hs h hg ha vm x (hx)) t2_203 t2_204 t2_205 t1_1 t2_206 rfl rfl (by decide +kernel) ⟨by decide, by decide⟩ [1] [0] [(qo, .inl (cJ, 1, .inr (.inl fo)))] rfl rfl rfl rfl (by decide) 0 rfl rfl rfl rfl (Nat.le_of_ble_eq_true rfl) d_Lw_link_5 ⟨by decide, by decide⟩ ?_
  refine gx_catch X hx9 [] ⟨0, 10, 13, 19⟩ [] rfl (fun z hz => nomatch hz) (by decide) (by decide) t2_42 (va_Nw.use rfl hx9.2.1.2.2.2.2.2.2.2.1) (fun q9 => ?_)
  refine g_astore X [(4, .ref q9), (0, .ref ho), (1, .int x), (2, .int (nI 1)), (3, .ref qo)] d_Lw_link_13 (by decide) rfl ?_
  refine g_iconst (v := nI 1) X d_Lw_link_15 rfl ?_
  exact g_iret X hA9 hQ9 hr9 hlk9 () [0, 1] rfl rfl d_Lw_link_16 (rfl)

set_option maxHeartbeats 4000000 in
set_option maxRecDepth 100000 in
theorem kx_Lw_linkN1 (ho : Nat) (hr : Nat) (hs : Nat) (h : Nat) (hg : Nat) (ha : Nat) (vm : Int32) (sn : Nat) (ss : Nat) (su : Nat) (K : Nat) (xu : Nat) (fU : Nat → Int64) (k : Nat) (qo : Nat) (fo : Nat → Int64) (hK : K ≤ 48) (hk2 : k < 2 ^ 31) (hk : lsum (fun z9 => cnt (lkB fU K z9) 64) K ≤ k) : CtH l y_Lw_link (Cond.codeWith y_Lw_link c_Lw_link 5 (some .int)  [(0, 10, 13, 19)] :: TB) ({ frames := 7, cells := 1, slots := 6, locals := 113 } : Room) D (tysv cI cJ cZ cQ) [.ref ho, .int (nI k), .int (nI 1), .ref qo] [(qo, .inl (cJ, 1, .inr (.inl fo))), (ho, .inr (7, [.ref hr, .ref hs, .ref h, .ref hg, .ref ha, .int vm])), (hs, .inr (4, [.ref sn, .ref ss, .ref su, .int (nI K)])), (su, .inr (1, [.ref xu])), (xu, .inl (cJ, 48, .inr (.inl fU)))] 1 6 (fun (r : Int32) (_ : Unit) => r = nI 1) (fun (_ : Unit) => [(qo, .inl (cJ, 1, .inr (.inl fo))), (ho, .inr (7, [.ref hr, .ref hs, .ref h, .ref hg, .ref ha, .int vm])), (hs, .inr (4, [.ref sn, .ref ss, .ref su, .int (nI K)])), (su, .inr (1, [.ref xu])), (xu, .inl (cJ, 48, .inr (.inl fU)))]) := by
  refine CtH.of c_Lw_link 5 (some .int)  [(0, 10, 13, 19)] (by decide) rfl (Nat.le_of_ble_eq_true rfl) ?_
  intro p e s m args below meth c A Q hA9 hQ9 X hr9 hx9
  have hlk9 := hx9.2.2.2
  refine g_aload_n X 3 d_Lw_link_0 rfl rfl ?_
  refine g_iconst (v := nI 0) X d_Lw_link_1 rfl ?_
  refine g_aload_n X 0 d_Lw_link_2 rfl rfl ?_
  refine g_iload_n X 1 d_Lw_link_3 rfl rfl ?_
  refine g_iload_n X 2 d_Lw_link_4 rfl rfl ?_
  refine g_callXV (n := 2) X hx9 [.int (nI k), .int (nI 1)] (kx_RO_linkN1 ho hr hs h hg ha vm sn ss su K xu fU k (hK) (hk2) (hk)) t2_203 t2_204 t2_205 t1_1 t2_206 rfl rfl (by decide +kernel) ⟨by decide, by decide⟩ [1, 2, 3, 4] [0] [(qo, .inl (cJ, 1, .inr (.inl fo)))] rfl rfl rfl rfl (by decide) 0 rfl rfl rfl rfl (Nat.le_of_ble_eq_true rfl) d_Lw_link_5 ⟨by decide, by decide⟩ ?_
  refine gx_catch X hx9 [] ⟨0, 10, 13, 19⟩ [] rfl (fun z hz => nomatch hz) (by decide) (by decide) t2_42 (va_Nw.use rfl hx9.2.1.2.2.2.2.2.2.2.1) (fun q9 => ?_)
  refine g_astore X [(4, .ref q9), (0, .ref ho), (1, .int (nI k)), (2, .int (nI 1)), (3, .ref qo)] d_Lw_link_13 (by decide) rfl ?_
  refine g_iconst (v := nI 1) X d_Lw_link_15 rfl ?_
  exact g_iret X hA9 hQ9 hr9 hlk9 () [0, 1, 2, 3, 4] rfl rfl d_Lw_link_16 (rfl)

set_option maxHeartbeats 4000000 in
set_option maxRecDepth 100000 in
theorem kx_Lw_group (ho : Nat) (hr : Nat) (hs : Nat) (h : Nat) (hg : Nat) (ha : Nat) (vm : Int32) (gh : Nat) (gl : Nat) (gr : Nat) (gm : Nat) (qo : Nat) (fo : Nat → Int64) (hm9 : gm = 12) : CtH l y_Lw_group (Cond.codeWith y_Lw_group c_Lw_group 3 (some .int)  [(0, 8, 11, 13)] :: TB) ({ frames := 7, cells := 1, slots := 6, locals := 102 } : Room) D (tysv cI cJ cZ cQ) [.ref ho, .ref qo] [(qo, .inl (cJ, 1, .inr (.inl fo))), (ho, .inr (7, [.ref hr, .ref hs, .ref h, .ref hg, .ref ha, .int vm])), (hg, .inr (5, [.ref gh, .ref gl, .ref gr, .int (nI gm)]))] 1 6 (fun (r : Int32) (_ : Unit) => r = nI 1) (fun (_ : Unit) => [(qo, .inl (cJ, 1, .inr (.inl fo))), (ho, .inr (7, [.ref hr, .ref hs, .ref h, .ref hg, .ref ha, .int vm])), (hg, .inr (5, [.ref gh, .ref gl, .ref gr, .int (nI gm)]))]) := by
  refine CtH.of c_Lw_group 3 (some .int)  [(0, 8, 11, 13)] (by decide) rfl (Nat.le_of_ble_eq_true rfl) ?_
  intro p e s m args below meth c A Q hA9 hQ9 X hr9 hx9
  have hlk9 := hx9.2.2.2
  refine g_aload_n X 1 d_Lw_group_0 rfl rfl ?_
  refine g_iconst (v := nI 0) X d_Lw_group_1 rfl ?_
  refine g_aload_n X 0 d_Lw_group_2 rfl rfl ?_
  refine g_callXV (n := 0) X hx9 [] (kx_RO_group ho hr hs h hg ha vm gh gl gr gm (hm9)) t3_11 t3_12 t3_13 t1_1 t3_14 rfl rfl (by decide +kernel) ⟨by decide, by decide⟩ [1, 2] [0] [(qo, .inl (cJ, 1, .inr (.inl fo)))] rfl rfl rfl rfl (by decide) 0 rfl rfl rfl rfl (Nat.le_of_ble_eq_true rfl) d_Lw_group_3 ⟨by decide, by decide⟩ ?_
  refine gx_catch X hx9 [] ⟨0, 8, 11, 13⟩ [] rfl (fun z hz => nomatch hz) (by decide) (by decide) t1_195 (va_Nw.use rfl hx9.2.1.2.2.2.2.2.2.1) (fun q9 => ?_)
  refine g_astore_n X [(2, .ref q9), (0, .ref ho), (1, .ref qo)] d_Lw_group_11 rfl (by decide) rfl ?_
  refine g_iconst (v := nI 1) X d_Lw_group_12 rfl ?_
  exact g_iret X hA9 hQ9 hr9 hlk9 () [0, 1, 2] rfl rfl d_Lw_group_13 (rfl)

set_option maxHeartbeats 4000000 in
set_option maxRecDepth 100000 in
theorem kx_Lw_into1 (ho : Nat) (hr : Nat) (hs : Nat) (h : Nat) (hg : Nat) (ha : Nat) (vm : Int32) (gh : Nat) (gl : Nat) (gr : Nat) (gm : Nat) (x : Int32) (y : Int32) (qo : Nat) (fo : Nat → Int64) (hgm : gm ≤ 12) (hx : badI gm x) : CtH l y_Lw_into (Cond.codeWith y_Lw_into c_Lw_into 5 (some .int)  [(0, 17, 20, 19)] :: TB) ({ frames := 7, cells := 1, slots := 6, locals := 104 } : Room) D (tysv cI cJ cZ cQ) [.ref ho, .int x, .int y, .ref qo] [(qo, .inl (cJ, 1, .inr (.inl fo))), (ho, .inr (7, [.ref hr, .ref hs, .ref h, .ref hg, .ref ha, .int vm])), (hg, .inr (5, [.ref gh, .ref gl, .ref gr, .int (nI gm)]))] 1 6 (fun (r : Int32) (_ : Unit) => r = nI 1) (fun (_ : Unit) => [(qo, .inl (cJ, 1, .inr (.inl fo))), (ho, .inr (7, [.ref hr, .ref hs, .ref h, .ref hg, .ref ha, .int vm])), (hg, .inr (5, [.ref gh, .ref gl, .ref gr, .int (nI gm)]))]) := by
  refine CtH.of c_Lw_into 5 (some .int)  [(0, 17, 20, 19)] (by decide) rfl (Nat.le_of_ble_eq_true rfl) ?_
  intro p e s m args below meth c A Q hA9 hQ9 X hr9 hx9
  have hlk9 := hx9.2.2.2
  refine g_aload_n X 3 d_Lw_into_0 rfl rfl ?_
  refine g_iconst (v := nI 0) X d_Lw_into_1 rfl ?_
  refine g_aload_n X 0 d_Lw_into_2 rfl rfl ?_
  refine g_iload_n X 1 d_Lw_into_3 rfl rfl ?_
  refine g_iload_n X 2 d_Lw_into_4 rfl rfl ?_
  refine g_callXV (n := 2) X hx9 [.int x, .int y] (kx_RO_into1 ho hr hs h hg ha vm gh gl gr gm x y (hgm) (hx)) t3_27 t3_28 t3_29 t1_1 t3_30 rfl rfl (by decide +kernel) ⟨by decide, by decide⟩ [1, 2] [0] [(qo, .inl (cJ, 1, .inr (.inl fo)))] rfl rfl rfl rfl (by decide) 0 rfl rfl rfl rfl (Nat.le_of_ble_eq_true rfl) d_Lw_into_5 ⟨by decide, by decide⟩ ?_
  refine gx_catch X hx9 [] ⟨0, 17, 20, 19⟩ [] rfl (fun z hz => nomatch hz) (by decide) (by decide) t2_42 (va_Nw.use rfl hx9.2.1.2.2.2.2.2.2.2.1) (fun q9 => ?_)
  refine g_astore X [(4, .ref q9), (0, .ref ho), (1, .int x), (2, .int y), (3, .ref qo)] d_Lw_into_20 (by decide) rfl ?_
  refine g_iconst (v := nI 1) X d_Lw_into_22 rfl ?_
  exact g_iret X hA9 hQ9 hr9 hlk9 () [0, 1, 2] rfl rfl d_Lw_into_23 (rfl)

set_option maxHeartbeats 4000000 in
set_option maxRecDepth 100000 in
theorem kx_Lw_into2 (ho : Nat) (hr : Nat) (hs : Nat) (h : Nat) (hg : Nat) (ha : Nat) (vm : Int32) (sn : Nat) (ss : Nat) (su : Nat) (K : Nat) (gh : Nat) (gl : Nat) (gr : Nat) (gm : Nat) (i : Nat) (x : Int32) (qo : Nat) (fo : Nat → Int64) (hK : K ≤ 48) (hx : badI K x) (hgm : gm ≤ 12) (hi : i < gm) : CtH l y_Lw_into (Cond.codeWith y_Lw_into c_Lw_into 5 (some .int)  [(0, 17, 20, 19)] :: TB) ({ frames := 8, cells := 1, slots := 6, locals := 125 } : Room) D (tysv cI cJ cZ cQ) [.ref ho, .int (nI i), .int x, .ref qo] [(qo, .inl (cJ, 1, .inr (.inl fo))), (ho, .inr (7, [.ref hr, .ref hs, .ref h, .ref hg, .ref ha, .int vm])), (hg, .inr (5, [.ref gh, .ref gl, .ref gr, .int (nI gm)])), (hs, .inr (4, [.ref sn, .ref ss, .ref su, .int (nI K)]))] 1 6 (fun (r : Int32) (_ : Unit) => r = nI 1) (fun (_ : Unit) => [(qo, .inl (cJ, 1, .inr (.inl fo))), (ho, .inr (7, [.ref hr, .ref hs, .ref h, .ref hg, .ref ha, .int vm])), (hg, .inr (5, [.ref gh, .ref gl, .ref gr, .int (nI gm)])), (hs, .inr (4, [.ref sn, .ref ss, .ref su, .int (nI K)]))]) := by
  refine CtH.of c_Lw_into 5 (some .int)  [(0, 17, 20, 19)] (by decide) rfl (Nat.le_of_ble_eq_true rfl) ?_
  intro p e s m args below meth c A Q hA9 hQ9 X hr9 hx9
  have hlk9 := hx9.2.2.2
  refine g_aload_n X 3 d_Lw_into_0 rfl rfl ?_
  refine g_iconst (v := nI 0) X d_Lw_into_1 rfl ?_
  refine g_aload_n X 0 d_Lw_into_2 rfl rfl ?_
  refine g_iload_n X 1 d_Lw_into_3 rfl rfl ?_
  refine g_iload_n X 2 d_Lw_into_4 rfl rfl ?_
  refine g_callXV (n := 2) X hx9 [.int (nI i), .int x] (kx_RO_into2 ho hr hs h hg ha vm sn ss su K gh gl gr gm i x (hK) (hx) (hgm) (hi)) t3_27 t3_28 t3_29 t1_1 t3_30 rfl rfl (by decide +kernel) ⟨by decide, by decide⟩ [1, 2, 3] [0] [(qo, .inl (cJ, 1, .inr (.inl fo)))] rfl rfl rfl rfl (by decide) 0 rfl rfl rfl rfl (Nat.le_of_ble_eq_true rfl) d_Lw_into_5 ⟨by decide, by decide⟩ ?_
  refine gx_catch X hx9 [] ⟨0, 17, 20, 19⟩ [] rfl (fun z hz => nomatch hz) (by decide) (by decide) t2_42 (va_Nw.use rfl hx9.2.1.2.2.2.2.2.2.2.1) (fun q9 => ?_)
  refine g_astore X [(4, .ref q9), (0, .ref ho), (1, .int (nI i)), (2, .int x), (3, .ref qo)] d_Lw_into_20 (by decide) rfl ?_
  refine g_iconst (v := nI 1) X d_Lw_into_22 rfl ?_
  exact g_iret X hA9 hQ9 hr9 hlk9 () [0, 1, 2, 3] rfl rfl d_Lw_into_23 (rfl)

set_option maxHeartbeats 4000000 in
set_option maxRecDepth 100000 in
theorem kx_Lw_version (ho : Nat) (hr : Nat) (hs : Nat) (h : Nat) (hg : Nat) (ha : Nat) (vv : Nat) (fV : Nat → Option Nat) (qo : Nat) (fo : Nat → Int64) (hv : vv = 8) : CtH l y_Lw_version (Cond.codeWith y_Lw_version c_Lw_version 3 (some .int)  [(0, 8, 11, 13)] :: TB) ({ frames := 7, cells := 1, slots := 6, locals := 102 } : Room) D (tysv cI cJ cZ cQ) [.ref ho, .ref qo] [(qo, .inl (cJ, 1, .inr (.inl fo))), (ho, .inr (7, [.ref hr, .ref hs, .ref h, .ref hg, .ref ha, .int (nI vv)])), (ha, .inl (cQ, 8, .inr (.inr (.inr (.inr fV)))))] 1 6 (fun (r : Int32) (_ : Unit) => r = nI 1) (fun (_ : Unit) => [(qo, .inl (cJ, 1, .inr (.inl fo))), (ho, .inr (7, [.ref hr, .ref hs, .ref h, .ref hg, .ref ha, .int (nI vv)])), (ha, .inl (cQ, 8, .inr (.inr (.inr (.inr fV)))))]) := by
  refine CtH.of c_Lw_version 3 (some .int)  [(0, 8, 11, 13)] (by decide) rfl (Nat.le_of_ble_eq_true rfl) ?_
  intro p e s m args below meth c A Q hA9 hQ9 X hr9 hx9
  have hlk9 := hx9.2.2.2
  refine g_aload_n X 1 d_Lw_version_0 rfl rfl ?_
  refine g_iconst (v := nI 0) X d_Lw_version_1 rfl ?_
  refine g_aload_n X 0 d_Lw_version_2 rfl rfl ?_
  refine g_callXV (n := 0) X hx9 [] (kx_RO_version ho hr hs h hg ha vv fV (hv)) t3_73 t3_74 t3_75 t1_1 t3_76 rfl rfl (by decide +kernel) ⟨by decide, by decide⟩ [1, 2] [0] [(qo, .inl (cJ, 1, .inr (.inl fo)))] rfl rfl rfl rfl (by decide) 0 rfl rfl rfl rfl (Nat.le_of_ble_eq_true rfl) d_Lw_version_3 ⟨by decide, by decide⟩ ?_
  refine gx_catch X hx9 [] ⟨0, 8, 11, 13⟩ [] rfl (fun z hz => nomatch hz) (by decide) (by decide) t1_195 (va_Nw.use rfl hx9.2.1.2.2.2.2.2.2.1) (fun q9 => ?_)
  refine g_astore_n X [(2, .ref q9), (0, .ref ho), (1, .ref qo)] d_Lw_version_11 rfl (by decide) rfl ?_
  refine g_iconst (v := nI 1) X d_Lw_version_12 rfl ?_
  exact g_iret X hA9 hQ9 hr9 hlk9 () [0, 1, 2] rfl rfl d_Lw_version_13 (rfl)

set_option maxHeartbeats 4000000 in
set_option maxRecDepth 100000 in
theorem kx_Lw_differs1 (ho : Nat) (hr : Nat) (hs : Nat) (h : Nat) (hg : Nat) (ha : Nat) (vm : Int32) (fV : Nat → Option Nat) (x : Int32) (y : Int32) (z : Int32) (qo : Nat) (fo : Nat → Int64) (h1 : badI 8 x ∨ (∃ i, i < 8 ∧ x = nI i ∧ fV i = none)) (h2 : badI 8 y ∨ (∃ j, j < 8 ∧ y = nI j ∧ fV j = none) ∨ (∃ j ad, j < 8 ∧ y = nI j ∧ fV j = some ad)) : CtH l y_Lw_differs (Cond.codeWith y_Lw_differs c_Lw_differs 6 (some .int)  [(0, 12, 15, 19)] :: TB) ({ frames := 7, cells := 1, slots := 6, locals := 107 } : Room) D (tysv cI cJ cZ cQ) [.ref ho, .int x, .int y, .int z, .ref qo] [(qo, .inl (cJ, 1, .inr (.inl fo))), (ho, .inr (7, [.ref hr, .ref hs, .ref h, .ref hg, .ref ha, .int vm])), (ha, .inl (cQ, 8, .inr (.inr (.inr (.inr fV)))))] 1 6 (fun (r : Int32) (_ : Unit) => r = nI 1) (fun (_ : Unit) => [(qo, .inl (cJ, 1, .inr (.inl fo))), (ho, .inr (7, [.ref hr, .ref hs, .ref h, .ref hg, .ref ha, .int vm])), (ha, .inl (cQ, 8, .inr (.inr (.inr (.inr fV)))))]) := by
  refine CtH.of c_Lw_differs 6 (some .int)  [(0, 12, 15, 19)] (by decide) rfl (Nat.le_of_ble_eq_true rfl) ?_
  intro p e s m args below meth c A Q hA9 hQ9 X hr9 hx9
  have hlk9 := hx9.2.2.2
  refine g_aload X 4 d_Lw_differs_0 rfl ?_
  refine g_iconst (v := nI 0) X d_Lw_differs_2 rfl ?_
  refine g_aload_n X 0 d_Lw_differs_3 rfl rfl ?_
  refine g_iload_n X 1 d_Lw_differs_4 rfl rfl ?_
  refine g_iload_n X 2 d_Lw_differs_5 rfl rfl ?_
  refine g_iload_n X 3 d_Lw_differs_6 rfl rfl ?_
  refine g_callXV (n := 3) X hx9 [.int x, .int y, .int z] (kx_RO_differs1 ho hr hs h hg ha vm fV x y z (h1) (h2)) t3_105 t3_106 t3_107 t1_1 t3_108 rfl rfl (by decide +kernel) ⟨by decide, by decide⟩ [1, 2] [0] [(qo, .inl (cJ, 1, .inr (.inl fo)))] rfl rfl rfl rfl (by decide) 0 rfl rfl rfl rfl (Nat.le_of_ble_eq_true rfl) d_Lw_differs_7 ⟨by decide, by decide⟩ ?_
  refine gx_catch X hx9 [] ⟨0, 12, 15, 19⟩ [] rfl (fun z hz => nomatch hz) (by decide) (by decide) t2_42 (va_Nw.use rfl hx9.2.1.2.2.2.2.2.2.2.1) (fun q9 => ?_)
  refine g_astore X [(5, .ref q9), (0, .ref ho), (1, .int x), (2, .int y), (3, .int z), (4, .ref qo)] d_Lw_differs_15 (by decide) rfl ?_
  refine g_iconst (v := nI 1) X d_Lw_differs_17 rfl ?_
  exact g_iret X hA9 hQ9 hr9 hlk9 () [0, 1, 2] rfl rfl d_Lw_differs_18 (rfl)

set_option maxHeartbeats 4000000 in
set_option maxRecDepth 100000 in
theorem kx_Lw_differs2 (ho : Nat) (hr : Nat) (hs : Nat) (h : Nat) (hg : Nat) (ha : Nat) (vm : Int32) (fV : Nat → Option Nat) (x : Int32) (y : Int32) (z : Int32) (qo : Nat) (fo : Nat → Int64) (h1 : (∃ i ad, i < 8 ∧ x = nI i ∧ fV i = some ad)) (h2 : badI 8 y ∨ (∃ j, j < 8 ∧ y = nI j ∧ fV j = none)) : CtH l y_Lw_differs (Cond.codeWith y_Lw_differs c_Lw_differs 6 (some .int)  [(0, 12, 15, 19)] :: TB) ({ frames := 7, cells := 1, slots := 6, locals := 107 } : Room) D (tysv cI cJ cZ cQ) [.ref ho, .int x, .int y, .int z, .ref qo] [(qo, .inl (cJ, 1, .inr (.inl fo))), (ho, .inr (7, [.ref hr, .ref hs, .ref h, .ref hg, .ref ha, .int vm])), (ha, .inl (cQ, 8, .inr (.inr (.inr (.inr fV)))))] 1 6 (fun (r : Int32) (_ : Unit) => r = nI 1) (fun (_ : Unit) => [(qo, .inl (cJ, 1, .inr (.inl fo))), (ho, .inr (7, [.ref hr, .ref hs, .ref h, .ref hg, .ref ha, .int vm])), (ha, .inl (cQ, 8, .inr (.inr (.inr (.inr fV)))))]) := by
  refine CtH.of c_Lw_differs 6 (some .int)  [(0, 12, 15, 19)] (by decide) rfl (Nat.le_of_ble_eq_true rfl) ?_
  intro p e s m args below meth c A Q hA9 hQ9 X hr9 hx9
  have hlk9 := hx9.2.2.2
  refine g_aload X 4 d_Lw_differs_0 rfl ?_
  refine g_iconst (v := nI 0) X d_Lw_differs_2 rfl ?_
  refine g_aload_n X 0 d_Lw_differs_3 rfl rfl ?_
  refine g_iload_n X 1 d_Lw_differs_4 rfl rfl ?_
  refine g_iload_n X 2 d_Lw_differs_5 rfl rfl ?_
  refine g_iload_n X 3 d_Lw_differs_6 rfl rfl ?_
  refine g_callXV (n := 3) X hx9 [.int x, .int y, .int z] (kx_RO_differs2 ho hr hs h hg ha vm fV x y z (h1) (h2)) t3_105 t3_106 t3_107 t1_1 t3_108 rfl rfl (by decide +kernel) ⟨by decide, by decide⟩ [1, 2] [0] [(qo, .inl (cJ, 1, .inr (.inl fo)))] rfl rfl rfl rfl (by decide) 0 rfl rfl rfl rfl (Nat.le_of_ble_eq_true rfl) d_Lw_differs_7 ⟨by decide, by decide⟩ ?_
  refine gx_catch X hx9 [] ⟨0, 12, 15, 19⟩ [] rfl (fun z hz => nomatch hz) (by decide) (by decide) t2_42 (va_Nw.use rfl hx9.2.1.2.2.2.2.2.2.2.1) (fun q9 => ?_)
  refine g_astore X [(5, .ref q9), (0, .ref ho), (1, .int x), (2, .int y), (3, .int z), (4, .ref qo)] d_Lw_differs_15 (by decide) rfl ?_
  refine g_iconst (v := nI 1) X d_Lw_differs_17 rfl ?_
  exact g_iret X hA9 hQ9 hr9 hlk9 () [0, 1, 2] rfl rfl d_Lw_differs_18 (rfl)

set_option maxHeartbeats 4000000 in
set_option maxRecDepth 100000 in
theorem kx_Lw_differs3 (ho : Nat) (hr : Nat) (hs : Nat) (h : Nat) (hg : Nat) (ha : Nat) (vm : Int32) (fV : Nat → Option Nat) (x : Int32) (y : Int32) (z : Int32) (qo : Nat) (fo : Nat → Int64) (h1 : (∃ i ad, i < 8 ∧ x = nI i ∧ fV i = some ad)) (h2 : (∃ j ad, j < 8 ∧ y = nI j ∧ fV j = some ad)) (hz : z < 0) : CtH l y_Lw_differs (Cond.codeWith y_Lw_differs c_Lw_differs 6 (some .int)  [(0, 12, 15, 19)] :: TB) ({ frames := 8, cells := 1, slots := 6, locals := 127 } : Room) D (tysv cI cJ cZ cQ) [.ref ho, .int x, .int y, .int z, .ref qo] [(qo, .inl (cJ, 1, .inr (.inl fo))), (ho, .inr (7, [.ref hr, .ref hs, .ref h, .ref hg, .ref ha, .int vm])), (ha, .inl (cQ, 8, .inr (.inr (.inr (.inr fV)))))] 1 6 (fun (r : Int32) (_ : Unit) => r = nI 1) (fun (_ : Unit) => [(qo, .inl (cJ, 1, .inr (.inl fo))), (ho, .inr (7, [.ref hr, .ref hs, .ref h, .ref hg, .ref ha, .int vm])), (ha, .inl (cQ, 8, .inr (.inr (.inr (.inr fV)))))]) := by
  refine CtH.of c_Lw_differs 6 (some .int)  [(0, 12, 15, 19)] (by decide) rfl (Nat.le_of_ble_eq_true rfl) ?_
  intro p e s m args below meth c A Q hA9 hQ9 X hr9 hx9
  have hlk9 := hx9.2.2.2
  refine g_aload X 4 d_Lw_differs_0 rfl ?_
  refine g_iconst (v := nI 0) X d_Lw_differs_2 rfl ?_
  refine g_aload_n X 0 d_Lw_differs_3 rfl rfl ?_
  refine g_iload_n X 1 d_Lw_differs_4 rfl rfl ?_
  refine g_iload_n X 2 d_Lw_differs_5 rfl rfl ?_
  refine g_iload_n X 3 d_Lw_differs_6 rfl rfl ?_
  refine g_callXV (n := 3) X hx9 [.int x, .int y, .int z] (kx_RO_differs3 ho hr hs h hg ha vm fV x y z (h1) (h2) (hz)) t3_105 t3_106 t3_107 t1_1 t3_108 rfl rfl (by decide +kernel) ⟨by decide, by decide⟩ [1, 2] [0] [(qo, .inl (cJ, 1, .inr (.inl fo)))] rfl rfl rfl rfl (by decide) 0 rfl rfl rfl rfl (Nat.le_of_ble_eq_true rfl) d_Lw_differs_7 ⟨by decide, by decide⟩ ?_
  refine gx_catch X hx9 [] ⟨0, 12, 15, 19⟩ [] rfl (fun z hz => nomatch hz) (by decide) (by decide) t2_42 (va_Nw.use rfl hx9.2.1.2.2.2.2.2.2.2.1) (fun q9 => ?_)
  refine g_astore X [(5, .ref q9), (0, .ref ho), (1, .int x), (2, .int y), (3, .int z), (4, .ref qo)] d_Lw_differs_15 (by decide) rfl ?_
  refine g_iconst (v := nI 1) X d_Lw_differs_17 rfl ?_
  exact g_iret X hA9 hQ9 hr9 hlk9 () [0, 1, 2] rfl rfl d_Lw_differs_18 (rfl)

set_option maxHeartbeats 4000000 in
set_option maxRecDepth 100000 in
theorem kx_Lw_count (ho : Nat) (hr : Nat) (hs : Nat) (h : Nat) (hg : Nat) (ha : Nat) (vm : Int32) (x : Int32) (qo : Nat) (fo : Nat → Int64) (hx : badI 5 x) : CtH l y_Lw_count (Cond.codeWith y_Lw_count c_Lw_count 4 (some .int)  [(0, 9, 12, 19)] :: TB) ({ frames := 7, cells := 1, slots := 6, locals := 103 } : Room) D (tysv cI cJ cZ cQ) [.ref ho, .int x, .ref qo] [(qo, .inl (cJ, 1, .inr (.inl fo))), (ho, .inr (7, [.ref hr, .ref hs, .ref h, .ref hg, .ref ha, .int vm]))] 1 6 (fun (r : Int32) (_ : Unit) => r = nI 1) (fun (_ : Unit) => [(qo, .inl (cJ, 1, .inr (.inl fo))), (ho, .inr (7, [.ref hr, .ref hs, .ref h, .ref hg, .ref ha, .int vm]))]) := by
  refine CtH.of c_Lw_count 4 (some .int)  [(0, 9, 12, 19)] (by decide) rfl (Nat.le_of_ble_eq_true rfl) ?_
  intro p e s m args below meth c A Q hA9 hQ9 X hr9 hx9
  have hlk9 := hx9.2.2.2
  refine g_aload_n X 2 d_Lw_count_0 rfl rfl ?_
  refine g_iconst (v := nI 0) X d_Lw_count_1 rfl ?_
  refine g_aload_n X 0 d_Lw_count_2 rfl rfl ?_
  refine g_iload_n X 1 d_Lw_count_3 rfl rfl ?_
  refine g_callXV (n := 1) X hx9 [.int x] (kx_RO_count ho hr hs h hg ha vm x (hx)) t3_124 t3_125 t3_126 t1_1 t3_127 rfl rfl (by decide +kernel) ⟨by decide, by decide⟩ [1] [0] [(qo, .inl (cJ, 1, .inr (.inl fo)))] rfl rfl rfl rfl (by decide) 0 rfl rfl rfl rfl (Nat.le_of_ble_eq_true rfl) d_Lw_count_4 ⟨by decide, by decide⟩ ?_
  refine gx_catch X hx9 [] ⟨0, 9, 12, 19⟩ [] rfl (fun z hz => nomatch hz) (by decide) (by decide) t2_42 (va_Nw.use rfl hx9.2.1.2.2.2.2.2.2.2.1) (fun q9 => ?_)
  refine g_astore_n X [(3, .ref q9), (0, .ref ho), (1, .int x), (2, .ref qo)] d_Lw_count_12 rfl (by decide) rfl ?_
  refine g_iconst (v := nI 1) X d_Lw_count_13 rfl ?_
  exact g_iret X hA9 hQ9 hr9 hlk9 () [0, 1] rfl rfl d_Lw_count_14 (rfl)
