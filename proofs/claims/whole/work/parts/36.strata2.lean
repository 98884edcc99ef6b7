variable {l : Launch} {D : va_G} {cI cJ cZ cQ : ClassId}
def ctQ (k a1 a2 b1 b2 : Bool) : Bool := k && ((a1 && a2) || (b1 && b2))
def ctP (fK : Nat → Int32) (a b nm : Nat → Nat) (i j r : Nat) : Bool := ctQ (isCt (fK r)) (decide (nm i = nm (a r))) (decide (nm j = nm (b r))) (decide (nm i = nm (b r))) (decide (nm j = nm (a r)))
theorem any_f {P : Nat → Bool} {q : Nat} (h : anyB P q = false) (h2 : P q = false) : anyB P (q + 1) = false := by simp [anyB, h, h2]
theorem any_t {P : Nat → Bool} {q n : Nat} (hq : q < n) (h2 : P q = true) : anyB P n = true := (anyB_iff n).mpr ⟨q, hq, h2⟩
theorem isCt_t {k : Int32} (h : k = nI 4) : isCt k = true := by simp [isCt, h]
theorem isCt_f {k : Int32} (h : ¬ k = nI 4) : isCt k = false := by simp [isCt, h]
theorem le_end {F : Nat → Nat} {k lf i : Nat} (h : lf + lsum F i = k) (hk : k < lsum F i) : False := by omega
theorem cnt_pos_nth {P : Nat → Bool} : ∀ (n k : Nat), k < cnt P n → ∃ x, x < n ∧ P x = true ∧ cnt P x = k
  | 0, k, h => absurd h (Nat.not_lt_zero _)
  | n + 1, k, h => by
    cases hb : P n with
    | false =>
      rw [cnt_f hb] at h
      obtain ⟨x, h1, h2⟩ := cnt_pos_nth n k h
      exact ⟨x, by omega, h2⟩
    | true =>
      rw [cnt_t hb] at h
      rcases Nat.lt_or_ge k (cnt P n) with q | q
      · obtain ⟨x, h1, h2⟩ := cnt_pos_nth n k q
        exact ⟨x, by omega, h2⟩
      · exact ⟨n, by omega, hb, by omega⟩
theorem nth48 {P : Nat → Bool} {k : Nat} (hP : ∀ x, P x = true → x < 48) (h : k < cnt P 64) : ∃ x, x < 48 ∧ P x = true ∧ cnt P x = k := by
  obtain ⟨x, h1, h2, h3⟩ := cnt_pos_nth 64 k h
  exact ⟨x, hP x h2, h2, h3⟩
section CTF
variable {fK : Nat → Int32} {a b nm : Nat → Nat} {i j q : Nat}
theorem ctF0 (h : ¬ fK q = nI 4) : ctP fK a b nm i j q = false := by simp [ctP, ctQ, isCt_f h]
theorem ctF1 (h1 : decide (nm i = nm (a q)) = false) (h2 : decide (nm i = nm (b q)) = false) : ctP fK a b nm i j q = false := by simp [ctP, ctQ, h1, h2]
theorem ctF2 (h1 : decide (nm i = nm (a q)) = false) (h2 : decide (nm j = nm (a q)) = false) : ctP fK a b nm i j q = false := by simp [ctP, ctQ, h1, h2]
theorem ctF3 (h1 : decide (nm j = nm (b q)) = false) (h2 : decide (nm i = nm (b q)) = false) : ctP fK a b nm i j q = false := by simp [ctP, ctQ, h1, h2]
theorem ctF4 (h1 : decide (nm j = nm (b q)) = false) (h2 : decide (nm j = nm (a q)) = false) : ctP fK a b nm i j q = false := by simp [ctP, ctQ, h1, h2]
theorem ctT1 (h : fK q = nI 4) (h1 : decide (nm i = nm (a q)) = true) (h2 : decide (nm j = nm (b q)) = true) : ctP fK a b nm i j q = true := by
  unfold ctP ctQ
  rw [isCt_t h, h1, h2]
  rfl
theorem ctT2 (h : fK q = nI 4) (h1 : decide (nm i = nm (b q)) = true) (h2 : decide (nm j = nm (a q)) = true) : ctP fK a b nm i j q = true := by
  unfold ctP ctQ
  rw [isCt_t h, h1, h2]
  simp
theorem ct_end {P : Nat → Bool} {R : Nat} {d : Bool} (hq : q < R) (h : P q = true) : nI 1 = bI (d || anyB P R) := by
  rw [any_t hq h, Bool.or_true]
  rfl
end CTF
theorem cntN_t {fN : Nat → Int32} {i n : Nat} (h : fN i = nI i) (h1 : n = cnt (fun z => decide (fN z = nI z)) i) : n + 1 = cnt (fun z => decide (fN z = nI z)) (i + 1) := by
  rw [cnt_t (by simp [h]), h1]
theorem cntN_f {fN : Nat → Int32} {i n : Nat} (h : ¬ fN i = nI i) (h1 : n = cnt (fun z => decide (fN z = nI z)) i) : n = cnt (fun z => decide (fN z = nI z)) (i + 1) := by
  rw [cnt_f (by simp [h]), h1]

set_option maxHeartbeats 4000000 in
set_option maxRecDepth 100000 in
theorem k_Strata_areContemporary (hs : Nat) (sn : Nat) (ss : Nat) (su : Nat) (K : Nat) (xn : Nat) (fN : Nat → Int32) (hr : Nat) (ru : Nat) (rw : Nat) (rk : Nat) (R : Nat) (sd : Nat) (au : Nat) (aw : Nat) (ak : Nat) (fA : Nat → Int32) (fB : Nat → Int32) (fK : Nat → Int32) (a : Nat → Nat) (b : Nat → Nat) (nm : Nat → Nat) (i : Nat) (j : Nat) (hK : K ≤ 48) (hR : R ≤ 200) (hA : ∀ r, r < R → fA r = nI (a r) ∧ a r < K) (hB : ∀ r, r < R → fB r = nI (b r) ∧ b r < K) (hN : ∀ z, z < K → fN z = nI (nm z) ∧ nm z < 48) (hi : i < K) (hj : j < K) : CtI l y_Strata_areContemporary (Cond.code y_Strata_areContemporary c_Strata_areContemporary 7 (some .boolean) :: TB) ({ frames := 2, cells := 0, slots := 0, locals := 43 } : Room) D (tysv cI cJ cZ cQ) [.ref hs, .int (nI i), .int (nI j), .ref hr] [(hs, .inr (4, [.ref sn, .ref ss, .ref su, .int (nI K)])), (sn, .inr (0, [.ref xn])), (xn, .inl (cI, 48, .inl fN)), (hr, .inr (2, [.ref ru, .ref rw, .ref rk, .int (nI R), .int (nI sd)])), (ru, .inr (0, [.ref au])), (au, .inl (cI, 200, .inl fA)), (rw, .inr (0, [.ref aw])), (aw, .inl (cI, 200, .inl fB)), (rk, .inr (0, [.ref ak])), (ak, .inl (cI, 200, .inl fK))] 0 0 (fun (r : Int32) (_ : Unit) => r = bI (decide (nm i = nm j) || anyB (ctP fK a b nm i j) R)) (fun (_ : Unit) => [(hs, .inr (4, [.ref sn, .ref ss, .ref su, .int (nI K)])), (sn, .inr (0, [.ref xn])), (xn, .inl (cI, 48, .inl fN)), (hr, .inr (2, [.ref ru, .ref rw, .ref rk, .int (nI R), .int (nI sd)])), (ru, .inr (0, [.ref au])), (au, .inl (cI, 200, .inl fA)), (rw, .inr (0, [.ref aw])), (aw, .inl (cI, 200, .inl fB)), (rk, .inr (0, [.ref ak])), (ak, .inl (cI, 200, .inl fK))]) := by
  refine CtI.of c_Strata_areContemporary 7 (some .boolean) (by decide) rfl (Nat.le_of_ble_eq_true rfl) ?_
  intro p e s m args below meth c A Q hA9 hQ9 X hr9 hlk9 hin9
  refine g_aload_n X 0 d_Strata_areContemporary_0 rfl rfl ?_
  refine g_iload_n X 1 d_Strata_areContemporary_1 rfl rfl ?_
  refine g_iload_n X 2 d_Strata_areContemporary_2 rfl rfl ?_
  refine g_calliV (n := 2) X [.int (nI i), .int (nI j)] (k_Strata_areJoined hs sn ss su K xn fN i j (nm i) (nm j) (by omega) (by omega) ((hN _ (by omega)).1) ((hN _ (by omega)).1) ((hN _ (by omega)).2) ((hN _ (by omega)).2)) t2_232 t2_234 ts_8 t1_5 t2_235 rfl rfl (by decide +kernel) ⟨by decide, by decide⟩ [0, 1, 2] [3, 4, 5, 6, 7, 8, 9] [(hr, .inr (2, [.ref ru, .ref rw, .ref rk, .int (nI R), .int (nI sd)])), (ru, .inr (0, [.ref au])), (au, .inl (cI, 200, .inl fA)), (rw, .inr (0, [.ref aw])), (aw, .inl (cI, 200, .inl fB)), (rk, .inr (0, [.ref ak])), (ak, .inl (cI, 200, .inl fK))] rfl rfl rfl rfl (by decide) 0 rfl rfl rfl rfl (Nat.le_of_ble_eq_true rfl) d_Strata_areContemporary_3 ⟨by decide, by decide⟩ (fun r1 w9u1 hw1 => ?_)
  subst hw1
  refine b_if_eq X 11 d_Strata_areContemporary_6 (by decide) (fun h6 => ?_) (fun h6 => ?_)
  · have L14 : ∀ (N14 : Nat) (q : Nat), (R - q) < N14 → (q ≤ R) → (anyB (ctP fK a b nm i j) q = false) → G p l e ({ frames := 2, cells := 0, slots := 0, locals := 43 } : Room) s m args below meth c 7 D A s.heap Q 0 0 [(hs, .inr (4, [.ref sn, .ref ss, .ref su, .int (nI K)])), (sn, .inr (0, [.ref xn])), (xn, .inl (cI, 48, .inl fN)), (hr, .inr (2, [.ref ru, .ref rw, .ref rk, .int (nI R), .int (nI sd)])), (ru, .inr (0, [.ref au])), (au, .inl (cI, 200, .inl fA)), (rw, .inr (0, [.ref aw])), (aw, .inl (cI, 200, .inl fB)), (rk, .inr (0, [.ref ak])), (ak, .inl (cI, 200, .inl fK))] [(0, .ref hs), (1, .int (nI i)), (2, .int (nI j)), (3, .ref hr), (4, .int (nI q))] 14 [] := by
      intro N14
      induction N14 with
      | zero =>
        intro q hN
        exact absurd hN (Nat.not_lt_zero _)
      | succ N14 ih14 =>
        intro q hN14 hq h1
        refine g_iload X 4 d_Strata_areContemporary_14 rfl ?_
        refine g_aload_n X 3 d_Strata_areContemporary_16 rfl rfl ?_
        refine g_calliV (n := 0) X [] (k_Relations_made hr ru rw rk R sd ) t2_132 t2_69 t2_70 t1_2 t2_71 rfl rfl (by decide +kernel) ⟨by decide, by decide⟩ [3] [0, 1, 2, 4, 5, 6, 7, 8, 9] [(hs, .inr (4, [.ref sn, .ref ss, .ref su, .int (nI K)])), (sn, .inr (0, [.ref xn])), (xn, .inl (cI, 48, .inl fN)), (ru, .inr (0, [.ref au])), (au, .inl (cI, 200, .inl fA)), (rw, .inr (0, [.ref aw])), (aw, .inl (cI, 200, .inl fB)), (rk, .inr (0, [.ref ak])), (ak, .inl (cI, 200, .inl fK))] rfl rfl rfl rfl (by decide) 0 rfl rfl rfl rfl (Nat.le_of_ble_eq_true rfl) d_Strata_areContemporary_17 ⟨by decide, by decide⟩ (fun r2 w9u2 hw2 => ?_)
        subst hw2
        refine n_icmp_ge X 97 d_Strata_areContemporary_20 (by decide) (by omega) (by omega) (fun h20 => ?_) (fun h20 => ?_)
        · refine g_iconst (v := nI 0) X d_Strata_areContemporary_97 rfl ?_
          exact g_zret X hA9 hQ9 hr9 (by first | exact Or.inl rfl | exact Or.inr rfl) hlk9 () [0, 1, 2, 9, 3, 4, 5, 6, 7, 8] rfl rfl d_Strata_areContemporary_98 (by have e9 : q = R := (by omega); subst e9; rw [h6, h1]; rfl)
        · refine g_aload_n X 3 d_Strata_areContemporary_23 rfl rfl ?_
          refine g_iload X 4 d_Strata_areContemporary_24 rfl ?_
          refine g_calliV (n := 1) X [.int (nI q)] (k_Relations_kindOf hr ru rw rk R sd ak fK q (by omega)) t2_133 t2_134 t2_135 t1_2 t2_136 rfl rfl (by decide +kernel) ⟨by decide, by decide⟩ [9, 7, 8] [0, 1, 2, 3, 4, 5, 6] [(hs, .inr (4, [.ref sn, .ref ss, .ref su, .int (nI K)])), (sn, .inr (0, [.ref xn])), (xn, .inl (cI, 48, .inl fN)), (ru, .inr (0, [.ref au])), (au, .inl (cI, 200, .inl fA)), (rw, .inr (0, [.ref aw])), (aw, .inl (cI, 200, .inl fB))] rfl rfl rfl rfl (by decide) 0 rfl rfl rfl rfl (Nat.le_of_ble_eq_true rfl) d_Strata_areContemporary_26 ⟨by decide, by decide⟩ (fun r3 w9u3 hw3 => ?_)
          subst hw3
          refine g_iconst (v := nI 4) X d_Strata_areContemporary_29 rfl ?_
          refine g_icmp_ne X 91 d_Strata_areContemporary_30 (by decide) (fun h30 => ?_) (fun h30 => ?_)
          · refine g_iinc X (nI (q + 1)) [(4, .int (nI (q + 1))), (0, .ref hs), (1, .int (nI i)), (2, .int (nI j)), (3, .ref hr)] d_Strata_areContemporary_91 (k := 4) rfl (nI_1 q) (by decide) rfl ?_
            refine g_goto X 14 d_Strata_areContemporary_94 (by decide) ?_
            refine g_ws [(hs, .inr (4, [.ref sn, .ref ss, .ref su, .int (nI K)])), (sn, .inr (0, [.ref xn])), (xn, .inl (cI, 48, .inl fN)), (hr, .inr (2, [.ref ru, .ref rw, .ref rk, .int (nI R), .int (nI sd)])), (ru, .inr (0, [.ref au])), (au, .inl (cI, 200, .inl fA)), (rw, .inr (0, [.ref aw])), (aw, .inl (cI, 200, .inl fB)), (rk, .inr (0, [.ref ak])), (ak, .inl (cI, 200, .inl fK))] [0, 1, 2, 7, 3, 4, 5, 6, 8, 9] rfl rfl ?_
            refine g_lv [1, 2, 3, 4, 0] rfl ?_
            exact ih14 (q + 1) (by omega) (by omega) (by first | exact any_f h1 (ctF0 h30) | exact any_f h1 (ctF1 h56 h76) | exact any_f h1 (ctF2 h56 h86) | exact any_f h1 (ctF3 h66 h76) | exact any_f h1 (ctF4 h66 h86))
          · have la := (hA q (by omega)).2
            have lb9 := (hB q (by omega)).2
            refine g_aload_n X 3 d_Strata_areContemporary_33 rfl rfl ?_
            refine g_iload X 4 d_Strata_areContemporary_34 rfl ?_
            refine g_calliV (n := 1) X [.int (nI q)] (k_Relations_upperOf hr ru rw rk R sd au fA q (by omega)) t2_138 t2_139 t2_140 t1_2 t2_141 rfl rfl (by decide +kernel) ⟨by decide, by decide⟩ [7, 3, 4] [0, 1, 2, 5, 6, 8, 9] [(hs, .inr (4, [.ref sn, .ref ss, .ref su, .int (nI K)])), (sn, .inr (0, [.ref xn])), (xn, .inl (cI, 48, .inl fN)), (rw, .inr (0, [.ref aw])), (aw, .inl (cI, 200, .inl fB)), (rk, .inr (0, [.ref ak])), (ak, .inl (cI, 200, .inl fK))] rfl rfl rfl rfl (by decide) 0 rfl rfl rfl rfl (Nat.le_of_ble_eq_true rfl) d_Strata_areContemporary_36 ⟨by decide, by decide⟩ (fun r4 w9u4 hw4 => ?_)
            subst hw4
            rw [(hA q (by omega)).1]
            refine g_istore X [(5, .int (nI (a q))), (0, .ref hs), (1, .int (nI i)), (2, .int (nI j)), (3, .ref hr), (4, .int (nI q))] d_Strata_areContemporary_39 (by decide) rfl ?_
            refine g_aload_n X 3 d_Strata_areContemporary_41 rfl rfl ?_
            refine g_iload X 4 d_Strata_areContemporary_42 rfl ?_
            refine g_calliV (n := 1) X [.int (nI q)] (k_Relations_lowerOf hr ru rw rk R sd aw fB q (by omega)) t2_142 t2_143 t2_144 t1_2 t2_145 rfl rfl (by decide +kernel) ⟨by decide, by decide⟩ [7, 3, 4] [0, 1, 2, 5, 6, 8, 9] [(hs, .inr (4, [.ref sn, .ref ss, .ref su, .int (nI K)])), (sn, .inr (0, [.ref xn])), (xn, .inl (cI, 48, .inl fN)), (rk, .inr (0, [.ref ak])), (ak, .inl (cI, 200, .inl fK)), (ru, .inr (0, [.ref au])), (au, .inl (cI, 200, .inl fA))] rfl rfl rfl rfl (by decide) 0 rfl rfl rfl rfl (Nat.le_of_ble_eq_true rfl) d_Strata_areContemporary_44 ⟨by decide, by decide⟩ (fun r5 w9u5 hw5 => ?_)
            subst hw5
            rw [(hB q (by omega)).1]
            refine g_istore X [(6, .int (nI (b q))), (5, .int (nI (a q))), (0, .ref hs), (1, .int (nI i)), (2, .int (nI j)), (3, .ref hr), (4, .int (nI q))] d_Strata_areContemporary_47 (by decide) rfl ?_
            refine g_aload_n X 0 d_Strata_areContemporary_49 rfl rfl ?_
            refine g_iload_n X 1 d_Strata_areContemporary_50 rfl rfl ?_
            refine g_iload X 5 d_Strata_areContemporary_51 rfl ?_
            refine g_calliV (n := 2) X [.int (nI i), .int (nI (a q))] (k_Strata_areJoined hs sn ss su K xn fN i (a q) (nm i) (nm (a q)) (by omega) (by omega) ((hN _ (by omega)).1) ((hN _ (by omega)).1) ((hN _ (by omega)).2) ((hN _ (by omega)).2)) t2_232 t2_234 ts_8 t1_5 t2_235 rfl rfl (by decide +kernel) ⟨by decide, by decide⟩ [0, 1, 2] [3, 4, 5, 6, 7, 8, 9] [(rk, .inr (0, [.ref ak])), (ak, .inl (cI, 200, .inl fK)), (ru, .inr (0, [.ref au])), (au, .inl (cI, 200, .inl fA)), (hr, .inr (2, [.ref ru, .ref rw, .ref rk, .int (nI R), .int (nI sd)])), (rw, .inr (0, [.ref aw])), (aw, .inl (cI, 200, .inl fB))] rfl rfl rfl rfl (by decide) 0 rfl rfl rfl rfl (Nat.le_of_ble_eq_true rfl) d_Strata_areContemporary_53 ⟨by decide, by decide⟩ (fun r6 w9u6 hw6 => ?_)
            subst hw6
            refine b_if_eq X 69 d_Strata_areContemporary_56 (by decide) (fun h56 => ?_) (fun h56 => ?_)
            · refine g_aload_n X 0 d_Strata_areContemporary_69 rfl rfl ?_
              refine g_iload_n X 1 d_Strata_areContemporary_70 rfl rfl ?_
              refine g_iload X 6 d_Strata_areContemporary_71 rfl ?_
              refine g_calliV (n := 2) X [.int (nI i), .int (nI (b q))] (k_Strata_areJoined hs sn ss su K xn fN i (b q) (nm i) (nm (b q)) (by omega) (by omega) ((hN _ (by omega)).1) ((hN _ (by omega)).1) ((hN _ (by omega)).2) ((hN _ (by omega)).2)) t2_232 t2_234 ts_8 t1_5 t2_235 rfl rfl (by decide +kernel) ⟨by decide, by decide⟩ [7, 8, 9] [0, 1, 2, 3, 4, 5, 6] [(rk, .inr (0, [.ref ak])), (ak, .inl (cI, 200, .inl fK)), (ru, .inr (0, [.ref au])), (au, .inl (cI, 200, .inl fA)), (hr, .inr (2, [.ref ru, .ref rw, .ref rk, .int (nI R), .int (nI sd)])), (rw, .inr (0, [.ref aw])), (aw, .inl (cI, 200, .inl fB))] rfl rfl rfl rfl (by decide) 0 rfl rfl rfl rfl (Nat.le_of_ble_eq_true rfl) d_Strata_areContemporary_73 ⟨by decide, by decide⟩ (fun r7 w9u7 hw7 => ?_)
              subst hw7
              refine b_if_eq X 91 d_Strata_areContemporary_76 (by decide) (fun h76 => ?_) (fun h76 => ?_)
              · refine g_iinc X (nI (q + 1)) [(4, .int (nI (q + 1))), (6, .int (nI (b q))), (5, .int (nI (a q))), (0, .ref hs), (1, .int (nI i)), (2, .int (nI j)), (3, .ref hr)] d_Strata_areContemporary_91 (k := 6) rfl (nI_1 q) (by decide) rfl ?_
                refine g_goto X 14 d_Strata_areContemporary_94 (by decide) ?_
                refine g_ws [(hs, .inr (4, [.ref sn, .ref ss, .ref su, .int (nI K)])), (sn, .inr (0, [.ref xn])), (xn, .inl (cI, 48, .inl fN)), (hr, .inr (2, [.ref ru, .ref rw, .ref rk, .int (nI R), .int (nI sd)])), (ru, .inr (0, [.ref au])), (au, .inl (cI, 200, .inl fA)), (rw, .inr (0, [.ref aw])), (aw, .inl (cI, 200, .inl fB)), (rk, .inr (0, [.ref ak])), (ak, .inl (cI, 200, .inl fK))] [7, 8, 9, 4, 2, 3, 5, 6, 0, 1] rfl rfl ?_
                refine g_lv [3, 4, 5, 6, 0] rfl ?_
                exact ih14 (q + 1) (by omega) (by omega) (by first | exact any_f h1 (ctF0 h30) | exact any_f h1 (ctF1 h56 h76) | exact any_f h1 (ctF2 h56 h86) | exact any_f h1 (ctF3 h66 h76) | exact any_f h1 (ctF4 h66 h86))
              · refine g_aload_n X 0 d_Strata_areContemporary_79 rfl rfl ?_
                refine g_iload_n X 2 d_Strata_areContemporary_80 rfl rfl ?_
                refine g_iload X 5 d_Strata_areContemporary_81 rfl ?_
                refine g_calliV (n := 2) X [.int (nI j), .int (nI (a q))] (k_Strata_areJoined hs sn ss su K xn fN j (a q) (nm j) (nm (a q)) (by omega) (by omega) ((hN _ (by omega)).1) ((hN _ (by omega)).1) ((hN _ (by omega)).2) ((hN _ (by omega)).2)) t2_232 t2_234 ts_8 t1_5 t2_235 rfl rfl (by decide +kernel) ⟨by decide, by decide⟩ [7, 8, 9] [0, 1, 2, 3, 4, 5, 6] [(rk, .inr (0, [.ref ak])), (ak, .inl (cI, 200, .inl fK)), (ru, .inr (0, [.ref au])), (au, .inl (cI, 200, .inl fA)), (hr, .inr (2, [.ref ru, .ref rw, .ref rk, .int (nI R), .int (nI sd)])), (rw, .inr (0, [.ref aw])), (aw, .inl (cI, 200, .inl fB))] rfl rfl rfl rfl (by decide) 0 rfl rfl rfl rfl (Nat.le_of_ble_eq_true rfl) d_Strata_areContemporary_83 ⟨by decide, by decide⟩ (fun r8 w9u8 hw8 => ?_)
                subst hw8
                refine b_if_eq X 91 d_Strata_areContemporary_86 (by decide) (fun h86 => ?_) (fun h86 => ?_)
                · refine g_iinc X (nI (q + 1)) [(4, .int (nI (q + 1))), (6, .int (nI (b q))), (5, .int (nI (a q))), (0, .ref hs), (1, .int (nI i)), (2, .int (nI j)), (3, .ref hr)] d_Strata_areContemporary_91 (k := 6) rfl (nI_1 q) (by decide) rfl ?_
                  refine g_goto X 14 d_Strata_areContemporary_94 (by decide) ?_
                  refine g_ws [(hs, .inr (4, [.ref sn, .ref ss, .ref su, .int (nI K)])), (sn, .inr (0, [.ref xn])), (xn, .inl (cI, 48, .inl fN)), (hr, .inr (2, [.ref ru, .ref rw, .ref rk, .int (nI R), .int (nI sd)])), (ru, .inr (0, [.ref au])), (au, .inl (cI, 200, .inl fA)), (rw, .inr (0, [.ref aw])), (aw, .inl (cI, 200, .inl fB)), (rk, .inr (0, [.ref ak])), (ak, .inl (cI, 200, .inl fK))] [7, 8, 9, 4, 2, 3, 5, 6, 0, 1] rfl rfl ?_
                  refine g_lv [3, 4, 5, 6, 0] rfl ?_
                  exact ih14 (q + 1) (by omega) (by omega) (by first | exact any_f h1 (ctF0 h30) | exact any_f h1 (ctF1 h56 h76) | exact any_f h1 (ctF2 h56 h86) | exact any_f h1 (ctF3 h66 h76) | exact any_f h1 (ctF4 h66 h86))
                · refine g_iconst (v := nI 1) X d_Strata_areContemporary_89 rfl ?_
                  exact g_zret X hA9 hQ9 hr9 (by first | exact Or.inl rfl | exact Or.inr rfl) hlk9 () [7, 8, 9, 4, 2, 3, 5, 6, 0, 1] rfl rfl d_Strata_areContemporary_90 (by first | exact ct_end (q := q) (by omega) (ctT1 h30 h56 h66) | exact ct_end (q := q) (by omega) (ctT2 h30 h76 h86))
            · refine g_aload_n X 0 d_Strata_areContemporary_59 rfl rfl ?_
              refine g_iload_n X 2 d_Strata_areContemporary_60 rfl rfl ?_
              refine g_iload X 6 d_Strata_areContemporary_61 rfl ?_
              refine g_calliV (n := 2) X [.int (nI j), .int (nI (b q))] (k_Strata_areJoined hs sn ss su K xn fN j (b q) (nm j) (nm (b q)) (by omega) (by omega) ((hN _ (by omega)).1) ((hN _ (by omega)).1) ((hN _ (by omega)).2) ((hN _ (by omega)).2)) t2_232 t2_234 ts_8 t1_5 t2_235 rfl rfl (by decide +kernel) ⟨by decide, by decide⟩ [7, 8, 9] [0, 1, 2, 3, 4, 5, 6] [(rk, .inr (0, [.ref ak])), (ak, .inl (cI, 200, .inl fK)), (ru, .inr (0, [.ref au])), (au, .inl (cI, 200, .inl fA)), (hr, .inr (2, [.ref ru, .ref rw, .ref rk, .int (nI R), .int (nI sd)])), (rw, .inr (0, [.ref aw])), (aw, .inl (cI, 200, .inl fB))] rfl rfl rfl rfl (by decide) 0 rfl rfl rfl rfl (Nat.le_of_ble_eq_true rfl) d_Strata_areContemporary_63 ⟨by decide, by decide⟩ (fun r9 w9u9 hw9 => ?_)
              subst hw9
              refine b_if_ne X 89 d_Strata_areContemporary_66 (by decide) (fun h66 => ?_) (fun h66 => ?_)
              · refine g_iconst (v := nI 1) X d_Strata_areContemporary_89 rfl ?_
                exact g_zret X hA9 hQ9 hr9 (by first | exact Or.inl rfl | exact Or.inr rfl) hlk9 () [7, 8, 9, 4, 2, 3, 5, 6, 0, 1] rfl rfl d_Strata_areContemporary_90 (by first | exact ct_end (q := q) (by omega) (ctT1 h30 h56 h66) | exact ct_end (q := q) (by omega) (ctT2 h30 h76 h86))
              · refine g_aload_n X 0 d_Strata_areContemporary_69 rfl rfl ?_
                refine g_iload_n X 1 d_Strata_areContemporary_70 rfl rfl ?_
                refine g_iload X 6 d_Strata_areContemporary_71 rfl ?_
                refine g_calliV (n := 2) X [.int (nI i), .int (nI (b q))] (k_Strata_areJoined hs sn ss su K xn fN i (b q) (nm i) (nm (b q)) (by omega) (by omega) ((hN _ (by omega)).1) ((hN _ (by omega)).1) ((hN _ (by omega)).2) ((hN _ (by omega)).2)) t2_232 t2_234 ts_8 t1_5 t2_235 rfl rfl (by decide +kernel) ⟨by decide, by decide⟩ [7, 8, 9] [0, 1, 2, 3, 4, 5, 6] [(rk, .inr (0, [.ref ak])), (ak, .inl (cI, 200, .inl fK)), (ru, .inr (0, [.ref au])), (au, .inl (cI, 200, .inl fA)), (hr, .inr (2, [.ref ru, .ref rw, .ref rk, .int (nI R), .int (nI sd)])), (rw, .inr (0, [.ref aw])), (aw, .inl (cI, 200, .inl fB))] rfl rfl rfl rfl (by decide) 0 rfl rfl rfl rfl (Nat.le_of_ble_eq_true rfl) d_Strata_areContemporary_73 ⟨by decide, by decide⟩ (fun r10 w9u10 hw10 => ?_)
                subst hw10
                refine b_if_eq X 91 d_Strata_areContemporary_76 (by decide) (fun h76 => ?_) (fun h76 => ?_)
                · refine g_iinc X (nI (q + 1)) [(4, .int (nI (q + 1))), (6, .int (nI (b q))), (5, .int (nI (a q))), (0, .ref hs), (1, .int (nI i)), (2, .int (nI j)), (3, .ref hr)] d_Strata_areContemporary_91 (k := 6) rfl (nI_1 q) (by decide) rfl ?_
                  refine g_goto X 14 d_Strata_areContemporary_94 (by decide) ?_
                  refine g_ws [(hs, .inr (4, [.ref sn, .ref ss, .ref su, .int (nI K)])), (sn, .inr (0, [.ref xn])), (xn, .inl (cI, 48, .inl fN)), (hr, .inr (2, [.ref ru, .ref rw, .ref rk, .int (nI R), .int (nI sd)])), (ru, .inr (0, [.ref au])), (au, .inl (cI, 200, .inl fA)), (rw, .inr (0, [.ref aw])), (aw, .inl (cI, 200, .inl fB)), (rk, .inr (0, [.ref ak])), (ak, .inl (cI, 200, .inl fK))] [7, 8, 9, 4, 2, 3, 5, 6, 0, 1] rfl rfl ?_
                  refine g_lv [3, 4, 5, 6, 0] rfl ?_
                  exact ih14 (q + 1) (by omega) (by omega) (by first | exact any_f h1 (ctF0 h30) | exact any_f h1 (ctF1 h56 h76) | exact any_f h1 (ctF2 h56 h86) | exact any_f h1 (ctF3 h66 h76) | exact any_f h1 (ctF4 h66 h86))
                · refine g_aload_n X 0 d_Strata_areContemporary_79 rfl rfl ?_
                  refine g_iload_n X 2 d_Strata_areContemporary_80 rfl rfl ?_
                  refine g_iload X 5 d_Strata_areContemporary_81 rfl ?_
                  refine g_calliV (n := 2) X [.int (nI j), .int (nI (a q))] (k_Strata_areJoined hs sn ss su K xn fN j (a q) (nm j) (nm (a q)) (by omega) (by omega) ((hN _ (by omega)).1) ((hN _ (by omega)).1) ((hN _ (by omega)).2) ((hN _ (by omega)).2)) t2_232 t2_234 ts_8 t1_5 t2_235 rfl rfl (by decide +kernel) ⟨by decide, by decide⟩ [7, 8, 9] [0, 1, 2, 3, 4, 5, 6] [(rk, .inr (0, [.ref ak])), (ak, .inl (cI, 200, .inl fK)), (ru, .inr (0, [.ref au])), (au, .inl (cI, 200, .inl fA)), (hr, .inr (2, [.ref ru, .ref rw, .ref rk, .int (nI R), .int (nI sd)])), (rw, .inr (0, [.ref aw])), (aw, .inl (cI, 200, .inl fB))] rfl rfl rfl rfl (by decide) 0 rfl rfl rfl rfl (Nat.le_of_ble_eq_true rfl) d_Strata_areContemporary_83 ⟨by decide, by decide⟩ (fun r11 w9u11 hw11 => ?_)
                  subst hw11
                  refine b_if_eq X 91 d_Strata_areContemporary_86 (by decide) (fun h86 => ?_) (fun h86 => ?_)
                  · refine g_iinc X (nI (q + 1)) [(4, .int (nI (q + 1))), (6, .int (nI (b q))), (5, .int (nI (a q))), (0, .ref hs), (1, .int (nI i)), (2, .int (nI j)), (3, .ref hr)] d_Strata_areContemporary_91 (k := 6) rfl (nI_1 q) (by decide) rfl ?_
                    refine g_goto X 14 d_Strata_areContemporary_94 (by decide) ?_
                    refine g_ws [(hs, .inr (4, [.ref sn, .ref ss, .ref su, .int (nI K)])), (sn, .inr (0, [.ref xn])), (xn, .inl (cI, 48, .inl fN)), (hr, .inr (2, [.ref ru, .ref rw, .ref rk, .int (nI R), .int (nI sd)])), (ru, .inr (0, [.ref au])), (au, .inl (cI, 200, .inl fA)), (rw, .inr (0, [.ref aw])), (aw, .inl (cI, 200, .inl fB)), (rk, .inr (0, [.ref ak])), (ak, .inl (cI, 200, .inl fK))] [7, 8, 9, 4, 2, 3, 5, 6, 0, 1] rfl rfl ?_
                    refine g_lv [3, 4, 5, 6, 0] rfl ?_
                    exact ih14 (q + 1) (by omega) (by omega) (by first | exact any_f h1 (ctF0 h30) | exact any_f h1 (ctF1 h56 h76) | exact any_f h1 (ctF2 h56 h86) | exact any_f h1 (ctF3 h66 h76) | exact any_f h1 (ctF4 h66 h86))
                  · refine g_iconst (v := nI 1) X d_Strata_areContemporary_89 rfl ?_
                    exact g_zret X hA9 hQ9 hr9 (by first | exact Or.inl rfl | exact Or.inr rfl) hlk9 () [7, 8, 9, 4, 2, 3, 5, 6, 0, 1] rfl rfl d_Strata_areContemporary_90 (by first | exact ct_end (q := q) (by omega) (ctT1 h30 h56 h66) | exact ct_end (q := q) (by omega) (ctT2 h30 h76 h86))
    refine g_iconst (v := nI 0) X d_Strata_areContemporary_11 rfl ?_
    refine g_istore X [(4, .int (nI 0)), (0, .ref hs), (1, .int (nI i)), (2, .int (nI j)), (3, .ref hr)] d_Strata_areContemporary_12 (by decide) rfl ?_
    refine g_ws [(hs, .inr (4, [.ref sn, .ref ss, .ref su, .int (nI K)])), (sn, .inr (0, [.ref xn])), (xn, .inl (cI, 48, .inl fN)), (hr, .inr (2, [.ref ru, .ref rw, .ref rk, .int (nI R), .int (nI sd)])), (ru, .inr (0, [.ref au])), (au, .inl (cI, 200, .inl fA)), (rw, .inr (0, [.ref aw])), (aw, .inl (cI, 200, .inl fB)), (rk, .inr (0, [.ref ak])), (ak, .inl (cI, 200, .inl fK))] [7, 8, 9, 0, 1, 2, 3, 4, 5, 6] rfl rfl ?_
    refine g_lv [1, 2, 3, 4, 0] rfl ?_
    exact L14 ((R - 0) + 1) 0 (Nat.lt_succ_self _) (by omega) (rfl)
  · refine g_iconst (v := nI 1) X d_Strata_areContemporary_9 rfl ?_
    exact g_zret X hA9 hQ9 hr9 (by first | exact Or.inl rfl | exact Or.inr rfl) hlk9 () [7, 8, 9, 0, 1, 2, 3, 4, 5, 6] rfl rfl d_Strata_areContemporary_10 (by rw [h6]; rfl)

set_option maxHeartbeats 4000000 in
set_option maxRecDepth 100000 in
theorem k_Strata_linksUnder (hs : Nat) (sn : Nat) (ss : Nat) (su : Nat) (K : Nat) (xu : Nat) (fU : Nat → Int64) (u : Nat) (hK : K ≤ 48) (hu : u < 48) : CtL l y_Strata_linksUnder (Cond.code y_Strata_linksUnder c_Strata_linksUnder 7 (some .long) :: TB) ({ frames := 2, cells := 0, slots := 0, locals := 43 } : Room) D (tysv cI cJ cZ cQ) [.ref hs, .int (nI u)] [(hs, .inr (4, [.ref sn, .ref ss, .ref su, .int (nI K)])), (su, .inr (1, [.ref xu])), (xu, .inl (cJ, 48, .inr (.inl fU)))] 0 0 (fun (r : Int64) (_ : Unit) => lb r = lkB fU K u) (fun (_ : Unit) => [(hs, .inr (4, [.ref sn, .ref ss, .ref su, .int (nI K)])), (su, .inr (1, [.ref xu])), (xu, .inl (cJ, 48, .inr (.inl fU)))]) := by
  refine CtL.of c_Strata_linksUnder 7 (some .long) (by decide) rfl (Nat.le_of_ble_eq_true rfl) ?_
  intro p e s m args below meth c A Q hA9 hQ9 X hr9 hlk9 hin9
  refine g_aload_n X 0 d_Strata_linksUnder_0 rfl rfl ?_
  refine g_get (C := R_Strata) (T := T_Strata) (N := 4) X 0 2 in_Strata rfl rfl (by decide) t1_86 rfl rfl d_Strata_linksUnder_1 ?_
  refine g_iload_n X 1 d_Strata_linksUnder_4 rfl rfl ?_
  refine g_calllV (n := 1) X [.int (nI u)] (k_Rows_row su xu 48 fU u (by omega) (by omega)) t1_173 t1_174 t1_175 t1_6 t1_176 rfl rfl (by decide +kernel) ⟨by decide, by decide⟩ [1, 2] [0] [(hs, .inr (4, [.ref sn, .ref ss, .ref su, .int (nI K)]))] rfl rfl rfl rfl (by decide) 0 rfl rfl rfl rfl (Nat.le_of_ble_eq_true rfl) d_Strata_linksUnder_5 ⟨by decide, by decide⟩ (fun r1 w9u1 hw1 => ?_)
  subst hw1
  refine g_lstore_n X [(2, .long (fU u)), (0, .ref hs), (1, .int (nI u))] d_Strata_linksUnder_8 rfl (by decide) rfl ?_
  have L15 : ∀ (N15 : Nat) (i : Nat) (w : Int64), (K - i) < N15 → (i ≤ K) → (∀ x, lb w x = anyB (fun k => lb (fU u) k && lb (fU k) x) i) → G p l e ({ frames := 2, cells := 0, slots := 0, locals := 43 } : Room) s m args below meth c 7 D A s.heap Q 0 0 [(hs, .inr (4, [.ref sn, .ref ss, .ref su, .int (nI K)])), (su, .inr (1, [.ref xu])), (xu, .inl (cJ, 48, .inr (.inl fU)))] [(0, .ref hs), (1, .int (nI u)), (2, .long (fU u)), (4, .long w), (6, .int (nI i))] 15 [] := by
    intro N15
    induction N15 with
    | zero =>
      intro i w hN
      exact absurd hN (Nat.not_lt_zero _)
    | succ N15 ih15 =>
      intro i w hN15 hi h1
      refine g_iload X 6 d_Strata_linksUnder_15 rfl ?_
      refine g_aload_n X 0 d_Strata_linksUnder_17 rfl rfl ?_
      refine g_get (C := R_Strata) (T := T_Strata) (N := 4) X 0 3 in_Strata rfl rfl (by decide) t1_87 rfl rfl d_Strata_linksUnder_18 ?_
      refine n_icmp_ge X 57 d_Strata_linksUnder_21 (by decide) (by omega) (by omega) (fun h21 => ?_) (fun h21 => ?_)
      · refine g_lload_n X 2 d_Strata_linksUnder_57 rfl rfl ?_
        refine g_lload X 4 d_Strata_linksUnder_58 rfl ?_
        refine g_ldc2 (v := -1) X t1_185 d_Strata_linksUnder_60 ?_
        refine g_lxor X (w ^^^ (-1)) d_Strata_linksUnder_63 rfl ?_
        refine g_land X ((fU u) &&& (w ^^^ (-1))) d_Strata_linksUnder_64 rfl ?_
        exact g_lret X hA9 hQ9 hr9 hlk9 () [0, 1, 2] rfl rfl d_Strata_linksUnder_65 (by have e9 : i = K := (by omega); subst e9; exact lk_end h1)
      · refine g_aload_n X 0 d_Strata_linksUnder_24 rfl rfl ?_
        refine g_get (C := R_Strata) (T := T_Strata) (N := 4) X 0 2 in_Strata rfl rfl (by decide) t1_86 rfl rfl d_Strata_linksUnder_25 ?_
        refine g_iload_n X 1 d_Strata_linksUnder_28 rfl rfl ?_
        refine g_iload X 6 d_Strata_linksUnder_29 rfl ?_
        refine g_calliV (n := 2) X [.int (nI u), .int (nI i)] (k_Rows_has su xu 48 fU u i (by omega) (by omega) (by omega)) t1_181 t1_182 t1_183 t1_6 t1_184 rfl rfl (by decide +kernel) ⟨by decide, by decide⟩ [1, 2] [0] [(hs, .inr (4, [.ref sn, .ref ss, .ref su, .int (nI K)]))] rfl rfl rfl rfl (by decide) 0 rfl rfl rfl rfl (Nat.le_of_ble_eq_true rfl) d_Strata_linksUnder_31 ⟨by decide, by decide⟩ (fun r2 w9u2 hw2 => ?_)
        subst hw2
        refine b_if_eq X 51 d_Strata_linksUnder_34 (by decide) (fun h34 => ?_) (fun h34 => ?_)
        · refine g_iinc X (nI (i + 1)) [(6, .int (nI (i + 1))), (0, .ref hs), (1, .int (nI u)), (2, .long (fU u)), (4, .long w)] d_Strata_linksUnder_51 (k := 4) rfl (nI_1 i) (by decide) rfl ?_
          refine g_goto X 15 d_Strata_linksUnder_54 (by decide) ?_
          refine g_lv [1, 2, 3, 4, 0] rfl ?_
          exact ih15 (i + 1) w (by omega) (by omega) (by first | exact any_keep h1 h34 | exact any_put h1 h34)
        · refine g_lload X 4 d_Strata_linksUnder_37 rfl ?_
          refine g_aload_n X 0 d_Strata_linksUnder_39 rfl rfl ?_
          refine g_get (C := R_Strata) (T := T_Strata) (N := 4) X 0 2 in_Strata rfl rfl (by decide) t1_86 rfl rfl d_Strata_linksUnder_40 ?_
          refine g_iload X 6 d_Strata_linksUnder_43 rfl ?_
          refine g_calllV (n := 1) X [.int (nI i)] (k_Rows_row su xu 48 fU i (by omega) (by omega)) t1_173 t1_174 t1_175 t1_6 t1_176 rfl rfl (by decide +kernel) ⟨by decide, by decide⟩ [1, 2] [0] [(hs, .inr (4, [.ref sn, .ref ss, .ref su, .int (nI K)]))] rfl rfl rfl rfl (by decide) 0 rfl rfl rfl rfl (Nat.le_of_ble_eq_true rfl) d_Strata_linksUnder_45 ⟨by decide, by decide⟩ (fun r3 w9u3 hw3 => ?_)
          subst hw3
          refine g_lor X (w ||| (fU i)) d_Strata_linksUnder_48 rfl ?_
          refine g_lstore X [(4, .long (w ||| (fU i))), (0, .ref hs), (1, .int (nI u)), (2, .long (fU u)), (6, .int (nI i))] d_Strata_linksUnder_49 (by decide) rfl ?_
          refine g_iinc X (nI (i + 1)) [(6, .int (nI (i + 1))), (4, .long (w ||| (fU i))), (0, .ref hs), (1, .int (nI u)), (2, .long (fU u))] d_Strata_linksUnder_51 (k := 4) rfl (nI_1 i) (by decide) rfl ?_
          refine g_goto X 15 d_Strata_linksUnder_54 (by decide) ?_
          refine g_lv [2, 3, 4, 1, 0] rfl ?_
          exact ih15 (i + 1) (w ||| (fU i)) (by omega) (by omega) (by first | exact any_keep h1 h34 | exact any_put h1 h34)
  refine g_lconst (v := 0) X d_Strata_linksUnder_9 rfl ?_
  refine g_lstore X [(4, .long 0), (2, .long (fU u)), (0, .ref hs), (1, .int (nI u))] d_Strata_linksUnder_10 (by decide) rfl ?_
  refine g_iconst (v := nI 0) X d_Strata_linksUnder_12 rfl ?_
  refine g_istore X [(6, .int (nI 0)), (4, .long 0), (2, .long (fU u)), (0, .ref hs), (1, .int (nI u))] d_Strata_linksUnder_13 (by decide) rfl ?_
  refine g_lv [3, 4, 2, 1, 0] rfl ?_
  exact L15 ((K - 0) + 1) 0 0 (Nat.lt_succ_self _) (by omega) (any_0)

set_option maxHeartbeats 4000000 in
set_option maxRecDepth 100000 in
theorem k_Strata_linkCount (hs : Nat) (sn : Nat) (ss : Nat) (su : Nat) (K : Nat) (xu : Nat) (fU : Nat → Int64) (hK : K ≤ 48) : CtI l y_Strata_linkCount (Cond.code y_Strata_linkCount c_Strata_linkCount 3 (some .int) :: TB) ({ frames := 3, cells := 0, slots := 0, locals := 69 } : Room) D (tysv cI cJ cZ cQ) [.ref hs] [(hs, .inr (4, [.ref sn, .ref ss, .ref su, .int (nI K)])), (su, .inr (1, [.ref xu])), (xu, .inl (cJ, 48, .inr (.inl fU)))] 0 0 (fun (r : Int32) (_ : Unit) => r = nI (lsum (fun z9 => cnt (lkB fU K z9) 64) K)) (fun (_ : Unit) => [(hs, .inr (4, [.ref sn, .ref ss, .ref su, .int (nI K)])), (su, .inr (1, [.ref xu])), (xu, .inl (cJ, 48, .inr (.inl fU)))]) := by
  refine CtI.of c_Strata_linkCount 3 (some .int) (by decide) rfl (Nat.le_of_ble_eq_true rfl) ?_
  intro p e s m args below meth c A Q hA9 hQ9 X hr9 hlk9 hin9
  have L4 : ∀ (N4 : Nat) (i : Nat) (n : Nat), (K - i) < N4 → (i ≤ K) → (n = lsum (fun z9 => cnt (lkB fU K z9) 64) i) → G p l e ({ frames := 3, cells := 0, slots := 0, locals := 69 } : Room) s m args below meth c 3 D A s.heap Q 0 0 [(hs, .inr (4, [.ref sn, .ref ss, .ref su, .int (nI K)])), (su, .inr (1, [.ref xu])), (xu, .inl (cJ, 48, .inr (.inl fU)))] [(0, .ref hs), (1, .int (nI n)), (2, .int (nI i))] 4 [] := by
    intro N4
    induction N4 with
    | zero =>
      intro i n hN
      exact absurd hN (Nat.not_lt_zero _)
    | succ N4 ih4 =>
      intro i n hN4 hi h1
      refine g_iload_n X 2 d_Strata_linkCount_4 rfl rfl ?_
      refine g_aload_n X 0 d_Strata_linkCount_5 rfl rfl ?_
      refine g_get (C := R_Strata) (T := T_Strata) (N := 4) X 0 3 in_Strata rfl rfl (by decide) t1_87 rfl rfl d_Strata_linkCount_6 ?_
      refine n_icmp_ge X 29 d_Strata_linkCount_9 (by decide) (by omega) (by omega) (fun h9 => ?_) (fun h9 => ?_)
      · refine g_iload_n X 1 d_Strata_linkCount_29 rfl rfl ?_
        exact g_iret X hA9 hQ9 hr9 hlk9 () [0, 1, 2] rfl rfl d_Strata_linkCount_30 (by have e9 : i = K := (by omega); subst e9; rw [h1])
      · refine g_iload_n X 1 d_Strata_linkCount_12 rfl rfl ?_
        refine g_aload_n X 0 d_Strata_linkCount_13 rfl rfl ?_
        refine g_iload_n X 2 d_Strata_linkCount_14 rfl rfl ?_
        refine g_calllV (n := 1) X [.int (nI i)] (k_Strata_linksUnder hs sn ss su K xu fU i (by omega) (by omega)) t1_169 t1_171 ts_0 t1_5 t1_172 rfl rfl (by decide +kernel) ⟨by decide, by decide⟩ [0, 1, 2] [] [] rfl rfl rfl rfl (by decide) 0 rfl rfl rfl rfl (Nat.le_of_ble_eq_true rfl) d_Strata_linkCount_15 ⟨by decide, by decide⟩ (fun r1 w9u1 hl9 => ?_)
        refine g_calliS (n := 1) X [.long r1] (k_Long_bitCount r1 ) t1_186 t1_187 t1_15 t1_188 rfl rfl (by decide +kernel) ⟨by decide, by decide⟩ [] [0, 1, 2] [(hs, .inr (4, [.ref sn, .ref ss, .ref su, .int (nI K)])), (su, .inr (1, [.ref xu])), (xu, .inl (cJ, 48, .inr (.inl fU)))] rfl rfl rfl rfl (by decide) rfl rfl (Nat.le_of_ble_eq_true rfl) d_Strata_linkCount_18 ⟨by decide, by decide⟩ (fun r2 w9u2 hw2 => ?_)
        subst hw2
        rw [hl9]
        have hle := lk_le fU K i
        refine g_iadd X (nI (n + cnt (lkB fU K i) 64)) d_Strata_linkCount_21 (nI_add n (cnt (lkB fU K i) 64)) ?_
        refine g_istore_n X [(1, .int (nI (n + cnt (lkB fU K i) 64))), (0, .ref hs), (2, .int (nI i))] d_Strata_linkCount_22 rfl (by decide) rfl ?_
        refine g_iinc X (nI (i + 1)) [(2, .int (nI (i + 1))), (1, .int (nI (n + cnt (lkB fU K i) 64))), (0, .ref hs)] d_Strata_linkCount_23 (k := 2) rfl (nI_1 i) (by decide) rfl ?_
        refine g_goto X 4 d_Strata_linkCount_26 (by decide) ?_
        refine g_lv [2, 1, 0] rfl ?_
        exact ih4 (i + 1) (n + cnt (lkB fU K i) 64) (by omega) (by omega) (by rw [h1]; rfl)
  refine g_iconst (v := nI 0) X d_Strata_linkCount_0 rfl ?_
  refine g_istore_n X [(1, .int (nI 0)), (0, .ref hs)] d_Strata_linkCount_1 rfl (by decide) rfl ?_
  refine g_iconst (v := nI 0) X d_Strata_linkCount_2 rfl ?_
  refine g_istore_n X [(2, .int (nI 0)), (1, .int (nI 0)), (0, .ref hs)] d_Strata_linkCount_3 rfl (by decide) rfl ?_
  refine g_lv [2, 1, 0] rfl ?_
  exact L4 ((K - 0) + 1) 0 0 (Nat.lt_succ_self _) (by omega) (rfl)

set_option maxHeartbeats 4000000 in
set_option maxRecDepth 100000 in
theorem k_Strata_linkEndU (hs : Nat) (sn : Nat) (ss : Nat) (su : Nat) (K : Nat) (xu : Nat) (fU : Nat → Int64) (k : Nat) (hK : K ≤ 48) (hk2 : k < 2 ^ 20) (hk : k < lsum (fun z9 => cnt (lkB fU K z9) 64) K) (hf : ∀ u, u < 48 → ∀ x, lb (fU u) x = true → x < 48) : CtI l y_Strata_linkEnd (Cond.code y_Strata_linkEnd c_Strata_linkEnd 8 (some .int) :: TB) ({ frames := 3, cells := 0, slots := 0, locals := 69 } : Room) D (tysv cI cJ cZ cQ) [.ref hs, .int (nI k), .int (bI true)] [(hs, .inr (4, [.ref sn, .ref ss, .ref su, .int (nI K)])), (su, .inr (1, [.ref xu])), (xu, .inl (cJ, 48, .inr (.inl fU)))] 0 0 (fun (r : Int32) (u : Nat) => r = nI u ∧ u < K ∧ lsum (fun z9 => cnt (lkB fU K z9) 64) u ≤ k ∧ k < lsum (fun z9 => cnt (lkB fU K z9) 64) u + cnt (lkB fU K u) 64) (fun (u : Nat) => [(hs, .inr (4, [.ref sn, .ref ss, .ref su, .int (nI K)])), (su, .inr (1, [.ref xu])), (xu, .inl (cJ, 48, .inr (.inl fU)))]) := by
  refine CtI.of c_Strata_linkEnd 8 (some .int) (by decide) rfl (Nat.le_of_ble_eq_true rfl) ?_
  intro p e s m args below meth c A Q hA9 hQ9 X hr9 hlk9 hin9
  have L5 : ∀ (N5 : Nat) (i : Nat) (lf : Nat), (K - i) < N5 → (i ≤ K) → (lf + lsum (fun z9 => cnt (lkB fU K z9) 64) i = k) → G p l e ({ frames := 3, cells := 0, slots := 0, locals := 69 } : Room) s m args below meth c 8 D A s.heap Q 0 0 [(hs, .inr (4, [.ref sn, .ref ss, .ref su, .int (nI K)])), (su, .inr (1, [.ref xu])), (xu, .inl (cJ, 48, .inr (.inl fU)))] [(0, .ref hs), (1, .int (nI k)), (2, .int (bI true)), (3, .int (nI lf)), (4, .int (nI i))] 5 [] := by
    intro N5
    induction N5 with
    | zero =>
      intro i lf hN
      exact absurd hN (Nat.not_lt_zero _)
    | succ N5 ih5 =>
      intro i lf hN5 hi h1
      refine g_iload X 4 d_Strata_linkEnd_5 rfl ?_
      refine g_aload_n X 0 d_Strata_linkEnd_7 rfl rfl ?_
      refine g_get (C := R_Strata) (T := T_Strata) (N := 4) X 0 3 in_Strata rfl rfl (by decide) t1_87 rfl rfl d_Strata_linkEnd_8 ?_
      refine n_icmp_ge X 62 d_Strata_linkEnd_11 (by decide) (by omega) (by omega) (fun h11 => absurd h11 (fun q9 => by have e9 : i = K := (by omega); subst e9; omega)) (fun h11 => ?_)
      refine g_aload_n X 0 d_Strata_linkEnd_14 rfl rfl ?_
      refine g_iload X 4 d_Strata_linkEnd_15 rfl ?_
      refine g_calllV (n := 1) X [.int (nI i)] (k_Strata_linksUnder hs sn ss su K xu fU i (by omega) (by omega)) t1_169 t1_171 ts_0 t1_5 t1_172 rfl rfl (by decide +kernel) ⟨by decide, by decide⟩ [0, 1, 2] [] [] rfl rfl rfl rfl (by decide) 0 rfl rfl rfl rfl (Nat.le_of_ble_eq_true rfl) d_Strata_linkEnd_17 ⟨by decide, by decide⟩ (fun r1 w9u1 hl9 => ?_)
      refine g_lstore X [(5, .long r1), (0, .ref hs), (1, .int (nI k)), (2, .int (bI true)), (3, .int (nI lf)), (4, .int (nI i))] d_Strata_linkEnd_20 (by decide) rfl ?_
      refine g_lload X 5 d_Strata_linkEnd_22 rfl ?_
      refine g_calliS (n := 1) X [.long r1] (k_Long_bitCount r1 ) t1_186 t1_187 t1_15 t1_188 rfl rfl (by decide +kernel) ⟨by decide, by decide⟩ [] [0, 1, 2] [(hs, .inr (4, [.ref sn, .ref ss, .ref su, .int (nI K)])), (su, .inr (1, [.ref xu])), (xu, .inl (cJ, 48, .inr (.inl fU)))] rfl rfl rfl rfl (by decide) rfl rfl (Nat.le_of_ble_eq_true rfl) d_Strata_linkEnd_24 ⟨by decide, by decide⟩ (fun r2 w9u2 hw2 => ?_)
      subst hw2
      rw [hl9]
      have hle := lk_le fU K i
      refine g_istore X [(7, .int (nI (cnt (lkB fU K i) 64))), (5, .long r1), (0, .ref hs), (1, .int (nI k)), (2, .int (bI true)), (3, .int (nI lf)), (4, .int (nI i))] d_Strata_linkEnd_27 (by decide) rfl ?_
      refine g_iload_n X 3 d_Strata_linkEnd_29 rfl rfl ?_
      refine g_iload X 7 d_Strata_linkEnd_30 rfl ?_
      refine n_icmp_ge X 51 d_Strata_linkEnd_32 (by decide) (by omega) (by omega) (fun h32 => ?_) (fun h32 => ?_)
      · refine g_iload_n X 3 d_Strata_linkEnd_51 rfl rfl ?_
        refine g_iload X 7 d_Strata_linkEnd_52 rfl ?_
        refine g_isub X (nI (lf - (cnt (lkB fU K i) 64))) d_Strata_linkEnd_54 (pk_sub (by omega)) ?_
        refine g_istore_n X [(3, .int (nI (lf - (cnt (lkB fU K i) 64)))), (7, .int (nI (cnt (lkB fU K i) 64))), (5, .long r1), (0, .ref hs), (1, .int (nI k)), (2, .int (bI true)), (4, .int (nI i))] d_Strata_linkEnd_55 rfl (by decide) rfl ?_
        refine g_iinc X (nI (i + 1)) [(4, .int (nI (i + 1))), (3, .int (nI (lf - (cnt (lkB fU K i) 64)))), (7, .int (nI (cnt (lkB fU K i) 64))), (5, .long r1), (0, .ref hs), (1, .int (nI k)), (2, .int (bI true))] d_Strata_linkEnd_56 (k := 6) rfl (nI_1 i) (by decide) rfl ?_
        refine g_goto X 5 d_Strata_linkEnd_59 (by decide) ?_
        refine g_lv [4, 5, 6, 1, 0] rfl ?_
        exact ih5 (i + 1) (lf - (cnt (lkB fU K i) 64)) (by omega) (by omega) (by simp only [lsum]; omega)
      · refine g_iload_n X 2 d_Strata_linkEnd_35 rfl rfl ?_
        refine b_if_eq X 44 d_Strata_linkEnd_36 (by decide) (fun h36 => absurd h36 (by decide)) (fun h36 => ?_)
        refine g_iload X 4 d_Strata_linkEnd_39 rfl ?_
        refine g_goto X 50 d_Strata_linkEnd_41 (by decide) ?_
        exact g_iret X hA9 hQ9 hr9 hlk9 i [0, 1, 2] rfl rfl d_Strata_linkEnd_50 (⟨rfl, by omega, by omega, by omega⟩)
  refine g_iload_n X 1 d_Strata_linkEnd_0 rfl rfl ?_
  refine g_istore_n X [(3, .int (nI k)), (0, .ref hs), (1, .int (nI k)), (2, .int (bI true))] d_Strata_linkEnd_1 rfl (by decide) rfl ?_
  refine g_iconst (v := nI 0) X d_Strata_linkEnd_2 rfl ?_
  refine g_istore X [(4, .int (nI 0)), (3, .int (nI k)), (0, .ref hs), (1, .int (nI k)), (2, .int (bI true))] d_Strata_linkEnd_3 (by decide) rfl ?_
  refine g_lv [2, 3, 4, 1, 0] rfl ?_
  exact L5 ((K - 0) + 1) 0 k (Nat.lt_succ_self _) (by omega) (rfl)

set_option maxHeartbeats 4000000 in
set_option maxRecDepth 100000 in
theorem k_Strata_linkEndL (hs : Nat) (sn : Nat) (ss : Nat) (su : Nat) (K : Nat) (xu : Nat) (fU : Nat → Int64) (k : Nat) (hK : K ≤ 48) (hk2 : k < 2 ^ 20) (hk : k < lsum (fun z9 => cnt (lkB fU K z9) 64) K) (hf : ∀ u, u < 48 → ∀ x, lb (fU u) x = true → x < 48) : CtI l y_Strata_linkEnd (Cond.code y_Strata_linkEnd c_Strata_linkEnd 8 (some .int) :: TB) ({ frames := 3, cells := 0, slots := 0, locals := 69 } : Room) D (tysv cI cJ cZ cQ) [.ref hs, .int (nI k), .int (bI false)] [(hs, .inr (4, [.ref sn, .ref ss, .ref su, .int (nI K)])), (su, .inr (1, [.ref xu])), (xu, .inl (cJ, 48, .inr (.inl fU)))] 0 0 (fun (r : Int32) (u : Nat × Nat) => r = nI u.2 ∧ u.1 < K ∧ lsum (fun z9 => cnt (lkB fU K z9) 64) u.1 ≤ k ∧ k < lsum (fun z9 => cnt (lkB fU K z9) 64) u.1 + cnt (lkB fU K u.1) 64 ∧ u.2 < 48 ∧ lkB fU K u.1 u.2 = true ∧ cnt (lkB fU K u.1) u.2 = k - lsum (fun z9 => cnt (lkB fU K z9) 64) u.1) (fun (u : Nat × Nat) => [(hs, .inr (4, [.ref sn, .ref ss, .ref su, .int (nI K)])), (su, .inr (1, [.ref xu])), (xu, .inl (cJ, 48, .inr (.inl fU)))]) := by
  refine CtI.of c_Strata_linkEnd 8 (some .int) (by decide) rfl (Nat.le_of_ble_eq_true rfl) ?_
  intro p e s m args below meth c A Q hA9 hQ9 X hr9 hlk9 hin9
  have L5 : ∀ (N5 : Nat) (i : Nat) (lf : Nat), (K - i) < N5 → (i ≤ K) → (lf + lsum (fun z9 => cnt (lkB fU K z9) 64) i = k) → G p l e ({ frames := 3, cells := 0, slots := 0, locals := 69 } : Room) s m args below meth c 8 D A s.heap Q 0 0 [(hs, .inr (4, [.ref sn, .ref ss, .ref su, .int (nI K)])), (su, .inr (1, [.ref xu])), (xu, .inl (cJ, 48, .inr (.inl fU)))] [(0, .ref hs), (1, .int (nI k)), (2, .int (bI false)), (3, .int (nI lf)), (4, .int (nI i))] 5 [] := by
    intro N5
    induction N5 with
    | zero =>
      intro i lf hN
      exact absurd hN (Nat.not_lt_zero _)
    | succ N5 ih5 =>
      intro i lf hN5 hi h1
      refine g_iload X 4 d_Strata_linkEnd_5 rfl ?_
      refine g_aload_n X 0 d_Strata_linkEnd_7 rfl rfl ?_
      refine g_get (C := R_Strata) (T := T_Strata) (N := 4) X 0 3 in_Strata rfl rfl (by decide) t1_87 rfl rfl d_Strata_linkEnd_8 ?_
      refine n_icmp_ge X 62 d_Strata_linkEnd_11 (by decide) (by omega) (by omega) (fun h11 => absurd h11 (fun q9 => by have e9 : i = K := (by omega); subst e9; omega)) (fun h11 => ?_)
      refine g_aload_n X 0 d_Strata_linkEnd_14 rfl rfl ?_
      refine g_iload X 4 d_Strata_linkEnd_15 rfl ?_
      refine g_calllV (n := 1) X [.int (nI i)] (k_Strata_linksUnder hs sn ss su K xu fU i (by omega) (by omega)) t1_169 t1_171 ts_0 t1_5 t1_172 rfl rfl (by decide +kernel) ⟨by decide, by decide⟩ [0, 1, 2] [] [] rfl rfl rfl rfl (by decide) 0 rfl rfl rfl rfl (Nat.le_of_ble_eq_true rfl) d_Strata_linkEnd_17 ⟨by decide, by decide⟩ (fun r1 w9u1 hl9 => ?_)
      refine g_lstore X [(5, .long r1), (0, .ref hs), (1, .int (nI k)), (2, .int (bI false)), (3, .int (nI lf)), (4, .int (nI i))] d_Strata_linkEnd_20 (by decide) rfl ?_
      refine g_lload X 5 d_Strata_linkEnd_22 rfl ?_
      refine g_calliS (n := 1) X [.long r1] (k_Long_bitCount r1 ) t1_186 t1_187 t1_15 t1_188 rfl rfl (by decide +kernel) ⟨by decide, by decide⟩ [] [0, 1, 2] [(hs, .inr (4, [.ref sn, .ref ss, .ref su, .int (nI K)])), (su, .inr (1, [.ref xu])), (xu, .inl (cJ, 48, .inr (.inl fU)))] rfl rfl rfl rfl (by decide) rfl rfl (Nat.le_of_ble_eq_true rfl) d_Strata_linkEnd_24 ⟨by decide, by decide⟩ (fun r2 w9u2 hw2 => ?_)
      subst hw2
      rw [hl9]
      have hle := lk_le fU K i
      refine g_istore X [(7, .int (nI (cnt (lkB fU K i) 64))), (5, .long r1), (0, .ref hs), (1, .int (nI k)), (2, .int (bI false)), (3, .int (nI lf)), (4, .int (nI i))] d_Strata_linkEnd_27 (by decide) rfl ?_
      refine g_iload_n X 3 d_Strata_linkEnd_29 rfl rfl ?_
      refine g_iload X 7 d_Strata_linkEnd_30 rfl ?_
      refine n_icmp_ge X 51 d_Strata_linkEnd_32 (by decide) (by omega) (by omega) (fun h32 => ?_) (fun h32 => ?_)
      · refine g_iload_n X 3 d_Strata_linkEnd_51 rfl rfl ?_
        refine g_iload X 7 d_Strata_linkEnd_52 rfl ?_
        refine g_isub X (nI (lf - (cnt (lkB fU K i) 64))) d_Strata_linkEnd_54 (pk_sub (by omega)) ?_
        refine g_istore_n X [(3, .int (nI (lf - (cnt (lkB fU K i) 64)))), (7, .int (nI (cnt (lkB fU K i) 64))), (5, .long r1), (0, .ref hs), (1, .int (nI k)), (2, .int (bI false)), (4, .int (nI i))] d_Strata_linkEnd_55 rfl (by decide) rfl ?_
        refine g_iinc X (nI (i + 1)) [(4, .int (nI (i + 1))), (3, .int (nI (lf - (cnt (lkB fU K i) 64)))), (7, .int (nI (cnt (lkB fU K i) 64))), (5, .long r1), (0, .ref hs), (1, .int (nI k)), (2, .int (bI false))] d_Strata_linkEnd_56 (k := 6) rfl (nI_1 i) (by decide) rfl ?_
        refine g_goto X 5 d_Strata_linkEnd_59 (by decide) ?_
        refine g_lv [4, 5, 6, 1, 0] rfl ?_
        exact ih5 (i + 1) (lf - (cnt (lkB fU K i) 64)) (by omega) (by omega) (by simp only [lsum]; omega)
      · refine g_iload_n X 2 d_Strata_linkEnd_35 rfl rfl ?_
        refine b_if_eq X 44 d_Strata_linkEnd_36 (by decide) (fun h36 => ?_) (fun h36 => absurd h36 (by decide))
        refine g_lload X 5 d_Strata_linkEnd_44 rfl ?_
        refine g_iload_n X 3 d_Strata_linkEnd_46 rfl rfl ?_
        refine g_calliN (n := 2) X [.long r1, .int (nI lf)] (k_RO_nthOf r1 lf (by omega) (by rw [hl9]; exact nth48 (fun x hx => hf i (by omega) x (by simp only [lkB, Bool.and_eq_true] at hx; exact hx.1)) h32)) X.2.2.2.2.2.1.2.2.1 t2_113 t1_1 t2_114 rfl rfl (by decide +kernel) ⟨by decide, by decide⟩ [] [0, 1, 2] [(hs, .inr (4, [.ref sn, .ref ss, .ref su, .int (nI K)])), (su, .inr (1, [.ref xu])), (xu, .inl (cJ, 48, .inr (.inl fU)))] rfl rfl rfl rfl (by decide) rfl rfl (Nat.le_of_ble_eq_true rfl) d_Strata_linkEnd_47 ⟨by decide, by decide⟩ (fun r3 x_3 hx9 => ?_)
        obtain ⟨rfl, hx9⟩ := hx9
        rw [hl9] at hx9
        exact g_iret X hA9 hQ9 hr9 hlk9 ⟨i, x_3⟩ [0, 1, 2] rfl rfl d_Strata_linkEnd_50 (by (try dsimp only); exact (⟨rfl, by omega, by omega, by omega, hx9.1, hx9.2.1, by omega⟩))
  refine g_iload_n X 1 d_Strata_linkEnd_0 rfl rfl ?_
  refine g_istore_n X [(3, .int (nI k)), (0, .ref hs), (1, .int (nI k)), (2, .int (bI false))] d_Strata_linkEnd_1 rfl (by decide) rfl ?_
  refine g_iconst (v := nI 0) X d_Strata_linkEnd_2 rfl ?_
  refine g_istore X [(4, .int (nI 0)), (3, .int (nI k)), (0, .ref hs), (1, .int (nI k)), (2, .int (bI false))] d_Strata_linkEnd_3 (by decide) rfl ?_
  refine g_lv [2, 3, 4, 1, 0] rfl ?_
  exact L5 ((K - 0) + 1) 0 k (Nat.lt_succ_self _) (by omega) (rfl)

set_option maxHeartbeats 4000000 in
set_option maxRecDepth 100000 in
theorem k_Strata_chainAbove (hs : Nat) (sn : Nat) (ss : Nat) (su : Nat) (K : Nat) (xn : Nat) (fN : Nat → Int32) (xu : Nat) (fU : Nat → Int64) (i : Nat) (x : Nat) (E : Nat → Nat → Bool) (hi : i < 48) (hx : fN i = nI x) (hx2 : x < 48) (hE : gin E 48) (hac : ∀ z, ¬ gov E z z) (hU : ∀ y, y < 48 → ∀ j, lb (fU y) j = true ↔ gov E y j) : CtI l y_Strata_chainAbove (Cond.code y_Strata_chainAbove c_Strata_chainAbove 5 (some .int) :: TB) ({ frames := 1, cells := 0, slots := 0, locals := 25 } : Room) D (tysv cI cJ cZ cQ) [.ref hs, .int (nI i)] [(hs, .inr (4, [.ref sn, .ref ss, .ref su, .int (nI K)])), (sn, .inr (0, [.ref xn])), (xn, .inl (cI, 48, .inl fN)), (su, .inr (1, [.ref xu])), (xu, .inl (cJ, 48, .inr (.inl fU)))] 0 0 (fun (r : Int32) (z : Nat) => r = nI z ∧ z ≤ 48 ∧ glong E x z) (fun (z : Nat) => [(hs, .inr (4, [.ref sn, .ref ss, .ref su, .int (nI K)])), (sn, .inr (0, [.ref xn])), (xn, .inl (cI, 48, .inl fN)), (su, .inr (1, [.ref xu])), (xu, .inl (cJ, 48, .inr (.inl fU)))]) := by
  refine CtI.of c_Strata_chainAbove 5 (some .int) (by decide) rfl (Nat.le_of_ble_eq_true rfl) ?_
  intro p e s m args below meth c A Q hA9 hQ9 X hr9 hlk9 hin9
  refine g_aload_n X 0 d_Strata_chainAbove_0 rfl rfl ?_
  refine g_get (C := R_Strata) (T := T_Strata) (N := 4) X 0 2 in_Strata rfl rfl (by decide) t1_86 rfl rfl d_Strata_chainAbove_1 ?_
  refine g_lconst (v := 1) X d_Strata_chainAbove_4 rfl ?_
  refine g_aload_n X 0 d_Strata_chainAbove_5 rfl rfl ?_
  refine g_get (C := R_Strata) (T := T_Strata) (N := 4) X 0 0 in_Strata rfl rfl (by decide) t1_84 rfl rfl d_Strata_chainAbove_6 ?_
  refine g_iload_n X 1 d_Strata_chainAbove_9 rfl rfl ?_
  refine g_calliV (n := 1) X [.int (nI i)] (k_Cells_at sn xn 48 fN i (by omega) (by omega)) t2_77 t2_78 t2_79 t1_3 t2_80 rfl rfl (by decide +kernel) ⟨by decide, by decide⟩ [1, 2] [0, 3, 4] [(hs, .inr (4, [.ref sn, .ref ss, .ref su, .int (nI K)])), (su, .inr (1, [.ref xu])), (xu, .inl (cJ, 48, .inr (.inl fU)))] rfl rfl rfl rfl (by decide) 0 rfl rfl rfl rfl (Nat.le_of_ble_eq_true rfl) d_Strata_chainAbove_10 ⟨by decide, by decide⟩ (fun r1 w9u1 hw1 => ?_)
  subst hw1
  rw [hx]
  refine g_lshl X (1 <<< ((nI x).toInt64 &&& 63)) d_Strata_chainAbove_13 rfl ?_
  refine g_calllV (n := 1) X [.long (1 <<< ((nI x).toInt64 &&& 63))] (k_Rows_above su xu 48 fU (1 <<< ((nI x).toInt64 &&& 63)) (by omega)) t3_7 t2_102 t2_103 t1_6 t2_104 rfl rfl (by decide +kernel) ⟨by decide, by decide⟩ [1, 2] [0, 3, 4] [(hs, .inr (4, [.ref sn, .ref ss, .ref su, .int (nI K)])), (sn, .inr (0, [.ref xn])), (xn, .inl (cI, 48, .inl fN))] rfl rfl rfl rfl (by decide) 0 rfl rfl rfl rfl (Nat.le_of_ble_eq_true rfl) d_Strata_chainAbove_14 ⟨by decide, by decide⟩ (fun r2 w9u2 hr0 => ?_)
  refine g_lstore_n X [(2, .long r2), (0, .ref hs), (1, .int (nI i))] d_Strata_chainAbove_17 rfl (by decide) rfl ?_
  have L21 : ∀ (N21 : Nat) (ch : Nat) (w : Int64), (48 - ch) < N21 → (ch ≤ 48) → (∀ z, lb w z = true ↔ ∃ k, ch < k ∧ gw E k z x) → (0 < ch → ∃ z k, ch ≤ k ∧ gw E k z x) → G p l e ({ frames := 1, cells := 0, slots := 0, locals := 25 } : Room) s m args below meth c 5 D A s.heap Q 0 0 [(hs, .inr (4, [.ref sn, .ref ss, .ref su, .int (nI K)])), (sn, .inr (0, [.ref xn])), (xn, .inl (cI, 48, .inl fN)), (su, .inr (1, [.ref xu])), (xu, .inl (cJ, 48, .inr (.inl fU)))] [(0, .ref hs), (1, .int (nI i)), (2, .long w), (4, .int (nI ch))] 21 [] := by
    intro N21
    induction N21 with
    | zero =>
      intro ch w hN
      exact absurd hN (Nat.not_lt_zero _)
    | succ N21 ih21 =>
      intro ch w hN21 hc hw hlo
      refine g_iload X 4 d_Strata_chainAbove_21 rfl ?_
      refine g_bipush (v := nI 48) X d_Strata_chainAbove_23 rfl ?_
      refine n_icmp_ge X 51 d_Strata_chainAbove_25 (by decide) (by omega) (by omega) (fun h25 => ?_) (fun h25 => ?_)
      · refine g_iload X 4 d_Strata_chainAbove_51 rfl ?_
        exact g_iret X hA9 hQ9 hr9 hlk9 ch [0, 1, 2, 3, 4] rfl rfl d_Strata_chainAbove_53 (⟨rfl, by omega, by first | exact ch_end hE hac hw hlo (Or.inl h25) | exact ch_end hE hac hw hlo (Or.inr h31)⟩)
      · refine g_lload_n X 2 d_Strata_chainAbove_28 rfl rfl ?_
        refine g_lconst (v := 0) X d_Strata_chainAbove_29 rfl ?_
        refine g_lcmp X d_Strata_chainAbove_30 ?_
        refine lc_if_eq X 51 d_Strata_chainAbove_31 (by decide) (fun h31 => ?_) (fun h31 => ?_)
        · refine g_iload X 4 d_Strata_chainAbove_51 rfl ?_
          exact g_iret X hA9 hQ9 hr9 hlk9 ch [0, 1, 2, 3, 4] rfl rfl d_Strata_chainAbove_53 (⟨rfl, by omega, by first | exact ch_end hE hac hw hlo (Or.inl h25) | exact ch_end hE hac hw hlo (Or.inr h31)⟩)
        · refine g_lload_n X 2 d_Strata_chainAbove_34 rfl rfl ?_
          refine g_aload_n X 0 d_Strata_chainAbove_35 rfl rfl ?_
          refine g_get (C := R_Strata) (T := T_Strata) (N := 4) X 0 2 in_Strata rfl rfl (by decide) t1_86 rfl rfl d_Strata_chainAbove_36 ?_
          refine g_lload_n X 2 d_Strata_chainAbove_39 rfl rfl ?_
          refine g_calllV (n := 1) X [.long w] (k_Rows_above su xu 48 fU w (by omega)) t3_7 t2_102 t2_103 t1_6 t2_104 rfl rfl (by decide +kernel) ⟨by decide, by decide⟩ [3, 4] [0, 1, 2] [(hs, .inr (4, [.ref sn, .ref ss, .ref su, .int (nI K)])), (sn, .inr (0, [.ref xn])), (xn, .inl (cI, 48, .inl fN))] rfl rfl rfl rfl (by decide) 0 rfl rfl rfl rfl (Nat.le_of_ble_eq_true rfl) d_Strata_chainAbove_40 ⟨by decide, by decide⟩ (fun r3 w9u3 hr1 => ?_)
          refine g_land X (w &&& r3) d_Strata_chainAbove_43 rfl ?_
          refine g_lstore_n X [(2, .long (w &&& r3)), (0, .ref hs), (1, .int (nI i)), (4, .int (nI ch))] d_Strata_chainAbove_44 rfl (by decide) rfl ?_
          refine g_iinc X (nI (ch + 1)) [(4, .int (nI (ch + 1))), (2, .long (w &&& r3)), (0, .ref hs), (1, .int (nI i))] d_Strata_chainAbove_45 (k := 3) rfl (nI_1 ch) (by decide) rfl ?_
          refine g_goto X 21 d_Strata_chainAbove_48 (by decide) ?_
          refine g_lv [2, 3, 1, 0] rfl ?_
          exact ih21 (ch + 1) (w &&& r3) (by omega) (by omega) (ch_step hE hU hw hr1) (ch_low hw h31)
  refine g_iconst (v := nI 0) X d_Strata_chainAbove_18 rfl ?_
  refine g_istore X [(4, .int (nI 0)), (2, .long r2), (0, .ref hs), (1, .int (nI i))] d_Strata_chainAbove_19 (by decide) rfl ?_
  refine g_lv [2, 3, 1, 0] rfl ?_
  exact L21 ((48 - 0) + 1) 0 r2 (Nat.lt_succ_self _) (by omega) (ch_0 hx2 hE hU hr0) (fun h => absurd h (Nat.lt_irrefl 0))

set_option maxHeartbeats 4000000 in
set_option maxRecDepth 100000 in
theorem k_Strata_joinedCount (hs : Nat) (sn : Nat) (ss : Nat) (su : Nat) (K : Nat) (xn : Nat) (fN : Nat → Int32) (hK : K ≤ 48) : CtI l y_Strata_joinedCount (Cond.code y_Strata_joinedCount c_Strata_joinedCount 3 (some .int) :: TB) ({ frames := 1, cells := 0, slots := 0, locals := 21 } : Room) D (tysv cI cJ cZ cQ) [.ref hs] [(hs, .inr (4, [.ref sn, .ref ss, .ref su, .int (nI K)])), (sn, .inr (0, [.ref xn])), (xn, .inl (cI, 48, .inl fN))] 0 0 (fun (r : Int32) (_ : Unit) => r = nI (cnt (fun z => decide (fN z = nI z)) K)) (fun (_ : Unit) => [(hs, .inr (4, [.ref sn, .ref ss, .ref su, .int (nI K)])), (sn, .inr (0, [.ref xn])), (xn, .inl (cI, 48, .inl fN))]) := by
  refine CtI.of c_Strata_joinedCount 3 (some .int) (by decide) rfl (Nat.le_of_ble_eq_true rfl) ?_
  intro p e s m args below meth c A Q hA9 hQ9 X hr9 hlk9 hin9
  have L4 : ∀ (N4 : Nat) (i : Nat) (n : Nat), (K - i) < N4 → (i ≤ K) → (n = cnt (fun z => decide (fN z = nI z)) i) → G p l e ({ frames := 1, cells := 0, slots := 0, locals := 21 } : Room) s m args below meth c 3 D A s.heap Q 0 0 [(hs, .inr (4, [.ref sn, .ref ss, .ref su, .int (nI K)])), (sn, .inr (0, [.ref xn])), (xn, .inl (cI, 48, .inl fN))] [(0, .ref hs), (1, .int (nI n)), (2, .int (nI i))] 4 [] := by
    intro N4
    induction N4 with
    | zero =>
      intro i n hN
      exact absurd hN (Nat.not_lt_zero _)
    | succ N4 ih4 =>
      intro i n hN4 hi h1
      have hle := cnt_le (fun z => decide (fN z = nI z)) i
      refine g_iload_n X 2 d_Strata_joinedCount_4 rfl rfl ?_
      refine g_aload_n X 0 d_Strata_joinedCount_5 rfl rfl ?_
      refine g_get (C := R_Strata) (T := T_Strata) (N := 4) X 0 3 in_Strata rfl rfl (by decide) t1_87 rfl rfl d_Strata_joinedCount_6 ?_
      refine n_icmp_ge X 33 d_Strata_joinedCount_9 (by decide) (by omega) (by omega) (fun h9 => ?_) (fun h9 => ?_)
      · refine g_iload_n X 1 d_Strata_joinedCount_33 rfl rfl ?_
        exact g_iret X hA9 hQ9 hr9 hlk9 () [0, 1, 2] rfl rfl d_Strata_joinedCount_34 (by have e9 : i = K := (by omega); subst e9; rw [h1])
      · refine g_aload_n X 0 d_Strata_joinedCount_12 rfl rfl ?_
        refine g_get (C := R_Strata) (T := T_Strata) (N := 4) X 0 0 in_Strata rfl rfl (by decide) t1_84 rfl rfl d_Strata_joinedCount_13 ?_
        refine g_iload_n X 2 d_Strata_joinedCount_16 rfl rfl ?_
        refine g_calliV (n := 1) X [.int (nI i)] (k_Cells_at sn xn 48 fN i (by omega) (by omega)) t2_77 t2_78 t2_79 t1_3 t2_80 rfl rfl (by decide +kernel) ⟨by decide, by decide⟩ [1, 2] [0] [(hs, .inr (4, [.ref sn, .ref ss, .ref su, .int (nI K)]))] rfl rfl rfl rfl (by decide) 0 rfl rfl rfl rfl (Nat.le_of_ble_eq_true rfl) d_Strata_joinedCount_17 ⟨by decide, by decide⟩ (fun r1 w9u1 hw1 => ?_)
        subst hw1
        refine g_iload_n X 2 d_Strata_joinedCount_20 rfl rfl ?_
        refine g_icmp_ne X 27 d_Strata_joinedCount_21 (by decide) (fun h21 => ?_) (fun h21 => ?_)
        · refine g_iinc X (nI (i + 1)) [(2, .int (nI (i + 1))), (0, .ref hs), (1, .int (nI n))] d_Strata_joinedCount_27 (k := 2) rfl (nI_1 i) (by decide) rfl ?_
          refine g_goto X 4 d_Strata_joinedCount_30 (by decide) ?_
          refine g_lv [1, 2, 0] rfl ?_
          exact ih4 (i + 1) n (by omega) (by omega) (by first | exact cntN_t h21 h1 | exact cntN_f h21 h1)
        · refine g_iinc X (nI (n + 1)) [(1, .int (nI (n + 1))), (0, .ref hs), (2, .int (nI i))] d_Strata_joinedCount_24 (k := 1) rfl (nI_1 n) (by decide) rfl ?_
          refine g_iinc X (nI (i + 1)) [(2, .int (nI (i + 1))), (1, .int (nI (n + 1))), (0, .ref hs)] d_Strata_joinedCount_27 (k := 2) rfl (nI_1 i) (by decide) rfl ?_
          refine g_goto X 4 d_Strata_joinedCount_30 (by decide) ?_
          refine g_lv [2, 1, 0] rfl ?_
          exact ih4 (i + 1) (n + 1) (by omega) (by omega) (by first | exact cntN_t h21 h1 | exact cntN_f h21 h1)
  refine g_iconst (v := nI 0) X d_Strata_joinedCount_0 rfl ?_
  refine g_istore_n X [(1, .int (nI 0)), (0, .ref hs)] d_Strata_joinedCount_1 rfl (by decide) rfl ?_
  refine g_iconst (v := nI 0) X d_Strata_joinedCount_2 rfl ?_
  refine g_istore_n X [(2, .int (nI 0)), (1, .int (nI 0)), (0, .ref hs)] d_Strata_joinedCount_3 rfl (by decide) rfl ?_
  refine g_lv [2, 1, 0] rfl ?_
  exact L4 ((K - 0) + 1) 0 0 (Nat.lt_succ_self _) (by omega) (rfl)

set_option maxHeartbeats 4000000 in
set_option maxRecDepth 100000 in
theorem k_Strata_pairCount (hs : Nat) (sn : Nat) (ss : Nat) (su : Nat) (K : Nat) (xu : Nat) (fU : Nat → Int64) (hK : K ≤ 48) : CtI l y_Strata_pairCount (Cond.code y_Strata_pairCount c_Strata_pairCount 3 (some .int) :: TB) ({ frames := 2, cells := 0, slots := 0, locals := 42 } : Room) D (tysv cI cJ cZ cQ) [.ref hs] [(hs, .inr (4, [.ref sn, .ref ss, .ref su, .int (nI K)])), (su, .inr (1, [.ref xu])), (xu, .inl (cJ, 48, .inr (.inl fU)))] 0 0 (fun (r : Int32) (_ : Unit) => r = nI (lsum (fun z9 => cnt (lb (fU z9)) 64) K)) (fun (_ : Unit) => [(hs, .inr (4, [.ref sn, .ref ss, .ref su, .int (nI K)])), (su, .inr (1, [.ref xu])), (xu, .inl (cJ, 48, .inr (.inl fU)))]) := by
  refine CtI.of c_Strata_pairCount 3 (some .int) (by decide) rfl (Nat.le_of_ble_eq_true rfl) ?_
  intro p e s m args below meth c A Q hA9 hQ9 X hr9 hlk9 hin9
  have L4 : ∀ (N4 : Nat) (i : Nat) (n : Nat), (K - i) < N4 → (i ≤ K) → (n = lsum (fun z9 => cnt (lb (fU z9)) 64) i) → G p l e ({ frames := 2, cells := 0, slots := 0, locals := 42 } : Room) s m args below meth c 3 D A s.heap Q 0 0 [(hs, .inr (4, [.ref sn, .ref ss, .ref su, .int (nI K)])), (su, .inr (1, [.ref xu])), (xu, .inl (cJ, 48, .inr (.inl fU)))] [(0, .ref hs), (1, .int (nI n)), (2, .int (nI i))] 4 [] := by
    intro N4
    induction N4 with
    | zero =>
      intro i n hN
      exact absurd hN (Nat.not_lt_zero _)
    | succ N4 ih4 =>
      intro i n hN4 hi h1
      refine g_iload_n X 2 d_Strata_pairCount_4 rfl rfl ?_
      refine g_aload_n X 0 d_Strata_pairCount_5 rfl rfl ?_
      refine g_get (C := R_Strata) (T := T_Strata) (N := 4) X 0 3 in_Strata rfl rfl (by decide) t1_87 rfl rfl d_Strata_pairCount_6 ?_
      refine n_icmp_ge X 32 d_Strata_pairCount_9 (by decide) (by omega) (by omega) (fun h9 => ?_) (fun h9 => ?_)
      · refine g_iload_n X 1 d_Strata_pairCount_32 rfl rfl ?_
        exact g_iret X hA9 hQ9 hr9 hlk9 () [0, 1, 2] rfl rfl d_Strata_pairCount_33 (by have e9 : i = K := (by omega); subst e9; rw [h1])
      · refine g_iload_n X 1 d_Strata_pairCount_12 rfl rfl ?_
        refine g_aload_n X 0 d_Strata_pairCount_13 rfl rfl ?_
        refine g_get (C := R_Strata) (T := T_Strata) (N := 4) X 0 2 in_Strata rfl rfl (by decide) t1_86 rfl rfl d_Strata_pairCount_14 ?_
        refine g_iload_n X 2 d_Strata_pairCount_17 rfl rfl ?_
        refine g_calllV (n := 1) X [.int (nI i)] (k_Rows_row su xu 48 fU i (by omega) (by omega)) t1_173 t1_174 t1_175 t1_6 t1_176 rfl rfl (by decide +kernel) ⟨by decide, by decide⟩ [1, 2] [0] [(hs, .inr (4, [.ref sn, .ref ss, .ref su, .int (nI K)]))] rfl rfl rfl rfl (by decide) 0 rfl rfl rfl rfl (Nat.le_of_ble_eq_true rfl) d_Strata_pairCount_18 ⟨by decide, by decide⟩ (fun r1 w9u1 hw1 => ?_)
        subst hw1
        refine g_calliS (n := 1) X [.long (fU i)] (k_Long_bitCount (fU i) ) t1_186 t1_187 t1_15 t1_188 rfl rfl (by decide +kernel) ⟨by decide, by decide⟩ [] [0, 1, 2] [(hs, .inr (4, [.ref sn, .ref ss, .ref su, .int (nI K)])), (su, .inr (1, [.ref xu])), (xu, .inl (cJ, 48, .inr (.inl fU)))] rfl rfl rfl rfl (by decide) rfl rfl (Nat.le_of_ble_eq_true rfl) d_Strata_pairCount_21 ⟨by decide, by decide⟩ (fun r2 w9u2 hw2 => ?_)
        subst hw2
        refine g_iadd X (nI (n + cnt (lb (fU i)) 64)) d_Strata_pairCount_24 (nI_add n (cnt (lb (fU i)) 64)) ?_
        refine g_istore_n X [(1, .int (nI (n + cnt (lb (fU i)) 64))), (0, .ref hs), (2, .int (nI i))] d_Strata_pairCount_25 rfl (by decide) rfl ?_
        refine g_iinc X (nI (i + 1)) [(2, .int (nI (i + 1))), (1, .int (nI (n + cnt (lb (fU i)) 64))), (0, .ref hs)] d_Strata_pairCount_26 (k := 2) rfl (nI_1 i) (by decide) rfl ?_
        refine g_goto X 4 d_Strata_pairCount_29 (by decide) ?_
        refine g_lv [2, 1, 0] rfl ?_
        exact ih4 (i + 1) (n + cnt (lb (fU i)) 64) (by omega) (by omega) (by rw [h1]; rfl)
  refine g_iconst (v := nI 0) X d_Strata_pairCount_0 rfl ?_
  refine g_istore_n X [(1, .int (nI 0)), (0, .ref hs)] d_Strata_pairCount_1 rfl (by decide) rfl ?_
  refine g_iconst (v := nI 0) X d_Strata_pairCount_2 rfl ?_
  refine g_istore_n X [(2, .int (nI 0)), (1, .int (nI 0)), (0, .ref hs)] d_Strata_pairCount_3 rfl (by decide) rfl ?_
  refine g_lv [2, 1, 0] rfl ?_
  exact L4 ((K - 0) + 1) 0 0 (Nat.lt_succ_self _) (by omega) (rfl)
