def R_law : String := "RelationOrderLaw"
def lw_P (b : Addr) (xs : List Int32) (args : Array Value) (s : State) : Prop := args = #[.ref b] ∧ s.IntsAt b xs ∧ xs.length ≤ 2048 ∧ (Jvm.Cond.and given_1 narrow_1).before args s = true
def lw_Q (_ : Array Value) (s : State) (o : Outcome) (t : State) : Prop := o = .returned (some (.int 1)) ∧ Framed s o t [] 601024 7293034
def lw_Z (below : List Frame) (a : Array Value) (s : State) : State → Prop := fun t => ∃ o, t.status = .running ∧ Ended t below o ∧ lw_Q a s o t
/-- the law's own end, with 1 on the stack, nothing written that was there before, its room as the claim has it -/
theorem lw_ret {p : Program} {l : Launch} {e : Env} {s : State} {m : MethodId} {below : List Frame} {meth : Method} {c : Code} {b : Nat} (hx : p.tables.exec = Jvm.exec) (hb : c.code = code) (hr : meth.sig.returnType = ret) (hlocks : meth.locks = false) {pc : Nat} {H : Heap} {ls : Array Slot} (hdg : decode code pc = .ok (.ireturn, 1)) : W p l e room_1 s m #[Value.ref b] below meth c H [] 601024 7293034 (lw_Z below #[Value.ref b] s) (F0 m pc ls [.int 1]) := by
  intro T hT X
  obtain ⟨fs, hret, hrun, hended, hW, hframe⟩ := X.leave (v := some (.int 1)) (hlocks := hlocks) (fun h => by rw [hr] at h; cases h)
  have hmeth' : T.vm.method? m = some meth := X.method'
  refine ⟨T.setFrames fs, ?_, .returned (some (.int 1)), hrun, hended, rfl, ⟨_, rfl⟩, hW, hframe⟩
  jvm_step X.here [X.here.top, hx, hb, hdg, hmeth', hr, ret, narrow_b1]
  (try refine ⟨rfl, ?_⟩); (try refine ⟨rfl, ?_⟩)
  first | (intro acts; rw [hret _ acts rfl rfl rfl]) | rw [hret _ _ rfl rfl rfl]
  exact Steps.refl _
/-- what holds at the law's entry: the machine, the code, the tables' words (any of lw_tbl by 'hts w (by decide +kernel)'), the script of L ints xs at the cell b, what the Statement gives of the start (any of its parts by flat_of_before) -/
def lw_At (p : Program) (s : State) (m : MethodId) (meth : Method) (c : Code) (b L : Nat) (xs : Nat → Int32) : Prop :=
  p.tables.exec = Jvm.exec ∧ c.code = code ∧ meth.sig.returnType = ret ∧ c.maxLocals = 7 ∧ s.vm.findClass R_law = some m.cls ∧ (∀ w ∈ lw_tbl, w.before #[Value.ref b] s = true) ∧ va_X b L xs s s.heap ∧ b < s.heap.size ∧ meth.locks = false ∧ (Jvm.Cond.and given_1 narrow_1).before #[Value.ref b] s = true
variable {p : Program} {l : Launch} {e : Env} {s : State} {m : MethodId} {args : Array Value} {below : List Frame} {meth : Method} {c : Code} {D : va_G} {cI cJ cZ cQ : ClassId} {A : Nat → Prop} {Q : State → Prop}
theorem lw_sub4 {L i : Nat} (hL : L ≤ 2048) (hi : i ≤ 4096) : nI L - nI 4 < nI i ↔ L < i + 4 := by
  have h1 : (nI L - nI 4).toInt = (L : Int) - 4 := by
    rw [Int32.toInt_sub, nI_toInt (by omega), nI_toInt (by decide)]
    exact Int.bmod_eq_of_le (by omega) (by omega)
  rw [Int32.lt_iff_toInt_lt, h1, nI_toInt (by omega)]
  omega
theorem lw_bad {x : Int32} (h : badI 17 x) : x.toInt < 0 ∨ 16 < x.toInt := by
  rcases h with h | h
  · exact Or.inl (Int32.lt_iff_toInt_lt.mp h)
  · have h2 := Int32.le_iff_toInt_le.mp h
    rw [nI_toInt (by decide)] at h2
    exact Or.inr (by omega)
set_option maxHeartbeats 4000000 in
set_option maxRecDepth 100000 in
theorem law_loop (X : Cx p s m args c R_Lw code 7 D (tysv cI cJ cZ cQ) A s.heap) (hx : l.stackTraces = false ∧ XZ A s) {bq L : Nat} {sc : Nat → Int32} {a : Nat → Nat} (hX : va_X bq L sc s s.heap) (hbl : bq < s.heap.size) (hbA : ¬ A bq) (hL : L ≤ 2048)
    (kend : ∀ (ca sa : Nat) (ws : va_W) (lv : List (Nat × Value)), ca ≤ 601024 → sa ≤ 7293034 → G p l e room_1 s m args below meth c 7 D A s.heap Q ca sa ws lv 1116 []) :
    ∀ (n i ca sa : Nat), L < i + 4 * n + 4 → i + 4 * n ≤ 4096 → ca + 8 * n ≤ 601024 → sa + 160 * n ≤ 7293034 → ∀ (fo : Nat → Int64) (tw : Int32) (K : Nat) (R : Nat) (Fa : Nat → Nat) (Fb : Nat → Nat) (Fk : Nat → Nat) (UN : Nat → Bool) (M : Nat → Nat) (AB : Nat → Bool) (OV : Nat → Bool) (FF : Nat → Nat) (d : Nat) (FR : Nat → Nat) (gm : Nat) (hm : Nat → Nat) (GO : Nat → Bool) (d2 : Nat) (FG : Nat → Nat) (vv : Nat) (FC : Nat → Nat) (FN : Nat → Nat) (OO : Nat → Bool) (sd : Nat) (fA : Nat → Int32) (fB : Nat → Int32) (fK : Nat → Int32) (fN : Nat → Int32) (fS : Nat → Int64) (fU : Nat → Int64) (P : Nat → Int32) (Y : Nat → Int64) (fH : Nat → Int32) (fL : Nat → Int64) (P2 : Nat → Int32) (Y2 : Nat → Int64) (fV : Nat → Option Nat) (va : Nat → Nat → Nat) (vN : Nat → Nat → Int32) (vA : Nat → Nat → Int64) (vB : Nat → Nat → Int64), Inv K R gm vv d d2 sd Fa Fb Fk UN M AB OV FR hm FG FC FN OO fA fB fK fN fS fU P fH P2 fV va vN vA vB → G p l e room_1 s m args below meth c 7 D A s.heap Q ca sa (List.append ([((a 0), .inl (cJ, 1, .inr (.inl fo))), ((a 1), .inr (8, [.int tw, .int (nI K), .int (nI R), .ref (a 2), .ref (a 3), .ref (a 4), .ref (a 5), .ref (a 6), .ref (a 7), .ref (a 8), .ref (a 9), .int (nI d), .ref (a 10), .int (nI gm), .ref (a 11), .ref (a 12), .int (nI d2), .ref (a 13), .int (nI vv), .ref (a 14), .ref (a 15), .ref (a 16)])), ((a 2), .inl (cI, 200, .inl (nf Fa))), ((a 3), .inl (cI, 200, .inl (nf Fb))), ((a 4), .inl (cI, 200, .inl (nf Fk))), ((a 5), .inl (cZ, 200, .inl (zf UN))), ((a 6), .inl (cI, 48, .inl (nf M))), ((a 7), .inl (cZ, 2304, .inl (zf AB))), ((a 8), .inl (cZ, 2304, .inl (zf OV))), ((a 9), .inl (cI, 48, .inl (nf FF))), ((a 10), .inl (cI, 48, .inl (nf FR))), ((a 11), .inl (cI, 48, .inl (hf hm))), ((a 12), .inl (cZ, 144, .inl (zf GO))), ((a 13), .inl (cI, 12, .inl (nf FG))), ((a 14), .inl (cI, 8, .inl (nf FC))), ((a 15), .inl (cI, 384, .inl (nf FN))), ((a 16), .inl (cZ, 18432, .inl (zf OO))), ((a 17), .inr (7, [.ref (a 18), .ref (a 25), .ref (a 32), .ref (a 36), .ref (a 45), .int (nI vv)])), ((a 18), .inr (2, [.ref (a 19), .ref (a 21), .ref (a 23), .int (nI R), .int (nI sd)])), ((a 19), .inr (0, [.ref (a 20)])), ((a 20), .inl (cI, 200, .inl fA)), ((a 21), .inr (0, [.ref (a 22)])), ((a 22), .inl (cI, 200, .inl fB)), ((a 23), .inr (0, [.ref (a 24)])), ((a 24), .inl (cI, 200, .inl fK)), ((a 25), .inr (4, [.ref (a 26), .ref (a 28), .ref (a 30), .int (nI K)])), ((a 26), .inr (0, [.ref (a 27)])), ((a 27), .inl (cI, 48, .inl fN)), ((a 28), .inr (1, [.ref (a 29)])), ((a 29), .inl (cJ, 48, .inr (.inl fS))), ((a 30), .inr (1, [.ref (a 31)])), ((a 31), .inl (cJ, 48, .inr (.inl fU))), ((a 32), .inr (3, [.ref (a 33), .ref (a 35), .int (nI d)])), ((a 33), .inr (0, [.ref (a 34)])), ((a 34), .inl (cI, 48, .inl P)), ((a 35), .inl (cJ, 48, .inr (.inl Y))), ((a 36), .inr (5, [.ref (a 37), .ref (a 39), .ref (a 41), .int (nI gm)])), ((a 37), .inr (0, [.ref (a 38)])), ((a 38), .inl (cI, 48, .inl fH)), ((a 39), .inr (1, [.ref (a 40)])), ((a 40), .inl (cJ, 12, .inr (.inl fL))), ((a 41), .inr (3, [.ref (a 42), .ref (a 44), .int (nI d2)])), ((a 42), .inr (0, [.ref (a 43)])), ((a 43), .inl (cI, 48, .inl P2)), ((a 44), .inl (cJ, 48, .inr (.inl Y2))), ((a 45), .inl (cQ, 8, .inr (.inr (.inr (.inr fV)))))] : va_W) (vtl cI cJ va vN vA vB vv)) [(0, .ref bq), (1, .ref (a 17)), (2, .ref (a 1)), (3, .ref (a 0)), (4, .int (nI i))] 23 [] := by
  intro n
  induction n with
  | zero =>
    intro i ca sa h1 h2 h3 h4 fo tw K R Fa Fb Fk UN M AB OV FF d FR gm hm GO d2 FG vv FC FN OO sd fA fB fK fN fS fU P Y fH fL P2 Y2 fV va vN vA vB hI
    refine g_iload X 4 d_Lw_law_23 rfl ?_
    refine g_aload_n X 0 d_Lw_law_25 rfl rfl ?_
    refine g_slen X hX hbl hbA d_Lw_law_26 ?_
    refine g_iconst X (v := nI 4) d_Lw_law_27 (by decide) ?_
    refine g_isub X (nI L - nI 4) d_Lw_law_28 rfl ?_
    refine g_icmp_gt X 1116 d_Lw_law_29 (by decide) (fun q9 => kend _ _ _ _ (by omega) (by omega)) (fun q9 => ?_)
    exact absurd ((lw_sub4 hL (by omega)).mpr (by omega)) q9
  | succ n ih =>
    intro i ca sa h1 h2 h3 h4 fo tw K R Fa Fb Fk UN M AB OV FF d FR gm hm GO d2 FG vv FC FN OO sd fA fB fK fN fS fU P Y fH fL P2 Y2 fV va vN vA vB hI
    refine g_iload X 4 d_Lw_law_23 rfl ?_
    refine g_aload_n X 0 d_Lw_law_25 rfl rfl ?_
    refine g_slen X hX hbl hbA d_Lw_law_26 ?_
    refine g_iconst X (v := nI 4) d_Lw_law_27 (by decide) ?_
    refine g_isub X (nI L - nI 4) d_Lw_law_28 rfl ?_
    refine g_icmp_gt X 1116 d_Lw_law_29 (by decide) (fun q9 => kend _ _ _ _ (by omega) (by omega)) (fun q9 => ?_)
    have hi4 : i + 4 ≤ L := by
      have h9 := mt (lw_sub4 hL (by omega)).mpr q9
      omega
    have hnx : Nxt p l e s m args below meth c D cI cJ cZ cQ A Q bq i (ca + 8) (sa + 160) a := by
      intro fo tw K R Fa Fb Fk UN M AB OV FF d FR gm hm GO d2 FG vv FC FN OO sd fA fB fK fN fS fU P Y fH fL P2 Y2 fV va vN vA vB hI
      refine g_iinc X (nI (i + 4)) [(4, .int (nI (i + 4))), (0, .ref bq), (1, .ref (a 17)), (2, .ref (a 1)), (3, .ref (a 0))] d_Lw_law_1110 (k := 4) rfl (nI_add i 4) (by decide) rfl ?_
      refine g_goto X 23 d_Lw_law_1113 (by decide) ?_
      refine g_lv [1, 2, 3, 4, 0] rfl ?_
      exact ih (i + 4) (ca + 8) (sa + 160) (by omega) (by omega) (by omega) (by omega) fo tw K R Fa Fb Fk UN M AB OV FF d FR gm hm GO d2 FG vv FC FN OO sd fA fB fK fN fS fU P Y fH fL P2 Y2 fV va vN vA vB hI
    refine g_aload_n X 0 d_Lw_law_32 rfl rfl ?_
    refine g_iload X 4 d_Lw_law_33 rfl ?_
    refine g_sld X hX hbl hbA (by omega) (by omega) d_Lw_law_35 ?_
    refine g_bipush X (v := nI 31) d_Lw_law_36 (by decide) ?_
    refine g_iand X (sc i &&& nI 31) d_Lw_law_38 rfl ?_
    rcases int_cases 17 (by decide) (sc i &&& nI 31) with ⟨k9, hk9, ek9⟩ | hb9
    · refine g_topE ek9 ?_
      match k9, hk9 with
      | 0, _ =>
        refine g_tswIn X 120 d_Lw_law_39 (by decide) (by decide) (by decide) rfl (by decide) ?_
        exact case_context X hx hX hbl hbA hL hi4 (by omega) (by omega) hnx fo tw K R Fa Fb Fk UN M AB OV FF d FR gm hm GO d2 FG vv FC FN OO sd fA fB fK fN fS fU P Y fH fL P2 Y2 fV va vN vA vB hI
      | 1, _ =>
        refine g_tswIn X 164 d_Lw_law_39 (by decide) (by decide) (by decide) rfl (by decide) ?_
        exact case_relate X hx hX hbl hbA hL hi4 (by omega) (by omega) hnx fo tw K R Fa Fb Fk UN M AB OV FF d FR gm hm GO d2 FG vv FC FN OO sd fA fB fK fN fS fU P Y fH fL P2 Y2 fV va vN vA vB hI
      | 2, _ =>
        refine g_tswIn X 244 d_Lw_law_39 (by decide) (by decide) (by decide) rfl (by decide) ?_
        exact case_ring X hx hX hbl hbA hL hi4 (by omega) (by omega) hnx fo tw K R Fa Fb Fk UN M AB OV FF d FR gm hm GO d2 FG vv FC FN OO sd fA fB fK fN fS fU P Y fH fL P2 Y2 fV va vN vA vB hI
      | 3, _ =>
        refine g_tswIn X 300 d_Lw_law_39 (by decide) (by decide) (by decide) rfl (by decide) ?_
        exact case_undo X hx hX hbl hbA hL hi4 (by omega) (by omega) hnx fo tw K R Fa Fb Fk UN M AB OV FF d FR gm hm GO d2 FG vv FC FN OO sd fA fB fK fN fS fU P Y fH fL P2 Y2 fV va vN vA vB hI
      | 4, _ =>
        refine g_tswIn X 363 d_Lw_law_39 (by decide) (by decide) (by decide) rfl (by decide) ?_
        exact case_order X hx hX hbl hbA hL hi4 (by omega) (by omega) hnx fo tw K R Fa Fb Fk UN M AB OV FF d FR gm hm GO d2 FG vv FC FN OO sd fA fB fK fN fS fU P Y fH fL P2 Y2 fV va vN vA vB hI
      | 5, _ =>
        refine g_tswIn X 431 d_Lw_law_39 (by decide) (by decide) (by decide) rfl (by decide) ?_
        exact case_links X hx hX hbl hbA hL hi4 (by omega) (by omega) hnx fo tw K R Fa Fb Fk UN M AB OV FF d FR gm hm GO d2 FG vv FC FN OO sd fA fB fK fN fS fU P Y fH fL P2 Y2 fV va vN vA vB hI
      | 6, _ =>
        refine g_tswIn X 444 d_Lw_law_39 (by decide) (by decide) (by decide) rfl (by decide) ?_
        exact case_link X hx hX hbl hbA hL hi4 (by omega) (by omega) hnx fo tw K R Fa Fb Fk UN M AB OV FF d FR gm hm GO d2 FG vv FC FN OO sd fA fB fK fN fS fU P Y fH fL P2 Y2 fV va vN vA vB hI
      | 7, _ =>
        refine g_tswIn X 512 d_Lw_law_39 (by decide) (by decide) (by decide) rfl (by decide) ?_
        exact case_equal X hx hX hbl hbA hL hi4 (by omega) (by omega) hnx fo tw K R Fa Fb Fk UN M AB OV FF d FR gm hm GO d2 FG vv FC FN OO sd fA fB fK fN fS fU P Y fH fL P2 Y2 fV va vN vA vB hI
      | 8, _ =>
        refine g_tswIn X 568 d_Lw_law_39 (by decide) (by decide) (by decide) rfl (by decide) ?_
        exact case_contemporary X hx hX hbl hbA hL hi4 (by omega) (by omega) hnx fo tw K R Fa Fb Fk UN M AB OV FF d FR gm hm GO d2 FG vv FC FN OO sd fA fB fK fN fS fU P Y fH fL P2 Y2 fV va vN vA vB hI
      | 9, _ =>
        refine g_tswIn X 643 d_Lw_law_39 (by decide) (by decide) (by decide) rfl (by decide) ?_
        exact case_longest X hx hX hbl hbA hL hi4 (by omega) (by omega) hnx fo tw K R Fa Fb Fk UN M AB OV FF d FR gm hm GO d2 FG vv FC FN OO sd fA fB fK fN fS fU P Y fH fL P2 Y2 fV va vN vA vB hI
      | 10, _ =>
        refine g_tswIn X 699 d_Lw_law_39 (by decide) (by decide) (by decide) rfl (by decide) ?_
        exact case_group X hx hX hbl hbA hL hi4 (by omega) (by omega) hnx fo tw K R Fa Fb Fk UN M AB OV FF d FR gm hm GO d2 FG vv FC FN OO sd fA fB fK fN fS fU P Y fH fL P2 Y2 fV va vN vA vB hI
      | 11, _ =>
        refine g_tswIn X 743 d_Lw_law_39 (by decide) (by decide) (by decide) rfl (by decide) ?_
        exact case_into X hx hX hbl hbA hL hi4 (by omega) (by omega) hnx fo tw K R Fa Fb Fk UN M AB OV FF d FR gm hm GO d2 FG vv FC FN OO sd fA fB fK fN fS fU P Y fH fL P2 Y2 fV va vN vA vB hI
      | 12, _ =>
        refine g_tswIn X 818 d_Lw_law_39 (by decide) (by decide) (by decide) rfl (by decide) ?_
        exact case_groupRing X hx hX hbl hbA hL hi4 (by omega) (by omega) hnx fo tw K R Fa Fb Fk UN M AB OV FF d FR gm hm GO d2 FG vv FC FN OO sd fA fB fK fN fS fU P Y fH fL P2 Y2 fV va vN vA vB hI
      | 13, _ =>
        refine g_tswIn X 874 d_Lw_law_39 (by decide) (by decide) (by decide) rfl (by decide) ?_
        exact case_groupOf X hx hX hbl hbA hL hi4 (by omega) (by omega) hnx fo tw K R Fa Fb Fk UN M AB OV FF d FR gm hm GO d2 FG vv FC FN OO sd fA fB fK fN fS fU P Y fH fL P2 Y2 fV va vN vA vB hI
      | 14, _ =>
        refine g_tswIn X 930 d_Lw_law_39 (by decide) (by decide) (by decide) rfl (by decide) ?_
        exact case_version X hx hX hbl hbA hL hi4 (by omega) (by omega) hnx fo tw K R Fa Fb Fk UN M AB OV FF d FR gm hm GO d2 FG vv FC FN OO sd fA fB fK fN fS fU P Y fH fL P2 Y2 fV va vN vA vB hI
      | 15, _ =>
        refine g_tswIn X 974 d_Lw_law_39 (by decide) (by decide) (by decide) rfl (by decide) ?_
        exact case_differs X hx hX hbl hbA hL hi4 (by omega) (by omega) hnx fo tw K R Fa Fb Fk UN M AB OV FF d FR gm hm GO d2 FG vv FC FN OO sd fA fB fK fN fS fU P Y fH fL P2 Y2 fV va vN vA vB hI
      | 16, _ =>
        refine g_tswIn X 1054 d_Lw_law_39 (by decide) (by decide) (by decide) rfl (by decide) ?_
        exact case_count X hx hX hbl hbA hL hi4 (by omega) (by omega) hnx fo tw K R Fa Fb Fk UN M AB OV FF d FR gm hm GO d2 FG vv FC FN OO sd fA fB fK fN fS fU P Y fH fL P2 Y2 fV va vN vA vB hI
      | k9 + 17, h9 => exact absurd h9 (by omega)
    · refine g_tswOut X 1110 d_Lw_law_39 (lw_bad hb9) (by decide) ?_
      refine g_widen (k := ca + 8) (n := sa + 160) (by omega) (by omega) ?_
      exact hnx fo tw K R Fa Fb Fk UN M AB OV FF d FR gm hm GO d2 FG vv FC FN OO sd fA fB fK fN fS fU P Y fH fL P2 Y2 fV va vN vA vB hI
