/-! calls that keep the world's order: what came back stands where it stood -/
def Got (ws ws' : va_W) (is : List Nat) (wa : va_W) : Prop := ∀ (k : Nat) (q : Nat × va_E), ws'[k]? = some q → (∃ j : Nat, is[j]? = some k ∧ wa[j]? = some q) ∨ (k ∉ is ∧ ws[k]? = some q)
theorem got_of {pre pre' tl wa : va_W} {isC isR : List Nat} (N : Nat) (hN : pre.length = N) (hN' : pre'.length = N) (h1 : isC.map (fun i => pre'[i]?) = wa.map some) (h2 : isR.map (fun i => pre'[i]?) = isR.map (fun i => pre[i]?)) (h4 : ∀ k, k < N → k ∈ isC ∨ k ∈ isR) (h5 : ∀ i ∈ isR, i ∉ isC) (h6 : ∀ i ∈ isC, i < N) : Got (List.append pre tl) (List.append pre' tl) isC wa := by
  intro k q hq
  have hq' : (pre' ++ tl)[k]? = some q := hq
  show _ ∨ (k ∉ isC ∧ (pre ++ tl)[k]? = some q)
  rcases Nat.lt_or_ge k N with z | z
  · rw [List.getElem?_append_left (by omega)] at hq' ⊢
    rcases h4 k z with c | c
    · obtain ⟨j, hj⟩ := List.getElem?_of_mem c
      have h9 : (isC.map (fun i => pre'[i]?))[j]? = some (pre'[k]?) := by rw [List.getElem?_map, hj]; rfl
      rw [h1, List.getElem?_map, hq'] at h9
      cases hw : wa[j]? with
      | none => rw [hw] at h9; cases h9
      | some q2 =>
        rw [hw] at h9
        have e9 : q2 = q := Option.some.inj (Option.some.inj h9)
        exact Or.inl ⟨j, hj, by rw [hw, e9]⟩
    · obtain ⟨j, hj⟩ := List.getElem?_of_mem c
      have h9 : (isR.map (fun i => pre'[i]?))[j]? = some (pre'[k]?) := by rw [List.getElem?_map, hj]; rfl
      have h8 : (isR.map (fun i => pre[i]?))[j]? = some (pre[k]?) := by rw [List.getElem?_map, hj]; rfl
      rw [h2, h8] at h9
      exact Or.inr ⟨h5 k c, (Option.some.inj h9).trans hq'⟩
  · rw [List.getElem?_append_right (by omega), hN'] at hq'
    refine Or.inr ⟨fun c => by have := h6 k c; omega, ?_⟩
    rw [List.getElem?_append_right (by omega), hN]
    exact hq'
theorem got_same {ws wc : va_W} {isC : List Nat} (hC : isC.map (fun i => ws[i]?) = wc.map some) : Got ws ws isC wc := by
  intro k q hq
  by_cases c : k ∈ isC
  · obtain ⟨j, hj⟩ := List.getElem?_of_mem c
    have h9 : (isC.map (fun i => ws[i]?))[j]? = some (ws[k]?) := by rw [List.getElem?_map, hj]; rfl
    rw [hC, List.getElem?_map, hq] at h9
    cases hw : wc[j]? with
    | none => rw [hw] at h9; cases h9
    | some q2 =>
      rw [hw] at h9
      have e9 : q2 = q := Option.some.inj (Option.some.inj h9)
      exact Or.inl ⟨j, hj, by rw [hw, e9]⟩
  · exact Or.inr ⟨c, hq⟩
theorem va_joinM {A0 : Nat → Prop} {D : va_G} {cl : List vw_C} {ws ws' wc wa wn : va_W} {H H1 : Heap} (hP : va_P D cl ws H) (hD : va_D A0 ws) (isC : List Nat) (hC : isC.map (fun i => ws[i]?) = wc.map some)
    (hk : ∀ q : Nat, q < H.size → ¬ va_A wc H.size q → H1[q]? = H[q]?) (hF : ∀ q, va_A wc H.size q → A0 q) (hP1 : va_P D cl (wa ++ wn) H1) (hD1 : va_D (va_A wc H.size) (wa ++ wn)) (hadr : wa.map (fun q => q.1) = wc.map (fun q => q.1)) (hget : Got ws ws' isC wa) : va_P D cl (ws' ++ wn) H1 ∧ va_D A0 (ws' ++ wn) := by
  have hlen : wa.length = wc.length := by
    have := congrArg List.length hadr
    simpa using this
  have hlen2 : isC.length = wc.length := by
    have := congrArg List.length hC
    simpa using this
  have atC : ∀ (j k : Nat), isC[j]? = some k → ∃ q, wc[j]? = some q ∧ ws[k]? = some q := by
    intro j k hj
    have h1 : (isC.map (fun i => ws[i]?))[j]? = some (ws[k]?) := by rw [List.getElem?_map, hj]; rfl
    rw [hC, List.getElem?_map] at h1
    cases hw : wc[j]? with
    | none => rw [hw] at h1; cases h1
    | some q => rw [hw] at h1; exact ⟨q, rfl, (Option.some.inj h1).symm⟩
  have adr : ∀ (j : Nat) (q q' : Nat × va_E), wa[j]? = some q → wc[j]? = some q' → q.1 = q'.1 := by
    intro j q q' h1 h2
    have h3 : (wa.map (fun q => q.1))[j]? = some q.1 := by rw [List.getElem?_map, h1]; rfl
    have h4 : (wc.map (fun q => q.1))[j]? = some q'.1 := by rw [List.getElem?_map, h2]; rfl
    rw [hadr, h4] at h3
    exact (Option.some.inj h3).symm
  have cas : ∀ (k : Nat) (q : Nat × va_E), ws'[k]? = some q → ∃ q', ws[k]? = some q' ∧ q'.1 = q.1 ∧ ((∃ j : Nat, wa[j]? = some q) ∨ (q' = q ∧ q.1 < H.size ∧ ¬ va_A wc H.size q.1)) := by
    intro k q h
    rcases hget k q h with ⟨j, h1, h2⟩ | ⟨h1, h2⟩
    · obtain ⟨q', h3, h4⟩ := atC j k h1
      exact ⟨q', h4, (adr j q q' h2 h3).symm, Or.inl ⟨j, h2⟩⟩
    · have hl := (hP k q h2).lt
      refine ⟨q, h2, rfl, Or.inr ⟨rfl, hl, fun z => ?_⟩⟩
      rcases z with ⟨k2, e, z⟩ | z
      · have hk2 : k2 < isC.length := by
          rcases Nat.lt_or_ge k2 isC.length with y | y
          · exact y
          · rw [List.getElem?_eq_none (by omega)] at z; cases z
        obtain ⟨q2, h3, h4⟩ := atC k2 (isC[k2]) (List.getElem?_eq_getElem hk2)
        rw [z] at h3
        cases h3
        have := hD.1 k (isC[k2]) q (q.1, e) h2 h4 rfl
        exact h1 (by rw [this]; exact List.getElem_mem hk2)
      · omega
  refine ⟨va_P.app (fun k q hq => ?_) (fun k q hq => hP1 (wa.length + k) q (by rw [List.getElem?_append_right (by omega), Nat.add_sub_cancel_left]; exact hq)), va_D.app ⟨fun i j x y hx hy hxy => ?_, fun k q hq => ?_⟩ ⟨fun i j x y hx hy hxy => ?_, fun k q hq => ?_⟩ (fun i j x y hx hy hxy => ?_)⟩
  · obtain ⟨q', h1, h2, ⟨j, h3⟩ | ⟨h3, h4, h5⟩⟩ := cas k q hq
    · have hj : j < wa.length := by
        rcases Nat.lt_or_ge j wa.length with y | y
        · exact y
        · rw [List.getElem?_eq_none y] at h3; cases h3
      exact hP1 j q (by rw [List.getElem?_append_left hj]; exact h3)
    · subst h3
      exact (hP k q' h1).kept (hk _ h4 h5)
  · obtain ⟨x', h1, h2, -⟩ := cas i x hx
    obtain ⟨y', h3, h4, -⟩ := cas j y hy
    exact hD.1 i j x' y' h1 h3 (by rw [h2, h4]; exact hxy)
  · obtain ⟨q', h1, h2, -⟩ := cas k q hq
    rw [← h2]
    exact hD.2 k q' h1
  · have := hD1.1 (wa.length + i) (wa.length + j) x y (by rw [List.getElem?_append_right (by omega), Nat.add_sub_cancel_left]; exact hx) (by rw [List.getElem?_append_right (by omega), Nat.add_sub_cancel_left]; exact hy) hxy
    omega
  · exact hF _ (hD1.2 (wa.length + k) q (by rw [List.getElem?_append_right (by omega), Nat.add_sub_cancel_left]; exact hq))
  · have hw : (wa ++ wn)[wa.length + j]? = some y := by rw [List.getElem?_append_right (by omega), Nat.add_sub_cancel_left]; exact hy
    obtain ⟨x', h1, h2, ⟨j2, h3⟩ | ⟨h3, h4, h5⟩⟩ := cas i x hx
    · have hj : j2 < wa.length := by
        rcases Nat.lt_or_ge j2 wa.length with z | z
        · exact z
        · rw [List.getElem?_eq_none z] at h3; cases h3
      have := hD1.1 j2 (wa.length + j) x y (by rw [List.getElem?_append_left hj]; exact h3) hw hxy
      omega
    · rw [hxy] at h5
      exact h5 (hD1.2 _ y hw)
section LR
variable {p : Program} {l : Launch} {e : Env} {R : Room} {s : State} {m : MethodId} {args : Array Value} {below : List Frame} {meth : Method} {c : Code} {cells slots : Nat} {Q : State → Prop}
variable {own : String} {cc : ByteArray} {nL : Nat} {D : va_G} {tys : List (ClassId × FieldType)} {A : Nat → Prop} {H0 : Heap}
variable {ws : va_W} {lv lv' : List (Nat × Value)} {pc : Nat} {rest st : List Value}
variable {y : MethodName} {bytes : ByteArray} {maxL mc ms n index : Nat} {ret : Option FieldType} {rm : Room} {C : String} {b : Nat} {As av : List Value} {wc : va_W} {S : Type} {hh : List (Nat × Nat × Nat × Nat)}
theorem g_cMV (X : Cx p s m args c own cc nL D tys A H0) {post : Int32 → S → Prop} {w1 : S → va_W} (As : List Value) (hM : CtI l y (Cond.code y bytes maxL ret :: TB) rm D tys (.ref b :: As) wc mc ms post w1) (h1 : Cond.methodLink own index y ∈ TB) (h2 : Cond.instanceMethod y ∈ TB) (h3 : Cond.selects C y y ∈ TB) (h4 : Cond.initialized y.cls ∈ TB) (h5 : Cond.code y bytes maxL ret ∈ TB) (hrc : rm.cells = mc) (hrs : rm.slots = ms) (hd : y.cls ≠ "java/lang/invoke/MethodHandle" ∧ y.cls ≠ "java/lang/invoke/VarHandle" ∧ (parseMethodDescriptor y.desc).map (fun d => d.parameters.length) = some n) (hR : rm.frames + 1 ≤ R.frames ∧ 8 + (maxL + 11) + rm.locals ≤ R.locals) (isC : List Nat) {pre tl : va_W} (isR : List Nat) (N9 : Nat) (hN : pre.length = N9) (g4 : ∀ k, k < N9 → k ∈ isC ∨ k ∈ isR) (g5 : ∀ i ∈ isR, i ∉ isC) (g6 : ∀ i ∈ isC, i < N9) (hC : isC.map (fun i => (List.append pre tl)[i]?) = wc.map some) (hnC : va_nd isC = true) (hadr : ∀ u, (w1 u).map (fun q => q.1) = wc.map (fun q => q.1)) (pre' : S → va_W) (hN' : ∀ u, (pre' u).length = N9) (g1 : ∀ u, isC.map (fun i => (pre' u)[i]?) = (w1 u).map some) (g2 : ∀ u, isR.map (fun i => (pre' u)[i]?) = isR.map (fun i => pre[i]?)) (q0 : Nat) {ci : Nat} {fs : List Value} {T : u_T} {N : Nat} (he : wc[q0]? = some (b, .inr (ci, fs))) (hc : cls9[ci]? = some (C, T, N)) (hlen : As.length = n) (hstk : st = As.reverse ++ .ref b :: rest) (hroom : (rest.map fun v => v.category).sum ≤ 8) (hdg : decode cc pc = .ok (.invokevirtual index, 3)) (hf : cells + mc ≤ R.cells ∧ slots + ms ≤ R.slots)
    (kk : ∀ (r : Int32) (u : S), post r u → G p l e R s m args below meth c nL D A H0 Q (cells + mc) (slots + ms) (List.append (pre' u) tl) lv (pc + 3) (.int r :: rest)) : G p l e R s m args below meth c nL D A H0 Q cells slots (List.append pre tl) lv pc st := by
  intro H locs ls hP hD hS hl
  have hPc : va_P D cls9 wc H := hP.sub isC (by rw [← filterMap_of_map _ _ hC, List.filterMap_map]; rfl)
  have hDc : va_D A wc := hD.sub isC hnC hC
  have hFc := va_free (wc := wc) hD hS X.2.2.2.2.2.2 isC hC
  refine va_calli (va_runV (C := C) (As := As) (b := b) (rest := rest) ⟨X.1, X.2.1, X.2.2.1, X.2.2.2.1, X.2.2.2.2.1⟩ (hM H.size) ⟨callB_of n X.2.2.2.2.1 (goodTB h5) rfl hrc hrs (X.2.2.2.2.1 _ h4) (X.2.2.2.2.1 _ h1) hd hR, X.2.2.2.2.1 _ h2, X.2.2.2.2.1 _ h3⟩ ⟨Pre.blind _, va_recv X.2.2.2.2.2.1.1 hPc hc he, fun U hU hW => ⟨rfl, by rw [hU], by rw [hU]; exact hPc, KK.warm hW X.2.2.2.2.2.1, hDc.weaken (fun _ _ _ _ => trivial)⟩⟩ rfl hlen hl.1 hstk (lv_room hroom) hdg hf) hS (fun q _ h => hFc q h) hFc (fun r u t H1 locs1 ht hvm hw hB hz1 hk1 hS1 => ?_)
  obtain ⟨hP1, hK1, hD1⟩ := hB
  rw [ht] at hP1
  obtain ⟨hP2, hD2⟩ := va_joinM (wa := w1 u) (wn := []) hP hD isC hC hk1 hFc (by rw [List.append_nil]; exact hP1) (by rw [List.append_nil]; exact hD1) (hadr u) (got_of (tl := tl) N9 hN (hN' u) (g1 u) (g2 u) g4 g5 g6)
  rw [List.append_nil] at hP2 hD2
  exact kk r u hw H1 locs1 ls hP2 hD2 hS1 hl
theorem g_cMH (X : Cx p s m args c own cc nL D tys A s.heap) (hx : l.stackTraces = false ∧ XZ A s) {post : Int32 → S → Prop} {w1 : S → va_W} (As : List Value) (hM : CtH l y (Cond.codeWith y bytes maxL ret hh :: TB) rm D tys As wc mc ms post w1) (h1 : Cond.methodLink own index y ∈ TB) (h2 : Cond.static y ∈ TB) (h4 : Cond.initialized y.cls ∈ TB) (h5 : Cond.codeWith y bytes maxL ret hh ∈ TB) (hrc : rm.cells = mc) (hrs : rm.slots = ms) (hd : y.cls ≠ "java/lang/invoke/MethodHandle" ∧ y.cls ≠ "java/lang/invoke/VarHandle" ∧ (parseMethodDescriptor y.desc).map (fun d => d.parameters.length) = some n) (hR : rm.frames + 1 ≤ R.frames ∧ 8 + (maxL + 11) + rm.locals ≤ R.locals) (isC : List Nat) {pre tl : va_W} (isR : List Nat) (N9 : Nat) (hN : pre.length = N9) (g4 : ∀ k, k < N9 → k ∈ isC ∨ k ∈ isR) (g5 : ∀ i ∈ isR, i ∉ isC) (g6 : ∀ i ∈ isC, i < N9) (hC : isC.map (fun i => (List.append pre tl)[i]?) = wc.map some) (hnC : va_nd isC = true) (hadr : ∀ u, (w1 u).map (fun q => q.1) = wc.map (fun q => q.1)) (pre' : S → va_W) (hN' : ∀ u, (pre' u).length = N9) (g1 : ∀ u, isC.map (fun i => (pre' u)[i]?) = (w1 u).map some) (g2 : ∀ u, isR.map (fun i => (pre' u)[i]?) = isR.map (fun i => pre[i]?)) (hlen : As.length = n) (hstk : st = As.reverse ++ rest) (hroom : (rest.map fun v => v.category).sum ≤ 8) (hdg : decode cc pc = .ok (.invokestatic index, 3)) (hf : cells + mc ≤ R.cells ∧ slots + ms ≤ R.slots)
    (kk : ∀ (r : Int32) (u : S), post r u → G p l e R s m args below meth c nL D A s.heap Q (cells + mc) (slots + ms) (List.append (pre' u) tl) lv (pc + 3) (.int r :: rest)) : G p l e R s m args below meth c nL D A s.heap Q cells slots (List.append pre tl) lv pc st := by
  intro H locs ls hP hD hS hl
  have hPc : va_P D cls9 wc H := hP.sub isC (by rw [← filterMap_of_map _ _ hC, List.filterMap_map]; rfl)
  have hDc : va_D A wc := hD.sub isC hnC hC
  have hFc := va_free (wc := wc) hD hS X.2.2.2.2.2.2 isC hC
  refine va_calli (vx_runSW (hh := hh) (bytes := bytes) (maxL := maxL) (ret := ret) (As := As) (rest := rest) ⟨X.1, X.2.1, X.2.2.1, X.2.2.2.1, X.2.2.2.2.1⟩ (hM hx.1 H.size) ⟨⟨hrc, hrs, hR.1, hR.2, pay_in X.2.2.2.2.1 (goodTB h5), List.mem_cons_self⟩, X.2.2.2.2.1 _ h5, X.2.2.2.2.1 _ h4, ⟨hd.1, hd.2.1⟩, fun sig h => (by have h2 := hd.2.2; rw [h] at h2; exact (Option.some.inj h2).symm), X.2.2.2.2.1 _ h1, X.2.2.2.2.1 _ h2⟩ ⟨PreX.blind _, fun U hU hW => ⟨rfl, ⟨by rw [hU], by rw [hU]; exact hPc, KK.warm hW X.2.2.2.2.2.1, hDc.weaken (fun _ _ _ _ => trivial)⟩, XZ.into hx.2 hS hU hW hFc⟩⟩ rfl hlen hl.1 hstk (lv_room hroom) hdg hf) hS (fun q _ h => hFc q h) hFc (fun r u t H1 locs1 ht hvm hw hB hz1 hk1 hS1 => ?_)
  obtain ⟨hP1, hK1, hD1⟩ := hB
  rw [ht] at hP1
  obtain ⟨hP2, hD2⟩ := va_joinM (wa := w1 u) (wn := []) hP hD isC hC hk1 hFc (by rw [List.append_nil]; exact hP1) (by rw [List.append_nil]; exact hD1) (hadr u) (got_of (tl := tl) N9 hN (hN' u) (g1 u) (g2 u) g4 g5 g6)
  rw [List.append_nil] at hP2 hD2
  exact kk r u hw H1 locs1 ls hP2 hD2 hS1 hl
theorem g_cMHN (X : Cx p s m args c own cc nL D tys A s.heap) (hx : l.stackTraces = false ∧ XZ A s) {post : Int32 → S → Prop} {w1 : S → va_W} (As : List Value) (hM : CtH l y (Cond.codeWith y bytes maxL ret hh :: TB) rm D tys As wc mc ms post w1) (h1 : Cond.methodLink own index y ∈ TB) (h2 : Cond.static y ∈ TB) (h4 : Cond.initialized y.cls ∈ TB) (h5 : Cond.codeWith y bytes maxL ret hh ∈ TB) (hrc : rm.cells = mc) (hrs : rm.slots = ms) (hd : y.cls ≠ "java/lang/invoke/MethodHandle" ∧ y.cls ≠ "java/lang/invoke/VarHandle" ∧ (parseMethodDescriptor y.desc).map (fun d => d.parameters.length) = some n) (hR : rm.frames + 1 ≤ R.frames ∧ 8 + (maxL + 11) + rm.locals ≤ R.locals) (isC : List Nat) {pre tl : va_W} (isR : List Nat) (N9 : Nat) (hN : pre.length = N9) (g4 : ∀ k, k < N9 → k ∈ isC ∨ k ∈ isR) (g5 : ∀ i ∈ isR, i ∉ isC) (g6 : ∀ i ∈ isC, i < N9) (hC : isC.map (fun i => (List.append pre tl)[i]?) = wc.map some) (hnC : va_nd isC = true) (wa wn : S → va_W) (hw1 : ∀ u, w1 u = wa u ++ wn u) (hadr : ∀ u, (wa u).map (fun q => q.1) = wc.map (fun q => q.1)) (pre' : S → va_W) (hN' : ∀ u, (pre' u).length = N9) (g1 : ∀ u, isC.map (fun i => (pre' u)[i]?) = (wa u).map some) (g2 : ∀ u, isR.map (fun i => (pre' u)[i]?) = isR.map (fun i => pre[i]?)) (ws' : S → va_W) (hset : ∀ u, List.append (List.append (pre' u) tl) (wn u) = ws' u) (hlen : As.length = n) (hstk : st = As.reverse ++ rest) (hroom : (rest.map fun v => v.category).sum ≤ 8) (hdg : decode cc pc = .ok (.invokestatic index, 3)) (hf : cells + mc ≤ R.cells ∧ slots + ms ≤ R.slots)
    (kk : ∀ (r : Int32) (u : S), post r u → G p l e R s m args below meth c nL D A s.heap Q (cells + mc) (slots + ms) (ws' u) lv (pc + 3) (.int r :: rest)) : G p l e R s m args below meth c nL D A s.heap Q cells slots (List.append pre tl) lv pc st := by
  intro H locs ls hP hD hS hl
  have hPc : va_P D cls9 wc H := hP.sub isC (by rw [← filterMap_of_map _ _ hC, List.filterMap_map]; rfl)
  have hDc : va_D A wc := hD.sub isC hnC hC
  have hFc := va_free (wc := wc) hD hS X.2.2.2.2.2.2 isC hC
  refine va_calli (vx_runSW (hh := hh) (bytes := bytes) (maxL := maxL) (ret := ret) (As := As) (rest := rest) ⟨X.1, X.2.1, X.2.2.1, X.2.2.2.1, X.2.2.2.2.1⟩ (hM hx.1 H.size) ⟨⟨hrc, hrs, hR.1, hR.2, pay_in X.2.2.2.2.1 (goodTB h5), List.mem_cons_self⟩, X.2.2.2.2.1 _ h5, X.2.2.2.2.1 _ h4, ⟨hd.1, hd.2.1⟩, fun sig h => (by have h2 := hd.2.2; rw [h] at h2; exact (Option.some.inj h2).symm), X.2.2.2.2.1 _ h1, X.2.2.2.2.1 _ h2⟩ ⟨PreX.blind _, fun U hU hW => ⟨rfl, ⟨by rw [hU], by rw [hU]; exact hPc, KK.warm hW X.2.2.2.2.2.1, hDc.weaken (fun _ _ _ _ => trivial)⟩, XZ.into hx.2 hS hU hW hFc⟩⟩ rfl hlen hl.1 hstk (lv_room hroom) hdg hf) hS (fun q _ h => hFc q h) hFc (fun r u t H1 locs1 ht hvm hw hB hz1 hk1 hS1 => ?_)
  obtain ⟨hP1, hK1, hD1⟩ := hB
  rw [ht] at hP1
  rw [hw1] at hP1 hD1
  obtain ⟨hP2, hD2⟩ := va_joinM (wa := wa u) (wn := wn u) hP hD isC hC hk1 hFc hP1 hD1 (hadr u) (got_of (tl := tl) N9 hN (hN' u) (g1 u) (g2 u) g4 g5 g6)
  have hset9 : List.append (pre' u) tl ++ wn u = ws' u := hset u
  rw [hset9] at hP2 hD2
  exact kk r u hw H1 locs1 ls hP2 hD2 hS1 hl
theorem g_cKH (X : Cx p s m args c own cc nL D tys A s.heap) (hx : l.stackTraces = false ∧ XZ A s) {post : Int32 → S → Prop} {w1 : S → va_W} (As : List Value) (hM : CtH l y (Cond.codeWith y bytes maxL ret hh :: TB) rm D tys As wc mc ms post w1) (h1 : Cond.methodLink own index y ∈ TB) (h2 : Cond.static y ∈ TB) (h4 : Cond.initialized y.cls ∈ TB) (h5 : Cond.codeWith y bytes maxL ret hh ∈ TB) (hrc : rm.cells = mc) (hrs : rm.slots = ms) (hd : y.cls ≠ "java/lang/invoke/MethodHandle" ∧ y.cls ≠ "java/lang/invoke/VarHandle" ∧ (parseMethodDescriptor y.desc).map (fun d => d.parameters.length) = some n) (hR : rm.frames + 1 ≤ R.frames ∧ 8 + (maxL + 11) + rm.locals ≤ R.locals) (isC : List Nat) (hC : isC.map (fun i => ws[i]?) = wc.map some) (hnC : va_nd isC = true) (hw1 : ∀ u, w1 u = wc) (hlen : As.length = n) (hstk : st = As.reverse ++ rest) (hroom : (rest.map fun v => v.category).sum ≤ 8) (hdg : decode cc pc = .ok (.invokestatic index, 3)) (hf : cells + mc ≤ R.cells ∧ slots + ms ≤ R.slots)
    (kk : ∀ (r : Int32) (u : S), post r u → G p l e R s m args below meth c nL D A s.heap Q (cells + mc) (slots + ms) ws lv (pc + 3) (.int r :: rest)) : G p l e R s m args below meth c nL D A s.heap Q cells slots ws lv pc st := by
  intro H locs ls hP hD hS hl
  have hPc : va_P D cls9 wc H := hP.sub isC (by rw [← filterMap_of_map _ _ hC, List.filterMap_map]; rfl)
  have hDc : va_D A wc := hD.sub isC hnC hC
  have hFc := va_free (wc := wc) hD hS X.2.2.2.2.2.2 isC hC
  refine va_calli (vx_runSW (hh := hh) (bytes := bytes) (maxL := maxL) (ret := ret) (As := As) (rest := rest) ⟨X.1, X.2.1, X.2.2.1, X.2.2.2.1, X.2.2.2.2.1⟩ (hM hx.1 H.size) ⟨⟨hrc, hrs, hR.1, hR.2, pay_in X.2.2.2.2.1 (goodTB h5), List.mem_cons_self⟩, X.2.2.2.2.1 _ h5, X.2.2.2.2.1 _ h4, ⟨hd.1, hd.2.1⟩, fun sig h => (by have h2 := hd.2.2; rw [h] at h2; exact (Option.some.inj h2).symm), X.2.2.2.2.1 _ h1, X.2.2.2.2.1 _ h2⟩ ⟨PreX.blind _, fun U hU hW => ⟨rfl, ⟨by rw [hU], by rw [hU]; exact hPc, KK.warm hW X.2.2.2.2.2.1, hDc.weaken (fun _ _ _ _ => trivial)⟩, XZ.into hx.2 hS hU hW hFc⟩⟩ rfl hlen hl.1 hstk (lv_room hroom) hdg hf) hS (fun q _ h => hFc q h) hFc (fun r u t H1 locs1 ht hvm hw hB hz1 hk1 hS1 => ?_)
  obtain ⟨hP1, hK1, hD1⟩ := hB
  rw [ht] at hP1
  obtain ⟨hP2, hD2⟩ := va_joinM (wa := wc) (wn := []) hP hD isC hC hk1 hFc (by rw [List.append_nil]; rw [hw1 u] at hP1; exact hP1) (by rw [List.append_nil]; rw [hw1 u] at hD1; exact hD1) rfl (got_same hC)
  rw [List.append_nil] at hP2 hD2
  exact kk r u hw H1 locs1 ls hP2 hD2 hS1 hl
theorem g_sld (X : Cx p s m args c own cc nL D tys A s.heap) {b L j : Nat} {sc : Nat → Int32} (hX : va_X b L sc s s.heap) (hbl : b < s.heap.size) (hbA : ¬ A b) (hj : j < L) (hL : L < 2 ^ 31) (hdg : decode cc pc = .ok (.iaload, 1)) (kk : G p l e R s m args below meth c nL D A s.heap Q cells slots ws lv (pc + 1) (.int (sc j) :: rest)) : G p l e R s m args below meth c nL D A s.heap Q cells slots ws lv pc (.int (nI j) :: .ref b :: rest) := by
  intro H locs ls hP hD hS hl
  refine va_sld X.1 X.2.1 hX hbl hbA hS (vp_in_nI hj hL) hdg ?_
  rw [nI_clamp (by omega)]
  exact kk H locs ls hP hD hS hl
theorem g_slen (X : Cx p s m args c own cc nL D tys A s.heap) {b L : Nat} {sc : Nat → Int32} (hX : va_X b L sc s s.heap) (hbl : b < s.heap.size) (hbA : ¬ A b) (hdg : decode cc pc = .ok (.arraylength, 1)) (kk : G p l e R s m args below meth c nL D A s.heap Q cells slots ws lv (pc + 1) (.int (nI L) :: rest)) : G p l e R s m args below meth c nL D A s.heap Q cells slots ws lv pc (.ref b :: rest) := fun H locs ls hP hD hS hl => va_slen X.1 X.2.1 hX hbl hbA hS hdg (kk H locs ls hP hD hS hl)
theorem g_wse {ws' : va_W} (e9 : ws = ws') (kk : G p l e R s m args below meth c nL D A H0 Q cells slots ws' lv pc st) : G p l e R s m args below meth c nL D A H0 Q cells slots ws lv pc st := by
  rw [e9]
  exact kk
end LR
