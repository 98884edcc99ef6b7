theorem got_pick {pre pre' tl wp wt : va_W} {isP isT isR : List Nat} (N : Nat) (hN : pre.length = N) (hN' : pre'.length = N) (h1 : isP.map (fun i => pre'[i]?) = wp.map some) (h2 : isR.map (fun i => pre'[i]?) = isR.map (fun i => pre[i]?)) (h4 : ∀ k, k < N → k ∈ isP ∨ k ∈ isR) (h5 : ∀ i ∈ isR, i ∉ isP) (h6 : ∀ i ∈ isP, i < N) (ht : isT.map (fun i => (List.append pre tl)[i]?) = wt.map some) : Got (List.append pre tl) (List.append pre' tl) (isP ++ isT) (wp ++ wt) := by
  have hlen : isP.length = wp.length := by
    have := congrArg List.length h1
    simpa using this
  intro k q hq
  rcases got_of (tl := tl) N hN hN' h1 h2 h4 h5 h6 k q hq with ⟨j, h, h'⟩ | ⟨hn, hw⟩
  · have hj : j < isP.length := by
      rcases Nat.lt_or_ge j isP.length with z | z
      · exact z
      · rw [List.getElem?_eq_none z] at h; cases h
    exact Or.inl ⟨j, by rw [List.getElem?_append_left hj]; exact h, by rw [List.getElem?_append_left (by omega)]; exact h'⟩
  · by_cases c : k ∈ isT
    · obtain ⟨j, hj⟩ := List.getElem?_of_mem c
      have h9 : (isT.map (fun i => (List.append pre tl)[i]?))[j]? = some ((List.append pre tl)[k]?) := by rw [List.getElem?_map, hj]; rfl
      rw [ht, List.getElem?_map, hw] at h9
      cases hv : wt[j]? with
      | none => rw [hv] at h9; cases h9
      | some q2 =>
        rw [hv] at h9
        have e9 : q2 = q := Option.some.inj (Option.some.inj h9)
        exact Or.inl ⟨isP.length + j, by rw [List.getElem?_append_right (by omega), Nat.add_sub_cancel_left]; exact hj, by rw [hlen, List.getElem?_append_right (by omega), Nat.add_sub_cancel_left, hv, e9]⟩
    · exact Or.inr ⟨fun z => (List.mem_append.mp z).elim hn c, hw⟩
section LR2
variable {p : Program} {l : Launch} {e : Env} {R : Room} {s : State} {m : MethodId} {args : Array Value} {below : List Frame} {meth : Method} {c : Code} {cells slots : Nat} {Q : State → Prop}
variable {own : String} {cc : ByteArray} {nL : Nat} {D : va_G} {tys : List (ClassId × FieldType)} {A : Nat → Prop} {H0 : Heap}
variable {ws : va_W} {lv lv' : List (Nat × Value)} {pc : Nat} {rest st : List Value}
variable {y : MethodName} {bytes : ByteArray} {maxL mc ms n index : Nat} {ret : Option FieldType} {rm : Room} {C : String} {b : Nat} {As av : List Value} {wc : va_W} {S : Type} {hh : List (Nat × Nat × Nat × Nat)}
theorem g_cTH (X : Cx p s m args c own cc nL D tys A s.heap) (hx : l.stackTraces = false ∧ XZ A s) {post : Int32 → S → Prop} {w1 : S → va_W} (As : List Value) (hM : CtH l y (Cond.codeWith y bytes maxL ret hh :: TB) rm D tys As wc mc ms post w1) (h1 : Cond.methodLink own index y ∈ TB) (h2 : Cond.static y ∈ TB) (h4 : Cond.initialized y.cls ∈ TB) (h5 : Cond.codeWith y bytes maxL ret hh ∈ TB) (hrc : rm.cells = mc) (hrs : rm.slots = ms) (hd : y.cls ≠ "java/lang/invoke/MethodHandle" ∧ y.cls ≠ "java/lang/invoke/VarHandle" ∧ (parseMethodDescriptor y.desc).map (fun d => d.parameters.length) = some n) (hR : rm.frames + 1 ≤ R.frames ∧ 8 + (maxL + 11) + rm.locals ≤ R.locals) (isC : List Nat) {pre tl : va_W} (isP isT isR : List Nat) (hPT : isC = isP ++ isT) (N9 : Nat) (hN : pre.length = N9) (g4 : ∀ k, k < N9 → k ∈ isP ∨ k ∈ isR) (g5 : ∀ i ∈ isR, i ∉ isP) (g6 : ∀ i ∈ isP, i < N9) (hC : isC.map (fun i => (List.append pre tl)[i]?) = wc.map some) (hnC : va_nd isC = true) (hadr : ∀ u, (w1 u).map (fun q => q.1) = wc.map (fun q => q.1)) (wp : S → va_W) (wt : va_W) (hw1 : ∀ u, w1 u = wp u ++ wt) (hpt : isT.map (fun i => (List.append pre tl)[i]?) = wt.map some) (pre' : S → va_W) (hN' : ∀ u, (pre' u).length = N9) (g1 : ∀ u, isP.map (fun i => (pre' u)[i]?) = (wp u).map some) (g2 : ∀ u, isR.map (fun i => (pre' u)[i]?) = isR.map (fun i => pre[i]?)) (hlen : As.length = n) (hstk : st = As.reverse ++ rest) (hroom : (rest.map fun v => v.category).sum ≤ 8) (hdg : decode cc pc = .ok (.invokestatic index, 3)) (hf : cells + mc ≤ R.cells ∧ slots + ms ≤ R.slots)
    (kk : ∀ (r : Int32) (u : S), post r u → G p l e R s m args below meth c nL D A s.heap Q (cells + mc) (slots + ms) (List.append (pre' u) tl) lv (pc + 3) (.int r :: rest)) : G p l e R s m args below meth c nL D A s.heap Q cells slots (List.append pre tl) lv pc st := by
  intro H locs ls hP hD hS hl
  have hPc : va_P D cls9 wc H := hP.sub isC (by rw [← filterMap_of_map _ _ hC, List.filterMap_map]; rfl)
  have hDc : va_D A wc := hD.sub isC hnC hC
  have hFc := va_free (wc := wc) hD hS X.2.2.2.2.2.2 isC hC
  refine va_calli (vx_runSW (hh := hh) (bytes := bytes) (maxL := maxL) (ret := ret) (As := As) (rest := rest) ⟨X.1, X.2.1, X.2.2.1, X.2.2.2.1, X.2.2.2.2.1⟩ (hM hx.1 H.size) ⟨⟨hrc, hrs, hR.1, hR.2, pay_in X.2.2.2.2.1 (goodTB h5), List.mem_cons_self⟩, X.2.2.2.2.1 _ h5, X.2.2.2.2.1 _ h4, ⟨hd.1, hd.2.1⟩, fun sig h => (by have h2 := hd.2.2; rw [h] at h2; exact (Option.some.inj h2).symm), X.2.2.2.2.1 _ h1, X.2.2.2.2.1 _ h2⟩ ⟨PreX.blind _, fun U hU hW => ⟨rfl, ⟨by rw [hU], by rw [hU]; exact hPc, KK.warm hW X.2.2.2.2.2.1, hDc.weaken (fun _ _ _ _ => trivial)⟩, XZ.into hx.2 hS hU hW hFc⟩⟩ rfl hlen hl.1 hstk (lv_room hroom) hdg hf) hS (fun q _ h => hFc q h) hFc (fun r u t H1 locs1 ht hvm hw hB hz1 hk1 hS1 => ?_)
  obtain ⟨hP1, hK1, hD1⟩ := hB
  rw [ht] at hP1
  obtain ⟨hP2, hD2⟩ := va_joinM (wa := w1 u) (wn := []) hP hD isC hC hk1 hFc (by rw [List.append_nil]; exact hP1) (by rw [List.append_nil]; exact hD1) (hadr u) (by rw [hPT, hw1 u]; exact got_pick (tl := tl) N9 hN (hN' u) (g1 u) (g2 u) g4 g5 g6 hpt)
  rw [List.append_nil] at hP2 hD2
  exact kk r u hw H1 locs1 ls hP2 hD2 hS1 hl
end LR2
