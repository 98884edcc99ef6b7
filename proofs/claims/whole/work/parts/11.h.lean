/-! contracts in terms of worlds alone; their beginning, their end, their use -/
section GC
variable {p : Program} {l : Launch} {e : Env} {R : Room} {s : State} {m : MethodId} {args : Array Value} {below : List Frame} {meth : Method} {c : Code} {cells slots : Nat} {Q : State → Prop}
variable {own : String} {cc : ByteArray} {nL : Nat} {D : va_G} {tys : List (ClassId × FieldType)} {A : Nat → Prop} {H0 : Heap}
variable {ws ws' : va_W} {lv lv' : List (Nat × Value)} {pc : Nat} {rest st : List Value}
variable {y : MethodName} {bytes : ByteArray} {maxL mc ms n index : Nat} {ret : Option FieldType} {wy : List Cond} {rm : Room} {C : String} {b : Nat} {As av : List Value} {wc wr : va_W} {S : Type}
def Pre (D : va_G) (tys : List (ClassId × FieldType)) (wc : va_W) (sz : Nat) (U : State) : Prop := U.heap.size = sz ∧ va_P D cls9 wc U.heap ∧ KK D tys U ∧ va_D (fun _ => True) wc
def Pos {S : Type} (D : va_G) (tys : List (ClassId × FieldType)) (wc : va_W) (sz : Nat) (w1 : S → va_W) (u : S) (t : State) : Prop := va_P D cls9 (w1 u) t.heap ∧ KK D tys t ∧ va_D (va_A wc sz) (w1 u)
def CtI {S : Type} (l : Launch) (y : MethodName) (wy : List Cond) (rm : Room) (D : va_G) (tys : List (ClassId × FieldType)) (av : List Value) (wc : va_W) (mc ms : Nat) (post : Int32 → S → Prop) (w1 : S → va_W) : Prop :=
  ∀ sz : Nat, Met l y wy rm (va_Pc av (Pre D tys wc sz)) (va_Qi post (Pos D tys wc sz w1) (va_A wc sz)) mc ms (va_A wc sz)
def CtL {S : Type} (l : Launch) (y : MethodName) (wy : List Cond) (rm : Room) (D : va_G) (tys : List (ClassId × FieldType)) (av : List Value) (wc : va_W) (mc ms : Nat) (post : Int64 → S → Prop) (w1 : S → va_W) : Prop :=
  ∀ sz : Nat, Met l y wy rm (va_Pc av (Pre D tys wc sz)) (va_Ql post (Pos D tys wc sz w1) (va_A wc sz)) mc ms (va_A wc sz)
def CtV {S : Type} (l : Launch) (y : MethodName) (wy : List Cond) (rm : Room) (D : va_G) (tys : List (ClassId × FieldType)) (av : List Value) (wc : va_W) (mc ms : Nat) (post : S → Prop) (w1 : S → va_W) : Prop :=
  ∀ sz : Nat, Met l y wy rm (va_Pc av (Pre D tys wc sz)) (va_Qv post (Pos D tys wc sz w1) (va_A wc sz)) mc ms (va_A wc sz)
def CtQ {S : Type} (l : Launch) (y : MethodName) (wy : List Cond) (rm : Room) (D : va_G) (tys : List (ClassId × FieldType)) (av : List Value) (wc : va_W) (mc ms : Nat) (post : Option Nat → S → Prop) (w1 : S → va_W) : Prop :=
  ∀ sz : Nat, Met l y wy rm (va_Pc av (Pre D tys wc sz)) (va_Qq post (Pos D tys wc sz w1) (va_A wc sz)) mc ms (va_A wc sz)
theorem Pre.blind (sz : Nat) : FrameBlind (va_Pc av (Pre D tys wc sz)) := fun a U g mk q => by
  obtain ⟨q0, q1, qP, qK, qD⟩ := q
  exact ⟨q0, q1, qP, KK.same rfl qK, qD⟩
theorem CtI.of {post : Int32 → S → Prop} {w1 : S → va_W} (cc : ByteArray) (maxL : Nat) (ret : Option FieldType) (hy : plainName y.cls = true) (hw : wy = Cond.code y cc maxL ret :: TB) (hlen : (lg_sl av).length ≤ maxL)
    (body : ∀ (p : Program) (e : Env) (s : State) (m : MethodId) (args : Array Value) (below : List Frame) (meth : Method) (c : Code) (A : Nat → Prop) (Q : State → Prop), A = va_A wc s.heap.size → Q = MQ below (va_Qi post (Pos D tys wc s.heap.size w1) (va_A wc s.heap.size)) args s mc ms (va_A wc s.heap.size) → Cx p s m args c y.cls cc maxL D tys A s.heap → meth.sig.returnType = ret → meth.locks = false → meth.name = y.name →
      G p l e rm s m args below meth c maxL D A s.heap Q 0 0 wc (lv_args 0 av) 0 []) : CtI l y wy rm D tys av wc mc ms post w1 := by
  intro sz
  refine Met.ofW (cc := cc) (maxL := maxL) (ret := ret) hy hw ?_
  intro p e s m args below meth c s₁ B hml hv
  obtain ⟨rfl, hsz, hP, hK, hD0⟩ := hv
  have hts0 := atoms_spec (ws := wy) B.pre
  have hts : ∀ w ∈ TB, w.before av.toArray s = true := fun w h => hts0 w (by rw [hw]; exact List.mem_cons_of_mem _ h)
  have hown : s.vm.findClass y.cls = some m.cls := findClass_of_methodNamed B.named
  subst hsz
  have hD := hD0.self (sz := s.heap.size)
  have hA : ∀ q : Nat, s.heap.size ≤ q → va_A wc s.heap.size q := fun q h => Or.inr h
  have hl := lv_entry av (n := maxL) hlen
  rw [lg_entry_eq]
  exact body p e s m _ below meth c _ _ rfl rfl ⟨B.exec, B.bytes, hml, hown, hts, hK, hA⟩ B.returns B.notSynchronized (name_of_methodNamed B.named B.method).1 s.heap [] _ hP hD va_S.rf hl
theorem CtL.of {post : Int64 → S → Prop} {w1 : S → va_W} (cc : ByteArray) (maxL : Nat) (ret : Option FieldType) (hy : plainName y.cls = true) (hw : wy = Cond.code y cc maxL ret :: TB) (hlen : (lg_sl av).length ≤ maxL)
    (body : ∀ (p : Program) (e : Env) (s : State) (m : MethodId) (args : Array Value) (below : List Frame) (meth : Method) (c : Code) (A : Nat → Prop) (Q : State → Prop), A = va_A wc s.heap.size → Q = MQ below (va_Ql post (Pos D tys wc s.heap.size w1) (va_A wc s.heap.size)) args s mc ms (va_A wc s.heap.size) → Cx p s m args c y.cls cc maxL D tys A s.heap → meth.sig.returnType = ret → meth.locks = false → meth.name = y.name →
      G p l e rm s m args below meth c maxL D A s.heap Q 0 0 wc (lv_args 0 av) 0 []) : CtL l y wy rm D tys av wc mc ms post w1 := by
  intro sz
  refine Met.ofW (cc := cc) (maxL := maxL) (ret := ret) hy hw ?_
  intro p e s m args below meth c s₁ B hml hv
  obtain ⟨rfl, hsz, hP, hK, hD0⟩ := hv
  have hts0 := atoms_spec (ws := wy) B.pre
  have hts : ∀ w ∈ TB, w.before av.toArray s = true := fun w h => hts0 w (by rw [hw]; exact List.mem_cons_of_mem _ h)
  have hown : s.vm.findClass y.cls = some m.cls := findClass_of_methodNamed B.named
  subst hsz
  have hD := hD0.self (sz := s.heap.size)
  have hA : ∀ q : Nat, s.heap.size ≤ q → va_A wc s.heap.size q := fun q h => Or.inr h
  have hl := lv_entry av (n := maxL) hlen
  rw [lg_entry_eq]
  exact body p e s m _ below meth c _ _ rfl rfl ⟨B.exec, B.bytes, hml, hown, hts, hK, hA⟩ B.returns B.notSynchronized (name_of_methodNamed B.named B.method).1 s.heap [] _ hP hD va_S.rf hl
theorem CtV.of {post : S → Prop} {w1 : S → va_W} (cc : ByteArray) (maxL : Nat) (ret : Option FieldType) (hy : plainName y.cls = true) (hw : wy = Cond.code y cc maxL ret :: TB) (hlen : (lg_sl av).length ≤ maxL)
    (body : ∀ (p : Program) (e : Env) (s : State) (m : MethodId) (args : Array Value) (below : List Frame) (meth : Method) (c : Code) (A : Nat → Prop) (Q : State → Prop), A = va_A wc s.heap.size → Q = MQ below (va_Qv post (Pos D tys wc s.heap.size w1) (va_A wc s.heap.size)) args s mc ms (va_A wc s.heap.size) → Cx p s m args c y.cls cc maxL D tys A s.heap → meth.sig.returnType = ret → meth.locks = false → meth.name = y.name →
      G p l e rm s m args below meth c maxL D A s.heap Q 0 0 wc (lv_args 0 av) 0 []) : CtV l y wy rm D tys av wc mc ms post w1 := by
  intro sz
  refine Met.ofW (cc := cc) (maxL := maxL) (ret := ret) hy hw ?_
  intro p e s m args below meth c s₁ B hml hv
  obtain ⟨rfl, hsz, hP, hK, hD0⟩ := hv
  have hts0 := atoms_spec (ws := wy) B.pre
  have hts : ∀ w ∈ TB, w.before av.toArray s = true := fun w h => hts0 w (by rw [hw]; exact List.mem_cons_of_mem _ h)
  have hown : s.vm.findClass y.cls = some m.cls := findClass_of_methodNamed B.named
  subst hsz
  have hD := hD0.self (sz := s.heap.size)
  have hA : ∀ q : Nat, s.heap.size ≤ q → va_A wc s.heap.size q := fun q h => Or.inr h
  have hl := lv_entry av (n := maxL) hlen
  rw [lg_entry_eq]
  exact body p e s m _ below meth c _ _ rfl rfl ⟨B.exec, B.bytes, hml, hown, hts, hK, hA⟩ B.returns B.notSynchronized (name_of_methodNamed B.named B.method).1 s.heap [] _ hP hD va_S.rf hl
theorem CtQ.of {post : Option Nat → S → Prop} {w1 : S → va_W} (cc : ByteArray) (maxL : Nat) (ret : Option FieldType) (hy : plainName y.cls = true) (hw : wy = Cond.code y cc maxL ret :: TB) (hlen : (lg_sl av).length ≤ maxL)
    (body : ∀ (p : Program) (e : Env) (s : State) (m : MethodId) (args : Array Value) (below : List Frame) (meth : Method) (c : Code) (A : Nat → Prop) (Q : State → Prop), A = va_A wc s.heap.size → Q = MQ below (va_Qq post (Pos D tys wc s.heap.size w1) (va_A wc s.heap.size)) args s mc ms (va_A wc s.heap.size) → Cx p s m args c y.cls cc maxL D tys A s.heap → meth.sig.returnType = ret → meth.locks = false → meth.name = y.name →
      G p l e rm s m args below meth c maxL D A s.heap Q 0 0 wc (lv_args 0 av) 0 []) : CtQ l y wy rm D tys av wc mc ms post w1 := by
  intro sz
  refine Met.ofW (cc := cc) (maxL := maxL) (ret := ret) hy hw ?_
  intro p e s m args below meth c s₁ B hml hv
  obtain ⟨rfl, hsz, hP, hK, hD0⟩ := hv
  have hts0 := atoms_spec (ws := wy) B.pre
  have hts : ∀ w ∈ TB, w.before av.toArray s = true := fun w h => hts0 w (by rw [hw]; exact List.mem_cons_of_mem _ h)
  have hown : s.vm.findClass y.cls = some m.cls := findClass_of_methodNamed B.named
  subst hsz
  have hD := hD0.self (sz := s.heap.size)
  have hA : ∀ q : Nat, s.heap.size ≤ q → va_A wc s.heap.size q := fun q h => Or.inr h
  have hl := lv_entry av (n := maxL) hlen
  rw [lg_entry_eq]
  exact body p e s m _ below meth c _ _ rfl rfl ⟨B.exec, B.bytes, hml, hown, hts, hK, hA⟩ B.returns B.notSynchronized (name_of_methodNamed B.named B.method).1 s.heap [] _ hP hD va_S.rf hl
theorem g_iret (X : Cx p s m args c own cc nL D tys A s.heap) {post : Int32 → S → Prop} {w1 : S → va_W} {v : Int32} (hA : A = va_A wc s.heap.size) (hQ : Q = MQ below (va_Qi post (Pos D tys wc s.heap.size w1) (va_A wc s.heap.size)) args s cells slots (va_A wc s.heap.size)) (hr : meth.sig.returnType = some .int) (hlocks : meth.locks = false) (u : S) (is : List Nat) (hn : va_nd is = true) (hs : is.map (fun i => ws[i]?) = (w1 u).map some) (hdg : decode cc pc = .ok (.ireturn, 1)) (hpost : post v u) : G p l e R s m args below meth c nL D A s.heap Q cells slots ws lv pc [.int v] := by
  subst hA
  subst hQ
  exact fun H locs ls hP hD hS hl => W.iret (v := v) X.1 X.2.1 hr (fun t ht hW => ⟨⟨v, u, rfl, hpost, by rw [ht]; exact (hP.sub is (by rw [← filterMap_of_map _ _ hs, List.filterMap_map]; rfl)), KK.warm hW X.2.2.2.2.2.1, hD.sub is hn hs⟩, hS.F ht⟩) hS.2.2 hdg hlocks
theorem g_zret (X : Cx p s m args c own cc nL D tys A s.heap) {post : Int32 → S → Prop} {w1 : S → va_W} {v : Int32} (hA : A = va_A wc s.heap.size) (hQ : Q = MQ below (va_Qi post (Pos D tys wc s.heap.size w1) (va_A wc s.heap.size)) args s cells slots (va_A wc s.heap.size)) (hr : meth.sig.returnType = some .boolean) (hz : v = 0 ∨ v = 1) (hlocks : meth.locks = false) (u : S) (is : List Nat) (hn : va_nd is = true) (hs : is.map (fun i => ws[i]?) = (w1 u).map some) (hdg : decode cc pc = .ok (.ireturn, 1)) (hpost : post v u) : G p l e R s m args below meth c nL D A s.heap Q cells slots ws lv pc [.int v] := by
  subst hA
  subst hQ
  exact fun H locs ls hP hD hS hl => W.zret (v := v) X.1 X.2.1 hr (by rcases hz with h | h <;> subst h <;> rfl) (fun t ht hW => ⟨⟨v, u, rfl, hpost, by rw [ht]; exact (hP.sub is (by rw [← filterMap_of_map _ _ hs, List.filterMap_map]; rfl)), KK.warm hW X.2.2.2.2.2.1, hD.sub is hn hs⟩, hS.F ht⟩) hS.2.2 hdg hlocks
theorem g_lret (X : Cx p s m args c own cc nL D tys A s.heap) {post : Int64 → S → Prop} {w1 : S → va_W} {v : Int64} (hA : A = va_A wc s.heap.size) (hQ : Q = MQ below (va_Ql post (Pos D tys wc s.heap.size w1) (va_A wc s.heap.size)) args s cells slots (va_A wc s.heap.size)) (hr : meth.sig.returnType = some .long) (hlocks : meth.locks = false) (u : S) (is : List Nat) (hn : va_nd is = true) (hs : is.map (fun i => ws[i]?) = (w1 u).map some) (hdg : decode cc pc = .ok (.lreturn, 1)) (hpost : post v u) : G p l e R s m args below meth c nL D A s.heap Q cells slots ws lv pc [.long v] := by
  subst hA
  subst hQ
  exact fun H locs ls hP hD hS hl => W.lret (v := v) X.1 X.2.1 hr (fun t ht hW => ⟨⟨v, u, rfl, hpost, by rw [ht]; exact (hP.sub is (by rw [← filterMap_of_map _ _ hs, List.filterMap_map]; rfl)), KK.warm hW X.2.2.2.2.2.1, hD.sub is hn hs⟩, hS.F ht⟩) hS.2.2 hdg hlocks
theorem g_qret (X : Cx p s m args c own cc nL D tys A s.heap) {post : Option Nat → S → Prop} {w1 : S → va_W} {v : Option Nat} (hA : A = va_A wc s.heap.size) (hQ : Q = MQ below (va_Qq post (Pos D tys wc s.heap.size w1) (va_A wc s.heap.size)) args s cells slots (va_A wc s.heap.size)) {cn : String} (hr : meth.sig.returnType = some (.object cn)) (hlocks : meth.locks = false) (u : S) (is : List Nat) (hn : va_nd is = true) (hs : is.map (fun i => ws[i]?) = (w1 u).map some) (hdg : decode cc pc = .ok (.areturn, 1)) (hpost : post v u) : G p l e R s m args below meth c nL D A s.heap Q cells slots ws lv pc [va_rf v] := by
  subst hA
  subst hQ
  exact fun H locs ls hP hD hS hl => W.aret (v := va_rf v) X.1 X.2.1 hr (Or.inl ⟨_, rfl⟩) (by cases v with | none => exact Or.inl rfl | some a => exact Or.inr ⟨a, rfl⟩) (fun t ht hW => ⟨⟨v, u, rfl, hpost, by rw [ht]; exact (hP.sub is (by rw [← filterMap_of_map _ _ hs, List.filterMap_map]; rfl)), KK.warm hW X.2.2.2.2.2.1, hD.sub is hn hs⟩, hS.F ht⟩) hS.2.2 hdg hlocks
theorem g_vret (X : Cx p s m args c own cc nL D tys A s.heap) {post : S → Prop} {w1 : S → va_W} (hA : A = va_A wc s.heap.size) (hQ : Q = MQ below (va_Qv post (Pos D tys wc s.heap.size w1) (va_A wc s.heap.size)) args s cells slots (va_A wc s.heap.size)) (hr : meth.sig.returnType = none) (hlocks : meth.locks = false) (u : S) (is : List Nat) (hn : va_nd is = true) (hs : is.map (fun i => ws[i]?) = (w1 u).map some) (hdg : decode cc pc = .ok (.return_, 1)) (hpost : post u) : G p l e R s m args below meth c nL D A s.heap Q cells slots ws lv pc [] := by
  subst hA
  subst hQ
  exact fun H locs ls hP hD hS hl => W.vret X.1 X.2.1 hr (fun t ht hW => ⟨⟨u, rfl, hpost, by rw [ht]; exact (hP.sub is (by rw [← filterMap_of_map _ _ hs, List.filterMap_map]; rfl)), KK.warm hW X.2.2.2.2.2.1, hD.sub is hn hs⟩, hS.F ht⟩) hS.2.2 hdg hlocks
theorem goodTB {w : Cond} (h : w ∈ TB) : GoodIn TB (w :: TB) := fun v hv => by
  have hm : v ∈ TB := by
    rcases List.mem_cons.mp hv with e | e
    · rw [e]; exact h
    · exact e
  exact ⟨hm, good_of_word (tb_good hm)⟩
theorem g_calliV (X : Cx p s m args c own cc nL D tys A H0) {post : Int32 → S → Prop} {w1 : S → va_W} (As : List Value) (hM : CtI l y (Cond.code y bytes maxL ret :: TB) rm D tys (.ref b :: As) wc mc ms post w1) (h1 : Cond.methodLink own index y ∈ TB) (h2 : Cond.instanceMethod y ∈ TB) (h3 : Cond.selects C y y ∈ TB) (h4 : Cond.initialized y.cls ∈ TB) (h5 : Cond.code y bytes maxL ret ∈ TB) (hrc : rm.cells = mc) (hrs : rm.slots = ms) (hd : y.cls ≠ "java/lang/invoke/MethodHandle" ∧ y.cls ≠ "java/lang/invoke/VarHandle" ∧ (parseMethodDescriptor y.desc).map (fun d => d.parameters.length) = some n) (hR : rm.frames + 1 ≤ R.frames ∧ 8 + (maxL + 11) + rm.locals ≤ R.locals) (isC isR : List Nat) (wr : va_W) (hC : isC.map (fun i => ws[i]?) = wc.map some) (hR' : isR.map (fun i => ws[i]?) = wr.map some) (hnC : va_nd isC = true) (hn : va_nd isR = true) (hdis : ∀ i ∈ isR, i ∉ isC) (q0 : Nat) {ci : Nat} {fs : List Value} {T : u_T} {N : Nat} (he : wc[q0]? = some (b, .inr (ci, fs))) (hc : cls9[ci]? = some (C, T, N)) (hlen : As.length = n) (hstk : st = As.reverse ++ .ref b :: rest) (hroom : (rest.map fun v => v.category).sum ≤ 8) (hdg : decode cc pc = .ok (.invokevirtual index, 3)) (hf : cells + mc ≤ R.cells ∧ slots + ms ≤ R.slots)
    (kk : ∀ (r : Int32) (u : S), post r u → G p l e R s m args below meth c nL D A H0 Q (cells + mc) (slots + ms) (wr ++ w1 u) lv (pc + 3) (.int r :: rest)) : G p l e R s m args below meth c nL D A H0 Q cells slots ws lv pc st := by
  intro H locs ls hP hD hS hl
  have hPc : va_P D cls9 wc H := hP.sub isC (by rw [← filterMap_of_map _ _ hC, List.filterMap_map]; rfl)
  have hDc : va_D A wc := hD.sub isC hnC hC
  have hFc := va_free (wc := wc) hD hS X.2.2.2.2.2.2 isC hC
  refine va_calli (va_runV (C := C) (As := As) (b := b) (rest := rest) ⟨X.1, X.2.1, X.2.2.1, X.2.2.2.1, X.2.2.2.2.1⟩ (hM H.size) ⟨callB_of n X.2.2.2.2.1 (goodTB h5) rfl hrc hrs (X.2.2.2.2.1 _ h4) (X.2.2.2.2.1 _ h1) hd hR, X.2.2.2.2.1 _ h2, X.2.2.2.2.1 _ h3⟩ ⟨Pre.blind _, va_recv X.2.2.2.2.2.1.1 hPc hc he, fun U hU hW => ⟨rfl, by rw [hU], by rw [hU]; exact hPc, KK.warm hW X.2.2.2.2.2.1, hDc.weaken (fun _ _ _ _ => trivial)⟩⟩ rfl hlen hl.1 hstk (lv_room hroom) hdg hf) hS (fun q _ h => hFc q h) hFc (fun r u t H1 locs1 ht hvm hw hB hz1 hk1 hS1 => ?_)
  obtain ⟨hP1, hK1, hD1⟩ := hB
  rw [ht] at hP1
  obtain ⟨hP2, hD2⟩ := va_join (wr := wr) (w1 := w1 u) hP hD isC isR hC hR' hn hdis hk1 hFc hP1 hD1
  exact kk r u hw H1 locs1 ls hP2 hD2 hS1 hl
theorem g_calliS (X : Cx p s m args c own cc nL D tys A H0) {post : Int32 → S → Prop} {w1 : S → va_W} (As : List Value) (hM : CtI l y (Cond.code y bytes maxL ret :: TB) rm D tys (As) wc mc ms post w1) (h1 : Cond.methodLink own index y ∈ TB) (h2 : Cond.static y ∈ TB) (h4 : Cond.initialized y.cls ∈ TB) (h5 : Cond.code y bytes maxL ret ∈ TB) (hrc : rm.cells = mc) (hrs : rm.slots = ms) (hd : y.cls ≠ "java/lang/invoke/MethodHandle" ∧ y.cls ≠ "java/lang/invoke/VarHandle" ∧ (parseMethodDescriptor y.desc).map (fun d => d.parameters.length) = some n) (hR : rm.frames + 1 ≤ R.frames ∧ 8 + (maxL + 11) + rm.locals ≤ R.locals) (isC isR : List Nat) (wr : va_W) (hC : isC.map (fun i => ws[i]?) = wc.map some) (hR' : isR.map (fun i => ws[i]?) = wr.map some) (hnC : va_nd isC = true) (hn : va_nd isR = true) (hdis : ∀ i ∈ isR, i ∉ isC) (hlen : As.length = n) (hstk : st = As.reverse ++ rest) (hroom : (rest.map fun v => v.category).sum ≤ 8) (hdg : decode cc pc = .ok (.invokestatic index, 3)) (hf : cells + mc ≤ R.cells ∧ slots + ms ≤ R.slots)
    (kk : ∀ (r : Int32) (u : S), post r u → G p l e R s m args below meth c nL D A H0 Q (cells + mc) (slots + ms) (wr ++ w1 u) lv (pc + 3) (.int r :: rest)) : G p l e R s m args below meth c nL D A H0 Q cells slots ws lv pc st := by
  intro H locs ls hP hD hS hl
  have hPc : va_P D cls9 wc H := hP.sub isC (by rw [← filterMap_of_map _ _ hC, List.filterMap_map]; rfl)
  have hDc : va_D A wc := hD.sub isC hnC hC
  have hFc := va_free (wc := wc) hD hS X.2.2.2.2.2.2 isC hC
  refine va_calli (va_runS (As := As) (rest := rest) ⟨X.1, X.2.1, X.2.2.1, X.2.2.2.1, X.2.2.2.2.1⟩ (hM H.size) ⟨callB_of n X.2.2.2.2.1 (goodTB h5) rfl hrc hrs (X.2.2.2.2.1 _ h4) (X.2.2.2.2.1 _ h1) hd hR, X.2.2.2.2.1 _ h2⟩ ⟨Pre.blind _,  fun U hU hW => ⟨rfl, by rw [hU], by rw [hU]; exact hPc, KK.warm hW X.2.2.2.2.2.1, hDc.weaken (fun _ _ _ _ => trivial)⟩⟩ rfl hlen hl.1 hstk (lv_room hroom) hdg hf) hS (fun q _ h => hFc q h) hFc (fun r u t H1 locs1 ht hvm hw hB hz1 hk1 hS1 => ?_)
  obtain ⟨hP1, hK1, hD1⟩ := hB
  rw [ht] at hP1
  obtain ⟨hP2, hD2⟩ := va_join (wr := wr) (w1 := w1 u) hP hD isC isR hC hR' hn hdis hk1 hFc hP1 hD1
  exact kk r u hw H1 locs1 ls hP2 hD2 hS1 hl
theorem g_calliN (X : Cx p s m args c own cc nL D tys A H0) {post : Int32 → S → Prop} {w1 : S → va_W} (As : List Value) (hM : CtI l y (Cond.code y bytes maxL ret :: TB) rm D tys (As) wc mc ms post w1) {host : String} (h1 : va_Nw (.methodLinkNest own index y host) s) (h2 : Cond.static y ∈ TB) (h4 : Cond.initialized y.cls ∈ TB) (h5 : Cond.code y bytes maxL ret ∈ TB) (hrc : rm.cells = mc) (hrs : rm.slots = ms) (hd : y.cls ≠ "java/lang/invoke/MethodHandle" ∧ y.cls ≠ "java/lang/invoke/VarHandle" ∧ (parseMethodDescriptor y.desc).map (fun d => d.parameters.length) = some n) (hR : rm.frames + 1 ≤ R.frames ∧ 8 + (maxL + 11) + rm.locals ≤ R.locals) (isC isR : List Nat) (wr : va_W) (hC : isC.map (fun i => ws[i]?) = wc.map some) (hR' : isR.map (fun i => ws[i]?) = wr.map some) (hnC : va_nd isC = true) (hn : va_nd isR = true) (hdis : ∀ i ∈ isR, i ∉ isC) (hlen : As.length = n) (hstk : st = As.reverse ++ rest) (hroom : (rest.map fun v => v.category).sum ≤ 8) (hdg : decode cc pc = .ok (.invokestatic index, 3)) (hf : cells + mc ≤ R.cells ∧ slots + ms ≤ R.slots)
    (kk : ∀ (r : Int32) (u : S), post r u → G p l e R s m args below meth c nL D A H0 Q (cells + mc) (slots + ms) (wr ++ w1 u) lv (pc + 3) (.int r :: rest)) : G p l e R s m args below meth c nL D A H0 Q cells slots ws lv pc st := by
  intro H locs ls hP hD hS hl
  have hPc : va_P D cls9 wc H := hP.sub isC (by rw [← filterMap_of_map _ _ hC, List.filterMap_map]; rfl)
  have hDc : va_D A wc := hD.sub isC hnC hC
  have hFc := va_free (wc := wc) hD hS X.2.2.2.2.2.2 isC hC
  refine va_calli (va_runSN (As := As) (rest := rest) ⟨X.1, X.2.1, X.2.2.1, X.2.2.2.1, X.2.2.2.2.1⟩ (hM H.size) ⟨va_cnB n X.2.2.2.2.1 (goodTB h5) rfl hrc hrs h1 (X.2.2.2.2.1 _ h4) hd hR, X.2.2.2.2.1 _ h2, trivial⟩ ⟨Pre.blind _,  fun U hU hW => ⟨rfl, by rw [hU], by rw [hU]; exact hPc, KK.warm hW X.2.2.2.2.2.1, hDc.weaken (fun _ _ _ _ => trivial)⟩⟩ rfl hlen hl.1 hstk (lv_room hroom) hdg hf) hS (fun q _ h => hFc q h) hFc (fun r u t H1 locs1 ht hvm hw hB hz1 hk1 hS1 => ?_)
  obtain ⟨hP1, hK1, hD1⟩ := hB
  rw [ht] at hP1
  obtain ⟨hP2, hD2⟩ := va_join (wr := wr) (w1 := w1 u) hP hD isC isR hC hR' hn hdis hk1 hFc hP1 hD1
  exact kk r u hw H1 locs1 ls hP2 hD2 hS1 hl
theorem g_calllV (X : Cx p s m args c own cc nL D tys A H0) {post : Int64 → S → Prop} {w1 : S → va_W} (As : List Value) (hM : CtL l y (Cond.code y bytes maxL ret :: TB) rm D tys (.ref b :: As) wc mc ms post w1) (h1 : Cond.methodLink own index y ∈ TB) (h2 : Cond.instanceMethod y ∈ TB) (h3 : Cond.selects C y y ∈ TB) (h4 : Cond.initialized y.cls ∈ TB) (h5 : Cond.code y bytes maxL ret ∈ TB) (hrc : rm.cells = mc) (hrs : rm.slots = ms) (hd : y.cls ≠ "java/lang/invoke/MethodHandle" ∧ y.cls ≠ "java/lang/invoke/VarHandle" ∧ (parseMethodDescriptor y.desc).map (fun d => d.parameters.length) = some n) (hR : rm.frames + 1 ≤ R.frames ∧ 8 + (maxL + 11) + rm.locals ≤ R.locals) (isC isR : List Nat) (wr : va_W) (hC : isC.map (fun i => ws[i]?) = wc.map some) (hR' : isR.map (fun i => ws[i]?) = wr.map some) (hnC : va_nd isC = true) (hn : va_nd isR = true) (hdis : ∀ i ∈ isR, i ∉ isC) (q0 : Nat) {ci : Nat} {fs : List Value} {T : u_T} {N : Nat} (he : wc[q0]? = some (b, .inr (ci, fs))) (hc : cls9[ci]? = some (C, T, N)) (hlen : As.length = n) (hstk : st = As.reverse ++ .ref b :: rest) (hroom : (rest.map fun v => v.category).sum ≤ 8) (hdg : decode cc pc = .ok (.invokevirtual index, 3)) (hf : cells + mc ≤ R.cells ∧ slots + ms ≤ R.slots)
    (kk : ∀ (r : Int64) (u : S), post r u → G p l e R s m args below meth c nL D A H0 Q (cells + mc) (slots + ms) (wr ++ w1 u) lv (pc + 3) (.long r :: rest)) : G p l e R s m args below meth c nL D A H0 Q cells slots ws lv pc st := by
  intro H locs ls hP hD hS hl
  have hPc : va_P D cls9 wc H := hP.sub isC (by rw [← filterMap_of_map _ _ hC, List.filterMap_map]; rfl)
  have hDc : va_D A wc := hD.sub isC hnC hC
  have hFc := va_free (wc := wc) hD hS X.2.2.2.2.2.2 isC hC
  refine va_calll (va_runV (C := C) (As := As) (b := b) (rest := rest) ⟨X.1, X.2.1, X.2.2.1, X.2.2.2.1, X.2.2.2.2.1⟩ (hM H.size) ⟨callB_of n X.2.2.2.2.1 (goodTB h5) rfl hrc hrs (X.2.2.2.2.1 _ h4) (X.2.2.2.2.1 _ h1) hd hR, X.2.2.2.2.1 _ h2, X.2.2.2.2.1 _ h3⟩ ⟨Pre.blind _, va_recv X.2.2.2.2.2.1.1 hPc hc he, fun U hU hW => ⟨rfl, by rw [hU], by rw [hU]; exact hPc, KK.warm hW X.2.2.2.2.2.1, hDc.weaken (fun _ _ _ _ => trivial)⟩⟩ rfl hlen hl.1 hstk (lv_room hroom) hdg hf) hS (fun q _ h => hFc q h) hFc (fun r u t H1 locs1 ht hvm hw hB hz1 hk1 hS1 => ?_)
  obtain ⟨hP1, hK1, hD1⟩ := hB
  rw [ht] at hP1
  obtain ⟨hP2, hD2⟩ := va_join (wr := wr) (w1 := w1 u) hP hD isC isR hC hR' hn hdis hk1 hFc hP1 hD1
  exact kk r u hw H1 locs1 ls hP2 hD2 hS1 hl
theorem g_calllS (X : Cx p s m args c own cc nL D tys A H0) {post : Int64 → S → Prop} {w1 : S → va_W} (As : List Value) (hM : CtL l y (Cond.code y bytes maxL ret :: TB) rm D tys (As) wc mc ms post w1) (h1 : Cond.methodLink own index y ∈ TB) (h2 : Cond.static y ∈ TB) (h4 : Cond.initialized y.cls ∈ TB) (h5 : Cond.code y bytes maxL ret ∈ TB) (hrc : rm.cells = mc) (hrs : rm.slots = ms) (hd : y.cls ≠ "java/lang/invoke/MethodHandle" ∧ y.cls ≠ "java/lang/invoke/VarHandle" ∧ (parseMethodDescriptor y.desc).map (fun d => d.parameters.length) = some n) (hR : rm.frames + 1 ≤ R.frames ∧ 8 + (maxL + 11) + rm.locals ≤ R.locals) (isC isR : List Nat) (wr : va_W) (hC : isC.map (fun i => ws[i]?) = wc.map some) (hR' : isR.map (fun i => ws[i]?) = wr.map some) (hnC : va_nd isC = true) (hn : va_nd isR = true) (hdis : ∀ i ∈ isR, i ∉ isC) (hlen : As.length = n) (hstk : st = As.reverse ++ rest) (hroom : (rest.map fun v => v.category).sum ≤ 8) (hdg : decode cc pc = .ok (.invokestatic index, 3)) (hf : cells + mc ≤ R.cells ∧ slots + ms ≤ R.slots)
    (kk : ∀ (r : Int64) (u : S), post r u → G p l e R s m args below meth c nL D A H0 Q (cells + mc) (slots + ms) (wr ++ w1 u) lv (pc + 3) (.long r :: rest)) : G p l e R s m args below meth c nL D A H0 Q cells slots ws lv pc st := by
  intro H locs ls hP hD hS hl
  have hPc : va_P D cls9 wc H := hP.sub isC (by rw [← filterMap_of_map _ _ hC, List.filterMap_map]; rfl)
  have hDc : va_D A wc := hD.sub isC hnC hC
  have hFc := va_free (wc := wc) hD hS X.2.2.2.2.2.2 isC hC
  refine va_calll (va_runS (As := As) (rest := rest) ⟨X.1, X.2.1, X.2.2.1, X.2.2.2.1, X.2.2.2.2.1⟩ (hM H.size) ⟨callB_of n X.2.2.2.2.1 (goodTB h5) rfl hrc hrs (X.2.2.2.2.1 _ h4) (X.2.2.2.2.1 _ h1) hd hR, X.2.2.2.2.1 _ h2⟩ ⟨Pre.blind _,  fun U hU hW => ⟨rfl, by rw [hU], by rw [hU]; exact hPc, KK.warm hW X.2.2.2.2.2.1, hDc.weaken (fun _ _ _ _ => trivial)⟩⟩ rfl hlen hl.1 hstk (lv_room hroom) hdg hf) hS (fun q _ h => hFc q h) hFc (fun r u t H1 locs1 ht hvm hw hB hz1 hk1 hS1 => ?_)
  obtain ⟨hP1, hK1, hD1⟩ := hB
  rw [ht] at hP1
  obtain ⟨hP2, hD2⟩ := va_join (wr := wr) (w1 := w1 u) hP hD isC isR hC hR' hn hdis hk1 hFc hP1 hD1
  exact kk r u hw H1 locs1 ls hP2 hD2 hS1 hl
theorem g_callvV (X : Cx p s m args c own cc nL D tys A H0) {post : S → Prop} {w1 : S → va_W} (As : List Value) (hM : CtV l y (Cond.code y bytes maxL ret :: TB) rm D tys (.ref b :: As) wc mc ms post w1) (h1 : Cond.methodLink own index y ∈ TB) (h2 : Cond.instanceMethod y ∈ TB) (h3 : Cond.selects C y y ∈ TB) (h4 : Cond.initialized y.cls ∈ TB) (h5 : Cond.code y bytes maxL ret ∈ TB) (hrc : rm.cells = mc) (hrs : rm.slots = ms) (hd : y.cls ≠ "java/lang/invoke/MethodHandle" ∧ y.cls ≠ "java/lang/invoke/VarHandle" ∧ (parseMethodDescriptor y.desc).map (fun d => d.parameters.length) = some n) (hR : rm.frames + 1 ≤ R.frames ∧ 8 + (maxL + 11) + rm.locals ≤ R.locals) (isC isR : List Nat) (wr : va_W) (hC : isC.map (fun i => ws[i]?) = wc.map some) (hR' : isR.map (fun i => ws[i]?) = wr.map some) (hnC : va_nd isC = true) (hn : va_nd isR = true) (hdis : ∀ i ∈ isR, i ∉ isC) (q0 : Nat) {ci : Nat} {fs : List Value} {T : u_T} {N : Nat} (he : wc[q0]? = some (b, .inr (ci, fs))) (hc : cls9[ci]? = some (C, T, N)) (hlen : As.length = n) (hstk : st = As.reverse ++ .ref b :: rest) (hroom : (rest.map fun v => v.category).sum ≤ 8) (hdg : decode cc pc = .ok (.invokevirtual index, 3)) (hf : cells + mc ≤ R.cells ∧ slots + ms ≤ R.slots)
    (kk : ∀ (u : S), post u → G p l e R s m args below meth c nL D A H0 Q (cells + mc) (slots + ms) (wr ++ w1 u) lv (pc + 3) (rest)) : G p l e R s m args below meth c nL D A H0 Q cells slots ws lv pc st := by
  intro H locs ls hP hD hS hl
  have hPc : va_P D cls9 wc H := hP.sub isC (by rw [← filterMap_of_map _ _ hC, List.filterMap_map]; rfl)
  have hDc : va_D A wc := hD.sub isC hnC hC
  have hFc := va_free (wc := wc) hD hS X.2.2.2.2.2.2 isC hC
  refine va_callv (va_runV (C := C) (As := As) (b := b) (rest := rest) ⟨X.1, X.2.1, X.2.2.1, X.2.2.2.1, X.2.2.2.2.1⟩ (hM H.size) ⟨callB_of n X.2.2.2.2.1 (goodTB h5) rfl hrc hrs (X.2.2.2.2.1 _ h4) (X.2.2.2.2.1 _ h1) hd hR, X.2.2.2.2.1 _ h2, X.2.2.2.2.1 _ h3⟩ ⟨Pre.blind _, va_recv X.2.2.2.2.2.1.1 hPc hc he, fun U hU hW => ⟨rfl, by rw [hU], by rw [hU]; exact hPc, KK.warm hW X.2.2.2.2.2.1, hDc.weaken (fun _ _ _ _ => trivial)⟩⟩ rfl hlen hl.1 hstk (lv_room hroom) hdg hf) hS (fun q _ h => hFc q h) hFc (fun u t H1 locs1 ht hvm hw hB hz1 hk1 hS1 => ?_)
  obtain ⟨hP1, hK1, hD1⟩ := hB
  rw [ht] at hP1
  obtain ⟨hP2, hD2⟩ := va_join (wr := wr) (w1 := w1 u) hP hD isC isR hC hR' hn hdis hk1 hFc hP1 hD1
  exact kk u hw H1 locs1 ls hP2 hD2 hS1 hl
theorem g_callvS (X : Cx p s m args c own cc nL D tys A H0) {post : S → Prop} {w1 : S → va_W} (As : List Value) (hM : CtV l y (Cond.code y bytes maxL ret :: TB) rm D tys (As) wc mc ms post w1) (h1 : Cond.methodLink own index y ∈ TB) (h2 : Cond.static y ∈ TB) (h4 : Cond.initialized y.cls ∈ TB) (h5 : Cond.code y bytes maxL ret ∈ TB) (hrc : rm.cells = mc) (hrs : rm.slots = ms) (hd : y.cls ≠ "java/lang/invoke/MethodHandle" ∧ y.cls ≠ "java/lang/invoke/VarHandle" ∧ (parseMethodDescriptor y.desc).map (fun d => d.parameters.length) = some n) (hR : rm.frames + 1 ≤ R.frames ∧ 8 + (maxL + 11) + rm.locals ≤ R.locals) (isC isR : List Nat) (wr : va_W) (hC : isC.map (fun i => ws[i]?) = wc.map some) (hR' : isR.map (fun i => ws[i]?) = wr.map some) (hnC : va_nd isC = true) (hn : va_nd isR = true) (hdis : ∀ i ∈ isR, i ∉ isC) (hlen : As.length = n) (hstk : st = As.reverse ++ rest) (hroom : (rest.map fun v => v.category).sum ≤ 8) (hdg : decode cc pc = .ok (.invokestatic index, 3)) (hf : cells + mc ≤ R.cells ∧ slots + ms ≤ R.slots)
    (kk : ∀ (u : S), post u → G p l e R s m args below meth c nL D A H0 Q (cells + mc) (slots + ms) (wr ++ w1 u) lv (pc + 3) (rest)) : G p l e R s m args below meth c nL D A H0 Q cells slots ws lv pc st := by
  intro H locs ls hP hD hS hl
  have hPc : va_P D cls9 wc H := hP.sub isC (by rw [← filterMap_of_map _ _ hC, List.filterMap_map]; rfl)
  have hDc : va_D A wc := hD.sub isC hnC hC
  have hFc := va_free (wc := wc) hD hS X.2.2.2.2.2.2 isC hC
  refine va_callv (va_runS (As := As) (rest := rest) ⟨X.1, X.2.1, X.2.2.1, X.2.2.2.1, X.2.2.2.2.1⟩ (hM H.size) ⟨callB_of n X.2.2.2.2.1 (goodTB h5) rfl hrc hrs (X.2.2.2.2.1 _ h4) (X.2.2.2.2.1 _ h1) hd hR, X.2.2.2.2.1 _ h2⟩ ⟨Pre.blind _,  fun U hU hW => ⟨rfl, by rw [hU], by rw [hU]; exact hPc, KK.warm hW X.2.2.2.2.2.1, hDc.weaken (fun _ _ _ _ => trivial)⟩⟩ rfl hlen hl.1 hstk (lv_room hroom) hdg hf) hS (fun q _ h => hFc q h) hFc (fun u t H1 locs1 ht hvm hw hB hz1 hk1 hS1 => ?_)
  obtain ⟨hP1, hK1, hD1⟩ := hB
  rw [ht] at hP1
  obtain ⟨hP2, hD2⟩ := va_join (wr := wr) (w1 := w1 u) hP hD isC isR hC hR' hn hdis hk1 hFc hP1 hD1
  exact kk u hw H1 locs1 ls hP2 hD2 hS1 hl
theorem g_callvI (X : Cx p s m args c own cc nL D tys A H0) {post : S → Prop} {w1 : S → va_W} (As : List Value) (hM : CtV l y (Cond.code y bytes maxL none :: TB) rm D tys (.ref b :: As) wc mc ms post w1) (h1 : Cond.methodLink own index y ∈ TB) (h2 : Cond.instanceMethod y ∈ TB) (h3 : y.name = "<init>") (h4 : Cond.initialized y.cls ∈ TB) (h5 : Cond.code y bytes maxL none ∈ TB) (hrc : rm.cells = mc) (hrs : rm.slots = ms) (hd : y.cls ≠ "java/lang/invoke/MethodHandle" ∧ y.cls ≠ "java/lang/invoke/VarHandle" ∧ (parseMethodDescriptor y.desc).map (fun d => d.parameters.length) = some n) (hR : rm.frames + 1 ≤ R.frames ∧ 8 + (maxL + 11) + rm.locals ≤ R.locals) (isC isR : List Nat) (wr : va_W) (hC : isC.map (fun i => ws[i]?) = wc.map some) (hR' : isR.map (fun i => ws[i]?) = wr.map some) (hnC : va_nd isC = true) (hn : va_nd isR = true) (hdis : ∀ i ∈ isR, i ∉ isC) (hlen : As.length = n) (hstk : st = As.reverse ++ .ref b :: rest) (hroom : (rest.map fun v => v.category).sum ≤ 8) (hdg : decode cc pc = .ok (.invokespecial index, 3)) (hf : cells + mc ≤ R.cells ∧ slots + ms ≤ R.slots)
    (kk : ∀ (u : S), post u → G p l e R s m args below meth c nL D A H0 Q (cells + mc) (slots + ms) (wr ++ w1 u) lv (pc + 3) (rest)) : G p l e R s m args below meth c nL D A H0 Q cells slots ws lv pc st := by
  intro H locs ls hP hD hS hl
  have hPc : va_P D cls9 wc H := hP.sub isC (by rw [← filterMap_of_map _ _ hC, List.filterMap_map]; rfl)
  have hDc : va_D A wc := hD.sub isC hnC hC
  have hFc := va_free (wc := wc) hD hS X.2.2.2.2.2.2 isC hC
  refine va_callv (va_runI (As := As) (b := b) (rest := rest) ⟨X.1, X.2.1, X.2.2.1, X.2.2.2.1, X.2.2.2.2.1⟩ (hM H.size) ⟨callB_of n X.2.2.2.2.1 (goodTB h5) rfl hrc hrs (X.2.2.2.2.1 _ h4) (X.2.2.2.2.1 _ h1) hd hR, h3, X.2.2.2.2.1 _ h2⟩ ⟨Pre.blind _,  fun U hU hW => ⟨rfl, by rw [hU], by rw [hU]; exact hPc, KK.warm hW X.2.2.2.2.2.1, hDc.weaken (fun _ _ _ _ => trivial)⟩⟩ rfl hlen hl.1 hstk (lv_room hroom) hdg hf) hS (fun q _ h => hFc q h) hFc (fun u t H1 locs1 ht hvm hw hB hz1 hk1 hS1 => ?_)
  obtain ⟨hP1, hK1, hD1⟩ := hB
  rw [ht] at hP1
  obtain ⟨hP2, hD2⟩ := va_join (wr := wr) (w1 := w1 u) hP hD isC isR hC hR' hn hdis hk1 hFc hP1 hD1
  exact kk u hw H1 locs1 ls hP2 hD2 hS1 hl
theorem g_callqV (X : Cx p s m args c own cc nL D tys A H0) {post : Option Nat → S → Prop} {w1 : S → va_W} (As : List Value) (hM : CtQ l y (Cond.code y bytes maxL ret :: TB) rm D tys (.ref b :: As) wc mc ms post w1) (h1 : Cond.methodLink own index y ∈ TB) (h2 : Cond.instanceMethod y ∈ TB) (h3 : Cond.selects C y y ∈ TB) (h4 : Cond.initialized y.cls ∈ TB) (h5 : Cond.code y bytes maxL ret ∈ TB) (hrc : rm.cells = mc) (hrs : rm.slots = ms) (hd : y.cls ≠ "java/lang/invoke/MethodHandle" ∧ y.cls ≠ "java/lang/invoke/VarHandle" ∧ (parseMethodDescriptor y.desc).map (fun d => d.parameters.length) = some n) (hR : rm.frames + 1 ≤ R.frames ∧ 8 + (maxL + 11) + rm.locals ≤ R.locals) (isC isR : List Nat) (wr : va_W) (hC : isC.map (fun i => ws[i]?) = wc.map some) (hR' : isR.map (fun i => ws[i]?) = wr.map some) (hnC : va_nd isC = true) (hn : va_nd isR = true) (hdis : ∀ i ∈ isR, i ∉ isC) (q0 : Nat) {ci : Nat} {fs : List Value} {T : u_T} {N : Nat} (he : wc[q0]? = some (b, .inr (ci, fs))) (hc : cls9[ci]? = some (C, T, N)) (hlen : As.length = n) (hstk : st = As.reverse ++ .ref b :: rest) (hroom : (rest.map fun v => v.category).sum ≤ 8) (hdg : decode cc pc = .ok (.invokevirtual index, 3)) (hf : cells + mc ≤ R.cells ∧ slots + ms ≤ R.slots)
    (kk : ∀ (r : Option Nat) (u : S), post r u → G p l e R s m args below meth c nL D A H0 Q (cells + mc) (slots + ms) (wr ++ w1 u) lv (pc + 3) (va_rf r :: rest)) : G p l e R s m args below meth c nL D A H0 Q cells slots ws lv pc st := by
  intro H locs ls hP hD hS hl
  have hPc : va_P D cls9 wc H := hP.sub isC (by rw [← filterMap_of_map _ _ hC, List.filterMap_map]; rfl)
  have hDc : va_D A wc := hD.sub isC hnC hC
  have hFc := va_free (wc := wc) hD hS X.2.2.2.2.2.2 isC hC
  refine va_callq (va_runV (C := C) (As := As) (b := b) (rest := rest) ⟨X.1, X.2.1, X.2.2.1, X.2.2.2.1, X.2.2.2.2.1⟩ (hM H.size) ⟨callB_of n X.2.2.2.2.1 (goodTB h5) rfl hrc hrs (X.2.2.2.2.1 _ h4) (X.2.2.2.2.1 _ h1) hd hR, X.2.2.2.2.1 _ h2, X.2.2.2.2.1 _ h3⟩ ⟨Pre.blind _, va_recv X.2.2.2.2.2.1.1 hPc hc he, fun U hU hW => ⟨rfl, by rw [hU], by rw [hU]; exact hPc, KK.warm hW X.2.2.2.2.2.1, hDc.weaken (fun _ _ _ _ => trivial)⟩⟩ rfl hlen hl.1 hstk (lv_room hroom) hdg hf) hS (fun q _ h => hFc q h) hFc (fun r u t H1 locs1 ht hvm hw hB hz1 hk1 hS1 => ?_)
  obtain ⟨hP1, hK1, hD1⟩ := hB
  rw [ht] at hP1
  obtain ⟨hP2, hD2⟩ := va_join (wr := wr) (w1 := w1 u) hP hD isC isR hC hR' hn hdis hk1 hFc hP1 hD1
  exact kk r u hw H1 locs1 ls hP2 hD2 hS1 hl
theorem g_objInit (X : Cx p s m args c own cc nL D tys A H0) {idx : Nat} {a : Nat} (h1 : Cond.methodLink own idx Lib.objectInit ∈ TB) (h2 : Cond.instanceMethod Lib.objectInit ∈ TB) (h3 : Cond.code Lib.objectInit ⟨#[0xb1]⟩ 1 none ∈ TB) (hd : decode cc pc = .ok (.invokespecial idx, 3)) (hf : 1 ≤ R.frames) (hlo : (rest.map fun v => v.category).sum + 12 ≤ R.locals) (kk : G p l e R s m args below meth c nL D A H0 Q cells slots ws lv (pc + 3) rest) : G p l e R s m args below meth c nL D A H0 Q cells slots ws lv pc (.ref a :: rest) := fun H locs ls hP hD hS hl => W.objInit X.1 X.2.1 X.2.2.2.1 (X.2.2.2.2.1 _ h1) (X.2.2.2.2.1 _ h2) (X.2.2.2.2.1 _ h3) rfl (hl.1.trans X.2.2.1.symm) rfl hd hf (by rw [show (F0 m pc ls (.ref a :: rest)).monitorRoom = 0 from rfl]; omega) (kk H locs ls hP hD hS hl)
theorem g_new (X : Cx p s m args c own cc nL D tys A H0) {C : String} {T : u_T} {N ci index : Nat} {fs : List Value} (ty0 : Nat → FieldType) (hty : ∀ k, k < N → parseFieldDescriptor (T k).2.2.1 = some (ty0 k)) (hin : ∀ w ∈ u_ws C T N, w ∈ TB) (h1 : Cond.classLink own index C ∈ TB) (h2 : Cond.instantiable C N ∈ TB) (h3 : Cond.initialized C ∈ TB) (hc : cls9[ci]? = some (C, T, N)) (hfs : ∀ j, j < N → defaultValue (ty0 j) = vp_V fs j) (hcells : cells + 1 ≤ R.cells) (hslots : slots + N ≤ R.slots) (hdg : decode cc pc = .ok (.new index, 3)) (kk : ∀ q : Nat, G p l e R s m args below meth c nL D A H0 Q (cells + 1) (slots + N) (ws ++ [(q, .inr (ci, fs))]) lv (pc + 3) (.ref q :: rest)) : G p l e R s m args below meth c nL D A H0 Q cells slots ws lv pc rest := fun H locs ls hP hD hS hl => va_new X.1 X.2.1 X.2.2.2.2.1 hin ty0 hty X.2.2.2.1 (X.2.2.2.2.1 _ h1) (X.2.2.2.2.1 _ h2) (X.2.2.2.2.1 _ h3) X.2.2.2.2.2.1.1 hP hD hS X.2.2.2.2.2.2 hc hfs hcells hslots hdg (fun q H1 hP1 hD1 hS1 => kk q H1 locs ls hP1 hD1 hS1 hl)
theorem g_newaI (X : Cx p s m args c own cc nL D tys A H0) {cA : ClassId} {n : Nat} (t0 : Nat) (ht : tys[t0]? = some (cA, .int)) (h1 : Cond.arrayClass .int ∈ TB) (hn : n < 2 ^ 20) (hcells : cells + 1 ≤ R.cells) (hslots : slots + n ≤ R.slots) (hdg : decode cc pc = .ok (.newarray .int, 2)) (kk : ∀ q : Nat, G p l e R s m args below meth c nL D A H0 Q (cells + 1) (slots + n) (ws ++ [(q, .inl (cA, n, .inl (fun _ => 0)))]) lv (pc + 2) (.ref q :: rest)) : G p l e R s m args below meth c nL D A H0 Q cells slots ws lv pc (.int (nI n) :: rest) := by
  intro H locs ls hP hD hS hl
  refine va_newa (atype := .int) (N' := n) (a0 := (n, .inl (fun _ => 0))) (ty := .int) X.1 X.2.1 (X.2.2.2.2.1 _ h1) rfl X.2.2.2.2.2.1.1 hP hD hS X.2.2.2.2.2.2 (fun _ => rfl) (nI_pos (by omega)) (nI_clamp (by omega)) (by show n * 4 ≤ 536870912; omega) hcells hslots hdg (fun q cB H1 hK1 hP1 hD1 hS1 => ?_)
  have e1 := (hK1.2 tys.length (cB, .int) (by simp)).2
  have e2 := (X.2.2.2.2.2.1.1.2 t0 (cA, .int) ht).2
  have e : cB = cA := Option.some.inj (e1.symm.trans e2)
  subst e
  exact kk q H1 locs ls hP1 hD1 hS1 hl
theorem g_newaJ (X : Cx p s m args c own cc nL D tys A H0) {cA : ClassId} {n : Nat} (t0 : Nat) (ht : tys[t0]? = some (cA, .long)) (h1 : Cond.arrayClass .long ∈ TB) (hn : n < 2 ^ 20) (hcells : cells + 1 ≤ R.cells) (hslots : slots + n ≤ R.slots) (hdg : decode cc pc = .ok (.newarray .long, 2)) (kk : ∀ q : Nat, G p l e R s m args below meth c nL D A H0 Q (cells + 1) (slots + n) (ws ++ [(q, .inl (cA, n, .inr (.inl (fun _ => 0))))]) lv (pc + 2) (.ref q :: rest)) : G p l e R s m args below meth c nL D A H0 Q cells slots ws lv pc (.int (nI n) :: rest) := by
  intro H locs ls hP hD hS hl
  refine va_newa (atype := .long) (N' := n) (a0 := (n, .inr (.inl (fun _ => 0)))) (ty := .long) X.1 X.2.1 (X.2.2.2.2.1 _ h1) rfl X.2.2.2.2.2.1.1 hP hD hS X.2.2.2.2.2.2 (fun _ => rfl) (nI_pos (by omega)) (nI_clamp (by omega)) (by show n * 8 ≤ 536870912; omega) hcells hslots hdg (fun q cB H1 hK1 hP1 hD1 hS1 => ?_)
  have e1 := (hK1.2 tys.length (cB, .long) (by simp)).2
  have e2 := (X.2.2.2.2.2.1.1.2 t0 (cA, .long) ht).2
  have e : cB = cA := Option.some.inj (e1.symm.trans e2)
  subst e
  exact kk q H1 locs ls hP1 hD1 hS1 hl
theorem g_newaZ (X : Cx p s m args c own cc nL D tys A H0) {cA : ClassId} {n : Nat} (t0 : Nat) (ht : tys[t0]? = some (cA, .boolean)) (h1 : Cond.arrayClass .boolean ∈ TB) (hn : n < 2 ^ 20) (hcells : cells + 1 ≤ R.cells) (hslots : slots + n ≤ R.slots) (hdg : decode cc pc = .ok (.newarray .boolean, 2)) (kk : ∀ q : Nat, G p l e R s m args below meth c nL D A H0 Q (cells + 1) (slots + n) (ws ++ [(q, .inl (cA, n, .inl (fun _ => 0)))]) lv (pc + 2) (.ref q :: rest)) : G p l e R s m args below meth c nL D A H0 Q cells slots ws lv pc (.int (nI n) :: rest) := by
  intro H locs ls hP hD hS hl
  refine va_newa (atype := .boolean) (N' := n) (a0 := (n, .inl (fun _ => 0))) (ty := .boolean) X.1 X.2.1 (X.2.2.2.2.1 _ h1) rfl X.2.2.2.2.2.1.1 hP hD hS X.2.2.2.2.2.2 (fun _ => rfl) (nI_pos (by omega)) (nI_clamp (by omega)) (by show n * 1 ≤ 536870912; omega) hcells hslots hdg (fun q cB H1 hK1 hP1 hD1 hS1 => ?_)
  have e1 := (hK1.2 tys.length (cB, .boolean) (by simp)).2
  have e2 := (X.2.2.2.2.2.1.1.2 t0 (cA, .boolean) ht).2
  have e : cB = cA := Option.some.inj (e1.symm.trans e2)
  subst e
  exact kk q H1 locs ls hP1 hD1 hS1 hl
theorem g_mmax (X : Cx p s m args c own cc nL D tys A H0) {index : Nat} {x y : Int32} (v : Int32) (hv : (if x < y then y else x) = v) (h1 : Cond.methodLink own index Lib.Math.max.name ∈ TB) (h2 : Cond.static Lib.Math.max.name ∈ TB) (h3 : Cond.initialized "java/lang/Math" ∈ TB) (h4 : Cond.code Lib.Math.max.name Lib.Math.max.code 2 (some .int) ∈ TB) (hf : 1 ≤ R.frames) (hlo : (rest.map fun v => v.category).sum + 13 ≤ R.locals) (hc : cells ≤ R.cells) (hs : slots ≤ R.slots) (hdg : decode cc pc = .ok (.invokestatic index, 3)) (kk : G p l e R s m args below meth c nL D A H0 Q cells slots ws lv (pc + 3) (.int v :: rest)) : G p l e R s m args below meth c nL D A H0 Q cells slots ws lv pc (.int y :: .int x :: rest) := by
  subst hv
  exact fun H locs ls hP hD hS hl => va_mmax X.1 X.2.1 (X.2.2.1.trans hl.1.symm) X.2.2.2.1 (X.2.2.2.2.1 _ h1) (X.2.2.2.2.1 _ h2) (X.2.2.2.2.1 _ h3) (X.2.2.2.2.1 _ h4) hf hlo hc hs hdg (kk H locs ls hP hD hS hl)
theorem g_mmin (X : Cx p s m args c own cc nL D tys A H0) {index : Nat} {x y : Int32} (v : Int32) (hv : (if y < x then y else x) = v) (h1 : Cond.methodLink own index Lib.Math.min.name ∈ TB) (h2 : Cond.static Lib.Math.min.name ∈ TB) (h3 : Cond.initialized "java/lang/Math" ∈ TB) (h4 : Cond.code Lib.Math.min.name Lib.Math.min.code 2 (some .int) ∈ TB) (hf : 1 ≤ R.frames) (hlo : (rest.map fun v => v.category).sum + 13 ≤ R.locals) (hc : cells ≤ R.cells) (hs : slots ≤ R.slots) (hdg : decode cc pc = .ok (.invokestatic index, 3)) (kk : G p l e R s m args below meth c nL D A H0 Q cells slots ws lv (pc + 3) (.int v :: rest)) : G p l e R s m args below meth c nL D A H0 Q cells slots ws lv pc (.int y :: .int x :: rest) := by
  subst hv
  exact fun H locs ls hP hD hS hl => va_mmin X.1 X.2.1 (X.2.2.1.trans hl.1.symm) X.2.2.2.1 (X.2.2.2.2.1 _ h1) (X.2.2.2.2.1 _ h2) (X.2.2.2.2.1 _ h3) (X.2.2.2.2.1 _ h4) hf hlo hc hs hdg (kk H locs ls hP hD hS hl)
theorem g_newq (X : Cx p s m args c own cc nL D tys A H0) {cA : ClassId} {C : String} {n index : Nat} (t0 : Nat) (ht : tys[t0]? = some (cA, .object C)) (h1 : Cond.classLink own index C ∈ TB) (h2 : va_AO C s) (hn : n < 2 ^ 20) (hcells : cells + 1 ≤ R.cells) (hslots : slots + n ≤ R.slots) (hdg : decode cc pc = .ok (.anewarray index, 3)) (kk : ∀ q : Nat, G p l e R s m args below meth c nL D A H0 Q (cells + 1) (slots + n) (ws ++ [(q, .inl (cA, n, .inr (.inr (.inr (.inr (fun _ => none))))))]) lv (pc + 3) (.ref q :: rest)) : G p l e R s m args below meth c nL D A H0 Q cells slots ws lv pc (.int (nI n) :: rest) := by
  intro H locs ls hP hD hS hl
  refine va_newq (N' := n) X.1 X.2.1 X.2.2.2.1 (X.2.2.2.2.1 _ h1) h2 X.2.2.2.2.2.1.1 hP hD hS X.2.2.2.2.2.2 (nI_pos (by omega)) (nI_clamp (by omega)) (by omega) hcells hslots hdg (fun q cB H1 hK1 hP1 hD1 hS1 => ?_)
  obtain ⟨k1, c1, -, -, -, e1⟩ := (hK1.2 tys.length (cB, .object C) (by simp)).2
  obtain ⟨k2, c2, -, -, -, e2⟩ := (X.2.2.2.2.2.1.1.2 t0 (cA, .object C) ht).2
  have e : cB = cA := Option.some.inj (e1.symm.trans e2)
  subst e
  exact kk q H1 locs ls hP1 hD1 hS1 hl
theorem g_aldq (X : Cx p s m args c own cc nL D tys A H0) {a n j : Nat} (q0 t0 : Nat) {cA : ClassId} {C : String} {f : Nat → Option Nat} (ha : ws[q0]? = some (a, .inl (cA, n, .inr (.inr (.inr (.inr f)))))) (ht : tys[t0]? = some (cA, .object C)) (hj : j < n) (hn : n < 2 ^ 31) (hdg : decode cc pc = .ok (.aaload, 1)) (kk : G p l e R s m args below meth c nL D A H0 Q cells slots ws lv (pc + 1) (va_rf (f j) :: rest)) : G p l e R s m args below meth c nL D A H0 Q cells slots ws lv pc (.int (nI j) :: .ref a :: rest) := by
  intro H locs ls hP hD hS hl
  refine va_aldq X.1 X.2.1 X.2.2.2.2.2.1.1 hP q0 t0 ha ht (vp_in_nI hj hn) hdg ?_
  rw [nI_clamp (by omega)]
  exact kk H locs ls hP hD hS hl
theorem g_astq (X : Cx p s m args c own cc nL D tys A H0) {a n j v ci : Nat} (q0 t0 qk : Nat) {cA : ClassId} {r : vw_C} {vs : List Value} {f : Nat → Option Nat} (ws' : va_W) (ha : ws[q0]? = some (a, .inl (cA, n, .inr (.inr (.inr (.inr f)))))) (ht : tys[t0]? = some (cA, .object r.1)) (hv : ws[qk]? = some (v, .inr (ci, vs))) (hc : cls9[ci]? = some r) (hj : j < n) (hn : n < 2 ^ 31) (hw : ws.set q0 (a, .inl (cA, n, .inr (.inr (.inr (.inr (va_up f j (some v))))))) = ws') (hdg : decode cc pc = .ok (.aastore, 1)) (kk : G p l e R s m args below meth c nL D A H0 Q cells slots ws' lv (pc + 1) rest) : G p l e R s m args below meth c nL D A H0 Q cells slots ws lv pc (.ref v :: .int (nI j) :: .ref a :: rest) := by
  subst hw
  intro H locs ls hP hD hS hl
  refine va_astq X.1 X.2.1 X.2.2.2.2.2.1.1 hP hD hS q0 t0 qk ci ha ht hv hc (vp_in_nI hj hn) hdg (fun H1 locs1 hP1 hD1 hS1 => ?_)
  rw [nI_clamp (by omega)] at hP1 hD1
  exact kk H1 locs1 ls hP1 hD1 hS1 hl
theorem g_ifnull (X : Cx p s m args c own cc nL D tys A H0) {x : Nat} {off : Int} (hdg : decode cc pc = .ok (.ifnull off, 3)) (kk : G p l e R s m args below meth c nL D A H0 Q cells slots ws lv (pc + 3) rest) : G p l e R s m args below meth c nL D A H0 Q cells slots ws lv pc (.ref x :: rest) := fun H locs ls hP hD hS hl => lv_ifnull X.1 X.2.1 hdg (kk H locs ls hP hD hS hl)
theorem g_ifnonnull (X : Cx p s m args c own cc nL D tys A H0) {x : Nat} {off : Int} (tgt : Nat) (hdg : decode cc pc = .ok (.ifnonnull off, 3)) (ht : (pc : Int) + off = (tgt : Int)) (kk : G p l e R s m args below meth c nL D A H0 Q cells slots ws lv tgt rest) : G p l e R s m args below meth c nL D A H0 Q cells slots ws lv pc (.ref x :: rest) := fun H locs ls hP hD hS hl => lv_ifnonnull X.1 X.2.1 hdg ht (kk H locs ls hP hD hS hl)
theorem g_ifnullN (X : Cx p s m args c own cc nL D tys A H0) {off : Int} (tgt : Nat) (hdg : decode cc pc = .ok (.ifnull off, 3)) (ht : (pc : Int) + off = (tgt : Int)) (kk : G p l e R s m args below meth c nL D A H0 Q cells slots ws lv tgt rest) : G p l e R s m args below meth c nL D A H0 Q cells slots ws lv pc (.null :: rest) := fun H locs ls hP hD hS hl => lv_ifnullN X.1 X.2.1 hdg ht (kk H locs ls hP hD hS hl)
theorem g_ifnonnullN (X : Cx p s m args c own cc nL D tys A H0) {off : Int} (hdg : decode cc pc = .ok (.ifnonnull off, 3)) (kk : G p l e R s m args below meth c nL D A H0 Q cells slots ws lv (pc + 3) rest) : G p l e R s m args below meth c nL D A H0 Q cells slots ws lv pc (.null :: rest) := fun H locs ls hP hD hS hl => lv_ifnonnullN X.1 X.2.1 hdg (kk H locs ls hP hD hS hl)
theorem g_astoreN (X : Cx p s m args c own cc nL D tys A H0) {i : Nat} (lv' : List (Nat × Value)) (hdg : decode cc pc = .ok (.astore i, 2)) (hn : i < nL) (hl' : (i, Value.null) :: lv.filter (fun q => !(q.1 == i) && !(q.1 + 1 == i && q.2.category == 2)) = lv') (kk : G p l e R s m args below meth c nL D A H0 Q cells slots ws lv' (pc + 2) rest) : G p l e R s m args below meth c nL D A H0 Q cells slots ws lv pc (.null :: rest) := fun H locs ls hP hD hS hl => lv_astoreN X.1 X.2.1 hdg hl hn hl' (fun ls hl => kk H locs ls hP hD hS hl)
theorem g_aloadN (X : Cx p s m args c own cc nL D tys A H0) (i : Nat) (hdg : decode cc pc = .ok (.aload i, 2)) (hv : lvq lv i = some .null) (kk : G p l e R s m args below meth c nL D A H0 Q cells slots ws lv (pc + 2) (.null :: rest)) : G p l e R s m args below meth c nL D A H0 Q cells slots ws lv pc rest := fun H locs ls hP hD hS hl => lv_aloadN X.1 X.2.1 hdg (lvq_has hl hv) (kk H locs ls hP hD hS hl)
theorem g_tswIn (X : Cx p s m args c own cc nL D tys A H0) {dflt lo hi : Int} {offs : Array Int} {len k : Nat} {off : Int} (tgt : Nat) (hdg : decode cc pc = .ok (.tableswitch dflt lo hi offs, len)) (hk : k < 2 ^ 31) (h1 : ¬ (k : Int) < lo) (h2 : ¬ hi < (k : Int)) (ho : offs[((k : Int) - lo).toNat]? = some off) (ht : (pc : Int) + off = (tgt : Int)) (kk : G p l e R s m args below meth c nL D A H0 Q cells slots ws lv tgt rest) : G p l e R s m args below meth c nL D A H0 Q cells slots ws lv pc (.int (nI k) :: rest) := fun H locs ls hP hD hS hl => lv_tableIn X.1 X.2.1 hdg (by rw [nI_toInt hk]; exact h1) (by rw [nI_toInt hk]; exact h2) (by rw [nI_toInt hk]; exact ho) ht (kk H locs ls hP hD hS hl)
theorem g_tswOut (X : Cx p s m args c own cc nL D tys A H0) {dflt lo hi : Int} {offs : Array Int} {len : Nat} {x : Int32} (tgt : Nat) (hdg : decode cc pc = .ok (.tableswitch dflt lo hi offs, len)) (h : x.toInt < lo ∨ hi < x.toInt) (ht : (pc : Int) + dflt = (tgt : Int)) (kk : G p l e R s m args below meth c nL D A H0 Q cells slots ws lv tgt rest) : G p l e R s m args below meth c nL D A H0 Q cells slots ws lv pc (.int x :: rest) := fun H locs ls hP hD hS hl => lv_tableOut X.1 X.2.1 hdg h ht (kk H locs ls hP hD hS hl)
end GC
