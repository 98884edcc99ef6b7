/-! throwing and catching, in terms of worlds -/
def xIO : String := "java/lang/IndexOutOfBoundsException"
def xIS : String := "java/lang/IllegalStateException"
def nms : List String := ["java/lang/RuntimeException", "java/lang/Exception"]
def strs : List (Nat × String) := [(53, "there are 48 contexts"), (67, "no such kind"), (73, "there were 200 relations"), (97, "no such relation"), (110, "a link has an upper one, 0, and a lower one, 1"), (112, "no such link"), (126, "there are twelve groups"), (130, "no such group"), (142, "there are eight versions"), (151, "no such version"), (170, "nothing to count"), (172, "no such context"), (174, "no such place")]
def XS (U : State) : Prop := (∀ q ∈ strs, ∃ sa, vk_R R_RO q.1 q.2 sa U) ∧ va_Nw (.declares ⟨"java/lang/RuntimeException", "<init>", "(Ljava/lang/String;)V"⟩) U ∧ va_Nw (.declares ⟨"java/lang/Exception", "<init>", "(Ljava/lang/String;)V"⟩) U ∧ va_Nw (.declares ⟨"java/lang/Throwable", "<init>", "(Ljava/lang/String;)V"⟩) U ∧ va_Nw (.castable xIS xIS) U ∧ va_Nw (.castable xIO xIO) U ∧ va_Nc xIS xIO U
theorem XS.warm {s U : State} (hW : s.WarmedH U.vm) (h : XS s) : XS U := ⟨fun q hq => (h.1 q hq).imp fun _ z => vk_R.warm hW z, va_Nw.warmD hW h.2.1, va_Nw.warmD hW h.2.2.1, va_Nw.warmD hW h.2.2.2.1, va_Nw.warmC hW h.2.2.2.2.1, va_Nw.warmC hW h.2.2.2.2.2.1, va_Nc.moved hW.alike h.2.2.2.2.2.2⟩
theorem XS.same {s U : State} (hv : U.vm = s.vm) (h : XS s) : XS U := ⟨fun q hq => (h.1 q hq).imp fun _ z => vk_R.same hv z, va_Nw.same rfl hv.symm h.2.1, va_Nw.same rfl hv.symm h.2.2.1, va_Nw.same rfl hv.symm h.2.2.2.1, va_Nw.same rfl hv.symm h.2.2.2.2.1, va_Nw.same rfl hv.symm h.2.2.2.2.2.1, va_Nc.moved (by rw [hv]; exact Vm.Alike.refl _) h.2.2.2.2.2.2⟩
def XZ (A : Nat → Prop) (U : State) : Prop := vx_Zq Bundle.tN "UNASSIGNED_STACK" Bundle.steD A U U.heap ∧ vx_Zq Bundle.tN "SUPPRESSED_SENTINEL" Bundle.listD A U U.heap ∧ XS U
theorem XZ.into {A B : Nat → Prop} {s U : State} {H : Heap} {locs : List Loc} (h : XZ A s) (hS : va_S A s.heap H locs) (hU : U.heap = H) (hW : s.WarmedH U.vm) (hAB : ∀ q, B q → A q) : XZ B U := by
  subst hU
  exact ⟨((h.1.kept hS.2.1).moved hW.alike).narrow hAB, ((h.2.1.kept hS.2.1).moved hW.alike).narrow hAB, XS.warm hW h.2.2⟩
section GX
variable {p : Program} {l : Launch} {e : Env} {R : Room} {s : State} {m : MethodId} {args : Array Value} {below : List Frame} {meth : Method} {c : Code} {cells slots : Nat} {Q : State → Prop}
variable {own : String} {cc : ByteArray} {nL : Nat} {D : va_G} {tys : List (ClassId × FieldType)} {A : Nat → Prop} {H0 : Heap}
variable {ws ws' : va_W} {lv lv' : List (Nat × Value)} {pc : Nat} {rest st : List Value}
variable {y : MethodName} {bytes : ByteArray} {maxL mc ms n index : Nat} {ret : Option FieldType} {wy : List Cond} {rm : Room} {C E : String} {b : Nat} {As av : List Value} {wc wr : va_W} {S : Type} {hh : List (Nat × Nat × Nat × Nat)}
def PreX (D : va_G) (tys : List (ClassId × FieldType)) (wc : va_W) (sz : Nat) (U : State) : Prop := Pre D tys wc sz U ∧ XZ (va_A wc sz) U
theorem PreX.blind (sz : Nat) : FrameBlind (va_Pc av (PreX D tys wc sz)) := fun a U g mk q => by
  obtain ⟨q0, ⟨q1, qP, qK, qD⟩, qZ⟩ := q
  exact ⟨q0, ⟨q1, qP, KK.same rfl qK, qD⟩, vx_Zq.moved (u := U) (Vm.Alike.refl _) qZ.1, vx_Zq.moved (u := U) (Vm.Alike.refl _) qZ.2.1, XS.same (s := U) rfl qZ.2.2⟩
def XCo (D : va_G) (wc : va_W) (sz : Nat) (E : String) : String → State → State → Prop := vx_X (S := Unit) (fun _ => True) (fun E9 _ t => E9 = E ∧ va_P D cls9 wc t.heap ∧ va_D (va_A wc sz) wc) (va_A wc sz)
def QF : Array Value → State → Outcome → State → Prop := fun _ _ _ _ => False
def CtX (l : Launch) (y : MethodName) (wy : List Cond) (rm : Room) (D : va_G) (tys : List (ClassId × FieldType)) (av : List Value) (wc : va_W) (mc ms : Nat) (E : String) : Prop :=
  l.stackTraces = false → ∀ sz : Nat, vx_Met l y wy rm (va_Pc av (PreX D tys wc sz)) QF (XCo D wc sz E) mc ms (va_A wc sz)
def Hx (l : Launch) (A : Nat → Prop) (s : State) (c : Code) (meth : Method) (tb : List ExceptionTableEntry) : Prop := l.stackTraces = false ∧ XZ A s ∧ c.exceptionTable.toList = tb ∧ meth.locks = false
theorem CtX.of (cc : ByteArray) (maxL : Nat) (ret : Option FieldType) (hy : plainName y.cls = true) (hw : wy = Cond.code y cc maxL ret :: TB) (hlen : (lg_sl av).length ≤ maxL)
    (body : ∀ (p : Program) (e : Env) (s : State) (m : MethodId) (args : Array Value) (below : List Frame) (meth : Method) (c : Code) (A : Nat → Prop) (Q : State → Prop), A = va_A wc s.heap.size → Q = vx_MQ below QF (XCo D wc s.heap.size E) args s mc ms (va_A wc s.heap.size) → Cx p s m args c y.cls cc maxL D tys A s.heap → Hx l A s c meth [] →
      G p l e rm s m args below meth c maxL D A s.heap Q 0 0 wc (lv_args 0 av) 0 []) : CtX l y wy rm D tys av wc mc ms E := by
  intro hl9 sz
  refine vx_ofW (cc := cc) (maxL := maxL) (ret := ret) hy hw ?_
  intro p e s m args below meth c s₁ B hml htab hv
  obtain ⟨rfl, ⟨hsz, hP, hK, hD0⟩, hZ⟩ := hv
  have hts0 := atoms_spec (ws := wy) B.pre
  have hts : ∀ w ∈ TB, w.before av.toArray s = true := fun w h => hts0 w (by rw [hw]; exact List.mem_cons_of_mem _ h)
  have hown : s.vm.findClass y.cls = some m.cls := findClass_of_methodNamed B.named
  subst hsz
  have hD := hD0.self (sz := s.heap.size)
  have hA : ∀ q : Nat, s.heap.size ≤ q → va_A wc s.heap.size q := fun q h => Or.inr h
  have hl := lv_entry av (n := maxL) hlen
  have ht0 : c.exceptionTable.toList = [] := List.eq_nil_iff_forall_not_mem.mpr (fun x hx => htab x hx)
  rw [lg_entry_eq]
  exact body p e s m _ below meth c _ _ rfl rfl ⟨B.exec, B.bytes, hml, hown, hts, hK, hA⟩ ⟨hl9, hZ, ht0, B.notSynchronized⟩ s.heap [] _ hP hD va_S.rf hl
def GX (p : Program) (l : Launch) (e : Env) (R : Room) (s : State) (m : MethodId) (args : Array Value) (below : List Frame) (meth : Method) (c : Code) (nL : Nat) (D : va_G) (A : Nat → Prop) (H0 : Heap) (Q : State → Prop) (cells slots : Nat) (ws : va_W) (lv : List (Nat × Value)) (pc : Nat) (st : List Value) (E : String) : Prop :=
  ∀ (H : Heap) (locs : List Loc) (ls : Array Slot) (q9 : Addr) (ce : Cell), va_P D cls9 ws H → va_D A ws → va_S A H0 H locs → lv_has ls nL lv → H[q9]? = some ce → ce.vm = .none → s.vm.findClass E = some ce.cls → vx_W p l e R s m args below meth c H locs cells slots Q (F0 m pc ls st) q9
theorem gx_out (X : Cx p s m args c own cc nL D tys A s.heap) (hx : Hx l A s c meth []) (hA : A = va_A wc s.heap.size) (hQ : Q = vx_MQ below QF (XCo D wc s.heap.size E) args s mc ms (va_A wc s.heap.size)) (is : List Nat) (hn : va_nd is = true) (hs : is.map (fun i => ws[i]?) = wc.map some) (hc : cells ≤ mc) (hsl : slots ≤ ms) : GX p l e R s m args below meth c nL D A s.heap Q cells slots ws lv pc rest E := by
  subst hA
  subst hQ
  intro H locs ls q9 ce hP hD hS hl hcell hv hcl
  refine vx_out (fun x h => ?_) hx.2.2.2 hcell hv hcl (fun t ht _ => ⟨(), trivial, ⟨rfl, by rw [ht]; exact (hP.sub is (by rw [← filterMap_of_map _ _ hs, List.filterMap_map]; rfl)), hD.sub is hn hs⟩, hS.F ht⟩) hS.2.2 hc hsl
  rw [hx.2.2.1] at h
  cases h
theorem gx_catch (X : Cx p s m args c own cc nL D tys A H0) {tb : List ExceptionTableEntry} (hx : Hx l A s c meth tb) {name : String} (pre : List ExceptionTableEntry) (x : ExceptionTableEntry) (suf : List ExceptionTableEntry) (hsplit : tb = pre ++ x :: suf)
    (hpass : ∀ z ∈ pre, covers z pc = false ∨ (z.catchType ≠ 0 ∧ ∃ nm : String, Cond.classLink own z.catchType nm ∈ TB ∧ va_Nc E nm s)) (hcov : covers x pc = true) (h0 : x.catchType ≠ 0) (hlink : Cond.classLink own x.catchType name ∈ TB) (hcast : (Cond.castable E name).before args s = true)
    (kk : ∀ q9 : Nat, G p l e R s m args below meth c nL D A H0 Q cells slots ws lv x.handlerPc [.ref q9]) : GX p l e R s m args below meth c nL D A H0 Q cells slots ws lv pc rest E := by
  intro H locs ls q9 ce hP hD hS hl hcell hv hcl
  refine vx_catch X.2.2.2.1 pre x suf (hx.2.2.1.trans hsplit) (fun z hz => ?_) hcov h0 (X.2.2.2.2.1 _ hlink) hcast hcell hv hcl (kk q9 H locs ls hP hD hS hl)
  rcases hpass z hz with h | ⟨h1, nm, h2, h3⟩
  · exact Or.inl h
  · exact Or.inr ⟨h1, nm, X.2.2.2.2.1 _ h2, h3⟩
def atIO : List Cond := vx_atS R_RO 69 xIO nms
theorem atIO_p : atIO = ([35, 251, 260, 263, 266, 268, 252, 253, 48, 49, 254, 259, 264, 284, 241, 285, 243, 286, 245, 255, 257, 247, 280, 281, 283, 247, 327, 328, 329, 274, 233, 274, 275, 276, 277, 235, 277, 278, 279, 280, 237, 326, 317, 318, 319, 262, 320, 321, 322, 323, 250, 249, 324] : List Nat).filterMap (fun i => lw_tbl[i]?) := by decide +kernel
theorem atIO_b : ∀ w ∈ atIO.filter (fun w => !goodWord w), w ∈ ([.declares ⟨"java/lang/RuntimeException", "<init>", "(Ljava/lang/String;)V"⟩, .declares ⟨"java/lang/Exception", "<init>", "(Ljava/lang/String;)V"⟩, .declares ⟨"java/lang/Throwable", "<init>", "(Ljava/lang/String;)V"⟩, .castable xIO xIO] : List Cond) := by decide +kernel
theorem atIO_ot : ∀ w ∈ Cond.classLink R_RO 65 xIO :: Cond.initialized xIO :: atIO, vx_ot w = true := by decide +kernel
theorem atIO_ok {args : Array Value} {s : State} (ht : ∀ w ∈ TB, w.before args s = true) (h : XS s) : ∀ w ∈ atIO, w.before args s = true := by
  refine vx_hat (B := [.declares ⟨"java/lang/RuntimeException", "<init>", "(Ljava/lang/String;)V"⟩, .declares ⟨"java/lang/Exception", "<init>", "(Ljava/lang/String;)V"⟩, .declares ⟨"java/lang/Throwable", "<init>", "(Ljava/lang/String;)V"⟩, .castable xIO xIO]) (fun w hw => ?_) atIO_b (vx_c (va_Nw.use rfl h.2.1) (vx_c (va_Nw.use rfl h.2.2.1) (vx_c (va_Nw.use rfl h.2.2.2.1) (vx_c (va_Nw.use rfl h.2.2.2.2.2.1) vx_n))))
  obtain ⟨h1, h2⟩ := List.mem_filter.mp hw
  rw [atIO_p] at h1
  obtain ⟨i, -, hi⟩ := List.mem_filterMap.mp h1
  exact ht w (List.mem_filter.mpr ⟨List.mem_of_getElem? hi, h2⟩)
theorem g_throwIO (X : Cx p s m args c R_RO cc nL D tys A s.heap) (hx : Hx l A s c meth []) (hA : A = va_A wc s.heap.size) (hQ : Q = vx_MQ below QF (XCo D wc s.heap.size xIO) args s mc ms (va_A wc s.heap.size)) (is : List Nat) (hn : va_nd is = true) (hs : is.map (fun i => ws[i]?) = wc.map some) {k9 : Nat} {text : String} (hstr : (k9, text) ∈ strs) (h1 : Cond.classLink R_RO 65 xIO ∈ TB) (h2 : Cond.initialized xIO ∈ TB)
    (d0 : decode cc pc = .ok (.new 65, 3)) (d3 : decode cc (pc + 3) = .ok (.dup, 1)) (d4 : decode cc (pc + 4) = .ok (.ldc k9, 2)) (d6 : decode cc (pc + 6) = .ok (.invokespecial 69, 3)) (d9 : decode cc (pc + 9) = .ok (.athrow, 1)) (hRf : 5 < R.frames) (hRl : (rest.map fun v => v.category).sum + 82 ≤ R.locals) (hRc : cells + 1 ≤ R.cells) (hRs : slots + 6 ≤ R.slots) (hmc : cells + 1 ≤ mc) (hms : slots + 6 ≤ ms) : G p l e R s m args below meth c nL D A s.heap Q cells slots ws lv pc rest := by
  subst hA
  subst hQ
  intro H locs ls hP hD hS hl
  obtain ⟨sa, hsa⟩ := hx.2.1.2.2.1 _ hstr
  refine vx_throwS X.1 X.2.1 hx.1 (own := R_RO) (cls := xIO) (names := nms) (text := text) (sa := sa) X.2.2.2.1 (by decide +kernel) (by decide +kernel) (X.2.2.2.2.1 _ h1) (X.2.2.2.2.1 _ h2) hsa (atIO_ok X.2.2.2.2.1 hx.2.1.2.2) atIO_ot hx.2.1.1 hx.2.1.2.1 hS (hl.1.trans X.2.2.1.symm) d0 d3 d4 d6 d9 (fun x h => ?_) hRf hRl hRc hRs hx.2.2.2 (fun t hvm hz hk => ⟨(), trivial, ⟨rfl, ?_, hD.sub is hn hs⟩, Nat.le_trans hS.1 hz, fun q h1 h2 => (hk q (Nat.lt_of_lt_of_le h1 hS.1)).trans (hS.2.1 q h1 h2)⟩) hS.2.2 hmc hms
  · rw [hx.2.2.1] at h
    cases h
  · exact (hP.sub is (by rw [← filterMap_of_map _ _ hs, List.filterMap_map]; rfl)).kept (fun k q hq => hk q.1 ((hP.sub is (by rw [← filterMap_of_map _ _ hs, List.filterMap_map]; rfl)) k q hq).lt)
def atIS : List Cond := vx_atS R_RO 55 xIS nms
theorem atIS_p : atIS = ([35, 251, 260, 263, 266, 268, 252, 253, 48, 49, 254, 259, 264, 284, 241, 285, 243, 286, 245, 255, 257, 247, 280, 281, 283, 247, 271, 272, 273, 274, 233, 274, 275, 276, 277, 235, 277, 278, 279, 280, 237, 270, 230, 231, 238, 239, 240, 242, 244, 246, 250, 249, 248] : List Nat).filterMap (fun i => lw_tbl[i]?) := by decide +kernel
theorem atIS_b : ∀ w ∈ atIS.filter (fun w => !goodWord w), w ∈ ([.declares ⟨"java/lang/RuntimeException", "<init>", "(Ljava/lang/String;)V"⟩, .declares ⟨"java/lang/Exception", "<init>", "(Ljava/lang/String;)V"⟩, .declares ⟨"java/lang/Throwable", "<init>", "(Ljava/lang/String;)V"⟩, .castable xIS xIS] : List Cond) := by decide +kernel
theorem atIS_ot : ∀ w ∈ Cond.classLink R_RO 51 xIS :: Cond.initialized xIS :: atIS, vx_ot w = true := by decide +kernel
theorem atIS_ok {args : Array Value} {s : State} (ht : ∀ w ∈ TB, w.before args s = true) (h : XS s) : ∀ w ∈ atIS, w.before args s = true := by
  refine vx_hat (B := [.declares ⟨"java/lang/RuntimeException", "<init>", "(Ljava/lang/String;)V"⟩, .declares ⟨"java/lang/Exception", "<init>", "(Ljava/lang/String;)V"⟩, .declares ⟨"java/lang/Throwable", "<init>", "(Ljava/lang/String;)V"⟩, .castable xIS xIS]) (fun w hw => ?_) atIS_b (vx_c (va_Nw.use rfl h.2.1) (vx_c (va_Nw.use rfl h.2.2.1) (vx_c (va_Nw.use rfl h.2.2.2.1) (vx_c (va_Nw.use rfl h.2.2.2.2.1) vx_n))))
  obtain ⟨h1, h2⟩ := List.mem_filter.mp hw
  rw [atIS_p] at h1
  obtain ⟨i, -, hi⟩ := List.mem_filterMap.mp h1
  exact ht w (List.mem_filter.mpr ⟨List.mem_of_getElem? hi, h2⟩)
theorem g_throwIS (X : Cx p s m args c R_RO cc nL D tys A s.heap) (hx : Hx l A s c meth []) (hA : A = va_A wc s.heap.size) (hQ : Q = vx_MQ below QF (XCo D wc s.heap.size xIS) args s mc ms (va_A wc s.heap.size)) (is : List Nat) (hn : va_nd is = true) (hs : is.map (fun i => ws[i]?) = wc.map some) {k9 : Nat} {text : String} (hstr : (k9, text) ∈ strs) (h1 : Cond.classLink R_RO 51 xIS ∈ TB) (h2 : Cond.initialized xIS ∈ TB)
    (d0 : decode cc pc = .ok (.new 51, 3)) (d3 : decode cc (pc + 3) = .ok (.dup, 1)) (d4 : decode cc (pc + 4) = .ok (.ldc k9, 2)) (d6 : decode cc (pc + 6) = .ok (.invokespecial 55, 3)) (d9 : decode cc (pc + 9) = .ok (.athrow, 1)) (hRf : 5 < R.frames) (hRl : (rest.map fun v => v.category).sum + 82 ≤ R.locals) (hRc : cells + 1 ≤ R.cells) (hRs : slots + 6 ≤ R.slots) (hmc : cells + 1 ≤ mc) (hms : slots + 6 ≤ ms) : G p l e R s m args below meth c nL D A s.heap Q cells slots ws lv pc rest := by
  subst hA
  subst hQ
  intro H locs ls hP hD hS hl
  obtain ⟨sa, hsa⟩ := hx.2.1.2.2.1 _ hstr
  refine vx_throwS X.1 X.2.1 hx.1 (own := R_RO) (cls := xIS) (names := nms) (text := text) (sa := sa) X.2.2.2.1 (by decide +kernel) (by decide +kernel) (X.2.2.2.2.1 _ h1) (X.2.2.2.2.1 _ h2) hsa (atIS_ok X.2.2.2.2.1 hx.2.1.2.2) atIS_ot hx.2.1.1 hx.2.1.2.1 hS (hl.1.trans X.2.2.1.symm) d0 d3 d4 d6 d9 (fun x h => ?_) hRf hRl hRc hRs hx.2.2.2 (fun t hvm hz hk => ⟨(), trivial, ⟨rfl, ?_, hD.sub is hn hs⟩, Nat.le_trans hS.1 hz, fun q h1 h2 => (hk q (Nat.lt_of_lt_of_le h1 hS.1)).trans (hS.2.1 q h1 h2)⟩) hS.2.2 hmc hms
  · rw [hx.2.2.1] at h
    cases h
  · exact (hP.sub is (by rw [← filterMap_of_map _ _ hs, List.filterMap_map]; rfl)).kept (fun k q hq => hk q.1 ((hP.sub is (by rw [← filterMap_of_map _ _ hs, List.filterMap_map]; rfl)) k q hq).lt)
theorem g_callXV (X : Cx p s m args c own cc nL D tys A s.heap) {tb : List ExceptionTableEntry} (hx : Hx l A s c meth tb) (As : List Value) (hM : CtX l y (Cond.code y bytes maxL ret :: TB) rm D tys (.ref b :: As) wc mc ms E) (h1 : Cond.methodLink own index y ∈ TB) (h2 : Cond.instanceMethod y ∈ TB) (h3 : Cond.selects C y y ∈ TB) (h4 : Cond.initialized y.cls ∈ TB) (h5 : Cond.code y bytes maxL ret ∈ TB) (hrc : rm.cells = mc) (hrs : rm.slots = ms) (hd : y.cls ≠ "java/lang/invoke/MethodHandle" ∧ y.cls ≠ "java/lang/invoke/VarHandle" ∧ (parseMethodDescriptor y.desc).map (fun d => d.parameters.length) = some n) (hR : rm.frames + 1 ≤ R.frames ∧ 8 + (maxL + 11) + rm.locals ≤ R.locals) (isC isR : List Nat) (wr : va_W) (hC : isC.map (fun i => ws[i]?) = wc.map some) (hR' : isR.map (fun i => ws[i]?) = wr.map some) (hnC : va_nd isC = true) (hn : va_nd isR = true) (hdis : ∀ i ∈ isR, i ∉ isC) (q0 : Nat) {ci : Nat} {fs : List Value} {T : u_T} {N : Nat} (he : wc[q0]? = some (b, .inr (ci, fs))) (hc : cls9[ci]? = some (C, T, N)) (hlen : As.length = n) (hstk : st = As.reverse ++ .ref b :: rest) (hroom : (rest.map fun v => v.category).sum ≤ 8) (hdg : decode cc pc = .ok (.invokevirtual index, 3)) (hf : cells + mc ≤ R.cells ∧ slots + ms ≤ R.slots)
    (kk : GX p l e R s m args below meth c nL D A s.heap Q (cells + mc) (slots + ms) (wr ++ wc) lv pc rest E) : G p l e R s m args below meth c nL D A s.heap Q cells slots ws lv pc st := by
  intro H locs ls hP hD hS hl
  have hPc : va_P D cls9 wc H := hP.sub isC (by rw [← filterMap_of_map _ _ hC, List.filterMap_map]; rfl)
  have hDc : va_D A wc := hD.sub isC hnC hC
  have hFc := va_free (wc := wc) hD hS X.2.2.2.2.2.2 isC hC
  have hr := vx_runV (C := C) (As := As) (b := b) (rest := rest) ⟨X.1, X.2.1, X.2.2.1, X.2.2.2.1, X.2.2.2.2.1⟩ (hM hx.1 H.size) ⟨callB_of n X.2.2.2.2.1 (goodTB h5) rfl hrc hrs (X.2.2.2.2.1 _ h4) (X.2.2.2.2.1 _ h1) hd hR, X.2.2.2.2.1 _ h2, X.2.2.2.2.1 _ h3⟩ ⟨PreX.blind _, va_recv X.2.2.2.2.2.1.1 hPc hc he, fun U hU hW => ⟨rfl, ⟨by rw [hU], by rw [hU]; exact hPc, KK.warm hW X.2.2.2.2.2.1, hDc.weaken (fun _ _ _ _ => trivial)⟩, XZ.into hx.2.1 hS hU hW hFc⟩⟩ (g := F0 m pc ls st) (locs := locs) (cells := cells) (slots := slots) (e := e) (below := below) (meth := meth) rfl hlen hl.1 hstk (lv_room hroom) hdg hf
  intro T hT X9
  rcases hr T hT X9 with ⟨v, st₀, t, T', L, h0, X', hL, e1, e2, hq, st9⟩ | ⟨q, st₀, t, T', L, E9, ce, h0, X', hL, e1, e2, ⟨u, -, ⟨hE, hP1, hD1⟩, hF⟩, hce, hcv, hcl, st9⟩
  · exact False.elim hq
  · subst hE
    obtain ⟨k1, k2, k3⟩ := vx_keep h0 e1 hS (fun q _ h => hFc q h) hFc hL hF
    rw [← e1] at hP1 hce
    obtain ⟨hP2, hD2⟩ := va_join (wr := wr) (w1 := wc) hP hD isC isR hC hR' hn hdis k2 hFc hP1 hD1
    obtain ⟨t2, a1, b1⟩ := kk T'.heap (locs ++ L) ls q ce hP2 hD2 k3 hl hce hcv hcl T' rfl X'
    exact ⟨t2, st9.trans a1, b1⟩
theorem g_callXS (X : Cx p s m args c own cc nL D tys A s.heap) {tb : List ExceptionTableEntry} (hx : Hx l A s c meth tb) (As : List Value) (hM : CtX l y (Cond.code y bytes maxL ret :: TB) rm D tys (As) wc mc ms E) (h1 : Cond.methodLink own index y ∈ TB) (h2 : Cond.static y ∈ TB) (h4 : Cond.initialized y.cls ∈ TB) (h5 : Cond.code y bytes maxL ret ∈ TB) (hrc : rm.cells = mc) (hrs : rm.slots = ms) (hd : y.cls ≠ "java/lang/invoke/MethodHandle" ∧ y.cls ≠ "java/lang/invoke/VarHandle" ∧ (parseMethodDescriptor y.desc).map (fun d => d.parameters.length) = some n) (hR : rm.frames + 1 ≤ R.frames ∧ 8 + (maxL + 11) + rm.locals ≤ R.locals) (isC isR : List Nat) (wr : va_W) (hC : isC.map (fun i => ws[i]?) = wc.map some) (hR' : isR.map (fun i => ws[i]?) = wr.map some) (hnC : va_nd isC = true) (hn : va_nd isR = true) (hdis : ∀ i ∈ isR, i ∉ isC) (hlen : As.length = n) (hstk : st = As.reverse ++ rest) (hroom : (rest.map fun v => v.category).sum ≤ 8) (hdg : decode cc pc = .ok (.invokestatic index, 3)) (hf : cells + mc ≤ R.cells ∧ slots + ms ≤ R.slots)
    (kk : GX p l e R s m args below meth c nL D A s.heap Q (cells + mc) (slots + ms) (wr ++ wc) lv pc rest E) : G p l e R s m args below meth c nL D A s.heap Q cells slots ws lv pc st := by
  intro H locs ls hP hD hS hl
  have hPc : va_P D cls9 wc H := hP.sub isC (by rw [← filterMap_of_map _ _ hC, List.filterMap_map]; rfl)
  have hDc : va_D A wc := hD.sub isC hnC hC
  have hFc := va_free (wc := wc) hD hS X.2.2.2.2.2.2 isC hC
  have hr := vx_runS (As := As) (rest := rest) ⟨X.1, X.2.1, X.2.2.1, X.2.2.2.1, X.2.2.2.2.1⟩ (hM hx.1 H.size) ⟨callB_of n X.2.2.2.2.1 (goodTB h5) rfl hrc hrs (X.2.2.2.2.1 _ h4) (X.2.2.2.2.1 _ h1) hd hR, X.2.2.2.2.1 _ h2⟩ ⟨PreX.blind _, fun U hU hW => ⟨rfl, ⟨by rw [hU], by rw [hU]; exact hPc, KK.warm hW X.2.2.2.2.2.1, hDc.weaken (fun _ _ _ _ => trivial)⟩, XZ.into hx.2.1 hS hU hW hFc⟩⟩ (g := F0 m pc ls st) (locs := locs) (cells := cells) (slots := slots) (e := e) (below := below) (meth := meth) rfl hlen hl.1 hstk (lv_room hroom) hdg hf
  intro T hT X9
  rcases hr T hT X9 with ⟨v, st₀, t, T', L, h0, X', hL, e1, e2, hq, st9⟩ | ⟨q, st₀, t, T', L, E9, ce, h0, X', hL, e1, e2, ⟨u, -, ⟨hE, hP1, hD1⟩, hF⟩, hce, hcv, hcl, st9⟩
  · exact False.elim hq
  · subst hE
    obtain ⟨k1, k2, k3⟩ := vx_keep h0 e1 hS (fun q _ h => hFc q h) hFc hL hF
    rw [← e1] at hP1 hce
    obtain ⟨hP2, hD2⟩ := va_join (wr := wr) (w1 := wc) hP hD isC isR hC hR' hn hdis k2 hFc hP1 hD1
    obtain ⟨t2, a1, b1⟩ := kk T'.heap (locs ++ L) ls q ce hP2 hD2 k3 hl hce hcv hcl T' rfl X'
    exact ⟨t2, st9.trans a1, b1⟩
def CtH {S : Type} (l : Launch) (y : MethodName) (wy : List Cond) (rm : Room) (D : va_G) (tys : List (ClassId × FieldType)) (av : List Value) (wc : va_W) (mc ms : Nat) (post : Int32 → S → Prop) (w1 : S → va_W) : Prop :=
  l.stackTraces = false → ∀ sz : Nat, Met l y wy rm (va_Pc av (PreX D tys wc sz)) (va_Qi post (Pos D tys wc sz w1) (va_A wc sz)) mc ms (va_A wc sz)
theorem CtH.of {post : Int32 → S → Prop} {w1 : S → va_W} (cc : ByteArray) (maxL : Nat) (ret : Option FieldType) (hh : List (Nat × Nat × Nat × Nat)) (hy : plainName y.cls = true) (hw : wy = Cond.codeWith y cc maxL ret hh :: TB) (hlen : (lg_sl av).length ≤ maxL)
    (body : ∀ (p : Program) (e : Env) (s : State) (m : MethodId) (args : Array Value) (below : List Frame) (meth : Method) (c : Code) (A : Nat → Prop) (Q : State → Prop), A = va_A wc s.heap.size → Q = MQ below (va_Qi post (Pos D tys wc s.heap.size w1) (va_A wc s.heap.size)) args s mc ms (va_A wc s.heap.size) → Cx p s m args c y.cls cc maxL D tys A s.heap → meth.sig.returnType = ret → Hx l A s c meth (tableOf hh) →
      G p l e rm s m args below meth c maxL D A s.heap Q 0 0 wc (lv_args 0 av) 0 []) : CtH l y wy rm D tys av wc mc ms post w1 := by
  intro hl9 sz
  refine va_MetW (cc := cc) (maxL := maxL) (ret := ret) (hh := hh) hy hw ?_
  intro p e s m args below meth c s₁ B hml hv
  obtain ⟨rfl, ⟨hsz, hP, hK, hD0⟩, hZ⟩ := hv
  have hts0 := atoms_spec (ws := wy) B.pre
  have hts : ∀ w ∈ TB, w.before av.toArray s = true := fun w h => hts0 w (by rw [hw]; exact List.mem_cons_of_mem _ h)
  have htab := vx_table (x := y) B (hts0 (Cond.codeWith y cc maxL ret hh) (by rw [hw]; exact List.mem_cons_self))
  have hown : s.vm.findClass y.cls = some m.cls := findClass_of_methodNamed B.named
  subst hsz
  have hD := hD0.self (sz := s.heap.size)
  have hA : ∀ q : Nat, s.heap.size ≤ q → va_A wc s.heap.size q := fun q h => Or.inr h
  have hl := lv_entry av (n := maxL) hlen
  rw [lg_entry_eq]
  exact body p e s m _ below meth c _ _ rfl rfl ⟨B.exec, B.bytes, hml, hown, hts, hK, hA⟩ B.returns ⟨hl9, hZ, htab, B.notSynchronized⟩ s.heap [] _ hP hD va_S.rf hl
end GX
theorem t1_194 : Cond.codeWith ⟨"RelationOrderLaw", "context", "(LRelationOrder;[J)I"⟩ method_3_code 3 (some .int) [(0, 8, 11, 13)] ∈ TB := tb_1 194 rfl rfl
theorem t2_41 : Cond.codeWith ⟨"RelationOrderLaw", "relate", "(LRelationOrder;III[J)I"⟩ method_4_code 6 (some .int) [(0, 12, 15, 19), (0, 12, 19, 13)] ∈ TB := tb_2 41 rfl rfl
theorem t2_163 : Cond.codeWith ⟨"RelationOrderLaw", "ring", "(LRelationOrder;I[J)I"⟩ method_5_code 4 (some .int) [(0, 9, 12, 19)] ∈ TB := tb_2 163 rfl rfl
theorem t2_179 : Cond.codeWith ⟨"RelationOrderLaw", "undo", "(LRelationOrder;I[J)I"⟩ method_6_code 4 (some .int) [(0, 16, 19, 19)] ∈ TB := tb_2 179 rfl rfl
theorem t2_191 : Cond.codeWith ⟨"RelationOrderLaw", "order", "(LRelationOrder;II[J)I"⟩ method_7_code 5 (some .int) [(0, 10, 13, 19)] ∈ TB := tb_2 191 rfl rfl
theorem t2_202 : Cond.codeWith ⟨"RelationOrderLaw", "link", "(LRelationOrder;II[J)I"⟩ method_8_code 5 (some .int) [(0, 10, 13, 19)] ∈ TB := tb_2 202 rfl rfl
theorem t2_216 : Cond.codeWith ⟨"RelationOrderLaw", "equal", "(LRelationOrder;I[J)I"⟩ method_9_code 4 (some .int) [(0, 9, 12, 19)] ∈ TB := tb_2 216 rfl rfl
theorem t2_223 : Cond.codeWith ⟨"RelationOrderLaw", "contemporary", "(LRelationOrder;II[J)I"⟩ method_10_code 5 (some .int) [(0, 17, 20, 19)] ∈ TB := tb_2 223 rfl rfl
theorem t2_238 : Cond.codeWith ⟨"RelationOrderLaw", "longest", "(LRelationOrder;I[J)I"⟩ method_11_code 4 (some .int) [(0, 9, 12, 19)] ∈ TB := tb_2 238 rfl rfl
theorem t3_10 : Cond.codeWith ⟨"RelationOrderLaw", "group", "(LRelationOrder;[J)I"⟩ method_12_code 3 (some .int) [(0, 8, 11, 13)] ∈ TB := tb_3 10 rfl rfl
theorem t3_26 : Cond.codeWith ⟨"RelationOrderLaw", "into", "(LRelationOrder;II[J)I"⟩ method_13_code 5 (some .int) [(0, 17, 20, 19)] ∈ TB := tb_3 26 rfl rfl
theorem t3_49 : Cond.codeWith ⟨"RelationOrderLaw", "groupRing", "(LRelationOrder;I[J)I"⟩ method_14_code 4 (some .int) [(0, 9, 12, 19)] ∈ TB := tb_3 49 rfl rfl
theorem t3_61 : Cond.codeWith ⟨"RelationOrderLaw", "groupOf", "(LRelationOrder;I[J)I"⟩ method_15_code 4 (some .int) [(0, 9, 12, 19)] ∈ TB := tb_3 61 rfl rfl
theorem t3_72 : Cond.codeWith ⟨"RelationOrderLaw", "version", "(LRelationOrder;[J)I"⟩ method_16_code 3 (some .int) [(0, 8, 11, 13)] ∈ TB := tb_3 72 rfl rfl
theorem t3_104 : Cond.codeWith ⟨"RelationOrderLaw", "differs", "(LRelationOrder;III[J)I"⟩ method_17_code 6 (some .int) [(0, 12, 15, 19)] ∈ TB := tb_3 104 rfl rfl
theorem t3_123 : Cond.codeWith ⟨"RelationOrderLaw", "count", "(LRelationOrder;I[J)I"⟩ method_18_code 4 (some .int) [(0, 9, 12, 19)] ∈ TB := tb_3 123 rfl rfl
