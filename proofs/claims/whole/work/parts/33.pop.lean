variable {l : Launch} {D : va_G} {cI cJ cZ cQ : ClassId}
section GT
variable {p : Program} {e : Env} {R : Room} {s : State} {m : MethodId} {args : Array Value} {below : List Frame} {meth : Method} {c : Code} {cells slots nL : Nat} {Q : State → Prop} {A : Nat → Prop} {H0 : Heap} {ws : va_W} {lv : List (Nat × Value)} {pc : Nat} {rest : List Value}
theorem g_topl {x : Int64} (kk : ∀ y : Int64, y = x → G p l e R s m args below meth c nL D A H0 Q cells slots ws lv pc (.long y :: rest)) : G p l e R s m args below meth c nL D A H0 Q cells slots ws lv pc (.long x :: rest) := kk x rfl
theorem g_topi {x : Int32} (kk : ∀ y : Int32, y = x → G p l e R s m args below meth c nL D A H0 Q cells slots ws lv pc (.int y :: rest)) : G p l e R s m args below meth c nL D A H0 Q cells slots ws lv pc (.int x :: rest) := kk x rfl
end GT
def un (w : Int64) : Nat := w.toBitVec.toNat
theorem un_lt (w : Int64) : un w < 2 ^ 64 := w.toBitVec.isLt
theorem un_lb (w : Int64) (j : Nat) : lb w j = (un w).testBit j := rfl
theorem un_shr {k : Nat} (hk : k < 64) (w : Int64) : un ((w.toUInt64 >>> ((nI k).toInt64.toUInt64 &&& Int64.toUInt64 63)).toInt64) = un w / 2 ^ k := by
  generalize hs : ((nI k).toInt64.toUInt64 &&& Int64.toUInt64 63) = s
  have hs2 : s.toNat = k := by rw [← hs]; exact lb_cnt k hk
  show (w.toUInt64 >>> s).toNat = _
  rw [UInt64.toNat_shiftRight, hs2, Nat.mod_eq_of_lt hk, Nat.shiftRight_eq_div_pow]
  rfl
theorem un_and (x y : Int64) : un (x &&& y) = un x &&& un y := by
  simp only [un, Int64.toBitVec_and, BitVec.toNat_and]
theorem un_add (x y : Int64) (h : un x + un y < 2 ^ 64) : un (x + y) = un x + un y := by
  simp only [un, Int64.toBitVec_add, BitVec.toNat_add]
  exact Nat.mod_eq_of_lt h
theorem un_sub (x y : Int64) (h : un y ≤ un x) : un (x - y) = un x - un y := by
  have h1 := un_lt x
  have h2 := un_lt y
  simp only [un, Int64.toBitVec_sub, BitVec.toNat_sub] at *
  omega
theorem un_low (x : Int64) : x.toInt32 &&& nI 127 = nI (un x % 128) := by
  rw [pk_and x.toInt32 7 (by decide)]
  have e : x.toInt32.toBitVec.toNat = un x % 2 ^ 32 := by
    show (x.toBitVec.signExtend 32).toNat = _
    rw [BitVec.signExtend_eq_setWidth_of_le _ (by decide), BitVec.toNat_setWidth]
    rfl
  rw [e]
  congr 1
  omega
theorem and_le {a b : Nat} : a &&& b ≤ b := Nat.and_le_right
theorem pop_end {w i1 i2 i3 i4 i5 i6 : Int64} (e1 : i1 = w - (((w).toUInt64 >>> ((nI 1).toInt64.toUInt64 &&& Int64.toUInt64 63)).toInt64 &&& 6148914691236517205))
    (e2 : i2 = (i1 &&& 3689348814741910323) + (((i1).toUInt64 >>> ((nI 2).toInt64.toUInt64 &&& Int64.toUInt64 63)).toInt64 &&& 3689348814741910323))
    (e3 : i3 = (i2 + ((i2).toUInt64 >>> ((nI 4).toInt64.toUInt64 &&& Int64.toUInt64 63)).toInt64) &&& 1085102592571150095)
    (e4 : i4 = i3 + ((i3).toUInt64 >>> ((nI 8).toInt64.toUInt64 &&& Int64.toUInt64 63)).toInt64)
    (e5 : i5 = i4 + ((i4).toUInt64 >>> ((nI 16).toInt64.toUInt64 &&& Int64.toUInt64 63)).toInt64)
    (e6 : i6 = i5 + ((i5).toUInt64 >>> ((nI 32).toInt64.toUInt64 &&& Int64.toUInt64 63)).toInt64) : (i6).toInt32 &&& nI 127 = nI (cnt (lb w) 64) := by
  have k1 : un (6148914691236517205 : Int64) = 6148914691236517205 := by decide +kernel
  have k2 : un (3689348814741910323 : Int64) = 3689348814741910323 := by decide +kernel
  have k3 : un (1085102592571150095 : Int64) = 1085102592571150095 := by decide +kernel
  have hw := un_lt w
  have g1 : un i1 = popA (un w) := by
    have hh : un ((((w).toUInt64 >>> ((nI 1).toInt64.toUInt64 &&& Int64.toUInt64 63)).toInt64 &&& 6148914691236517205)) = un w / 2 ^ 1 &&& 6148914691236517205 := by rw [un_and, un_shr (by decide), k1]
    have hle : (un w / 2 ^ 1 &&& 6148914691236517205) ≤ un w / 2 ^ 1 := Nat.and_le_left
    rw [e1, un_sub _ _ (by rw [hh]; omega), hh]
    rfl
  have g2 : un i2 = popB (un i1) ∧ un i2 ≤ 7378697629483820646 := by
    have hh : un ((((i1).toUInt64 >>> ((nI 2).toInt64.toUInt64 &&& Int64.toUInt64 63)).toInt64 &&& 3689348814741910323)) = un i1 / 2 ^ 2 &&& 3689348814741910323 := by rw [un_and, un_shr (by decide), k2]
    have h2 : un (i1 &&& 3689348814741910323) = un i1 &&& 3689348814741910323 := by rw [un_and, k2]
    have l1 : (un i1 / 2 ^ 2 &&& 3689348814741910323) ≤ 3689348814741910323 := and_le
    have l2 : (un i1 &&& 3689348814741910323) ≤ 3689348814741910323 := and_le
    rw [e2, un_add _ _ (by rw [hh, h2]; omega), hh, h2]
    exact ⟨rfl, by omega⟩
  have g3 : un i3 = popC (un i2) ∧ un i3 ≤ 1085102592571150095 := by
    have h2 := g2.2
    have hh : un (((i2).toUInt64 >>> ((nI 4).toInt64.toUInt64 &&& Int64.toUInt64 63)).toInt64) = un i2 / 2 ^ 4 := un_shr (by decide) _
    rw [e3, un_and, un_add _ _ (by rw [hh]; omega), hh, k3]
    exact ⟨rfl, and_le⟩
  have g4 : un i4 = popD (un i3) ∧ un i4 ≤ 1100000000000000000 := by
    have h2 := g3.2
    have hh : un (((i3).toUInt64 >>> ((nI 8).toInt64.toUInt64 &&& Int64.toUInt64 63)).toInt64) = un i3 / 2 ^ 8 := un_shr (by decide) _
    rw [e4, un_add _ _ (by rw [hh]; omega), hh]
    exact ⟨rfl, by omega⟩
  have g5 : un i5 = popE (un i4) ∧ un i5 ≤ 1200000000000000000 := by
    have h2 := g4.2
    have hh : un (((i4).toUInt64 >>> ((nI 16).toInt64.toUInt64 &&& Int64.toUInt64 63)).toInt64) = un i4 / 2 ^ 16 := un_shr (by decide) _
    rw [e5, un_add _ _ (by rw [hh]; omega), hh]
    exact ⟨rfl, by omega⟩
  have g6 : un i6 % 128 = popF (un i5) := by
    have h2 := g5.2
    have hh : un (((i5).toUInt64 >>> ((nI 32).toInt64.toUInt64 &&& Int64.toUInt64 63)).toInt64) = un i5 / 2 ^ 32 := un_shr (by decide) _
    rw [e6, un_add _ _ (by rw [hh]; omega), hh]
    rfl
  rw [un_low, g6, g5.1, g4.1, g3.1, g2.1, g1]
  have := popN_ok hw
  unfold popN at this
  rw [this]
  rfl

set_option maxHeartbeats 4000000 in
set_option maxRecDepth 100000 in
theorem k_Long_bitCount (w : Int64)  : CtI l y_Long_bitCount (Cond.code y_Long_bitCount c_Long_bitCount 2 (some .int) :: TB) ({ frames := 0, cells := 0, slots := 0, locals := 0 } : Room) D (tysv cI cJ cZ cQ) [.long w] [] 0 0 (fun (r : Int32) (_ : Unit) => r = nI (cnt (lb w) 64)) (fun (_ : Unit) => []) := by
  refine CtI.of c_Long_bitCount 2 (some .int) (by decide) rfl (Nat.le_of_ble_eq_true rfl) ?_
  intro p e s m args below meth c A Q hA9 hQ9 X hr9 hlk9 hin9
  refine g_lload_n X 0 d_Long_bitCount_0 rfl rfl ?_
  refine g_lload_n X 0 d_Long_bitCount_1 rfl rfl ?_
  refine g_iconst (v := nI 1) X d_Long_bitCount_2 rfl ?_
  refine g_lushr X (((w).toUInt64 >>> ((nI 1).toInt64.toUInt64 &&& Int64.toUInt64 63)).toInt64) d_Long_bitCount_3 rfl ?_
  refine g_ldc2 (v := 6148914691236517205) X t1_189 d_Long_bitCount_4 ?_
  refine g_land X ((((w).toUInt64 >>> ((nI 1).toInt64.toUInt64 &&& Int64.toUInt64 63)).toInt64) &&& 6148914691236517205) d_Long_bitCount_7 rfl ?_
  refine g_lsub X (w - ((((w).toUInt64 >>> ((nI 1).toInt64.toUInt64 &&& Int64.toUInt64 63)).toInt64) &&& 6148914691236517205)) d_Long_bitCount_8 rfl ?_
  refine g_topl (fun i1 e1 => ?_)
  refine g_lstore_n X [(0, .long i1)] d_Long_bitCount_9 rfl (by decide) rfl ?_
  refine g_lload_n X 0 d_Long_bitCount_10 rfl rfl ?_
  refine g_ldc2 (v := 3689348814741910323) X t1_190 d_Long_bitCount_11 ?_
  refine g_land X (i1 &&& 3689348814741910323) d_Long_bitCount_14 rfl ?_
  refine g_lload_n X 0 d_Long_bitCount_15 rfl rfl ?_
  refine g_iconst (v := nI 2) X d_Long_bitCount_16 rfl ?_
  refine g_lushr X (((i1).toUInt64 >>> ((nI 2).toInt64.toUInt64 &&& Int64.toUInt64 63)).toInt64) d_Long_bitCount_17 rfl ?_
  refine g_ldc2 (v := 3689348814741910323) X t1_190 d_Long_bitCount_18 ?_
  refine g_land X ((((i1).toUInt64 >>> ((nI 2).toInt64.toUInt64 &&& Int64.toUInt64 63)).toInt64) &&& 3689348814741910323) d_Long_bitCount_21 rfl ?_
  refine g_ladd X ((i1 &&& 3689348814741910323) + ((((i1).toUInt64 >>> ((nI 2).toInt64.toUInt64 &&& Int64.toUInt64 63)).toInt64) &&& 3689348814741910323)) d_Long_bitCount_22 rfl ?_
  refine g_topl (fun i2 e2 => ?_)
  refine g_lstore_n X [(0, .long i2)] d_Long_bitCount_23 rfl (by decide) rfl ?_
  refine g_lload_n X 0 d_Long_bitCount_24 rfl rfl ?_
  refine g_lload_n X 0 d_Long_bitCount_25 rfl rfl ?_
  refine g_iconst (v := nI 4) X d_Long_bitCount_26 rfl ?_
  refine g_lushr X (((i2).toUInt64 >>> ((nI 4).toInt64.toUInt64 &&& Int64.toUInt64 63)).toInt64) d_Long_bitCount_27 rfl ?_
  refine g_ladd X (i2 + (((i2).toUInt64 >>> ((nI 4).toInt64.toUInt64 &&& Int64.toUInt64 63)).toInt64)) d_Long_bitCount_28 rfl ?_
  refine g_ldc2 (v := 1085102592571150095) X t1_191 d_Long_bitCount_29 ?_
  refine g_land X ((i2 + (((i2).toUInt64 >>> ((nI 4).toInt64.toUInt64 &&& Int64.toUInt64 63)).toInt64)) &&& 1085102592571150095) d_Long_bitCount_32 rfl ?_
  refine g_topl (fun i3 e3 => ?_)
  refine g_lstore_n X [(0, .long i3)] d_Long_bitCount_33 rfl (by decide) rfl ?_
  refine g_lload_n X 0 d_Long_bitCount_34 rfl rfl ?_
  refine g_lload_n X 0 d_Long_bitCount_35 rfl rfl ?_
  refine g_bipush (v := nI 8) X d_Long_bitCount_36 rfl ?_
  refine g_lushr X (((i3).toUInt64 >>> ((nI 8).toInt64.toUInt64 &&& Int64.toUInt64 63)).toInt64) d_Long_bitCount_38 rfl ?_
  refine g_ladd X (i3 + (((i3).toUInt64 >>> ((nI 8).toInt64.toUInt64 &&& Int64.toUInt64 63)).toInt64)) d_Long_bitCount_39 rfl ?_
  refine g_topl (fun i4 e4 => ?_)
  refine g_lstore_n X [(0, .long i4)] d_Long_bitCount_40 rfl (by decide) rfl ?_
  refine g_lload_n X 0 d_Long_bitCount_41 rfl rfl ?_
  refine g_lload_n X 0 d_Long_bitCount_42 rfl rfl ?_
  refine g_bipush (v := nI 16) X d_Long_bitCount_43 rfl ?_
  refine g_lushr X (((i4).toUInt64 >>> ((nI 16).toInt64.toUInt64 &&& Int64.toUInt64 63)).toInt64) d_Long_bitCount_45 rfl ?_
  refine g_ladd X (i4 + (((i4).toUInt64 >>> ((nI 16).toInt64.toUInt64 &&& Int64.toUInt64 63)).toInt64)) d_Long_bitCount_46 rfl ?_
  refine g_topl (fun i5 e5 => ?_)
  refine g_lstore_n X [(0, .long i5)] d_Long_bitCount_47 rfl (by decide) rfl ?_
  refine g_lload_n X 0 d_Long_bitCount_48 rfl rfl ?_
  refine g_lload_n X 0 d_Long_bitCount_49 rfl rfl ?_
  refine g_bipush (v := nI 32) X d_Long_bitCount_50 rfl ?_
  refine g_lushr X (((i5).toUInt64 >>> ((nI 32).toInt64.toUInt64 &&& Int64.toUInt64 63)).toInt64) d_Long_bitCount_52 rfl ?_
  refine g_ladd X (i5 + (((i5).toUInt64 >>> ((nI 32).toInt64.toUInt64 &&& Int64.toUInt64 63)).toInt64)) d_Long_bitCount_53 rfl ?_
  refine g_topl (fun i6 e6 => ?_)
  refine g_lstore_n X [(0, .long i6)] d_Long_bitCount_54 rfl (by decide) rfl ?_
  refine g_lload_n X 0 d_Long_bitCount_55 rfl rfl ?_
  refine g_l2i X ((i6).toInt32) d_Long_bitCount_56 rfl ?_
  refine g_bipush (v := nI 127) X d_Long_bitCount_57 rfl ?_
  refine g_iand X (((i6).toInt32) &&& (nI 127)) d_Long_bitCount_59 rfl ?_
  exact g_iret X hA9 hQ9 hr9 hlk9 () [] rfl rfl d_Long_bitCount_60 (pop_end e1 e2 e3 e4 e5 e6)
