theorem hd_J_bitCount : y_J_bitCount.cls ≠ "java/lang/invoke/MethodHandle" ∧ y_J_bitCount.cls ≠ "java/lang/invoke/VarHandle" ∧ (parseMethodDescriptor y_J_bitCount.desc).map (fun d => d.parameters.length) = some 1 := by decide +kernel
def r_J_bitCount (X : zXS) (M : zMS) (x : Int32) : Int32 := ((((((((x - ((UInt32.toInt32 (Int32.toUInt32 x >>> (Int32.toUInt32 1 &&& Int32.toUInt32 31))) &&& 1431655765)) &&& 858993459) + ((UInt32.toInt32 (Int32.toUInt32 (x - ((UInt32.toInt32 (Int32.toUInt32 x >>> (Int32.toUInt32 1 &&& Int32.toUInt32 31))) &&& 1431655765)) >>> (Int32.toUInt32 2 &&& Int32.toUInt32 31))) &&& 858993459)) + (UInt32.toInt32 (Int32.toUInt32 (((x - ((UInt32.toInt32 (Int32.toUInt32 x >>> (Int32.toUInt32 1 &&& Int32.toUInt32 31))) &&& 1431655765)) &&& 858993459) + ((UInt32.toInt32 (Int32.toUInt32 (x - ((UInt32.toInt32 (Int32.toUInt32 x >>> (Int32.toUInt32 1 &&& Int32.toUInt32 31))) &&& 1431655765)) >>> (Int32.toUInt32 2 &&& Int32.toUInt32 31))) &&& 858993459)) >>> (Int32.toUInt32 4 &&& Int32.toUInt32 31)))) &&& 252645135) + (UInt32.toInt32 (Int32.toUInt32 (((((x - ((UInt32.toInt32 (Int32.toUInt32 x >>> (Int32.toUInt32 1 &&& Int32.toUInt32 31))) &&& 1431655765)) &&& 858993459) + ((UInt32.toInt32 (Int32.toUInt32 (x - ((UInt32.toInt32 (Int32.toUInt32 x >>> (Int32.toUInt32 1 &&& Int32.toUInt32 31))) &&& 1431655765)) >>> (Int32.toUInt32 2 &&& Int32.toUInt32 31))) &&& 858993459)) + (UInt32.toInt32 (Int32.toUInt32 (((x - ((UInt32.toInt32 (Int32.toUInt32 x >>> (Int32.toUInt32 1 &&& Int32.toUInt32 31))) &&& 1431655765)) &&& 858993459) + ((UInt32.toInt32 (Int32.toUInt32 (x - ((UInt32.toInt32 (Int32.toUInt32 x >>> (Int32.toUInt32 1 &&& Int32.toUInt32 31))) &&& 1431655765)) >>> (Int32.toUInt32 2 &&& Int32.toUInt32 31))) &&& 858993459)) >>> (Int32.toUInt32 4 &&& Int32.toUInt32 31)))) &&& 252645135) >>> (Int32.toUInt32 8 &&& Int32.toUInt32 31)))) + (UInt32.toInt32 (Int32.toUInt32 ((((((x - ((UInt32.toInt32 (Int32.toUInt32 x >>> (Int32.toUInt32 1 &&& Int32.toUInt32 31))) &&& 1431655765)) &&& 858993459) + ((UInt32.toInt32 (Int32.toUInt32 (x - ((UInt32.toInt32 (Int32.toUInt32 x >>> (Int32.toUInt32 1 &&& Int32.toUInt32 31))) &&& 1431655765)) >>> (Int32.toUInt32 2 &&& Int32.toUInt32 31))) &&& 858993459)) + (UInt32.toInt32 (Int32.toUInt32 (((x - ((UInt32.toInt32 (Int32.toUInt32 x >>> (Int32.toUInt32 1 &&& Int32.toUInt32 31))) &&& 1431655765)) &&& 858993459) + ((UInt32.toInt32 (Int32.toUInt32 (x - ((UInt32.toInt32 (Int32.toUInt32 x >>> (Int32.toUInt32 1 &&& Int32.toUInt32 31))) &&& 1431655765)) >>> (Int32.toUInt32 2 &&& Int32.toUInt32 31))) &&& 858993459)) >>> (Int32.toUInt32 4 &&& Int32.toUInt32 31)))) &&& 252645135) + (UInt32.toInt32 (Int32.toUInt32 (((((x - ((UInt32.toInt32 (Int32.toUInt32 x >>> (Int32.toUInt32 1 &&& Int32.toUInt32 31))) &&& 1431655765)) &&& 858993459) + ((UInt32.toInt32 (Int32.toUInt32 (x - ((UInt32.toInt32 (Int32.toUInt32 x >>> (Int32.toUInt32 1 &&& Int32.toUInt32 31))) &&& 1431655765)) >>> (Int32.toUInt32 2 &&& Int32.toUInt32 31))) &&& 858993459)) + (UInt32.toInt32 (Int32.toUInt32 (((x - ((UInt32.toInt32 (Int32.toUInt32 x >>> (Int32.toUInt32 1 &&& Int32.toUInt32 31))) &&& 1431655765)) &&& 858993459) + ((UInt32.toInt32 (Int32.toUInt32 (x - ((UInt32.toInt32 (Int32.toUInt32 x >>> (Int32.toUInt32 1 &&& Int32.toUInt32 31))) &&& 1431655765)) >>> (Int32.toUInt32 2 &&& Int32.toUInt32 31))) &&& 858993459)) >>> (Int32.toUInt32 4 &&& Int32.toUInt32 31)))) &&& 252645135) >>> (Int32.toUInt32 8 &&& Int32.toUInt32 31)))) >>> (Int32.toUInt32 16 &&& Int32.toUInt32 31)))) &&& 63)
set_option maxHeartbeats 1000000 in
set_option maxRecDepth 100000 in
theorem k_J_bitCount (l : Launch) (dC : Nat → ClassId) (dI : Nat → Nat → Nat) (k : Nat → ClassId) (q : Nat → Nat) (X : zXS) (M : zMS) (x : Int32)   : zMet l dC dI k q y_J_bitCount c_J_bitCount 1 (some .int) 0 0 [.int x] (some (.int (r_J_bitCount X M x))) X M X M := by
  refine zMet.of (by decide) (Nat.le_of_ble_eq_true rfl) ?_
  intro p e s m args below meth c ls C hr hk hl h
  have hx := C.1
  have hb := C.2.1
  have hl : lv_has ls 1 [(0, .int x)] := hl
  refine lv_iload_n hx hb d_J_bitCount_0 rfl (lv_at hl 0 rfl) ?_
  refine lv_iload_n hx hb d_J_bitCount_1 rfl (lv_at hl 0 rfl) ?_
  refine lv_iconst (v := 1) hx hb d_J_bitCount_2 (by decide) ?_
  refine lv_iushr hx hb d_J_bitCount_3 rfl ?_
  refine lv_ldcw (v := 1431655765) hx hb C.2.2.2.1 (C.2.2.2.2.1 _ ki_J_265) d_J_bitCount_4 ?_
  refine lv_iand hx hb d_J_bitCount_7 ?_
  refine lv_isub hx hb d_J_bitCount_8 ?_
  refine lv_istore_n hx hb d_J_bitCount_9 rfl hl (by decide) rfl (fun ls hl => ?_)
  have hl : lv_has ls 1 [(0, .int (x - ((UInt32.toInt32 (Int32.toUInt32 x >>> (Int32.toUInt32 1 &&& Int32.toUInt32 31))) &&& 1431655765)))] := hl
  refine lv_iload_n hx hb d_J_bitCount_10 rfl (lv_at hl 0 rfl) ?_
  refine lv_ldcw (v := 858993459) hx hb C.2.2.2.1 (C.2.2.2.2.1 _ ki_J_266) d_J_bitCount_11 ?_
  refine lv_iand hx hb d_J_bitCount_14 ?_
  refine lv_iload_n hx hb d_J_bitCount_15 rfl (lv_at hl 0 rfl) ?_
  refine lv_iconst (v := 2) hx hb d_J_bitCount_16 (by decide) ?_
  refine lv_iushr hx hb d_J_bitCount_17 rfl ?_
  refine lv_ldcw (v := 858993459) hx hb C.2.2.2.1 (C.2.2.2.2.1 _ ki_J_266) d_J_bitCount_18 ?_
  refine lv_iand hx hb d_J_bitCount_21 ?_
  refine lv_iadd hx hb d_J_bitCount_22 ?_
  refine lv_istore_n hx hb d_J_bitCount_23 rfl hl (by decide) rfl (fun ls hl => ?_)
  have hl : lv_has ls 1 [(0, .int (((x - ((UInt32.toInt32 (Int32.toUInt32 x >>> (Int32.toUInt32 1 &&& Int32.toUInt32 31))) &&& 1431655765)) &&& 858993459) + ((UInt32.toInt32 (Int32.toUInt32 (x - ((UInt32.toInt32 (Int32.toUInt32 x >>> (Int32.toUInt32 1 &&& Int32.toUInt32 31))) &&& 1431655765)) >>> (Int32.toUInt32 2 &&& Int32.toUInt32 31))) &&& 858993459)))] := hl
  refine lv_iload_n hx hb d_J_bitCount_24 rfl (lv_at hl 0 rfl) ?_
  refine lv_iload_n hx hb d_J_bitCount_25 rfl (lv_at hl 0 rfl) ?_
  refine lv_iconst (v := 4) hx hb d_J_bitCount_26 (by decide) ?_
  refine lv_iushr hx hb d_J_bitCount_27 rfl ?_
  refine lv_iadd hx hb d_J_bitCount_28 ?_
  refine lv_ldcw (v := 252645135) hx hb C.2.2.2.1 (C.2.2.2.2.1 _ ki_J_267) d_J_bitCount_29 ?_
  refine lv_iand hx hb d_J_bitCount_32 ?_
  refine lv_istore_n hx hb d_J_bitCount_33 rfl hl (by decide) rfl (fun ls hl => ?_)
  have hl : lv_has ls 1 [(0, .int (((((x - ((UInt32.toInt32 (Int32.toUInt32 x >>> (Int32.toUInt32 1 &&& Int32.toUInt32 31))) &&& 1431655765)) &&& 858993459) + ((UInt32.toInt32 (Int32.toUInt32 (x - ((UInt32.toInt32 (Int32.toUInt32 x >>> (Int32.toUInt32 1 &&& Int32.toUInt32 31))) &&& 1431655765)) >>> (Int32.toUInt32 2 &&& Int32.toUInt32 31))) &&& 858993459)) + (UInt32.toInt32 (Int32.toUInt32 (((x - ((UInt32.toInt32 (Int32.toUInt32 x >>> (Int32.toUInt32 1 &&& Int32.toUInt32 31))) &&& 1431655765)) &&& 858993459) + ((UInt32.toInt32 (Int32.toUInt32 (x - ((UInt32.toInt32 (Int32.toUInt32 x >>> (Int32.toUInt32 1 &&& Int32.toUInt32 31))) &&& 1431655765)) >>> (Int32.toUInt32 2 &&& Int32.toUInt32 31))) &&& 858993459)) >>> (Int32.toUInt32 4 &&& Int32.toUInt32 31)))) &&& 252645135))] := hl
  refine lv_iload_n hx hb d_J_bitCount_34 rfl (lv_at hl 0 rfl) ?_
  refine lv_iload_n hx hb d_J_bitCount_35 rfl (lv_at hl 0 rfl) ?_
  refine lv_bipush (v := 8) hx hb d_J_bitCount_36 (by decide) ?_
  refine lv_iushr hx hb d_J_bitCount_38 rfl ?_
  refine lv_iadd hx hb d_J_bitCount_39 ?_
  refine lv_istore_n hx hb d_J_bitCount_40 rfl hl (by decide) rfl (fun ls hl => ?_)
  have hl : lv_has ls 1 [(0, .int ((((((x - ((UInt32.toInt32 (Int32.toUInt32 x >>> (Int32.toUInt32 1 &&& Int32.toUInt32 31))) &&& 1431655765)) &&& 858993459) + ((UInt32.toInt32 (Int32.toUInt32 (x - ((UInt32.toInt32 (Int32.toUInt32 x >>> (Int32.toUInt32 1 &&& Int32.toUInt32 31))) &&& 1431655765)) >>> (Int32.toUInt32 2 &&& Int32.toUInt32 31))) &&& 858993459)) + (UInt32.toInt32 (Int32.toUInt32 (((x - ((UInt32.toInt32 (Int32.toUInt32 x >>> (Int32.toUInt32 1 &&& Int32.toUInt32 31))) &&& 1431655765)) &&& 858993459) + ((UInt32.toInt32 (Int32.toUInt32 (x - ((UInt32.toInt32 (Int32.toUInt32 x >>> (Int32.toUInt32 1 &&& Int32.toUInt32 31))) &&& 1431655765)) >>> (Int32.toUInt32 2 &&& Int32.toUInt32 31))) &&& 858993459)) >>> (Int32.toUInt32 4 &&& Int32.toUInt32 31)))) &&& 252645135) + (UInt32.toInt32 (Int32.toUInt32 (((((x - ((UInt32.toInt32 (Int32.toUInt32 x >>> (Int32.toUInt32 1 &&& Int32.toUInt32 31))) &&& 1431655765)) &&& 858993459) + ((UInt32.toInt32 (Int32.toUInt32 (x - ((UInt32.toInt32 (Int32.toUInt32 x >>> (Int32.toUInt32 1 &&& Int32.toUInt32 31))) &&& 1431655765)) >>> (Int32.toUInt32 2 &&& Int32.toUInt32 31))) &&& 858993459)) + (UInt32.toInt32 (Int32.toUInt32 (((x - ((UInt32.toInt32 (Int32.toUInt32 x >>> (Int32.toUInt32 1 &&& Int32.toUInt32 31))) &&& 1431655765)) &&& 858993459) + ((UInt32.toInt32 (Int32.toUInt32 (x - ((UInt32.toInt32 (Int32.toUInt32 x >>> (Int32.toUInt32 1 &&& Int32.toUInt32 31))) &&& 1431655765)) >>> (Int32.toUInt32 2 &&& Int32.toUInt32 31))) &&& 858993459)) >>> (Int32.toUInt32 4 &&& Int32.toUInt32 31)))) &&& 252645135) >>> (Int32.toUInt32 8 &&& Int32.toUInt32 31)))))] := hl
  refine lv_iload_n hx hb d_J_bitCount_41 rfl (lv_at hl 0 rfl) ?_
  refine lv_iload_n hx hb d_J_bitCount_42 rfl (lv_at hl 0 rfl) ?_
  refine lv_bipush (v := 16) hx hb d_J_bitCount_43 (by decide) ?_
  refine lv_iushr hx hb d_J_bitCount_45 rfl ?_
  refine lv_iadd hx hb d_J_bitCount_46 ?_
  refine lv_istore_n hx hb d_J_bitCount_47 rfl hl (by decide) rfl (fun ls hl => ?_)
  have hl : lv_has ls 1 [(0, .int (((((((x - ((UInt32.toInt32 (Int32.toUInt32 x >>> (Int32.toUInt32 1 &&& Int32.toUInt32 31))) &&& 1431655765)) &&& 858993459) + ((UInt32.toInt32 (Int32.toUInt32 (x - ((UInt32.toInt32 (Int32.toUInt32 x >>> (Int32.toUInt32 1 &&& Int32.toUInt32 31))) &&& 1431655765)) >>> (Int32.toUInt32 2 &&& Int32.toUInt32 31))) &&& 858993459)) + (UInt32.toInt32 (Int32.toUInt32 (((x - ((UInt32.toInt32 (Int32.toUInt32 x >>> (Int32.toUInt32 1 &&& Int32.toUInt32 31))) &&& 1431655765)) &&& 858993459) + ((UInt32.toInt32 (Int32.toUInt32 (x - ((UInt32.toInt32 (Int32.toUInt32 x >>> (Int32.toUInt32 1 &&& Int32.toUInt32 31))) &&& 1431655765)) >>> (Int32.toUInt32 2 &&& Int32.toUInt32 31))) &&& 858993459)) >>> (Int32.toUInt32 4 &&& Int32.toUInt32 31)))) &&& 252645135) + (UInt32.toInt32 (Int32.toUInt32 (((((x - ((UInt32.toInt32 (Int32.toUInt32 x >>> (Int32.toUInt32 1 &&& Int32.toUInt32 31))) &&& 1431655765)) &&& 858993459) + ((UInt32.toInt32 (Int32.toUInt32 (x - ((UInt32.toInt32 (Int32.toUInt32 x >>> (Int32.toUInt32 1 &&& Int32.toUInt32 31))) &&& 1431655765)) >>> (Int32.toUInt32 2 &&& Int32.toUInt32 31))) &&& 858993459)) + (UInt32.toInt32 (Int32.toUInt32 (((x - ((UInt32.toInt32 (Int32.toUInt32 x >>> (Int32.toUInt32 1 &&& Int32.toUInt32 31))) &&& 1431655765)) &&& 858993459) + ((UInt32.toInt32 (Int32.toUInt32 (x - ((UInt32.toInt32 (Int32.toUInt32 x >>> (Int32.toUInt32 1 &&& Int32.toUInt32 31))) &&& 1431655765)) >>> (Int32.toUInt32 2 &&& Int32.toUInt32 31))) &&& 858993459)) >>> (Int32.toUInt32 4 &&& Int32.toUInt32 31)))) &&& 252645135) >>> (Int32.toUInt32 8 &&& Int32.toUInt32 31)))) + (UInt32.toInt32 (Int32.toUInt32 ((((((x - ((UInt32.toInt32 (Int32.toUInt32 x >>> (Int32.toUInt32 1 &&& Int32.toUInt32 31))) &&& 1431655765)) &&& 858993459) + ((UInt32.toInt32 (Int32.toUInt32 (x - ((UInt32.toInt32 (Int32.toUInt32 x >>> (Int32.toUInt32 1 &&& Int32.toUInt32 31))) &&& 1431655765)) >>> (Int32.toUInt32 2 &&& Int32.toUInt32 31))) &&& 858993459)) + (UInt32.toInt32 (Int32.toUInt32 (((x - ((UInt32.toInt32 (Int32.toUInt32 x >>> (Int32.toUInt32 1 &&& Int32.toUInt32 31))) &&& 1431655765)) &&& 858993459) + ((UInt32.toInt32 (Int32.toUInt32 (x - ((UInt32.toInt32 (Int32.toUInt32 x >>> (Int32.toUInt32 1 &&& Int32.toUInt32 31))) &&& 1431655765)) >>> (Int32.toUInt32 2 &&& Int32.toUInt32 31))) &&& 858993459)) >>> (Int32.toUInt32 4 &&& Int32.toUInt32 31)))) &&& 252645135) + (UInt32.toInt32 (Int32.toUInt32 (((((x - ((UInt32.toInt32 (Int32.toUInt32 x >>> (Int32.toUInt32 1 &&& Int32.toUInt32 31))) &&& 1431655765)) &&& 858993459) + ((UInt32.toInt32 (Int32.toUInt32 (x - ((UInt32.toInt32 (Int32.toUInt32 x >>> (Int32.toUInt32 1 &&& Int32.toUInt32 31))) &&& 1431655765)) >>> (Int32.toUInt32 2 &&& Int32.toUInt32 31))) &&& 858993459)) + (UInt32.toInt32 (Int32.toUInt32 (((x - ((UInt32.toInt32 (Int32.toUInt32 x >>> (Int32.toUInt32 1 &&& Int32.toUInt32 31))) &&& 1431655765)) &&& 858993459) + ((UInt32.toInt32 (Int32.toUInt32 (x - ((UInt32.toInt32 (Int32.toUInt32 x >>> (Int32.toUInt32 1 &&& Int32.toUInt32 31))) &&& 1431655765)) >>> (Int32.toUInt32 2 &&& Int32.toUInt32 31))) &&& 858993459)) >>> (Int32.toUInt32 4 &&& Int32.toUInt32 31)))) &&& 252645135) >>> (Int32.toUInt32 8 &&& Int32.toUInt32 31)))) >>> (Int32.toUInt32 16 &&& Int32.toUInt32 31)))))] := hl
  refine lv_iload_n hx hb d_J_bitCount_48 rfl (lv_at hl 0 rfl) ?_
  refine lv_bipush (v := 63) hx hb d_J_bitCount_49 (by decide) ?_
  refine lv_iand hx hb d_J_bitCount_51 ?_
  exact z_retE C h hr hk (by first | rfl | (simp only [r_J_bitCount, ↓reduceIte]; done) | (simp [r_J_bitCount]; done)) (by first | rfl | (simp only [r_J_bitCount, ↓reduceIte]; done) | (simp [r_J_bitCount]; done)) (by first | rfl | (simp only [r_J_bitCount, ↓reduceIte]; done) | (simp [r_J_bitCount]; done)) d_J_bitCount_52
theorem hd_H_bit : y_H_bit.cls ≠ "java/lang/invoke/MethodHandle" ∧ y_H_bit.cls ≠ "java/lang/invoke/VarHandle" ∧ (parseMethodDescriptor y_H_bit.desc).map (fun d => d.parameters.length) = some 1 := by decide +kernel
def r_H_bit (X : zXS) (M : zMS) (x : Int32) : Int32 := (1 <<< (x &&& 31))
set_option maxHeartbeats 1000000 in
set_option maxRecDepth 100000 in
theorem k_H_bit (l : Launch) (dC : Nat → ClassId) (dI : Nat → Nat → Nat) (k : Nat → ClassId) (q : Nat → Nat) (X : zXS) (M : zMS) (x : Int32)   : zMet l dC dI k q y_H_bit c_H_bit 1 (some .int) 0 0 [.int x] (some (.int (r_H_bit X M x))) X M X M := by
  refine zMet.of (by decide) (Nat.le_of_ble_eq_true rfl) ?_
  intro p e s m args below meth c ls C hr hk hl h
  have hx := C.1
  have hb := C.2.1
  have hl : lv_has ls 1 [(0, .int x)] := hl
  refine lv_iconst (v := 1) hx hb d_H_bit_0 (by decide) ?_
  refine lv_iload_n hx hb d_H_bit_1 rfl (lv_at hl 0 rfl) ?_
  refine lv_ishl hx hb d_H_bit_2 ?_
  exact z_retE C h hr hk (by first | rfl | (simp only [r_H_bit, ↓reduceIte]; done) | (simp [r_H_bit]; done)) (by first | rfl | (simp only [r_H_bit, ↓reduceIte]; done) | (simp [r_H_bit]; done)) (by first | rfl | (simp only [r_H_bit, ↓reduceIte]; done) | (simp [r_H_bit]; done)) d_H_bit_3
theorem hd_H_makeOwner : y_H_makeOwner.cls ≠ "java/lang/invoke/MethodHandle" ∧ y_H_makeOwner.cls ≠ "java/lang/invoke/VarHandle" ∧ (parseMethodDescriptor y_H_makeOwner.desc).map (fun d => d.parameters.length) = some 2 := by decide +kernel
def x_H_makeOwner (X : zXS) (M : zMS) (r : Int32) (a : Int32) : zXS := (u3 (u3 X 13 0 (Int32.toNatClampNeg a) r) 12 0 (Int32.toNatClampNeg a) 2)
set_option maxHeartbeats 1000000 in
set_option maxRecDepth 100000 in
theorem k_H_makeOwner (l : Launch) (dC : Nat → ClassId) (dI : Nat → Nat → Nat) (k : Nat → ClassId) (q : Nat → Nat) (X : zXS) (M : zMS) (r : Int32) (a : Int32)  (ha : vp_in a 4) : zMet l dC dI k q y_H_makeOwner c_H_makeOwner 3 none 0 0 [.ref (q 32), .int r, .int a] none X M (x_H_makeOwner X M r a) M := by
  refine zMet.of (by decide) (Nat.le_of_ble_eq_true rfl) ?_
  intro p e s m args below meth c ls C hr hk hl h
  have hx := C.1
  have hb := C.2.1
  have hl : lv_has ls 3 [(0, .ref (q 32)), (1, .int r), (2, .int a)] := hl
  refine lv_aload_n hx hb d_H_makeOwner_0 rfl (lv_at hl 0 rfl) ?_
  refine g_H_18 C h d_H_makeOwner_1 ?_
  refine lv_iload_n hx hb d_H_makeOwner_4 rfl (lv_at hl 2 rfl) ?_
  refine lv_iload_n hx hb d_H_makeOwner_5 rfl (lv_at hl 1 rfl) ?_
  refine s_own C h ha d_H_makeOwner_6 (fun H locs h => ?_)
  refine lv_aload_n hx hb d_H_makeOwner_7 rfl (lv_at hl 0 rfl) ?_
  refine g_H_15 C h d_H_makeOwner_8 ?_
  refine lv_iload_n hx hb d_H_makeOwner_11 rfl (lv_at hl 2 rfl) ?_
  refine lv_iconst (v := 2) hx hb d_H_makeOwner_12 (by decide) ?_
  refine s_kee C h ha d_H_makeOwner_13 (fun H locs h => ?_)
  exact z_retvE C h hr hk (by first | rfl | (simp only [x_H_makeOwner, ↓reduceIte]; done) | (simp [x_H_makeOwner]; done)) (by first | rfl | (simp only [x_H_makeOwner, ↓reduceIte]; done) | (simp [x_H_makeOwner]; done)) d_H_makeOwner_14
theorem hd_H_forgetSharer : y_H_forgetSharer.cls ≠ "java/lang/invoke/MethodHandle" ∧ y_H_forgetSharer.cls ≠ "java/lang/invoke/VarHandle" ∧ (parseMethodDescriptor y_H_forgetSharer.desc).map (fun d => d.parameters.length) = some 2 := by decide +kernel
def x_H_forgetSharer (X : zXS) (M : zMS) (a : Int32) (r : Int32) : zXS := (if (X 12 0 (Int32.toNatClampNeg a)) = 1 then (if ((u3 X 14 0 (Int32.toNatClampNeg a) ((X 14 0 (Int32.toNatClampNeg a)) &&& ((r_H_bit X M r) ^^^ (-1)))) 14 0 (Int32.toNatClampNeg a)) = 0 then (u3 (u3 X 14 0 (Int32.toNatClampNeg a) ((X 14 0 (Int32.toNatClampNeg a)) &&& ((r_H_bit X M r) ^^^ (-1)))) 12 0 (Int32.toNatClampNeg a) 0) else (u3 X 14 0 (Int32.toNatClampNeg a) ((X 14 0 (Int32.toNatClampNeg a)) &&& ((r_H_bit X M r) ^^^ (-1))))) else (u3 X 14 0 (Int32.toNatClampNeg a) ((X 14 0 (Int32.toNatClampNeg a)) &&& ((r_H_bit X M r) ^^^ (-1)))))
set_option maxHeartbeats 1000000 in
set_option maxRecDepth 100000 in
theorem k_H_forgetSharer (l : Launch) (dC : Nat → ClassId) (dI : Nat → Nat → Nat) (k : Nat → ClassId) (q : Nat → Nat) (X : zXS) (M : zMS) (a : Int32) (r : Int32)  (ha : vp_in a 4) : zMet l dC dI k q y_H_forgetSharer c_H_forgetSharer 3 none 1 20 [.ref (q 32), .int a, .int r] none X M (x_H_forgetSharer X M a r) M := by
  refine zMet.of (by decide) (Nat.le_of_ble_eq_true rfl) ?_
  intro p e s m args below meth c ls C hr hk hl h
  have hx := C.1
  have hb := C.2.1
  have hl : lv_has ls 3 [(0, .ref (q 32)), (1, .int a), (2, .int r)] := hl
  refine lv_aload_n hx hb d_H_forgetSharer_0 rfl (lv_at hl 0 rfl) ?_
  refine g_H_21 C h d_H_forgetSharer_1 ?_
  refine lv_iload_n hx hb d_H_forgetSharer_4 rfl (lv_at hl 1 rfl) ?_
  refine lv_dup2_11 hx hb d_H_forgetSharer_5 rfl rfl ?_
  refine l_sha C h ha d_H_forgetSharer_6 ?_
  refine lv_iload_n hx hb d_H_forgetSharer_7 rfl (lv_at hl 2 rfl) ?_
  refine z_callS C h (k_H_bit l dC dI k q X M r ) co_H_bit ml_H_52 sc_H_bit in_H hd_H_bit ⟨by decide, by decide⟩ ⟨Nat.zero_le _, Nat.zero_le _⟩ hl.1 (Nat.le_of_ble_eq_true rfl) d_H_forgetSharer_8 rfl (fun H locs h => ?_)
  refine W.eq (g2 := F0 m 11 ls [.int (r_H_bit X M r), .int (X 14 0 (Int32.toNatClampNeg a)), .int a, .ref (q 36)]) rfl ?_
  have h : zH dC dI k q X M (zA q) s.heap H locs := h
  refine lv_iconst (v := -1) hx hb d_H_forgetSharer_11 (by decide) ?_
  refine lv_ixor hx hb d_H_forgetSharer_12 ?_
  refine lv_iand hx hb d_H_forgetSharer_13 ?_
  refine s_sha C h ha d_H_forgetSharer_14 (fun H locs h => ?_)
  refine lv_aload_n hx hb d_H_forgetSharer_15 rfl (lv_at hl 0 rfl) ?_
  refine g_H_15 C h d_H_forgetSharer_16 ?_
  refine lv_iload_n hx hb d_H_forgetSharer_19 rfl (lv_at hl 1 rfl) ?_
  refine l_kee C h ha d_H_forgetSharer_20 ?_
  refine z_top (y := X 12 0 (Int32.toNatClampNeg a)) rfl ?_
  refine lv_iconst (v := 1) hx hb d_H_forgetSharer_21 (by decide) ?_
  refine lv_icmp_ne (tgt := 41) hx hb d_H_forgetSharer_22 (by decide) (fun hh1 => ?_) (fun hh1 => ?_)
  · skip
    exact z_retvE C h hr hk (by first | rfl | (simp only [x_H_forgetSharer, eq_false hh1, ↓reduceIte]; done) | (simp [x_H_forgetSharer, eq_false hh1]; done)) (by first | rfl | (simp only [x_H_forgetSharer, eq_false hh1, ↓reduceIte]; done) | (simp [x_H_forgetSharer, eq_false hh1]; done)) d_H_forgetSharer_41
  · skip
    refine lv_aload_n hx hb d_H_forgetSharer_25 rfl (lv_at hl 0 rfl) ?_
    refine g_H_21 C h d_H_forgetSharer_26 ?_
    refine lv_iload_n hx hb d_H_forgetSharer_29 rfl (lv_at hl 1 rfl) ?_
    refine l_sha C h ha d_H_forgetSharer_30 ?_
    refine lv_if_ne (tgt := 41) hx hb d_H_forgetSharer_31 (by decide) (fun hh2 => ?_) (fun hh2 => ?_)
    · skip
      exact z_retvE C h hr hk (by first | rfl | (simp only [x_H_forgetSharer, eq_true hh1, eq_false hh2, ↓reduceIte]; done) | (simp [x_H_forgetSharer, eq_true hh1, eq_false hh2]; done)) (by first | rfl | (simp only [x_H_forgetSharer, eq_true hh1, eq_false hh2, ↓reduceIte]; done) | (simp [x_H_forgetSharer, eq_true hh1, eq_false hh2]; done)) d_H_forgetSharer_41
    · skip
      refine lv_aload_n hx hb d_H_forgetSharer_34 rfl (lv_at hl 0 rfl) ?_
      refine g_H_15 C h d_H_forgetSharer_35 ?_
      refine lv_iload_n hx hb d_H_forgetSharer_38 rfl (lv_at hl 1 rfl) ?_
      refine lv_iconst (v := 0) hx hb d_H_forgetSharer_39 (by decide) ?_
      refine s_kee C h ha d_H_forgetSharer_40 (fun H locs h => ?_)
      exact z_retvE C h hr hk (by first | rfl | (simp only [x_H_forgetSharer, eq_true hh1, eq_true hh2, ↓reduceIte]; done) | (simp [x_H_forgetSharer, eq_true hh1, eq_true hh2]; done)) (by first | rfl | (simp only [x_H_forgetSharer, eq_true hh1, eq_true hh2, ↓reduceIte]; done) | (simp [x_H_forgetSharer, eq_true hh1, eq_true hh2]; done)) d_H_forgetSharer_41
theorem hd_H_summary : y_H_summary.cls ≠ "java/lang/invoke/MethodHandle" ∧ y_H_summary.cls ≠ "java/lang/invoke/VarHandle" ∧ (parseMethodDescriptor y_H_summary.desc).map (fun d => d.parameters.length) = some 1 := by decide +kernel
def jS0_H_summary_22_1 (X : zXS) (M : zMS) (a : Int32) : Int32 := (if (X 12 0 (Int32.toNatClampNeg a)) = 2 then ((X 13 0 (Int32.toNatClampNeg a)) + 1) else 0)
def r_H_summary (X : zXS) (M : zMS) (a : Int32) : Int32 := (((X 12 0 (Int32.toNatClampNeg a)) + (4 * (jS0_H_summary_22_1 X M a))) + (32 * (X 14 0 (Int32.toNatClampNeg a))))
set_option maxHeartbeats 1000000 in
set_option maxRecDepth 100000 in
theorem k_H_summary (l : Launch) (dC : Nat → ClassId) (dI : Nat → Nat → Nat) (k : Nat → ClassId) (q : Nat → Nat) (X : zXS) (M : zMS) (a : Int32)  (ha : vp_in a 4) : zMet l dC dI k q y_H_summary c_H_summary 3 (some .int) 0 0 [.ref (q 32), .int a] (some (.int (r_H_summary X M a))) X M X M := by
  refine zMet.of (by decide) (Nat.le_of_ble_eq_true rfl) ?_
  intro p e s m args below meth c ls C hr hk hl h
  have hx := C.1
  have hb := C.2.1
  have hl : lv_has ls 3 [(0, .ref (q 32)), (1, .int a)] := hl
  have J22_1 : ∀ (ls : Array Slot) (H : Heap) (locs : List Loc), lv_has ls 3 [(0, .ref (q 32)), (1, .int a)] → zH dC dI k q X M (zA q) s.heap H locs → W p l e { frames := 0, cells := 0, slots := 0, locals := 0 } s m args below meth c H locs 0 0 (MQ below (zQc dC dI k q X M (some (.int (r_H_summary X M a)))) args s 0 0 (zA q)) (F0 m 22 ls [.int (jS0_H_summary_22_1 X M a)]) := by
    intro ls H locs hl h
    refine lv_istore_n hx hb d_H_summary_22 rfl hl (by decide) rfl (fun ls hl => ?_)
    have hl : lv_has ls 3 [(2, .int (jS0_H_summary_22_1 X M a)), (0, .ref (q 32)), (1, .int a)] := hl
    refine lv_aload_n hx hb d_H_summary_23 rfl (lv_at hl 1 rfl) ?_
    refine g_H_15 C h d_H_summary_24 ?_
    refine lv_iload_n hx hb d_H_summary_27 rfl (lv_at hl 2 rfl) ?_
    refine l_kee C h ha d_H_summary_28 ?_
    refine lv_iconst (v := 4) hx hb d_H_summary_29 (by decide) ?_
    refine lv_iload_n hx hb d_H_summary_30 rfl (lv_at hl 0 rfl) ?_
    refine lv_imul hx hb d_H_summary_31 ?_
    refine lv_iadd hx hb d_H_summary_32 ?_
    refine lv_bipush (v := 32) hx hb d_H_summary_33 (by decide) ?_
    refine lv_aload_n hx hb d_H_summary_35 rfl (lv_at hl 1 rfl) ?_
    refine g_H_21 C h d_H_summary_36 ?_
    refine lv_iload_n hx hb d_H_summary_39 rfl (lv_at hl 2 rfl) ?_
    refine l_sha C h ha d_H_summary_40 ?_
    refine lv_imul hx hb d_H_summary_41 ?_
    refine lv_iadd hx hb d_H_summary_42 ?_
    exact z_retE C h hr hk (by first | rfl | (simp only [r_H_summary, ↓reduceIte]; done) | (simp [r_H_summary]; done)) (by first | rfl | (simp only [r_H_summary, ↓reduceIte]; done) | (simp [r_H_summary]; done)) (by first | rfl | (simp only [r_H_summary, ↓reduceIte]; done) | (simp [r_H_summary]; done)) d_H_summary_43
  refine lv_aload_n hx hb d_H_summary_0 rfl (lv_at hl 0 rfl) ?_
  refine g_H_15 C h d_H_summary_1 ?_
  refine lv_iload_n hx hb d_H_summary_4 rfl (lv_at hl 1 rfl) ?_
  refine l_kee C h ha d_H_summary_5 ?_
  refine lv_iconst (v := 2) hx hb d_H_summary_6 (by decide) ?_
  refine lv_icmp_ne (tgt := 21) hx hb d_H_summary_7 (by decide) (fun hh1 => ?_) (fun hh1 => ?_)
  · skip
    refine lv_iconst (v := 0) hx hb d_H_summary_21 (by decide) ?_
    have J := J22_1 _ _ _ (lv_sub hl [0, 1] rfl) h
    rw [show (jS0_H_summary_22_1 X M a) = 0 from (by first | (simp only [jS0_H_summary_22_1, eq_false hh1, ↓reduceIte]; done) | (simp [jS0_H_summary_22_1, eq_false hh1]; done))] at J
    exact J
  · skip
    refine lv_aload_n hx hb d_H_summary_10 rfl (lv_at hl 0 rfl) ?_
    refine g_H_18 C h d_H_summary_11 ?_
    refine lv_iload_n hx hb d_H_summary_14 rfl (lv_at hl 1 rfl) ?_
    refine l_own C h ha d_H_summary_15 ?_
    refine lv_iconst (v := 1) hx hb d_H_summary_16 (by decide) ?_
    refine lv_iadd hx hb d_H_summary_17 ?_
    refine lv_goto (tgt := 22) hx hb d_H_summary_18 (by decide) ?_
    have J := J22_1 _ _ _ (lv_sub hl [0, 1] rfl) h
    rw [show (jS0_H_summary_22_1 X M a) = ((X 13 0 (Int32.toNatClampNeg a)) + 1) from (by first | (simp only [jS0_H_summary_22_1, eq_true hh1, ↓reduceIte]; done) | (simp [jS0_H_summary_22_1, eq_true hh1]; done))] at J
    exact J
theorem hd_H_stalls : y_H_stalls.cls ≠ "java/lang/invoke/MethodHandle" ∧ y_H_stalls.cls ≠ "java/lang/invoke/VarHandle" ∧ (parseMethodDescriptor y_H_stalls.desc).map (fun d => d.parameters.length) = some 2 := by decide +kernel
def r_H_stalls (X : zXS) (M : zMS) (w : Int32) (a : Int32) : Int32 := (if w = 0 then (if (X 12 0 (Int32.toNatClampNeg a)) = 3 then 1 else 0) else (if w = 1 then (if (X 12 0 (Int32.toNatClampNeg a)) = 3 then 1 else 0) else 0))
set_option maxHeartbeats 1000000 in
set_option maxRecDepth 100000 in
theorem k_H_stalls (l : Launch) (dC : Nat → ClassId) (dI : Nat → Nat → Nat) (k : Nat → ClassId) (q : Nat → Nat) (X : zXS) (M : zMS) (w : Int32) (a : Int32)  (ha : vp_in a 4) : zMet l dC dI k q y_H_stalls c_H_stalls 3 (some .boolean) 0 0 [.ref (q 32), .int w, .int a] (some (.int (r_H_stalls X M w a))) X M X M := by
  refine zMet.of (by decide) (Nat.le_of_ble_eq_true rfl) ?_
  intro p e s m args below meth c ls C hr hk hl h
  have hx := C.1
  have hb := C.2.1
  have hl : lv_has ls 3 [(0, .ref (q 32)), (1, .int w), (2, .int a)] := hl
  refine lv_iload_n hx hb d_H_stalls_0 rfl (lv_at hl 1 rfl) ?_
  refine lv_if_eq (tgt := 9) hx hb d_H_stalls_1 (by decide) (fun hh1 => ?_) (fun hh1 => ?_)
  · skip
    refine lv_aload_n hx hb d_H_stalls_9 rfl (lv_at hl 0 rfl) ?_
    refine g_H_15 C h d_H_stalls_10 ?_
    refine lv_iload_n hx hb d_H_stalls_13 rfl (lv_at hl 2 rfl) ?_
    refine l_kee C h ha d_H_stalls_14 ?_
    refine lv_iconst (v := 3) hx hb d_H_stalls_15 (by decide) ?_
    refine lv_icmp_ne (tgt := 23) hx hb d_H_stalls_16 (by decide) (fun hh2 => ?_) (fun hh2 => ?_)
    · skip
      refine lv_iconst (v := 0) hx hb d_H_stalls_23 (by decide) ?_
      exact z_retzE C h hr hk (by first | exact Or.inl rfl | exact Or.inr rfl) (by first | rfl | (simp only [r_H_stalls, eq_true hh1, eq_false hh2, ↓reduceIte]; done) | (simp [r_H_stalls, eq_true hh1, eq_false hh2]; done)) (by first | rfl | (simp only [r_H_stalls, eq_true hh1, eq_false hh2, ↓reduceIte]; done) | (simp [r_H_stalls, eq_true hh1, eq_false hh2]; done)) (by first | rfl | (simp only [r_H_stalls, eq_true hh1, eq_false hh2, ↓reduceIte]; done) | (simp [r_H_stalls, eq_true hh1, eq_false hh2]; done)) d_H_stalls_24
    · skip
      refine lv_iconst (v := 1) hx hb d_H_stalls_19 (by decide) ?_
      refine lv_goto (tgt := 24) hx hb d_H_stalls_20 (by decide) ?_
      exact z_retzE C h hr hk (by first | exact Or.inl rfl | exact Or.inr rfl) (by first | rfl | (simp only [r_H_stalls, eq_true hh1, eq_true hh2, ↓reduceIte]; done) | (simp [r_H_stalls, eq_true hh1, eq_true hh2]; done)) (by first | rfl | (simp only [r_H_stalls, eq_true hh1, eq_true hh2, ↓reduceIte]; done) | (simp [r_H_stalls, eq_true hh1, eq_true hh2]; done)) (by first | rfl | (simp only [r_H_stalls, eq_true hh1, eq_true hh2, ↓reduceIte]; done) | (simp [r_H_stalls, eq_true hh1, eq_true hh2]; done)) d_H_stalls_24
  · skip
    refine lv_iload_n hx hb d_H_stalls_4 rfl (lv_at hl 1 rfl) ?_
    refine lv_iconst (v := 1) hx hb d_H_stalls_5 (by decide) ?_
    refine lv_icmp_ne (tgt := 23) hx hb d_H_stalls_6 (by decide) (fun hh3 => ?_) (fun hh3 => ?_)
    · skip
      refine lv_iconst (v := 0) hx hb d_H_stalls_23 (by decide) ?_
      exact z_retzE C h hr hk (by first | exact Or.inl rfl | exact Or.inr rfl) (by first | rfl | (simp only [r_H_stalls, eq_false hh1, eq_false hh3, ↓reduceIte]; done) | (simp [r_H_stalls, eq_false hh1, eq_false hh3]; done)) (by first | rfl | (simp only [r_H_stalls, eq_false hh1, eq_false hh3, ↓reduceIte]; done) | (simp [r_H_stalls, eq_false hh1, eq_false hh3]; done)) (by first | rfl | (simp only [r_H_stalls, eq_false hh1, eq_false hh3, ↓reduceIte]; done) | (simp [r_H_stalls, eq_false hh1, eq_false hh3]; done)) d_H_stalls_24
    · skip
      refine lv_aload_n hx hb d_H_stalls_9 rfl (lv_at hl 0 rfl) ?_
      refine g_H_15 C h d_H_stalls_10 ?_
      refine lv_iload_n hx hb d_H_stalls_13 rfl (lv_at hl 2 rfl) ?_
      refine l_kee C h ha d_H_stalls_14 ?_
      refine lv_iconst (v := 3) hx hb d_H_stalls_15 (by decide) ?_
      refine lv_icmp_ne (tgt := 23) hx hb d_H_stalls_16 (by decide) (fun hh4 => ?_) (fun hh4 => ?_)
      · skip
        refine lv_iconst (v := 0) hx hb d_H_stalls_23 (by decide) ?_
        exact z_retzE C h hr hk (by first | exact Or.inl rfl | exact Or.inr rfl) (by first | rfl | (simp only [r_H_stalls, eq_false hh1, eq_true hh3, eq_false hh4, ↓reduceIte]; done) | (simp [r_H_stalls, eq_false hh1, eq_true hh3, eq_false hh4]; done)) (by first | rfl | (simp only [r_H_stalls, eq_false hh1, eq_true hh3, eq_false hh4, ↓reduceIte]; done) | (simp [r_H_stalls, eq_false hh1, eq_true hh3, eq_false hh4]; done)) (by first | rfl | (simp only [r_H_stalls, eq_false hh1, eq_true hh3, eq_false hh4, ↓reduceIte]; done) | (simp [r_H_stalls, eq_false hh1, eq_true hh3, eq_false hh4]; done)) d_H_stalls_24
      · skip
        refine lv_iconst (v := 1) hx hb d_H_stalls_19 (by decide) ?_
        refine lv_goto (tgt := 24) hx hb d_H_stalls_20 (by decide) ?_
        exact z_retzE C h hr hk (by first | exact Or.inl rfl | exact Or.inr rfl) (by first | rfl | (simp only [r_H_stalls, eq_false hh1, eq_true hh3, eq_true hh4, ↓reduceIte]; done) | (simp [r_H_stalls, eq_false hh1, eq_true hh3, eq_true hh4]; done)) (by first | rfl | (simp only [r_H_stalls, eq_false hh1, eq_true hh3, eq_true hh4, ↓reduceIte]; done) | (simp [r_H_stalls, eq_false hh1, eq_true hh3, eq_true hh4]; done)) (by first | rfl | (simp only [r_H_stalls, eq_false hh1, eq_true hh3, eq_true hh4, ↓reduceIte]; done) | (simp [r_H_stalls, eq_false hh1, eq_true hh3, eq_true hh4]; done)) d_H_stalls_24
def zCnt (X : zXS) (n : Nat) : Prop := ∃ j, j ≤ n ∧ X 2 0 0 = nI j
theorem zCnt.of {X : zXS} {n : Nat} (h : X 2 0 0 = nI n) : zCnt X n := ⟨n, Nat.le_refl _, h⟩
theorem zCnt.next {X : zXS} {M : zMS} {n : Nat} {a b c d e f g : Int32} (h : zCnt X n) : zCnt (x_A_send X M a b c d e f g) (n + 1) := by
  obtain ⟨j, h1, h2⟩ := h
  exact ⟨j + 1, by omega, cnt_next h2⟩
theorem zCnt.wk {X : zXS} {n k : Nat} (h : zCnt X n) (hk : n ≤ k) : zCnt X k := by
  obtain ⟨j, h1, h2⟩ := h
  exact ⟨j, by omega, h2⟩
theorem zCnt.ite {c : Prop} [Decidable c] {A B : zXS} {n : Nat} (hA : zCnt A n) (hB : zCnt B n) : zCnt (if c then A else B) n := by
  split <;> assumption
theorem zCnt.up {X : zXS} {n t r i : Nat} {v : Int32} (ht : 2 ≠ t) (h : zCnt X n) : zCnt (u3 X t r i v) n := by
  obtain ⟨j, h1, h2⟩ := h
  refine ⟨j, h1, ?_⟩
  show (if 2 = t then _ else X 2) 0 0 = _
  rw [if_neg ht]; exact h2
theorem zCnt.ex {X : zXS} {n N : Nat} (h : zCnt X n) (hn : n < N) : ∃ j, j < N ∧ X 2 0 0 = nI j := by
  obtain ⟨j, h1, h2⟩ := h
  exact ⟨j, by omega, h2⟩
theorem k_A_sendB (l : Launch) (dC : Nat → ClassId) (dI : Nat → Nat → Nat) (k : Nat → ClassId) (q : Nat → Nat) (X : zXS) (M : zMS) (kd ln sn to rq nm cv : Int32) (n : Nat) (hn : zCnt X n) (hb9 : n < 64) (ha : vp_in ln 4) (hr4 : vp_in rq 4) : zMet l dC dI k q y_A_send c_A_send 8 none 0 0 [.ref (q 1), .int kd, .int ln, .int sn, .int to, .int rq, .int nm, .int cv] none X M (x_A_send X M kd ln sn to rq nm cv) M := by
  obtain ⟨j, h1, h2⟩ := hn
  exact k_A_send l dC dI k q X M kd ln sn to rq nm cv j h2 (by omega) ha hr4
theorem hd_H_takeRead : y_H_takeRead.cls ≠ "java/lang/invoke/MethodHandle" ∧ y_H_takeRead.cls ≠ "java/lang/invoke/VarHandle" ∧ (parseMethodDescriptor y_H_takeRead.desc).map (fun d => d.parameters.length) = some 2 := by decide +kernel
def x_H_takeRead (X : zXS) (M : zMS) (a : Int32) (r : Int32) : zXS := (if (X 12 0 (Int32.toNatClampNeg a)) = 0 then (x_H_makeOwner (x_A_send X M 10 a 4 r r 0 (X 11 0 (Int32.toNatClampNeg a))) M r a) else (if (X 12 0 (Int32.toNatClampNeg a)) = 1 then (u3 (x_A_send X M 9 a 4 r r 0 (X 11 0 (Int32.toNatClampNeg a))) 14 0 (Int32.toNatClampNeg a) ((X 14 0 (Int32.toNatClampNeg a)) ||| (r_H_bit (x_A_send X M 9 a 4 r r 0 (X 11 0 (Int32.toNatClampNeg a))) M r))) else (u3 (u3 (x_A_send X M 5 a 4 (X 13 0 (Int32.toNatClampNeg a)) r 0 0) 14 0 (Int32.toNatClampNeg a) ((r_H_bit (x_A_send X M 5 a 4 (X 13 0 (Int32.toNatClampNeg a)) r 0 0) M (X 13 0 (Int32.toNatClampNeg a))) ||| (r_H_bit (x_A_send X M 5 a 4 (X 13 0 (Int32.toNatClampNeg a)) r 0 0) M r))) 12 0 (Int32.toNatClampNeg a) 3)))
set_option maxHeartbeats 1000000 in
set_option maxRecDepth 100000 in
theorem k_H_takeRead (l : Launch) (dC : Nat → ClassId) (dI : Nat → Nat → Nat) (k : Nat → ClassId) (q : Nat → Nat) (X : zXS) (M : zMS) (a : Int32) (r : Int32)  (n : Nat) (hn : X 2 0 0 = nI n) (hb9 : n + 6 ≤ 64) (ha : vp_in a 4) (hr4 : vp_in r 4) : zMet l dC dI k q y_H_takeRead c_H_takeRead 3 none 1 27 [.ref (q 32), .int a, .int r] none X M (x_H_takeRead X M a r) M := by
  refine zMet.of (by decide) (Nat.le_of_ble_eq_true rfl) ?_
  intro p e s m args below meth c ls C hr hk hl h
  have hx := C.1
  have hb := C.2.1
  have hl : lv_has ls 3 [(0, .ref (q 32)), (1, .int a), (2, .int r)] := hl
  refine lv_aload_n hx hb d_H_takeRead_0 rfl (lv_at hl 0 rfl) ?_
  refine g_H_15 C h d_H_takeRead_1 ?_
  refine lv_iload_n hx hb d_H_takeRead_4 rfl (lv_at hl 1 rfl) ?_
  refine l_kee C h ha d_H_takeRead_5 ?_
  rcases (Decidable.em ((X 12 0 (Int32.toNatClampNeg a)) = 0)) with hh1 | hh1
  · skip
    refine lv_lookup (off := 26) (tgt := 32) hx hb d_H_takeRead_6 (by decide) (by rw [hh1]; decide) (by decide) ?_
    refine lv_aload_n hx hb d_H_takeRead_32 rfl (lv_at hl 0 rfl) ?_
    refine g_H_24 C h d_H_takeRead_33 ?_
    refine lv_bipush (v := 10) hx hb d_H_takeRead_36 (by decide) ?_
    refine lv_iload_n hx hb d_H_takeRead_38 rfl (lv_at hl 1 rfl) ?_
    refine lv_iconst (v := 4) hx hb d_H_takeRead_39 (by decide) ?_
    refine lv_iload_n hx hb d_H_takeRead_40 rfl (lv_at hl 2 rfl) ?_
    refine lv_iload_n hx hb d_H_takeRead_41 rfl (lv_at hl 2 rfl) ?_
    refine lv_iconst (v := 0) hx hb d_H_takeRead_42 (by decide) ?_
    refine lv_aload_n hx hb d_H_takeRead_43 rfl (lv_at hl 0 rfl) ?_
    refine g_H_9 C h d_H_takeRead_44 ?_
    refine lv_iload_n hx hb d_H_takeRead_47 rfl (lv_at hl 1 rfl) ?_
    refine l_mem C h ha d_H_takeRead_48 ?_
    refine z_callV (i := 1) C h (k_A_sendB l dC dI k q X M 10 a 4 r r 0 (X 11 0 (Int32.toNatClampNeg a)) (n + 0) (zCnt.of hn) (by omega) ha hr4) co_A_send ml_H_45 im_A_send se_A_send in_A rfl rfl hd_A_send ⟨by decide, by decide⟩ ⟨Nat.zero_le _, Nat.zero_le _⟩ hl.1 (Nat.le_of_ble_eq_true rfl) d_H_takeRead_49 rfl (fun H locs h => ?_)
    refine W.eq (g2 := F0 m 52 ls []) rfl ?_
    have h : zH dC dI k q (x_A_send X M 10 a 4 r r 0 (X 11 0 (Int32.toNatClampNeg a))) M (zA q) s.heap H locs := h
    refine lv_aload_n hx hb d_H_takeRead_52 rfl (lv_at hl 0 rfl) ?_
    refine lv_iload_n hx hb d_H_takeRead_53 rfl (lv_at hl 2 rfl) ?_
    refine lv_iload_n hx hb d_H_takeRead_54 rfl (lv_at hl 1 rfl) ?_
    refine z_callV (i := 32) C h (k_H_makeOwner l dC dI k q (x_A_send X M 10 a 4 r r 0 (X 11 0 (Int32.toNatClampNeg a))) M r a ha) co_H_makeOwner ml_H_49 im_H_makeOwner se_H_makeOwner in_H rfl rfl hd_H_makeOwner ⟨by decide, by decide⟩ ⟨Nat.zero_le _, Nat.zero_le _⟩ hl.1 (Nat.le_of_ble_eq_true rfl) d_H_takeRead_55 rfl (fun H locs h => ?_)
    refine W.eq (g2 := F0 m 58 ls []) rfl ?_
    have h : zH dC dI k q (x_H_makeOwner (x_A_send X M 10 a 4 r r 0 (X 11 0 (Int32.toNatClampNeg a))) M r a) M (zA q) s.heap H locs := h
    refine lv_goto (tgt := 143) hx hb d_H_takeRead_58 (by decide) ?_
    exact z_retvE C h hr hk (by first | rfl | (simp only [x_H_takeRead, eq_true hh1, ↓reduceIte]; done) | (simp [x_H_takeRead, eq_true hh1]; done)) (by first | rfl | (simp only [x_H_takeRead, eq_true hh1, ↓reduceIte]; done) | (simp [x_H_takeRead, eq_true hh1]; done)) d_H_takeRead_143
  rcases (Decidable.em ((X 12 0 (Int32.toNatClampNeg a)) = 1)) with hh2 | hh2
  · skip
    refine lv_lookup (off := 55) (tgt := 61) hx hb d_H_takeRead_6 (by decide) (by rw [hh2]; decide) (by decide) ?_
    refine lv_aload_n hx hb d_H_takeRead_61 rfl (lv_at hl 0 rfl) ?_
    refine g_H_24 C h d_H_takeRead_62 ?_
    refine lv_bipush (v := 9) hx hb d_H_takeRead_65 (by decide) ?_
    refine lv_iload_n hx hb d_H_takeRead_67 rfl (lv_at hl 1 rfl) ?_
    refine lv_iconst (v := 4) hx hb d_H_takeRead_68 (by decide) ?_
    refine lv_iload_n hx hb d_H_takeRead_69 rfl (lv_at hl 2 rfl) ?_
    refine lv_iload_n hx hb d_H_takeRead_70 rfl (lv_at hl 2 rfl) ?_
    refine lv_iconst (v := 0) hx hb d_H_takeRead_71 (by decide) ?_
    refine lv_aload_n hx hb d_H_takeRead_72 rfl (lv_at hl 0 rfl) ?_
    refine g_H_9 C h d_H_takeRead_73 ?_
    refine lv_iload_n hx hb d_H_takeRead_76 rfl (lv_at hl 1 rfl) ?_
    refine l_mem C h ha d_H_takeRead_77 ?_
    refine z_callV (i := 1) C h (k_A_sendB l dC dI k q X M 9 a 4 r r 0 (X 11 0 (Int32.toNatClampNeg a)) (n + 0) (zCnt.of hn) (by omega) ha hr4) co_A_send ml_H_45 im_A_send se_A_send in_A rfl rfl hd_A_send ⟨by decide, by decide⟩ ⟨Nat.zero_le _, Nat.zero_le _⟩ hl.1 (Nat.le_of_ble_eq_true rfl) d_H_takeRead_78 rfl (fun H locs h => ?_)
    refine W.eq (g2 := F0 m 81 ls []) rfl ?_
    have h : zH dC dI k q (x_A_send X M 9 a 4 r r 0 (X 11 0 (Int32.toNatClampNeg a))) M (zA q) s.heap H locs := h
    refine lv_aload_n hx hb d_H_takeRead_81 rfl (lv_at hl 0 rfl) ?_
    refine g_H_21 C h d_H_takeRead_82 ?_
    refine lv_iload_n hx hb d_H_takeRead_85 rfl (lv_at hl 1 rfl) ?_
    refine lv_dup2_11 hx hb d_H_takeRead_86 rfl rfl ?_
    refine l_sha C h ha d_H_takeRead_87 ?_
    refine z_top (y := X 14 0 (Int32.toNatClampNeg a)) rfl ?_
    refine lv_iload_n hx hb d_H_takeRead_88 rfl (lv_at hl 2 rfl) ?_
    refine z_callS C h (k_H_bit l dC dI k q (x_A_send X M 9 a 4 r r 0 (X 11 0 (Int32.toNatClampNeg a))) M r ) co_H_bit ml_H_52 sc_H_bit in_H hd_H_bit ⟨by decide, by decide⟩ ⟨Nat.zero_le _, Nat.zero_le _⟩ hl.1 (Nat.le_of_ble_eq_true rfl) d_H_takeRead_89 rfl (fun H locs h => ?_)
    refine W.eq (g2 := F0 m 92 ls [.int (r_H_bit (x_A_send X M 9 a 4 r r 0 (X 11 0 (Int32.toNatClampNeg a))) M r), .int (X 14 0 (Int32.toNatClampNeg a)), .int a, .ref (q 36)]) rfl ?_
    have h : zH dC dI k q (x_A_send X M 9 a 4 r r 0 (X 11 0 (Int32.toNatClampNeg a))) M (zA q) s.heap H locs := h
    refine lv_ior hx hb d_H_takeRead_92 ?_
    refine s_sha C h ha d_H_takeRead_93 (fun H locs h => ?_)
    refine lv_goto (tgt := 143) hx hb d_H_takeRead_94 (by decide) ?_
    exact z_retvE C h hr hk (by first | rfl | (simp only [x_H_takeRead, eq_false hh1, eq_true hh2, ↓reduceIte]; done) | (simp [x_H_takeRead, eq_false hh1, eq_true hh2]; done)) (by first | rfl | (simp only [x_H_takeRead, eq_false hh1, eq_true hh2, ↓reduceIte]; done) | (simp [x_H_takeRead, eq_false hh1, eq_true hh2]; done)) d_H_takeRead_143
  refine lv_lookup (off := 91) (tgt := 97) hx hb d_H_takeRead_6 (by decide) (by rw [lv_osw hh1 (by decide), lv_osw hh2 (by decide)]; rfl) (by decide) ?_
  refine lv_aload_n hx hb d_H_takeRead_97 rfl (lv_at hl 0 rfl) ?_
  refine g_H_24 C h d_H_takeRead_98 ?_
  refine lv_iconst (v := 5) hx hb d_H_takeRead_101 (by decide) ?_
  refine lv_iload_n hx hb d_H_takeRead_102 rfl (lv_at hl 1 rfl) ?_
  refine lv_iconst (v := 4) hx hb d_H_takeRead_103 (by decide) ?_
  refine lv_aload_n hx hb d_H_takeRead_104 rfl (lv_at hl 0 rfl) ?_
  refine g_H_18 C h d_H_takeRead_105 ?_
  refine lv_iload_n hx hb d_H_takeRead_108 rfl (lv_at hl 1 rfl) ?_
  refine l_own C h ha d_H_takeRead_109 ?_
  refine lv_iload_n hx hb d_H_takeRead_110 rfl (lv_at hl 2 rfl) ?_
  refine lv_iconst (v := 0) hx hb d_H_takeRead_111 (by decide) ?_
  refine lv_iconst (v := 0) hx hb d_H_takeRead_112 (by decide) ?_
  refine z_callV (i := 1) C h (k_A_sendB l dC dI k q X M 5 a 4 (X 13 0 (Int32.toNatClampNeg a)) r 0 0 (n + 0) (zCnt.of hn) (by omega) ha hr4) co_A_send ml_H_45 im_A_send se_A_send in_A rfl rfl hd_A_send ⟨by decide, by decide⟩ ⟨Nat.zero_le _, Nat.zero_le _⟩ hl.1 (Nat.le_of_ble_eq_true rfl) d_H_takeRead_113 rfl (fun H locs h => ?_)
  refine W.eq (g2 := F0 m 116 ls []) rfl ?_
  have h : zH dC dI k q (x_A_send X M 5 a 4 (X 13 0 (Int32.toNatClampNeg a)) r 0 0) M (zA q) s.heap H locs := h
  refine lv_aload_n hx hb d_H_takeRead_116 rfl (lv_at hl 0 rfl) ?_
  refine g_H_21 C h d_H_takeRead_117 ?_
  refine lv_iload_n hx hb d_H_takeRead_120 rfl (lv_at hl 1 rfl) ?_
  refine lv_aload_n hx hb d_H_takeRead_121 rfl (lv_at hl 0 rfl) ?_
  refine g_H_18 C h d_H_takeRead_122 ?_
  refine lv_iload_n hx hb d_H_takeRead_125 rfl (lv_at hl 1 rfl) ?_
  refine l_own C h ha d_H_takeRead_126 ?_
  refine z_top (y := X 13 0 (Int32.toNatClampNeg a)) rfl ?_
  refine z_callS C h (k_H_bit l dC dI k q (x_A_send X M 5 a 4 (X 13 0 (Int32.toNatClampNeg a)) r 0 0) M (X 13 0 (Int32.toNatClampNeg a)) ) co_H_bit ml_H_52 sc_H_bit in_H hd_H_bit ⟨by decide, by decide⟩ ⟨Nat.zero_le _, Nat.zero_le _⟩ hl.1 (Nat.le_of_ble_eq_true rfl) d_H_takeRead_127 rfl (fun H locs h => ?_)
  refine W.eq (g2 := F0 m 130 ls [.int (r_H_bit (x_A_send X M 5 a 4 (X 13 0 (Int32.toNatClampNeg a)) r 0 0) M (X 13 0 (Int32.toNatClampNeg a))), .int a, .ref (q 36)]) rfl ?_
  have h : zH dC dI k q (x_A_send X M 5 a 4 (X 13 0 (Int32.toNatClampNeg a)) r 0 0) M (zA q) s.heap H locs := h
  refine lv_iload_n hx hb d_H_takeRead_130 rfl (lv_at hl 2 rfl) ?_
  refine z_callS C h (k_H_bit l dC dI k q (x_A_send X M 5 a 4 (X 13 0 (Int32.toNatClampNeg a)) r 0 0) M r ) co_H_bit ml_H_52 sc_H_bit in_H hd_H_bit ⟨by decide, by decide⟩ ⟨Nat.zero_le _, Nat.zero_le _⟩ hl.1 (Nat.le_of_ble_eq_true rfl) d_H_takeRead_131 rfl (fun H locs h => ?_)
  refine W.eq (g2 := F0 m 134 ls [.int (r_H_bit (x_A_send X M 5 a 4 (X 13 0 (Int32.toNatClampNeg a)) r 0 0) M r), .int (r_H_bit (x_A_send X M 5 a 4 (X 13 0 (Int32.toNatClampNeg a)) r 0 0) M (X 13 0 (Int32.toNatClampNeg a))), .int a, .ref (q 36)]) rfl ?_
  have h : zH dC dI k q (x_A_send X M 5 a 4 (X 13 0 (Int32.toNatClampNeg a)) r 0 0) M (zA q) s.heap H locs := h
  refine lv_ior hx hb d_H_takeRead_134 ?_
  refine s_sha C h ha d_H_takeRead_135 (fun H locs h => ?_)
  refine lv_aload_n hx hb d_H_takeRead_136 rfl (lv_at hl 0 rfl) ?_
  refine g_H_15 C h d_H_takeRead_137 ?_
  refine lv_iload_n hx hb d_H_takeRead_140 rfl (lv_at hl 1 rfl) ?_
  refine lv_iconst (v := 3) hx hb d_H_takeRead_141 (by decide) ?_
  refine s_kee C h ha d_H_takeRead_142 (fun H locs h => ?_)
  exact z_retvE C h hr hk (by first | rfl | (simp only [x_H_takeRead, eq_false hh1, eq_false hh2, ↓reduceIte]; done) | (simp [x_H_takeRead, eq_false hh1, eq_false hh2]; done)) (by first | rfl | (simp only [x_H_takeRead, eq_false hh1, eq_false hh2, ↓reduceIte]; done) | (simp [x_H_takeRead, eq_false hh1, eq_false hh2]; done)) d_H_takeRead_143
theorem hd_H_dropOthers : y_H_dropOthers.cls ≠ "java/lang/invoke/MethodHandle" ∧ y_H_dropOthers.cls ≠ "java/lang/invoke/VarHandle" ∧ (parseMethodDescriptor y_H_dropOthers.desc).map (fun d => d.parameters.length) = some 2 := by decide +kernel
def jX_H_dropOthers_72_1 (X : zXS) (M : zMS) (a : Int32) (r : Int32) : zXS := (if (((X 14 0 (Int32.toNatClampNeg a)) &&& ((r_H_bit X M r) ^^^ (-1))) &&& (r_H_bit (x_A_send X M 9 a 4 r r (r_J_bitCount X M ((X 14 0 (Int32.toNatClampNeg a)) &&& ((r_H_bit X M r) ^^^ (-1)))) (X 11 0 (Int32.toNatClampNeg a))) M 0)) = 0 then (x_A_send X M 9 a 4 r r (r_J_bitCount X M ((X 14 0 (Int32.toNatClampNeg a)) &&& ((r_H_bit X M r) ^^^ (-1)))) (X 11 0 (Int32.toNatClampNeg a))) else (x_A_send (x_A_send X M 9 a 4 r r (r_J_bitCount X M ((X 14 0 (Int32.toNatClampNeg a)) &&& ((r_H_bit X M r) ^^^ (-1)))) (X 11 0 (Int32.toNatClampNeg a))) M 7 a 4 0 r 0 0))
def jX_H_dropOthers_72_2 (X : zXS) (M : zMS) (a : Int32) (r : Int32) : zXS := (if (((X 14 0 (Int32.toNatClampNeg a)) &&& ((r_H_bit X M r) ^^^ (-1))) &&& (r_H_bit (jX_H_dropOthers_72_1 X M a r) M 1)) = 0 then (jX_H_dropOthers_72_1 X M a r) else (x_A_send (jX_H_dropOthers_72_1 X M a r) M 7 a 4 1 r 0 0))
def jX_H_dropOthers_72_3 (X : zXS) (M : zMS) (a : Int32) (r : Int32) : zXS := (if (((X 14 0 (Int32.toNatClampNeg a)) &&& ((r_H_bit X M r) ^^^ (-1))) &&& (r_H_bit (jX_H_dropOthers_72_2 X M a r) M 2)) = 0 then (jX_H_dropOthers_72_2 X M a r) else (x_A_send (jX_H_dropOthers_72_2 X M a r) M 7 a 4 2 r 0 0))
def jX_H_dropOthers_72_4 (X : zXS) (M : zMS) (a : Int32) (r : Int32) : zXS := (if (((X 14 0 (Int32.toNatClampNeg a)) &&& ((r_H_bit X M r) ^^^ (-1))) &&& (r_H_bit (jX_H_dropOthers_72_3 X M a r) M 3)) = 0 then (jX_H_dropOthers_72_3 X M a r) else (x_A_send (jX_H_dropOthers_72_3 X M a r) M 7 a 4 3 r 0 0))
def x_H_dropOthers (X : zXS) (M : zMS) (a : Int32) (r : Int32) : zXS := (u3 (jX_H_dropOthers_72_4 X M a r) 14 0 (Int32.toNatClampNeg a) 0)
set_option maxHeartbeats 1000000 in
set_option maxRecDepth 100000 in
theorem k_H_dropOthers (l : Launch) (dC : Nat → ClassId) (dI : Nat → Nat → Nat) (k : Nat → ClassId) (q : Nat → Nat) (X : zXS) (M : zMS) (a : Int32) (r : Int32)  (n : Nat) (hn : X 2 0 0 = nI n) (hb9 : n + 6 ≤ 64) (ha : vp_in a 4) (hr4 : vp_in r 4) : zMet l dC dI k q y_H_dropOthers c_H_dropOthers 5 none 1 27 [.ref (q 32), .int a, .int r] none X M (x_H_dropOthers X M a r) M := by
  refine zMet.of (by decide) (Nat.le_of_ble_eq_true rfl) ?_
  intro p e s m args below meth c ls C hr hk hl h
  have hx := C.1
  have hb := C.2.1
  have hl : lv_has ls 5 [(0, .ref (q 32)), (1, .int a), (2, .int r)] := hl
  refine lv_aload_n hx hb d_H_dropOthers_0 rfl (lv_at hl 0 rfl) ?_
  refine g_H_21 C h d_H_dropOthers_1 ?_
  refine lv_iload_n hx hb d_H_dropOthers_4 rfl (lv_at hl 1 rfl) ?_
  refine l_sha C h ha d_H_dropOthers_5 ?_
  refine lv_iload_n hx hb d_H_dropOthers_6 rfl (lv_at hl 2 rfl) ?_
  refine z_callS C h (k_H_bit l dC dI k q X M r ) co_H_bit ml_H_52 sc_H_bit in_H hd_H_bit ⟨by decide, by decide⟩ ⟨Nat.zero_le _, Nat.zero_le _⟩ hl.1 (Nat.le_of_ble_eq_true rfl) d_H_dropOthers_7 rfl (fun H locs h => ?_)
  refine W.eq (g2 := F0 m 10 ls [.int (r_H_bit X M r), .int (X 14 0 (Int32.toNatClampNeg a))]) rfl ?_
  have h : zH dC dI k q X M (zA q) s.heap H locs := h
  refine lv_iconst (v := -1) hx hb d_H_dropOthers_10 (by decide) ?_
  refine lv_ixor hx hb d_H_dropOthers_11 ?_
  refine lv_iand hx hb d_H_dropOthers_12 ?_
  refine lv_istore_n hx hb d_H_dropOthers_13 rfl hl (by decide) rfl (fun ls hl => ?_)
  have hl : lv_has ls 5 [(3, .int ((X 14 0 (Int32.toNatClampNeg a)) &&& ((r_H_bit X M r) ^^^ (-1)))), (0, .ref (q 32)), (1, .int a), (2, .int r)] := hl
  refine lv_aload_n hx hb d_H_dropOthers_14 rfl (lv_at hl 1 rfl) ?_
  refine g_H_24 C h d_H_dropOthers_15 ?_
  refine lv_bipush (v := 9) hx hb d_H_dropOthers_18 (by decide) ?_
  refine lv_iload_n hx hb d_H_dropOthers_20 rfl (lv_at hl 2 rfl) ?_
  refine lv_iconst (v := 4) hx hb d_H_dropOthers_21 (by decide) ?_
  refine lv_iload_n hx hb d_H_dropOthers_22 rfl (lv_at hl 3 rfl) ?_
  refine lv_iload_n hx hb d_H_dropOthers_23 rfl (lv_at hl 3 rfl) ?_
  refine lv_iload_n hx hb d_H_dropOthers_24 rfl (lv_at hl 0 rfl) ?_
  refine z_callS C h (k_J_bitCount l dC dI k q X M ((X 14 0 (Int32.toNatClampNeg a)) &&& ((r_H_bit X M r) ^^^ (-1))) ) co_J_bitCount ml_H_59 sc_J_bitCount in_J hd_J_bitCount ⟨by decide, by decide⟩ ⟨Nat.zero_le _, Nat.zero_le _⟩ hl.1 (Nat.le_of_ble_eq_true rfl) d_H_dropOthers_25 rfl (fun H locs h => ?_)
  refine W.eq (g2 := F0 m 28 ls [.int (r_J_bitCount X M ((X 14 0 (Int32.toNatClampNeg a)) &&& ((r_H_bit X M r) ^^^ (-1)))), .int r, .int r, .int 4, .int a, .int 9, .ref (q 1)]) rfl ?_
  have h : zH dC dI k q X M (zA q) s.heap H locs := h
  refine lv_aload_n hx hb d_H_dropOthers_28 rfl (lv_at hl 1 rfl) ?_
  refine g_H_9 C h d_H_dropOthers_29 ?_
  refine lv_iload_n hx hb d_H_dropOthers_32 rfl (lv_at hl 2 rfl) ?_
  refine l_mem C h ha d_H_dropOthers_33 ?_
  refine z_callV (i := 1) C h (k_A_sendB l dC dI k q X M 9 a 4 r r (r_J_bitCount X M ((X 14 0 (Int32.toNatClampNeg a)) &&& ((r_H_bit X M r) ^^^ (-1)))) (X 11 0 (Int32.toNatClampNeg a)) (n + 0) (zCnt.of hn) (by omega) ha hr4) co_A_send ml_H_45 im_A_send se_A_send in_A rfl rfl hd_A_send ⟨by decide, by decide⟩ ⟨Nat.zero_le _, Nat.zero_le _⟩ hl.1 (Nat.le_of_ble_eq_true rfl) d_H_dropOthers_34 rfl (fun H locs h => ?_)
  refine W.eq (g2 := F0 m 37 ls []) rfl ?_
  have h : zH dC dI k q (x_A_send X M 9 a 4 r r (r_J_bitCount X M ((X 14 0 (Int32.toNatClampNeg a)) &&& ((r_H_bit X M r) ^^^ (-1)))) (X 11 0 (Int32.toNatClampNeg a))) M (zA q) s.heap H locs := h
  refine lv_iconst (v := 0) hx hb d_H_dropOthers_37 (by decide) ?_
  refine lv_istore hx hb d_H_dropOthers_38 hl (by decide) rfl (fun ls hl => ?_)
  have hl : lv_has ls 5 [(4, .int 0), (3, .int ((X 14 0 (Int32.toNatClampNeg a)) &&& ((r_H_bit X M r) ^^^ (-1)))), (0, .ref (q 32)), (1, .int a), (2, .int r)] := hl
  refine lv_iload hx hb d_H_dropOthers_40 (lv_at hl 0 rfl) ?_
  refine lv_iconst (v := 4) hx hb d_H_dropOthers_42 (by decide) ?_
  refine lv_icmp_ge (tgt := 78) hx hb d_H_dropOthers_43 (by decide) (fun hh1 => absurd hh1 (by decide)) (fun _ => ?_)
  have J72_1 : ∀ (ls : Array Slot) (H : Heap) (locs : List Loc), lv_has ls 5 [(0, .ref (q 32)), (1, .int a), (2, .int r), (3, .int ((X 14 0 (Int32.toNatClampNeg a)) &&& ((r_H_bit X M r) ^^^ (-1)))), (4, .int 0)] → zH dC dI k q (jX_H_dropOthers_72_1 X M a r) M (zA q) s.heap H locs → W p l e { frames := 1, cells := 0, slots := 0, locals := 27 } s m args below meth c H locs 0 0 (MQ below (zQc dC dI k q (x_H_dropOthers X M a r) M none) args s 0 0 (zA q)) (F0 m 72 ls []) := by
    intro ls H locs hl h
    have hqjX_H_dropOthers_72_1 : zCnt (jX_H_dropOthers_72_1 X M a r) (n + 2) := (zCnt.ite (zCnt.wk (zCnt.next (zCnt.of hn)) (by omega)) (zCnt.wk (zCnt.next (zCnt.next (zCnt.of hn))) (by omega)))
    refine lv_iinc (k := 4) (v := 1) hx hb d_H_dropOthers_72 hl rfl (by decide) (by decide) rfl (fun ls hl => ?_)
    have hl : lv_has ls 5 [(4, .int 1), (0, .ref (q 32)), (1, .int a), (2, .int r), (3, .int ((X 14 0 (Int32.toNatClampNeg a)) &&& ((r_H_bit X M r) ^^^ (-1))))] := hl
    refine lv_goto (tgt := 40) hx hb d_H_dropOthers_75 (by decide) ?_
    refine lv_iload hx hb d_H_dropOthers_40 (lv_at hl 0 rfl) ?_
    refine lv_iconst (v := 4) hx hb d_H_dropOthers_42 (by decide) ?_
    refine lv_icmp_ge (tgt := 78) hx hb d_H_dropOthers_43 (by decide) (fun hh2 => absurd hh2 (by decide)) (fun _ => ?_)
    have J72_2 : ∀ (ls : Array Slot) (H : Heap) (locs : List Loc), lv_has ls 5 [(0, .ref (q 32)), (1, .int a), (2, .int r), (3, .int ((X 14 0 (Int32.toNatClampNeg a)) &&& ((r_H_bit X M r) ^^^ (-1)))), (4, .int 1)] → zH dC dI k q (jX_H_dropOthers_72_2 X M a r) M (zA q) s.heap H locs → W p l e { frames := 1, cells := 0, slots := 0, locals := 27 } s m args below meth c H locs 0 0 (MQ below (zQc dC dI k q (x_H_dropOthers X M a r) M none) args s 0 0 (zA q)) (F0 m 72 ls []) := by
      intro ls H locs hl h
      have hqjX_H_dropOthers_72_2 : zCnt (jX_H_dropOthers_72_2 X M a r) (n + 3) := (zCnt.ite (zCnt.wk hqjX_H_dropOthers_72_1 (by omega)) (zCnt.wk (zCnt.next hqjX_H_dropOthers_72_1) (by omega)))
      refine lv_iinc (k := 4) (v := 2) hx hb d_H_dropOthers_72 hl rfl (by decide) (by decide) rfl (fun ls hl => ?_)
      have hl : lv_has ls 5 [(4, .int 2), (0, .ref (q 32)), (1, .int a), (2, .int r), (3, .int ((X 14 0 (Int32.toNatClampNeg a)) &&& ((r_H_bit X M r) ^^^ (-1))))] := hl
      refine lv_goto (tgt := 40) hx hb d_H_dropOthers_75 (by decide) ?_
      refine lv_iload hx hb d_H_dropOthers_40 (lv_at hl 0 rfl) ?_
      refine lv_iconst (v := 4) hx hb d_H_dropOthers_42 (by decide) ?_
      refine lv_icmp_ge (tgt := 78) hx hb d_H_dropOthers_43 (by decide) (fun hh3 => absurd hh3 (by decide)) (fun _ => ?_)
      have J72_3 : ∀ (ls : Array Slot) (H : Heap) (locs : List Loc), lv_has ls 5 [(0, .ref (q 32)), (1, .int a), (2, .int r), (3, .int ((X 14 0 (Int32.toNatClampNeg a)) &&& ((r_H_bit X M r) ^^^ (-1)))), (4, .int 2)] → zH dC dI k q (jX_H_dropOthers_72_3 X M a r) M (zA q) s.heap H locs → W p l e { frames := 1, cells := 0, slots := 0, locals := 27 } s m args below meth c H locs 0 0 (MQ below (zQc dC dI k q (x_H_dropOthers X M a r) M none) args s 0 0 (zA q)) (F0 m 72 ls []) := by
        intro ls H locs hl h
        have hqjX_H_dropOthers_72_3 : zCnt (jX_H_dropOthers_72_3 X M a r) (n + 4) := (zCnt.ite (zCnt.wk hqjX_H_dropOthers_72_2 (by omega)) (zCnt.wk (zCnt.next hqjX_H_dropOthers_72_2) (by omega)))
        refine lv_iinc (k := 4) (v := 3) hx hb d_H_dropOthers_72 hl rfl (by decide) (by decide) rfl (fun ls hl => ?_)
        have hl : lv_has ls 5 [(4, .int 3), (0, .ref (q 32)), (1, .int a), (2, .int r), (3, .int ((X 14 0 (Int32.toNatClampNeg a)) &&& ((r_H_bit X M r) ^^^ (-1))))] := hl
        refine lv_goto (tgt := 40) hx hb d_H_dropOthers_75 (by decide) ?_
        refine lv_iload hx hb d_H_dropOthers_40 (lv_at hl 0 rfl) ?_
        refine lv_iconst (v := 4) hx hb d_H_dropOthers_42 (by decide) ?_
        refine lv_icmp_ge (tgt := 78) hx hb d_H_dropOthers_43 (by decide) (fun hh4 => absurd hh4 (by decide)) (fun _ => ?_)
        have J72_4 : ∀ (ls : Array Slot) (H : Heap) (locs : List Loc), lv_has ls 5 [(0, .ref (q 32)), (1, .int a), (2, .int r), (3, .int ((X 14 0 (Int32.toNatClampNeg a)) &&& ((r_H_bit X M r) ^^^ (-1)))), (4, .int 3)] → zH dC dI k q (jX_H_dropOthers_72_4 X M a r) M (zA q) s.heap H locs → W p l e { frames := 1, cells := 0, slots := 0, locals := 27 } s m args below meth c H locs 0 0 (MQ below (zQc dC dI k q (x_H_dropOthers X M a r) M none) args s 0 0 (zA q)) (F0 m 72 ls []) := by
          intro ls H locs hl h
          have hqjX_H_dropOthers_72_4 : zCnt (jX_H_dropOthers_72_4 X M a r) (n + 5) := (zCnt.ite (zCnt.wk hqjX_H_dropOthers_72_3 (by omega)) (zCnt.wk (zCnt.next hqjX_H_dropOthers_72_3) (by omega)))
          refine lv_iinc (k := 4) (v := 4) hx hb d_H_dropOthers_72 hl rfl (by decide) (by decide) rfl (fun ls hl => ?_)
          have hl : lv_has ls 5 [(4, .int 4), (0, .ref (q 32)), (1, .int a), (2, .int r), (3, .int ((X 14 0 (Int32.toNatClampNeg a)) &&& ((r_H_bit X M r) ^^^ (-1))))] := hl
          refine lv_goto (tgt := 40) hx hb d_H_dropOthers_75 (by decide) ?_
          refine lv_iload hx hb d_H_dropOthers_40 (lv_at hl 0 rfl) ?_
          refine lv_iconst (v := 4) hx hb d_H_dropOthers_42 (by decide) ?_
          refine lv_icmp_ge (tgt := 78) hx hb d_H_dropOthers_43 (by decide) (fun _ => ?_) (fun hh5 => absurd (by decide) hh5)
          refine lv_aload_n hx hb d_H_dropOthers_78 rfl (lv_at hl 1 rfl) ?_
          refine g_H_21 C h d_H_dropOthers_79 ?_
          refine lv_iload_n hx hb d_H_dropOthers_82 rfl (lv_at hl 2 rfl) ?_
          refine lv_iconst (v := 0) hx hb d_H_dropOthers_83 (by decide) ?_
          refine s_sha C h ha d_H_dropOthers_84 (fun H locs h => ?_)
          exact z_retvE C h hr hk (by first | rfl | (simp only [x_H_dropOthers, ↓reduceIte]; done) | (simp [x_H_dropOthers]; done)) (by first | rfl | (simp only [x_H_dropOthers, ↓reduceIte]; done) | (simp [x_H_dropOthers]; done)) d_H_dropOthers_85
        refine lv_iload_n hx hb d_H_dropOthers_46 rfl (lv_at hl 4 rfl) ?_
        refine lv_iload hx hb d_H_dropOthers_47 (lv_at hl 0 rfl) ?_
        refine z_callS C h (k_H_bit l dC dI k q (jX_H_dropOthers_72_3 X M a r) M 3 ) co_H_bit ml_H_52 sc_H_bit in_H hd_H_bit ⟨by decide, by decide⟩ ⟨Nat.zero_le _, Nat.zero_le _⟩ hl.1 (Nat.le_of_ble_eq_true rfl) d_H_dropOthers_49 rfl (fun H locs h => ?_)
        refine W.eq (g2 := F0 m 52 ls [.int (r_H_bit (jX_H_dropOthers_72_3 X M a r) M 3), .int ((X 14 0 (Int32.toNatClampNeg a)) &&& ((r_H_bit X M r) ^^^ (-1)))]) rfl ?_
        have h : zH dC dI k q (jX_H_dropOthers_72_3 X M a r) M (zA q) s.heap H locs := h
        refine lv_iand hx hb d_H_dropOthers_52 ?_
        refine lv_if_eq (tgt := 72) hx hb d_H_dropOthers_53 (by decide) (fun hh6 => ?_) (fun hh6 => ?_)
        · skip
          exact J72_4 _ _ _ (lv_sub hl [1, 2, 3, 4, 0] rfl) (by rw [show (jX_H_dropOthers_72_4 X M a r) = (jX_H_dropOthers_72_3 X M a r) from (by first | (simp only [jX_H_dropOthers_72_4, eq_true hh6, ↓reduceIte]; done) | (simp [jX_H_dropOthers_72_4, eq_true hh6]; done))]; exact h)
        · skip
          refine lv_aload_n hx hb d_H_dropOthers_56 rfl (lv_at hl 1 rfl) ?_
          refine g_H_24 C h d_H_dropOthers_57 ?_
          refine lv_bipush (v := 7) hx hb d_H_dropOthers_60 (by decide) ?_
          refine lv_iload_n hx hb d_H_dropOthers_62 rfl (lv_at hl 2 rfl) ?_
          refine lv_iconst (v := 4) hx hb d_H_dropOthers_63 (by decide) ?_
          refine lv_iload hx hb d_H_dropOthers_64 (lv_at hl 0 rfl) ?_
          refine lv_iload_n hx hb d_H_dropOthers_66 rfl (lv_at hl 3 rfl) ?_
          refine lv_iconst (v := 0) hx hb d_H_dropOthers_67 (by decide) ?_
          refine lv_iconst (v := 0) hx hb d_H_dropOthers_68 (by decide) ?_
          refine z_callV (i := 1) C h (k_A_sendB l dC dI k q (jX_H_dropOthers_72_3 X M a r) M 7 a 4 3 r 0 0 (n + 4) hqjX_H_dropOthers_72_3 (by omega) ha hr4) co_A_send ml_H_45 im_A_send se_A_send in_A rfl rfl hd_A_send ⟨by decide, by decide⟩ ⟨Nat.zero_le _, Nat.zero_le _⟩ hl.1 (Nat.le_of_ble_eq_true rfl) d_H_dropOthers_69 rfl (fun H locs h => ?_)
          refine W.eq (g2 := F0 m 72 ls []) rfl ?_
          have h : zH dC dI k q (x_A_send (jX_H_dropOthers_72_3 X M a r) M 7 a 4 3 r 0 0) M (zA q) s.heap H locs := h
          exact J72_4 _ _ _ (lv_sub hl [1, 2, 3, 4, 0] rfl) (by rw [show (jX_H_dropOthers_72_4 X M a r) = (x_A_send (jX_H_dropOthers_72_3 X M a r) M 7 a 4 3 r 0 0) from (by first | (simp only [jX_H_dropOthers_72_4, eq_false hh6, ↓reduceIte]; done) | (simp [jX_H_dropOthers_72_4, eq_false hh6]; done))]; exact h)
      refine lv_iload_n hx hb d_H_dropOthers_46 rfl (lv_at hl 4 rfl) ?_
      refine lv_iload hx hb d_H_dropOthers_47 (lv_at hl 0 rfl) ?_
      refine z_callS C h (k_H_bit l dC dI k q (jX_H_dropOthers_72_2 X M a r) M 2 ) co_H_bit ml_H_52 sc_H_bit in_H hd_H_bit ⟨by decide, by decide⟩ ⟨Nat.zero_le _, Nat.zero_le _⟩ hl.1 (Nat.le_of_ble_eq_true rfl) d_H_dropOthers_49 rfl (fun H locs h => ?_)
      refine W.eq (g2 := F0 m 52 ls [.int (r_H_bit (jX_H_dropOthers_72_2 X M a r) M 2), .int ((X 14 0 (Int32.toNatClampNeg a)) &&& ((r_H_bit X M r) ^^^ (-1)))]) rfl ?_
      have h : zH dC dI k q (jX_H_dropOthers_72_2 X M a r) M (zA q) s.heap H locs := h
      refine lv_iand hx hb d_H_dropOthers_52 ?_
      refine lv_if_eq (tgt := 72) hx hb d_H_dropOthers_53 (by decide) (fun hh7 => ?_) (fun hh7 => ?_)
      · skip
        exact J72_3 _ _ _ (lv_sub hl [1, 2, 3, 4, 0] rfl) (by rw [show (jX_H_dropOthers_72_3 X M a r) = (jX_H_dropOthers_72_2 X M a r) from (by first | (simp only [jX_H_dropOthers_72_3, eq_true hh7, ↓reduceIte]; done) | (simp [jX_H_dropOthers_72_3, eq_true hh7]; done))]; exact h)
      · skip
        refine lv_aload_n hx hb d_H_dropOthers_56 rfl (lv_at hl 1 rfl) ?_
        refine g_H_24 C h d_H_dropOthers_57 ?_
        refine lv_bipush (v := 7) hx hb d_H_dropOthers_60 (by decide) ?_
        refine lv_iload_n hx hb d_H_dropOthers_62 rfl (lv_at hl 2 rfl) ?_
        refine lv_iconst (v := 4) hx hb d_H_dropOthers_63 (by decide) ?_
        refine lv_iload hx hb d_H_dropOthers_64 (lv_at hl 0 rfl) ?_
        refine lv_iload_n hx hb d_H_dropOthers_66 rfl (lv_at hl 3 rfl) ?_
        refine lv_iconst (v := 0) hx hb d_H_dropOthers_67 (by decide) ?_
        refine lv_iconst (v := 0) hx hb d_H_dropOthers_68 (by decide) ?_
        refine z_callV (i := 1) C h (k_A_sendB l dC dI k q (jX_H_dropOthers_72_2 X M a r) M 7 a 4 2 r 0 0 (n + 3) hqjX_H_dropOthers_72_2 (by omega) ha hr4) co_A_send ml_H_45 im_A_send se_A_send in_A rfl rfl hd_A_send ⟨by decide, by decide⟩ ⟨Nat.zero_le _, Nat.zero_le _⟩ hl.1 (Nat.le_of_ble_eq_true rfl) d_H_dropOthers_69 rfl (fun H locs h => ?_)
        refine W.eq (g2 := F0 m 72 ls []) rfl ?_
        have h : zH dC dI k q (x_A_send (jX_H_dropOthers_72_2 X M a r) M 7 a 4 2 r 0 0) M (zA q) s.heap H locs := h
        exact J72_3 _ _ _ (lv_sub hl [1, 2, 3, 4, 0] rfl) (by rw [show (jX_H_dropOthers_72_3 X M a r) = (x_A_send (jX_H_dropOthers_72_2 X M a r) M 7 a 4 2 r 0 0) from (by first | (simp only [jX_H_dropOthers_72_3, eq_false hh7, ↓reduceIte]; done) | (simp [jX_H_dropOthers_72_3, eq_false hh7]; done))]; exact h)
    refine lv_iload_n hx hb d_H_dropOthers_46 rfl (lv_at hl 4 rfl) ?_
    refine lv_iload hx hb d_H_dropOthers_47 (lv_at hl 0 rfl) ?_
    refine z_callS C h (k_H_bit l dC dI k q (jX_H_dropOthers_72_1 X M a r) M 1 ) co_H_bit ml_H_52 sc_H_bit in_H hd_H_bit ⟨by decide, by decide⟩ ⟨Nat.zero_le _, Nat.zero_le _⟩ hl.1 (Nat.le_of_ble_eq_true rfl) d_H_dropOthers_49 rfl (fun H locs h => ?_)
    refine W.eq (g2 := F0 m 52 ls [.int (r_H_bit (jX_H_dropOthers_72_1 X M a r) M 1), .int ((X 14 0 (Int32.toNatClampNeg a)) &&& ((r_H_bit X M r) ^^^ (-1)))]) rfl ?_
    have h : zH dC dI k q (jX_H_dropOthers_72_1 X M a r) M (zA q) s.heap H locs := h
    refine lv_iand hx hb d_H_dropOthers_52 ?_
    refine lv_if_eq (tgt := 72) hx hb d_H_dropOthers_53 (by decide) (fun hh8 => ?_) (fun hh8 => ?_)
    · skip
      exact J72_2 _ _ _ (lv_sub hl [1, 2, 3, 4, 0] rfl) (by rw [show (jX_H_dropOthers_72_2 X M a r) = (jX_H_dropOthers_72_1 X M a r) from (by first | (simp only [jX_H_dropOthers_72_2, eq_true hh8, ↓reduceIte]; done) | (simp [jX_H_dropOthers_72_2, eq_true hh8]; done))]; exact h)
    · skip
      refine lv_aload_n hx hb d_H_dropOthers_56 rfl (lv_at hl 1 rfl) ?_
      refine g_H_24 C h d_H_dropOthers_57 ?_
      refine lv_bipush (v := 7) hx hb d_H_dropOthers_60 (by decide) ?_
      refine lv_iload_n hx hb d_H_dropOthers_62 rfl (lv_at hl 2 rfl) ?_
      refine lv_iconst (v := 4) hx hb d_H_dropOthers_63 (by decide) ?_
      refine lv_iload hx hb d_H_dropOthers_64 (lv_at hl 0 rfl) ?_
      refine lv_iload_n hx hb d_H_dropOthers_66 rfl (lv_at hl 3 rfl) ?_
      refine lv_iconst (v := 0) hx hb d_H_dropOthers_67 (by decide) ?_
      refine lv_iconst (v := 0) hx hb d_H_dropOthers_68 (by decide) ?_
      refine z_callV (i := 1) C h (k_A_sendB l dC dI k q (jX_H_dropOthers_72_1 X M a r) M 7 a 4 1 r 0 0 (n + 2) hqjX_H_dropOthers_72_1 (by omega) ha hr4) co_A_send ml_H_45 im_A_send se_A_send in_A rfl rfl hd_A_send ⟨by decide, by decide⟩ ⟨Nat.zero_le _, Nat.zero_le _⟩ hl.1 (Nat.le_of_ble_eq_true rfl) d_H_dropOthers_69 rfl (fun H locs h => ?_)
      refine W.eq (g2 := F0 m 72 ls []) rfl ?_
      have h : zH dC dI k q (x_A_send (jX_H_dropOthers_72_1 X M a r) M 7 a 4 1 r 0 0) M (zA q) s.heap H locs := h
      exact J72_2 _ _ _ (lv_sub hl [1, 2, 3, 4, 0] rfl) (by rw [show (jX_H_dropOthers_72_2 X M a r) = (x_A_send (jX_H_dropOthers_72_1 X M a r) M 7 a 4 1 r 0 0) from (by first | (simp only [jX_H_dropOthers_72_2, eq_false hh8, ↓reduceIte]; done) | (simp [jX_H_dropOthers_72_2, eq_false hh8]; done))]; exact h)
  refine lv_iload_n hx hb d_H_dropOthers_46 rfl (lv_at hl 1 rfl) ?_
  refine lv_iload hx hb d_H_dropOthers_47 (lv_at hl 0 rfl) ?_
  refine z_callS C h (k_H_bit l dC dI k q (x_A_send X M 9 a 4 r r (r_J_bitCount X M ((X 14 0 (Int32.toNatClampNeg a)) &&& ((r_H_bit X M r) ^^^ (-1)))) (X 11 0 (Int32.toNatClampNeg a))) M 0 ) co_H_bit ml_H_52 sc_H_bit in_H hd_H_bit ⟨by decide, by decide⟩ ⟨Nat.zero_le _, Nat.zero_le _⟩ hl.1 (Nat.le_of_ble_eq_true rfl) d_H_dropOthers_49 rfl (fun H locs h => ?_)
  refine W.eq (g2 := F0 m 52 ls [.int (r_H_bit (x_A_send X M 9 a 4 r r (r_J_bitCount X M ((X 14 0 (Int32.toNatClampNeg a)) &&& ((r_H_bit X M r) ^^^ (-1)))) (X 11 0 (Int32.toNatClampNeg a))) M 0), .int ((X 14 0 (Int32.toNatClampNeg a)) &&& ((r_H_bit X M r) ^^^ (-1)))]) rfl ?_
  have h : zH dC dI k q (x_A_send X M 9 a 4 r r (r_J_bitCount X M ((X 14 0 (Int32.toNatClampNeg a)) &&& ((r_H_bit X M r) ^^^ (-1)))) (X 11 0 (Int32.toNatClampNeg a))) M (zA q) s.heap H locs := h
  refine lv_iand hx hb d_H_dropOthers_52 ?_
  refine lv_if_eq (tgt := 72) hx hb d_H_dropOthers_53 (by decide) (fun hh9 => ?_) (fun hh9 => ?_)
  · skip
    exact J72_1 _ _ _ (lv_sub hl [2, 3, 4, 1, 0] rfl) (by rw [show (jX_H_dropOthers_72_1 X M a r) = (x_A_send X M 9 a 4 r r (r_J_bitCount X M ((X 14 0 (Int32.toNatClampNeg a)) &&& ((r_H_bit X M r) ^^^ (-1)))) (X 11 0 (Int32.toNatClampNeg a))) from (by first | (simp only [jX_H_dropOthers_72_1, eq_true hh9, ↓reduceIte]; done) | (simp [jX_H_dropOthers_72_1, eq_true hh9]; done))]; exact h)
  · skip
    refine lv_aload_n hx hb d_H_dropOthers_56 rfl (lv_at hl 2 rfl) ?_
    refine g_H_24 C h d_H_dropOthers_57 ?_
    refine lv_bipush (v := 7) hx hb d_H_dropOthers_60 (by decide) ?_
    refine lv_iload_n hx hb d_H_dropOthers_62 rfl (lv_at hl 3 rfl) ?_
    refine lv_iconst (v := 4) hx hb d_H_dropOthers_63 (by decide) ?_
    refine lv_iload hx hb d_H_dropOthers_64 (lv_at hl 0 rfl) ?_
    refine lv_iload_n hx hb d_H_dropOthers_66 rfl (lv_at hl 4 rfl) ?_
    refine lv_iconst (v := 0) hx hb d_H_dropOthers_67 (by decide) ?_
    refine lv_iconst (v := 0) hx hb d_H_dropOthers_68 (by decide) ?_
    refine z_callV (i := 1) C h (k_A_sendB l dC dI k q (x_A_send X M 9 a 4 r r (r_J_bitCount X M ((X 14 0 (Int32.toNatClampNeg a)) &&& ((r_H_bit X M r) ^^^ (-1)))) (X 11 0 (Int32.toNatClampNeg a))) M 7 a 4 0 r 0 0 (n + 1) (zCnt.next (zCnt.of hn)) (by omega) ha hr4) co_A_send ml_H_45 im_A_send se_A_send in_A rfl rfl hd_A_send ⟨by decide, by decide⟩ ⟨Nat.zero_le _, Nat.zero_le _⟩ hl.1 (Nat.le_of_ble_eq_true rfl) d_H_dropOthers_69 rfl (fun H locs h => ?_)
    refine W.eq (g2 := F0 m 72 ls []) rfl ?_
    have h : zH dC dI k q (x_A_send (x_A_send X M 9 a 4 r r (r_J_bitCount X M ((X 14 0 (Int32.toNatClampNeg a)) &&& ((r_H_bit X M r) ^^^ (-1)))) (X 11 0 (Int32.toNatClampNeg a))) M 7 a 4 0 r 0 0) M (zA q) s.heap H locs := h
    exact J72_1 _ _ _ (lv_sub hl [2, 3, 4, 1, 0] rfl) (by rw [show (jX_H_dropOthers_72_1 X M a r) = (x_A_send (x_A_send X M 9 a 4 r r (r_J_bitCount X M ((X 14 0 (Int32.toNatClampNeg a)) &&& ((r_H_bit X M r) ^^^ (-1)))) (X 11 0 (Int32.toNatClampNeg a))) M 7 a 4 0 r 0 0) from (by first | (simp only [jX_H_dropOthers_72_1, eq_false hh9, ↓reduceIte]; done) | (simp [jX_H_dropOthers_72_1, eq_false hh9]; done))]; exact h)
theorem hd_H_takeWrite : y_H_takeWrite.cls ≠ "java/lang/invoke/MethodHandle" ∧ y_H_takeWrite.cls ≠ "java/lang/invoke/VarHandle" ∧ (parseMethodDescriptor y_H_takeWrite.desc).map (fun d => d.parameters.length) = some 2 := by decide +kernel
def x_H_takeWrite (X : zXS) (M : zMS) (a : Int32) (r : Int32) : zXS := (if (X 12 0 (Int32.toNatClampNeg a)) = 0 then (x_H_makeOwner (x_A_send X M 9 a 4 r r 0 (X 11 0 (Int32.toNatClampNeg a))) M r a) else (if (X 12 0 (Int32.toNatClampNeg a)) = 1 then (x_H_makeOwner (x_H_dropOthers X M a r) M r a) else (x_H_makeOwner (x_A_send X M 6 a 4 (X 13 0 (Int32.toNatClampNeg a)) r 0 0) M r a)))
set_option maxHeartbeats 1000000 in
set_option maxRecDepth 100000 in
theorem k_H_takeWrite (l : Launch) (dC : Nat → ClassId) (dI : Nat → Nat → Nat) (k : Nat → ClassId) (q : Nat → Nat) (X : zXS) (M : zMS) (a : Int32) (r : Int32)  (n : Nat) (hn : X 2 0 0 = nI n) (hb9 : n + 6 ≤ 64) (ha : vp_in a 4) (hr4 : vp_in r 4) : zMet l dC dI k q y_H_takeWrite c_H_takeWrite 3 none 2 51 [.ref (q 32), .int a, .int r] none X M (x_H_takeWrite X M a r) M := by
  refine zMet.of (by decide) (Nat.le_of_ble_eq_true rfl) ?_
  intro p e s m args below meth c ls C hr hk hl h
  have hx := C.1
  have hb := C.2.1
  have hl : lv_has ls 3 [(0, .ref (q 32)), (1, .int a), (2, .int r)] := hl
  refine lv_aload_n hx hb d_H_takeWrite_0 rfl (lv_at hl 0 rfl) ?_
  refine g_H_15 C h d_H_takeWrite_1 ?_
  refine lv_iload_n hx hb d_H_takeWrite_4 rfl (lv_at hl 1 rfl) ?_
  refine l_kee C h ha d_H_takeWrite_5 ?_
  rcases (Decidable.em ((X 12 0 (Int32.toNatClampNeg a)) = 0)) with hh1 | hh1
  · skip
    refine lv_lookup (off := 26) (tgt := 32) hx hb d_H_takeWrite_6 (by decide) (by rw [hh1]; decide) (by decide) ?_
    refine lv_aload_n hx hb d_H_takeWrite_32 rfl (lv_at hl 0 rfl) ?_
    refine g_H_24 C h d_H_takeWrite_33 ?_
    refine lv_bipush (v := 9) hx hb d_H_takeWrite_36 (by decide) ?_
    refine lv_iload_n hx hb d_H_takeWrite_38 rfl (lv_at hl 1 rfl) ?_
    refine lv_iconst (v := 4) hx hb d_H_takeWrite_39 (by decide) ?_
    refine lv_iload_n hx hb d_H_takeWrite_40 rfl (lv_at hl 2 rfl) ?_
    refine lv_iload_n hx hb d_H_takeWrite_41 rfl (lv_at hl 2 rfl) ?_
    refine lv_iconst (v := 0) hx hb d_H_takeWrite_42 (by decide) ?_
    refine lv_aload_n hx hb d_H_takeWrite_43 rfl (lv_at hl 0 rfl) ?_
    refine g_H_9 C h d_H_takeWrite_44 ?_
    refine lv_iload_n hx hb d_H_takeWrite_47 rfl (lv_at hl 1 rfl) ?_
    refine l_mem C h ha d_H_takeWrite_48 ?_
    refine z_callV (i := 1) C h (k_A_sendB l dC dI k q X M 9 a 4 r r 0 (X 11 0 (Int32.toNatClampNeg a)) (n + 0) (zCnt.of hn) (by omega) ha hr4) co_A_send ml_H_45 im_A_send se_A_send in_A rfl rfl hd_A_send ⟨by decide, by decide⟩ ⟨Nat.zero_le _, Nat.zero_le _⟩ hl.1 (Nat.le_of_ble_eq_true rfl) d_H_takeWrite_49 rfl (fun H locs h => ?_)
    refine W.eq (g2 := F0 m 52 ls []) rfl ?_
    have h : zH dC dI k q (x_A_send X M 9 a 4 r r 0 (X 11 0 (Int32.toNatClampNeg a))) M (zA q) s.heap H locs := h
    refine lv_goto (tgt := 84) hx hb d_H_takeWrite_52 (by decide) ?_
    refine lv_aload_n hx hb d_H_takeWrite_84 rfl (lv_at hl 0 rfl) ?_
    refine lv_iload_n hx hb d_H_takeWrite_85 rfl (lv_at hl 2 rfl) ?_
    refine lv_iload_n hx hb d_H_takeWrite_86 rfl (lv_at hl 1 rfl) ?_
    refine z_callV (i := 32) C h (k_H_makeOwner l dC dI k q (x_A_send X M 9 a 4 r r 0 (X 11 0 (Int32.toNatClampNeg a))) M r a ha) co_H_makeOwner ml_H_49 im_H_makeOwner se_H_makeOwner in_H rfl rfl hd_H_makeOwner ⟨by decide, by decide⟩ ⟨Nat.zero_le _, Nat.zero_le _⟩ hl.1 (Nat.le_of_ble_eq_true rfl) d_H_takeWrite_87 rfl (fun H locs h => ?_)
    refine W.eq (g2 := F0 m 90 ls []) rfl ?_
    have h : zH dC dI k q (x_H_makeOwner (x_A_send X M 9 a 4 r r 0 (X 11 0 (Int32.toNatClampNeg a))) M r a) M (zA q) s.heap H locs := h
    exact z_retvE C h hr hk (by first | rfl | (simp only [x_H_takeWrite, eq_true hh1, ↓reduceIte]; done) | (simp [x_H_takeWrite, eq_true hh1]; done)) (by first | rfl | (simp only [x_H_takeWrite, eq_true hh1, ↓reduceIte]; done) | (simp [x_H_takeWrite, eq_true hh1]; done)) d_H_takeWrite_90
  rcases (Decidable.em ((X 12 0 (Int32.toNatClampNeg a)) = 1)) with hh2 | hh2
  · skip
    refine lv_lookup (off := 49) (tgt := 55) hx hb d_H_takeWrite_6 (by decide) (by rw [hh2]; decide) (by decide) ?_
    refine lv_aload_n hx hb d_H_takeWrite_55 rfl (lv_at hl 0 rfl) ?_
    refine lv_iload_n hx hb d_H_takeWrite_56 rfl (lv_at hl 1 rfl) ?_
    refine lv_iload_n hx hb d_H_takeWrite_57 rfl (lv_at hl 2 rfl) ?_
    refine z_callV (i := 32) C h (k_H_dropOthers l dC dI k q X M a r n hn hb9 ha hr4) co_H_dropOthers ml_H_56 im_H_dropOthers se_H_dropOthers in_H rfl rfl hd_H_dropOthers ⟨by decide, by decide⟩ ⟨Nat.zero_le _, Nat.zero_le _⟩ hl.1 (Nat.le_of_ble_eq_true rfl) d_H_takeWrite_58 rfl (fun H locs h => ?_)
    refine W.eq (g2 := F0 m 61 ls []) rfl ?_
    have h : zH dC dI k q (x_H_dropOthers X M a r) M (zA q) s.heap H locs := h
    refine lv_goto (tgt := 84) hx hb d_H_takeWrite_61 (by decide) ?_
    refine lv_aload_n hx hb d_H_takeWrite_84 rfl (lv_at hl 0 rfl) ?_
    refine lv_iload_n hx hb d_H_takeWrite_85 rfl (lv_at hl 2 rfl) ?_
    refine lv_iload_n hx hb d_H_takeWrite_86 rfl (lv_at hl 1 rfl) ?_
    refine z_callV (i := 32) C h (k_H_makeOwner l dC dI k q (x_H_dropOthers X M a r) M r a ha) co_H_makeOwner ml_H_49 im_H_makeOwner se_H_makeOwner in_H rfl rfl hd_H_makeOwner ⟨by decide, by decide⟩ ⟨Nat.zero_le _, Nat.zero_le _⟩ hl.1 (Nat.le_of_ble_eq_true rfl) d_H_takeWrite_87 rfl (fun H locs h => ?_)
    refine W.eq (g2 := F0 m 90 ls []) rfl ?_
    have h : zH dC dI k q (x_H_makeOwner (x_H_dropOthers X M a r) M r a) M (zA q) s.heap H locs := h
    exact z_retvE C h hr hk (by first | rfl | (simp only [x_H_takeWrite, eq_false hh1, eq_true hh2, ↓reduceIte]; done) | (simp [x_H_takeWrite, eq_false hh1, eq_true hh2]; done)) (by first | rfl | (simp only [x_H_takeWrite, eq_false hh1, eq_true hh2, ↓reduceIte]; done) | (simp [x_H_takeWrite, eq_false hh1, eq_true hh2]; done)) d_H_takeWrite_90
  refine lv_lookup (off := 58) (tgt := 64) hx hb d_H_takeWrite_6 (by decide) (by rw [lv_osw hh1 (by decide), lv_osw hh2 (by decide)]; rfl) (by decide) ?_
  refine lv_aload_n hx hb d_H_takeWrite_64 rfl (lv_at hl 0 rfl) ?_
  refine g_H_24 C h d_H_takeWrite_65 ?_
  refine lv_bipush (v := 6) hx hb d_H_takeWrite_68 (by decide) ?_
  refine lv_iload_n hx hb d_H_takeWrite_70 rfl (lv_at hl 1 rfl) ?_
  refine lv_iconst (v := 4) hx hb d_H_takeWrite_71 (by decide) ?_
  refine lv_aload_n hx hb d_H_takeWrite_72 rfl (lv_at hl 0 rfl) ?_
  refine g_H_18 C h d_H_takeWrite_73 ?_
  refine lv_iload_n hx hb d_H_takeWrite_76 rfl (lv_at hl 1 rfl) ?_
  refine l_own C h ha d_H_takeWrite_77 ?_
  refine lv_iload_n hx hb d_H_takeWrite_78 rfl (lv_at hl 2 rfl) ?_
  refine lv_iconst (v := 0) hx hb d_H_takeWrite_79 (by decide) ?_
  refine lv_iconst (v := 0) hx hb d_H_takeWrite_80 (by decide) ?_
  refine z_callV (i := 1) C h (k_A_sendB l dC dI k q X M 6 a 4 (X 13 0 (Int32.toNatClampNeg a)) r 0 0 (n + 0) (zCnt.of hn) (by omega) ha hr4) co_A_send ml_H_45 im_A_send se_A_send in_A rfl rfl hd_A_send ⟨by decide, by decide⟩ ⟨Nat.zero_le _, Nat.zero_le _⟩ hl.1 (Nat.le_of_ble_eq_true rfl) d_H_takeWrite_81 rfl (fun H locs h => ?_)
  refine W.eq (g2 := F0 m 84 ls []) rfl ?_
  have h : zH dC dI k q (x_A_send X M 6 a 4 (X 13 0 (Int32.toNatClampNeg a)) r 0 0) M (zA q) s.heap H locs := h
  refine lv_aload_n hx hb d_H_takeWrite_84 rfl (lv_at hl 0 rfl) ?_
  refine lv_iload_n hx hb d_H_takeWrite_85 rfl (lv_at hl 2 rfl) ?_
  refine lv_iload_n hx hb d_H_takeWrite_86 rfl (lv_at hl 1 rfl) ?_
  refine z_callV (i := 32) C h (k_H_makeOwner l dC dI k q (x_A_send X M 6 a 4 (X 13 0 (Int32.toNatClampNeg a)) r 0 0) M r a ha) co_H_makeOwner ml_H_49 im_H_makeOwner se_H_makeOwner in_H rfl rfl hd_H_makeOwner ⟨by decide, by decide⟩ ⟨Nat.zero_le _, Nat.zero_le _⟩ hl.1 (Nat.le_of_ble_eq_true rfl) d_H_takeWrite_87 rfl (fun H locs h => ?_)
  refine W.eq (g2 := F0 m 90 ls []) rfl ?_
  have h : zH dC dI k q (x_H_makeOwner (x_A_send X M 6 a 4 (X 13 0 (Int32.toNatClampNeg a)) r 0 0) M r a) M (zA q) s.heap H locs := h
  exact z_retvE C h hr hk (by first | rfl | (simp only [x_H_takeWrite, eq_false hh1, eq_false hh2, ↓reduceIte]; done) | (simp [x_H_takeWrite, eq_false hh1, eq_false hh2]; done)) (by first | rfl | (simp only [x_H_takeWrite, eq_false hh1, eq_false hh2, ↓reduceIte]; done) | (simp [x_H_takeWrite, eq_false hh1, eq_false hh2]; done)) d_H_takeWrite_90
theorem forget_cnt {X : zXS} {M : zMS} {a r : Int32} {n : Nat} (h : X 2 0 0 = nI n) : (x_H_forgetSharer X M a r) 2 0 0 = nI n := by
  unfold x_H_forgetSharer
  repeat' split
  all_goals exact h
theorem hd_H_takeLeave : y_H_takeLeave.cls ≠ "java/lang/invoke/MethodHandle" ∧ y_H_takeLeave.cls ≠ "java/lang/invoke/VarHandle" ∧ (parseMethodDescriptor y_H_takeLeave.desc).map (fun d => d.parameters.length) = some 3 := by decide +kernel
def x_H_takeLeave (X : zXS) (M : zMS) (kk : Nat) (a : Int32) (r : Int32) : zXS := (if (X 12 0 (Int32.toNatClampNeg a)) = 2 then (if (X 13 0 (Int32.toNatClampNeg a)) = r then (if (r_A_part X M (nI kk) 0) = 4 then (x_A_send (u3 (u3 X 11 0 (Int32.toNatClampNeg a) (r_A_part X M (nI kk) 6)) 12 0 (Int32.toNatClampNeg a) 0) M 8 a 4 r r 0 0) else (x_A_send (u3 X 12 0 (Int32.toNatClampNeg a) 0) M 8 a 4 r r 0 0)) else (x_A_send (x_H_forgetSharer X M a r) M 8 a 4 r r 0 0)) else (x_A_send (x_H_forgetSharer X M a r) M 8 a 4 r r 0 0))
set_option maxHeartbeats 1000000 in
set_option maxRecDepth 100000 in
theorem k_H_takeLeave (l : Launch) (dC : Nat → ClassId) (dI : Nat → Nat → Nat) (k : Nat → ClassId) (q : Nat → Nat) (X : zXS) (M : zMS) (kk : Nat) (a : Int32) (r : Int32)  (n : Nat) (hn : X 2 0 0 = nI n) (hb9 : n + 6 ≤ 64) (ha : vp_in a 4) (hr4 : vp_in r 4) (hk6 : vp_in (nI kk) 64) : zMet l dC dI k q y_H_takeLeave c_H_takeLeave 4 none 2 42 [.ref (q 32), .int (nI kk), .int a, .int r] none X M (x_H_takeLeave X M kk a r) M := by
  refine zMet.of (by decide) (Nat.le_of_ble_eq_true rfl) ?_
  intro p e s m args below meth c ls C hr hk hl h
  have hx := C.1
  have hb := C.2.1
  have hl : lv_has ls 4 [(0, .ref (q 32)), (1, .int (nI kk)), (2, .int a), (3, .int r)] := hl
  refine lv_aload_n hx hb d_H_takeLeave_0 rfl (lv_at hl 0 rfl) ?_
  refine g_H_15 C h d_H_takeLeave_1 ?_
  refine lv_iload_n hx hb d_H_takeLeave_4 rfl (lv_at hl 2 rfl) ?_
  refine l_kee C h ha d_H_takeLeave_5 ?_
  refine lv_iconst (v := 2) hx hb d_H_takeLeave_6 (by decide) ?_
  refine lv_icmp_ne (tgt := 59) hx hb d_H_takeLeave_7 (by decide) (fun hh1 => ?_) (fun hh1 => ?_)
  · skip
    refine lv_aload_n hx hb d_H_takeLeave_59 rfl (lv_at hl 0 rfl) ?_
    refine lv_iload_n hx hb d_H_takeLeave_60 rfl (lv_at hl 2 rfl) ?_
    refine lv_iload_n hx hb d_H_takeLeave_61 rfl (lv_at hl 3 rfl) ?_
    refine z_callV (i := 32) C h (k_H_forgetSharer l dC dI k q X M a r ha) co_H_forgetSharer ml_H_64 im_H_forgetSharer se_H_forgetSharer in_H rfl rfl hd_H_forgetSharer ⟨by decide, by decide⟩ ⟨Nat.zero_le _, Nat.zero_le _⟩ hl.1 (Nat.le_of_ble_eq_true rfl) d_H_takeLeave_62 rfl (fun H locs h => ?_)
    refine W.eq (g2 := F0 m 65 ls []) rfl ?_
    have h : zH dC dI k q (x_H_forgetSharer X M a r) M (zA q) s.heap H locs := h
    refine lv_aload_n hx hb d_H_takeLeave_65 rfl (lv_at hl 0 rfl) ?_
    refine g_H_24 C h d_H_takeLeave_66 ?_
    refine lv_bipush (v := 8) hx hb d_H_takeLeave_69 (by decide) ?_
    refine lv_iload_n hx hb d_H_takeLeave_71 rfl (lv_at hl 2 rfl) ?_
    refine lv_iconst (v := 4) hx hb d_H_takeLeave_72 (by decide) ?_
    refine lv_iload_n hx hb d_H_takeLeave_73 rfl (lv_at hl 3 rfl) ?_
    refine lv_iload_n hx hb d_H_takeLeave_74 rfl (lv_at hl 3 rfl) ?_
    refine lv_iconst (v := 0) hx hb d_H_takeLeave_75 (by decide) ?_
    refine lv_iconst (v := 0) hx hb d_H_takeLeave_76 (by decide) ?_
    refine z_callV (i := 1) C h (k_A_sendB l dC dI k q (x_H_forgetSharer X M a r) M 8 a 4 r r 0 0 n (zCnt.of (forget_cnt hn)) (by omega) ha hr4) co_A_send ml_H_45 im_A_send se_A_send in_A rfl rfl hd_A_send ⟨by decide, by decide⟩ ⟨Nat.zero_le _, Nat.zero_le _⟩ hl.1 (Nat.le_of_ble_eq_true rfl) d_H_takeLeave_77 rfl (fun H locs h => ?_)
    refine W.eq (g2 := F0 m 80 ls []) rfl ?_
    have h : zH dC dI k q (x_A_send (x_H_forgetSharer X M a r) M 8 a 4 r r 0 0) M (zA q) s.heap H locs := h
    exact z_retvE C h hr hk (by first | rfl | (simp only [x_H_takeLeave, eq_false hh1, ↓reduceIte]; done) | (simp [x_H_takeLeave, eq_false hh1]; done)) (by first | rfl | (simp only [x_H_takeLeave, eq_false hh1, ↓reduceIte]; done) | (simp [x_H_takeLeave, eq_false hh1]; done)) d_H_takeLeave_80
  · skip
    refine lv_aload_n hx hb d_H_takeLeave_10 rfl (lv_at hl 0 rfl) ?_
    refine g_H_18 C h d_H_takeLeave_11 ?_
    refine lv_iload_n hx hb d_H_takeLeave_14 rfl (lv_at hl 2 rfl) ?_
    refine l_own C h ha d_H_takeLeave_15 ?_
    refine lv_iload_n hx hb d_H_takeLeave_16 rfl (lv_at hl 3 rfl) ?_
    refine lv_icmp_ne (tgt := 59) hx hb d_H_takeLeave_17 (by decide) (fun hh2 => ?_) (fun hh2 => ?_)
    · skip
      refine lv_aload_n hx hb d_H_takeLeave_59 rfl (lv_at hl 0 rfl) ?_
      refine lv_iload_n hx hb d_H_takeLeave_60 rfl (lv_at hl 2 rfl) ?_
      refine lv_iload_n hx hb d_H_takeLeave_61 rfl (lv_at hl 3 rfl) ?_
      refine z_callV (i := 32) C h (k_H_forgetSharer l dC dI k q X M a r ha) co_H_forgetSharer ml_H_64 im_H_forgetSharer se_H_forgetSharer in_H rfl rfl hd_H_forgetSharer ⟨by decide, by decide⟩ ⟨Nat.zero_le _, Nat.zero_le _⟩ hl.1 (Nat.le_of_ble_eq_true rfl) d_H_takeLeave_62 rfl (fun H locs h => ?_)
      refine W.eq (g2 := F0 m 65 ls []) rfl ?_
      have h : zH dC dI k q (x_H_forgetSharer X M a r) M (zA q) s.heap H locs := h
      refine lv_aload_n hx hb d_H_takeLeave_65 rfl (lv_at hl 0 rfl) ?_
      refine g_H_24 C h d_H_takeLeave_66 ?_
      refine lv_bipush (v := 8) hx hb d_H_takeLeave_69 (by decide) ?_
      refine lv_iload_n hx hb d_H_takeLeave_71 rfl (lv_at hl 2 rfl) ?_
      refine lv_iconst (v := 4) hx hb d_H_takeLeave_72 (by decide) ?_
      refine lv_iload_n hx hb d_H_takeLeave_73 rfl (lv_at hl 3 rfl) ?_
      refine lv_iload_n hx hb d_H_takeLeave_74 rfl (lv_at hl 3 rfl) ?_
      refine lv_iconst (v := 0) hx hb d_H_takeLeave_75 (by decide) ?_
      refine lv_iconst (v := 0) hx hb d_H_takeLeave_76 (by decide) ?_
      refine z_callV (i := 1) C h (k_A_sendB l dC dI k q (x_H_forgetSharer X M a r) M 8 a 4 r r 0 0 n (zCnt.of (forget_cnt hn)) (by omega) ha hr4) co_A_send ml_H_45 im_A_send se_A_send in_A rfl rfl hd_A_send ⟨by decide, by decide⟩ ⟨Nat.zero_le _, Nat.zero_le _⟩ hl.1 (Nat.le_of_ble_eq_true rfl) d_H_takeLeave_77 rfl (fun H locs h => ?_)
      refine W.eq (g2 := F0 m 80 ls []) rfl ?_
      have h : zH dC dI k q (x_A_send (x_H_forgetSharer X M a r) M 8 a 4 r r 0 0) M (zA q) s.heap H locs := h
      exact z_retvE C h hr hk (by first | rfl | (simp only [x_H_takeLeave, eq_true hh1, eq_false hh2, ↓reduceIte]; done) | (simp [x_H_takeLeave, eq_true hh1, eq_false hh2]; done)) (by first | rfl | (simp only [x_H_takeLeave, eq_true hh1, eq_false hh2, ↓reduceIte]; done) | (simp [x_H_takeLeave, eq_true hh1, eq_false hh2]; done)) d_H_takeLeave_80
    · skip
      refine lv_aload_n hx hb d_H_takeLeave_20 rfl (lv_at hl 0 rfl) ?_
      refine g_H_24 C h d_H_takeLeave_21 ?_
      refine lv_iload_n hx hb d_H_takeLeave_24 rfl (lv_at hl 1 rfl) ?_
      refine lv_iconst (v := 0) hx hb d_H_takeLeave_25 (by decide) ?_
      refine z_callV (i := 1) C h (k_A_part l dC dI k q X M (nI kk) 0 hk6 (by unfold vp_in; decide)) co_A_part ml_H_28 im_A_part se_A_part in_A rfl rfl hd_A_part ⟨by decide, by decide⟩ ⟨Nat.zero_le _, Nat.zero_le _⟩ hl.1 (Nat.le_of_ble_eq_true rfl) d_H_takeLeave_26 rfl (fun H locs h => ?_)
      refine W.eq (g2 := F0 m 29 ls [.int (r_A_part X M (nI kk) 0)]) rfl ?_
      have h : zH dC dI k q X M (zA q) s.heap H locs := h
      refine lv_iconst (v := 4) hx hb d_H_takeLeave_29 (by decide) ?_
      refine lv_icmp_ne (tgt := 49) hx hb d_H_takeLeave_30 (by decide) (fun hh3 => ?_) (fun hh3 => ?_)
      · skip
        refine lv_aload_n hx hb d_H_takeLeave_49 rfl (lv_at hl 0 rfl) ?_
        refine g_H_15 C h d_H_takeLeave_50 ?_
        refine lv_iload_n hx hb d_H_takeLeave_53 rfl (lv_at hl 2 rfl) ?_
        refine lv_iconst (v := 0) hx hb d_H_takeLeave_54 (by decide) ?_
        refine s_kee C h ha d_H_takeLeave_55 (fun H locs h => ?_)
        refine lv_goto (tgt := 65) hx hb d_H_takeLeave_56 (by decide) ?_
        refine lv_aload_n hx hb d_H_takeLeave_65 rfl (lv_at hl 0 rfl) ?_
        refine g_H_24 C h d_H_takeLeave_66 ?_
        refine lv_bipush (v := 8) hx hb d_H_takeLeave_69 (by decide) ?_
        refine lv_iload_n hx hb d_H_takeLeave_71 rfl (lv_at hl 2 rfl) ?_
        refine lv_iconst (v := 4) hx hb d_H_takeLeave_72 (by decide) ?_
        refine lv_iload_n hx hb d_H_takeLeave_73 rfl (lv_at hl 3 rfl) ?_
        refine lv_iload_n hx hb d_H_takeLeave_74 rfl (lv_at hl 3 rfl) ?_
        refine lv_iconst (v := 0) hx hb d_H_takeLeave_75 (by decide) ?_
        refine lv_iconst (v := 0) hx hb d_H_takeLeave_76 (by decide) ?_
        refine z_callV (i := 1) C h (k_A_sendB l dC dI k q (u3 X 12 0 (Int32.toNatClampNeg a) 0) M 8 a 4 r r 0 0 (n + 0) (zCnt.up (by decide) (zCnt.of hn)) (by omega) ha hr4) co_A_send ml_H_45 im_A_send se_A_send in_A rfl rfl hd_A_send ⟨by decide, by decide⟩ ⟨Nat.zero_le _, Nat.zero_le _⟩ hl.1 (Nat.le_of_ble_eq_true rfl) d_H_takeLeave_77 rfl (fun H locs h => ?_)
        refine W.eq (g2 := F0 m 80 ls []) rfl ?_
        have h : zH dC dI k q (x_A_send (u3 X 12 0 (Int32.toNatClampNeg a) 0) M 8 a 4 r r 0 0) M (zA q) s.heap H locs := h
        exact z_retvE C h hr hk (by first | rfl | (simp only [x_H_takeLeave, eq_true hh1, eq_true hh2, eq_false hh3, ↓reduceIte]; done) | (simp [x_H_takeLeave, eq_true hh1, eq_true hh2, eq_false hh3]; done)) (by first | rfl | (simp only [x_H_takeLeave, eq_true hh1, eq_true hh2, eq_false hh3, ↓reduceIte]; done) | (simp [x_H_takeLeave, eq_true hh1, eq_true hh2, eq_false hh3]; done)) d_H_takeLeave_80
      · skip
        refine lv_aload_n hx hb d_H_takeLeave_33 rfl (lv_at hl 0 rfl) ?_
        refine g_H_9 C h d_H_takeLeave_34 ?_
        refine lv_iload_n hx hb d_H_takeLeave_37 rfl (lv_at hl 2 rfl) ?_
        refine lv_aload_n hx hb d_H_takeLeave_38 rfl (lv_at hl 0 rfl) ?_
        refine g_H_24 C h d_H_takeLeave_39 ?_
        refine lv_iload_n hx hb d_H_takeLeave_42 rfl (lv_at hl 1 rfl) ?_
        refine lv_bipush (v := 6) hx hb d_H_takeLeave_43 (by decide) ?_
        refine z_callV (i := 1) C h (k_A_part l dC dI k q X M (nI kk) 6 hk6 (by unfold vp_in; decide)) co_A_part ml_H_28 im_A_part se_A_part in_A rfl rfl hd_A_part ⟨by decide, by decide⟩ ⟨Nat.zero_le _, Nat.zero_le _⟩ hl.1 (Nat.le_of_ble_eq_true rfl) d_H_takeLeave_45 rfl (fun H locs h => ?_)
        refine W.eq (g2 := F0 m 48 ls [.int (r_A_part X M (nI kk) 6), .int a, .ref (q 33)]) rfl ?_
        have h : zH dC dI k q X M (zA q) s.heap H locs := h
        refine s_mem C h ha d_H_takeLeave_48 (fun H locs h => ?_)
        refine lv_aload_n hx hb d_H_takeLeave_49 rfl (lv_at hl 0 rfl) ?_
        refine g_H_15 C h d_H_takeLeave_50 ?_
        refine lv_iload_n hx hb d_H_takeLeave_53 rfl (lv_at hl 2 rfl) ?_
        refine lv_iconst (v := 0) hx hb d_H_takeLeave_54 (by decide) ?_
        refine s_kee C h ha d_H_takeLeave_55 (fun H locs h => ?_)
        refine lv_goto (tgt := 65) hx hb d_H_takeLeave_56 (by decide) ?_
        refine lv_aload_n hx hb d_H_takeLeave_65 rfl (lv_at hl 0 rfl) ?_
        refine g_H_24 C h d_H_takeLeave_66 ?_
        refine lv_bipush (v := 8) hx hb d_H_takeLeave_69 (by decide) ?_
        refine lv_iload_n hx hb d_H_takeLeave_71 rfl (lv_at hl 2 rfl) ?_
        refine lv_iconst (v := 4) hx hb d_H_takeLeave_72 (by decide) ?_
        refine lv_iload_n hx hb d_H_takeLeave_73 rfl (lv_at hl 3 rfl) ?_
        refine lv_iload_n hx hb d_H_takeLeave_74 rfl (lv_at hl 3 rfl) ?_
        refine lv_iconst (v := 0) hx hb d_H_takeLeave_75 (by decide) ?_
        refine lv_iconst (v := 0) hx hb d_H_takeLeave_76 (by decide) ?_
        refine z_callV (i := 1) C h (k_A_sendB l dC dI k q (u3 (u3 X 11 0 (Int32.toNatClampNeg a) (r_A_part X M (nI kk) 6)) 12 0 (Int32.toNatClampNeg a) 0) M 8 a 4 r r 0 0 (n + 0) (zCnt.up (by decide) (zCnt.up (by decide) (zCnt.of hn))) (by omega) ha hr4) co_A_send ml_H_45 im_A_send se_A_send in_A rfl rfl hd_A_send ⟨by decide, by decide⟩ ⟨Nat.zero_le _, Nat.zero_le _⟩ hl.1 (Nat.le_of_ble_eq_true rfl) d_H_takeLeave_77 rfl (fun H locs h => ?_)
        refine W.eq (g2 := F0 m 80 ls []) rfl ?_
        have h : zH dC dI k q (x_A_send (u3 (u3 X 11 0 (Int32.toNatClampNeg a) (r_A_part X M (nI kk) 6)) 12 0 (Int32.toNatClampNeg a) 0) M 8 a 4 r r 0 0) M (zA q) s.heap H locs := h
        exact z_retvE C h hr hk (by first | rfl | (simp only [x_H_takeLeave, eq_true hh1, eq_true hh2, eq_true hh3, ↓reduceIte]; done) | (simp [x_H_takeLeave, eq_true hh1, eq_true hh2, eq_true hh3]; done)) (by first | rfl | (simp only [x_H_takeLeave, eq_true hh1, eq_true hh2, eq_true hh3, ↓reduceIte]; done) | (simp [x_H_takeLeave, eq_true hh1, eq_true hh2, eq_true hh3]; done)) d_H_takeLeave_80
