theorem vp_lt {x : Int32} {n : Nat} (h : vp_in x n) : x.toNatClampNeg < n := Nat.not_le.mp fun z => h (Or.inr z)
theorem z_in {x : Int32} {n N : Nat} (h : x = nI n) (hn : n < N) (hN : N < 2 ^ 31) : vp_in x N := by
  rw [h]; exact vp_in_nI hn hN
theorem hd_A_has : y_A_has.cls ≠ "java/lang/invoke/MethodHandle" ∧ y_A_has.cls ≠ "java/lang/invoke/VarHandle" ∧ (parseMethodDescriptor y_A_has.desc).map (fun d => d.parameters.length) = some 1 := by decide +kernel
def r_A_has (X : zXS) (M : zMS) (x : Int32) : Int32 := (if x < 0 then 0 else (if (X 2 0 0) ≤ x then 0 else 1))
set_option maxHeartbeats 1000000 in
set_option maxRecDepth 100000 in
theorem k_A_has (l : Launch) (dC : Nat → ClassId) (dI : Nat → Nat → Nat) (k : Nat → ClassId) (q : Nat → Nat) (X : zXS) (M : zMS) (x : Int32)   : zMet l dC dI k q y_A_has c_A_has 2 (some .boolean) 0 0 [.ref (q 1), .int x] (some (.int (r_A_has X M x))) X M X M := by
  refine zMet.of (by decide) (Nat.le_of_ble_eq_true rfl) ?_
  intro p e s m args below meth c ls C hr hk hl h
  have hx := C.1
  have hb := C.2.1
  have hl : lv_has ls 2 [(0, .ref (q 1)), (1, .int x)] := hl
  refine lv_iload_n hx hb d_A_has_0 rfl (lv_at hl 1 rfl) ?_
  refine lv_if_lt (tgt := 16) hx hb d_A_has_1 (by decide) (fun hh1 => ?_) (fun hh1 => ?_)
  · skip
    refine lv_iconst (v := 0) hx hb d_A_has_16 (by decide) ?_
    exact z_retzE C h hr hk (by first | exact Or.inl rfl | exact Or.inr rfl) (by first | rfl | (simp only [r_A_has, eq_true hh1, ↓reduceIte]; done) | (simp [r_A_has, eq_true hh1]; done)) (by first | rfl | (simp only [r_A_has, eq_true hh1, ↓reduceIte]; done) | (simp [r_A_has, eq_true hh1]; done)) (by first | rfl | (simp only [r_A_has, eq_true hh1, ↓reduceIte]; done) | (simp [r_A_has, eq_true hh1]; done)) d_A_has_17
  · skip
    refine lv_iload_n hx hb d_A_has_4 rfl (lv_at hl 1 rfl) ?_
    refine lv_aload_n hx hb d_A_has_5 rfl (lv_at hl 0 rfl) ?_
    refine g_A_19 C h d_A_has_6 ?_
    refine lv_icmp_ge (tgt := 16) hx hb d_A_has_9 (by decide) (fun hh2 => ?_) (fun hh2 => ?_)
    · skip
      refine lv_iconst (v := 0) hx hb d_A_has_16 (by decide) ?_
      exact z_retzE C h hr hk (by first | exact Or.inl rfl | exact Or.inr rfl) (by first | rfl | (simp only [r_A_has, eq_false hh1, eq_true hh2, ↓reduceIte]; done) | (simp [r_A_has, eq_false hh1, eq_true hh2]; done)) (by first | rfl | (simp only [r_A_has, eq_false hh1, eq_true hh2, ↓reduceIte]; done) | (simp [r_A_has, eq_false hh1, eq_true hh2]; done)) (by first | rfl | (simp only [r_A_has, eq_false hh1, eq_true hh2, ↓reduceIte]; done) | (simp [r_A_has, eq_false hh1, eq_true hh2]; done)) d_A_has_17
    · skip
      refine lv_iconst (v := 1) hx hb d_A_has_12 (by decide) ?_
      refine lv_goto (tgt := 17) hx hb d_A_has_13 (by decide) ?_
      exact z_retzE C h hr hk (by first | exact Or.inl rfl | exact Or.inr rfl) (by first | rfl | (simp only [r_A_has, eq_false hh1, eq_false hh2, ↓reduceIte]; done) | (simp [r_A_has, eq_false hh1, eq_false hh2]; done)) (by first | rfl | (simp only [r_A_has, eq_false hh1, eq_false hh2, ↓reduceIte]; done) | (simp [r_A_has, eq_false hh1, eq_false hh2]; done)) (by first | rfl | (simp only [r_A_has, eq_false hh1, eq_false hh2, ↓reduceIte]; done) | (simp [r_A_has, eq_false hh1, eq_false hh2]; done)) d_A_has_17
theorem hd_A_part : y_A_part.cls ≠ "java/lang/invoke/MethodHandle" ∧ y_A_part.cls ≠ "java/lang/invoke/VarHandle" ∧ (parseMethodDescriptor y_A_part.desc).map (fun d => d.parameters.length) = some 2 := by decide +kernel
def r_A_part (X : zXS) (M : zMS) (x : Int32) (w : Int32) : Int32 := (X 0 (Int32.toNatClampNeg w) (Int32.toNatClampNeg x))
set_option maxHeartbeats 1000000 in
set_option maxRecDepth 100000 in
theorem k_A_part (l : Launch) (dC : Nat → ClassId) (dI : Nat → Nat → Nat) (k : Nat → ClassId) (q : Nat → Nat) (X : zXS) (M : zMS) (x : Int32) (w : Int32)  (hx6 : vp_in x 64) (hw : vp_in w 7) : zMet l dC dI k q y_A_part c_A_part 3 (some .int) 0 0 [.ref (q 1), .int x, .int w] (some (.int (r_A_part X M x w))) X M X M := by
  refine zMet.of (by decide) (Nat.le_of_ble_eq_true rfl) ?_
  intro p e s m args below meth c ls C hr hk hl h
  have hx := C.1
  have hb := C.2.1
  have hl : lv_has ls 3 [(0, .ref (q 1)), (1, .int x), (2, .int w)] := hl
  refine lv_aload_n hx hb d_A_part_0 rfl (lv_at hl 0 rfl) ?_
  refine g_A_13 C h d_A_part_1 ?_
  refine lv_iload_n hx hb d_A_part_4 rfl (lv_at hl 2 rfl) ?_
  refine la_parts C h hw d_A_part_5 ?_
  refine lv_iload_n hx hb d_A_part_6 rfl (lv_at hl 1 rfl) ?_
  refine l_parts C h (w := (Int32.toNatClampNeg w)) (vp_lt hw) hx6 d_A_part_7 ?_
  exact z_retE C h hr hk (by first | rfl | (simp only [r_A_part, ↓reduceIte]; done) | (simp [r_A_part]; done)) (by first | rfl | (simp only [r_A_part, ↓reduceIte]; done) | (simp [r_A_part]; done)) (by first | rfl | (simp only [r_A_part, ↓reduceIte]; done) | (simp [r_A_part]; done)) d_A_part_8
theorem hd_A_isOrdered : y_A_isOrdered.cls ≠ "java/lang/invoke/MethodHandle" ∧ y_A_isOrdered.cls ≠ "java/lang/invoke/VarHandle" ∧ (parseMethodDescriptor y_A_isOrdered.desc).map (fun d => d.parameters.length) = some 1 := by decide +kernel
def r_A_isOrdered (X : zXS) (M : zMS) (x : Int32) : Int32 := (if (X 0 0 (Int32.toNatClampNeg x)) < 5 then 0 else (if 8 < (X 0 0 (Int32.toNatClampNeg x)) then 0 else 1))
set_option maxHeartbeats 1000000 in
set_option maxRecDepth 100000 in
theorem k_A_isOrdered (l : Launch) (dC : Nat → ClassId) (dI : Nat → Nat → Nat) (k : Nat → ClassId) (q : Nat → Nat) (X : zXS) (M : zMS) (x : Int32)  (hx6 : vp_in x 64) : zMet l dC dI k q y_A_isOrdered c_A_isOrdered 2 (some .boolean) 0 0 [.ref (q 1), .int x] (some (.int (r_A_isOrdered X M x))) X M X M := by
  refine zMet.of (by decide) (Nat.le_of_ble_eq_true rfl) ?_
  intro p e s m args below meth c ls C hr hk hl h
  have hx := C.1
  have hb := C.2.1
  have hl : lv_has ls 2 [(0, .ref (q 1)), (1, .int x)] := hl
  refine lv_aload_n hx hb d_A_isOrdered_0 rfl (lv_at hl 0 rfl) ?_
  refine g_A_13 C h d_A_isOrdered_1 ?_
  refine lv_iconst (v := 0) hx hb d_A_isOrdered_4 (by decide) ?_
  refine la_parts C h (by unfold vp_in; decide) d_A_isOrdered_5 ?_
  refine lv_iload_n hx hb d_A_isOrdered_6 rfl (lv_at hl 1 rfl) ?_
  refine l_parts C h (w := 0) (by decide) hx6 d_A_isOrdered_7 ?_
  refine lv_iconst (v := 5) hx hb d_A_isOrdered_8 (by decide) ?_
  refine lv_icmp_lt (tgt := 29) hx hb d_A_isOrdered_9 (by decide) (fun hh1 => ?_) (fun hh1 => ?_)
  · skip
    refine lv_iconst (v := 0) hx hb d_A_isOrdered_29 (by decide) ?_
    exact z_retzE C h hr hk (by first | exact Or.inl rfl | exact Or.inr rfl) (by first | rfl | (simp only [r_A_isOrdered, eq_true hh1, ↓reduceIte]; done) | (simp [r_A_isOrdered, eq_true hh1]; done)) (by first | rfl | (simp only [r_A_isOrdered, eq_true hh1, ↓reduceIte]; done) | (simp [r_A_isOrdered, eq_true hh1]; done)) (by first | rfl | (simp only [r_A_isOrdered, eq_true hh1, ↓reduceIte]; done) | (simp [r_A_isOrdered, eq_true hh1]; done)) d_A_isOrdered_30
  · skip
    refine lv_aload_n hx hb d_A_isOrdered_12 rfl (lv_at hl 0 rfl) ?_
    refine g_A_13 C h d_A_isOrdered_13 ?_
    refine lv_iconst (v := 0) hx hb d_A_isOrdered_16 (by decide) ?_
    refine la_parts C h (by unfold vp_in; decide) d_A_isOrdered_17 ?_
    refine lv_iload_n hx hb d_A_isOrdered_18 rfl (lv_at hl 1 rfl) ?_
    refine l_parts C h (w := 0) (by decide) hx6 d_A_isOrdered_19 ?_
    refine lv_bipush (v := 8) hx hb d_A_isOrdered_20 (by decide) ?_
    refine lv_icmp_gt (tgt := 29) hx hb d_A_isOrdered_22 (by decide) (fun hh2 => ?_) (fun hh2 => ?_)
    · skip
      refine lv_iconst (v := 0) hx hb d_A_isOrdered_29 (by decide) ?_
      exact z_retzE C h hr hk (by first | exact Or.inl rfl | exact Or.inr rfl) (by first | rfl | (simp only [r_A_isOrdered, eq_false hh1, eq_true hh2, ↓reduceIte]; done) | (simp [r_A_isOrdered, eq_false hh1, eq_true hh2]; done)) (by first | rfl | (simp only [r_A_isOrdered, eq_false hh1, eq_true hh2, ↓reduceIte]; done) | (simp [r_A_isOrdered, eq_false hh1, eq_true hh2]; done)) (by first | rfl | (simp only [r_A_isOrdered, eq_false hh1, eq_true hh2, ↓reduceIte]; done) | (simp [r_A_isOrdered, eq_false hh1, eq_true hh2]; done)) d_A_isOrdered_30
    · skip
      refine lv_iconst (v := 1) hx hb d_A_isOrdered_25 (by decide) ?_
      refine lv_goto (tgt := 30) hx hb d_A_isOrdered_26 (by decide) ?_
      exact z_retzE C h hr hk (by first | exact Or.inl rfl | exact Or.inr rfl) (by first | rfl | (simp only [r_A_isOrdered, eq_false hh1, eq_false hh2, ↓reduceIte]; done) | (simp [r_A_isOrdered, eq_false hh1, eq_false hh2]; done)) (by first | rfl | (simp only [r_A_isOrdered, eq_false hh1, eq_false hh2, ↓reduceIte]; done) | (simp [r_A_isOrdered, eq_false hh1, eq_false hh2]; done)) (by first | rfl | (simp only [r_A_isOrdered, eq_false hh1, eq_false hh2, ↓reduceIte]; done) | (simp [r_A_isOrdered, eq_false hh1, eq_false hh2]; done)) d_A_isOrdered_30
theorem hd_A_send : y_A_send.cls ≠ "java/lang/invoke/MethodHandle" ∧ y_A_send.cls ≠ "java/lang/invoke/VarHandle" ∧ (parseMethodDescriptor y_A_send.desc).map (fun d => d.parameters.length) = some 7 := by decide +kernel
def jS0_A_send_137_1 (X : zXS) (M : zMS) (kd : Int32) (ln : Int32) (sn : Int32) (to : Int32) (rq : Int32) (nm : Int32) (cv : Int32) : Int32 := (if 4 < kd then ((X 1 (Int32.toNatClampNeg rq) (Int32.toNatClampNeg ln)) + 1) else 1)
def x_A_send (X : zXS) (M : zMS) (kd : Int32) (ln : Int32) (sn : Int32) (to : Int32) (rq : Int32) (nm : Int32) (cv : Int32) : zXS := (u3 (u3 (u3 (u3 (u3 (u3 (u3 (u3 (u3 X 0 0 (Int32.toNatClampNeg (X 2 0 0)) kd) 0 1 (Int32.toNatClampNeg (X 2 0 0)) ln) 0 2 (Int32.toNatClampNeg (X 2 0 0)) sn) 0 3 (Int32.toNatClampNeg (X 2 0 0)) to) 0 4 (Int32.toNatClampNeg (X 2 0 0)) rq) 0 5 (Int32.toNatClampNeg (X 2 0 0)) nm) 0 6 (Int32.toNatClampNeg (X 2 0 0)) cv) 2 0 0 ((X 2 0 0) + 1)) 1 (Int32.toNatClampNeg rq) (Int32.toNatClampNeg ln) (jS0_A_send_137_1 X M kd ln sn to rq nm cv))
set_option maxHeartbeats 1000000 in
set_option maxRecDepth 100000 in
theorem k_A_send (l : Launch) (dC : Nat → ClassId) (dI : Nat → Nat → Nat) (k : Nat → ClassId) (q : Nat → Nat) (X : zXS) (M : zMS) (kd : Int32) (ln : Int32) (sn : Int32) (to : Int32) (rq : Int32) (nm : Int32) (cv : Int32)  (n : Nat) (hn : X 2 0 0 = nI n) (hb9 : n < 64) (ha : vp_in ln 4) (hr4 : vp_in rq 4) : zMet l dC dI k q y_A_send c_A_send 8 none 0 0 [.ref (q 1), .int kd, .int ln, .int sn, .int to, .int rq, .int nm, .int cv] none X M (x_A_send X M kd ln sn to rq nm cv) M := by
  refine zMet.of (by decide) (Nat.le_of_ble_eq_true rfl) ?_
  intro p e s m args below meth c ls C hr hk hl h
  have hx := C.1
  have hb := C.2.1
  have hl : lv_has ls 8 [(0, .ref (q 1)), (1, .int kd), (2, .int ln), (3, .int sn), (4, .int to), (5, .int rq), (6, .int nm), (7, .int cv)] := hl
  refine lv_aload_n hx hb d_A_send_0 rfl (lv_at hl 0 rfl) ?_
  refine g_A_19 C h d_A_send_1 ?_
  refine lv_bipush (v := 64) hx hb d_A_send_4 (by decide) ?_
  refine lv_icmp_lt (tgt := 10) hx hb d_A_send_6 (by decide) (fun hh1 => ?_) (fun hh1 => absurd (by rw [hn]; exact nI_lt (b := 64) hb9 (by omega)) hh1)
  refine lv_aload_n hx hb d_A_send_10 rfl (lv_at hl 0 rfl) ?_
  refine g_A_13 C h d_A_send_11 ?_
  refine lv_iconst (v := 0) hx hb d_A_send_14 (by decide) ?_
  refine la_parts C h (by unfold vp_in; decide) d_A_send_15 ?_
  refine lv_aload_n hx hb d_A_send_16 rfl (lv_at hl 0 rfl) ?_
  refine g_A_19 C h d_A_send_17 ?_
  refine lv_iload_n hx hb d_A_send_20 rfl (lv_at hl 1 rfl) ?_
  refine s_parts C h (w := 0) (by decide) (z_in hn hb9 (by omega)) d_A_send_21 (fun H locs h => ?_)
  refine lv_aload_n hx hb d_A_send_22 rfl (lv_at hl 0 rfl) ?_
  refine g_A_13 C h d_A_send_23 ?_
  refine lv_iconst (v := 1) hx hb d_A_send_26 (by decide) ?_
  refine la_parts C h (by unfold vp_in; decide) d_A_send_27 ?_
  refine lv_aload_n hx hb d_A_send_28 rfl (lv_at hl 0 rfl) ?_
  refine g_A_19 C h d_A_send_29 ?_
  refine z_top (y := X 2 0 0) rfl ?_
  refine lv_iload_n hx hb d_A_send_32 rfl (lv_at hl 2 rfl) ?_
  refine s_parts C h (w := 1) (by decide) (z_in hn hb9 (by omega)) d_A_send_33 (fun H locs h => ?_)
  refine lv_aload_n hx hb d_A_send_34 rfl (lv_at hl 0 rfl) ?_
  refine g_A_13 C h d_A_send_35 ?_
  refine lv_iconst (v := 2) hx hb d_A_send_38 (by decide) ?_
  refine la_parts C h (by unfold vp_in; decide) d_A_send_39 ?_
  refine lv_aload_n hx hb d_A_send_40 rfl (lv_at hl 0 rfl) ?_
  refine g_A_19 C h d_A_send_41 ?_
  refine z_top (y := X 2 0 0) rfl ?_
  refine lv_iload_n hx hb d_A_send_44 rfl (lv_at hl 3 rfl) ?_
  refine s_parts C h (w := 2) (by decide) (z_in hn hb9 (by omega)) d_A_send_45 (fun H locs h => ?_)
  refine lv_aload_n hx hb d_A_send_46 rfl (lv_at hl 0 rfl) ?_
  refine g_A_13 C h d_A_send_47 ?_
  refine lv_iconst (v := 3) hx hb d_A_send_50 (by decide) ?_
  refine la_parts C h (by unfold vp_in; decide) d_A_send_51 ?_
  refine lv_aload_n hx hb d_A_send_52 rfl (lv_at hl 0 rfl) ?_
  refine g_A_19 C h d_A_send_53 ?_
  refine z_top (y := X 2 0 0) rfl ?_
  refine lv_iload hx hb d_A_send_56 (lv_at hl 4 rfl) ?_
  refine s_parts C h (w := 3) (by decide) (z_in hn hb9 (by omega)) d_A_send_58 (fun H locs h => ?_)
  refine lv_aload_n hx hb d_A_send_59 rfl (lv_at hl 0 rfl) ?_
  refine g_A_13 C h d_A_send_60 ?_
  refine lv_iconst (v := 4) hx hb d_A_send_63 (by decide) ?_
  refine la_parts C h (by unfold vp_in; decide) d_A_send_64 ?_
  refine lv_aload_n hx hb d_A_send_65 rfl (lv_at hl 0 rfl) ?_
  refine g_A_19 C h d_A_send_66 ?_
  refine z_top (y := X 2 0 0) rfl ?_
  refine lv_iload hx hb d_A_send_69 (lv_at hl 5 rfl) ?_
  refine s_parts C h (w := 4) (by decide) (z_in hn hb9 (by omega)) d_A_send_71 (fun H locs h => ?_)
  refine lv_aload_n hx hb d_A_send_72 rfl (lv_at hl 0 rfl) ?_
  refine g_A_13 C h d_A_send_73 ?_
  refine lv_iconst (v := 5) hx hb d_A_send_76 (by decide) ?_
  refine la_parts C h (by unfold vp_in; decide) d_A_send_77 ?_
  refine lv_aload_n hx hb d_A_send_78 rfl (lv_at hl 0 rfl) ?_
  refine g_A_19 C h d_A_send_79 ?_
  refine z_top (y := X 2 0 0) rfl ?_
  refine lv_iload hx hb d_A_send_82 (lv_at hl 6 rfl) ?_
  refine s_parts C h (w := 5) (by decide) (z_in hn hb9 (by omega)) d_A_send_84 (fun H locs h => ?_)
  refine lv_aload_n hx hb d_A_send_85 rfl (lv_at hl 0 rfl) ?_
  refine g_A_13 C h d_A_send_86 ?_
  refine lv_bipush (v := 6) hx hb d_A_send_89 (by decide) ?_
  refine la_parts C h (by unfold vp_in; decide) d_A_send_91 ?_
  refine lv_aload_n hx hb d_A_send_92 rfl (lv_at hl 0 rfl) ?_
  refine g_A_19 C h d_A_send_93 ?_
  refine z_top (y := X 2 0 0) rfl ?_
  refine lv_iload hx hb d_A_send_96 (lv_at hl 7 rfl) ?_
  refine s_parts C h (w := 6) (by decide) (z_in hn hb9 (by omega)) d_A_send_98 (fun H locs h => ?_)
  refine lv_aload_n hx hb d_A_send_99 rfl (lv_at hl 0 rfl) ?_
  refine lv_dup hx hb d_A_send_100 rfl ?_
  refine g_A_19 C h d_A_send_101 ?_
  refine z_top (y := X 2 0 0) rfl ?_
  refine lv_iconst (v := 1) hx hb d_A_send_104 (by decide) ?_
  refine lv_iadd hx hb d_A_send_105 ?_
  refine p_A_19 C h d_A_send_106 (fun H locs h => ?_)
  refine lv_aload_n hx hb d_A_send_109 rfl (lv_at hl 0 rfl) ?_
  refine g_A_16 C h d_A_send_110 ?_
  refine lv_iload hx hb d_A_send_113 (lv_at hl 5 rfl) ?_
  refine la_tal C h hr4 d_A_send_115 ?_
  refine lv_iload_n hx hb d_A_send_116 rfl (lv_at hl 2 rfl) ?_
  have J137_1 : ∀ (ls : Array Slot) (H : Heap) (locs : List Loc), lv_has ls 8 [(0, .ref (q 1)), (1, .int kd), (2, .int ln), (3, .int sn), (4, .int to), (5, .int rq), (6, .int nm), (7, .int cv)] → zH dC dI k q (u3 (u3 (u3 (u3 (u3 (u3 (u3 (u3 X 0 0 (Int32.toNatClampNeg (X 2 0 0)) kd) 0 1 (Int32.toNatClampNeg (X 2 0 0)) ln) 0 2 (Int32.toNatClampNeg (X 2 0 0)) sn) 0 3 (Int32.toNatClampNeg (X 2 0 0)) to) 0 4 (Int32.toNatClampNeg (X 2 0 0)) rq) 0 5 (Int32.toNatClampNeg (X 2 0 0)) nm) 0 6 (Int32.toNatClampNeg (X 2 0 0)) cv) 2 0 0 ((X 2 0 0) + 1)) M (zA q) s.heap H locs → W p l e { frames := 0, cells := 0, slots := 0, locals := 0 } s m args below meth c H locs 0 0 (MQ below (zQc dC dI k q (x_A_send X M kd ln sn to rq nm cv) M none) args s 0 0 (zA q)) (F0 m 137 ls [.int (jS0_A_send_137_1 X M kd ln sn to rq nm cv), .int ln, .ref (q (11 + (Int32.toNatClampNeg rq)))]) := by
    intro ls H locs hl h
    refine s_tal C h (w := (Int32.toNatClampNeg rq)) (vp_lt hr4) ha d_A_send_137 (fun H locs h => ?_)
    exact z_retvE C h hr hk (by first | rfl | (simp only [x_A_send, hh1, ↓reduceIte]; done) | (simp [x_A_send, hh1]; done)) (by first | rfl | (simp only [x_A_send, hh1, ↓reduceIte]; done) | (simp [x_A_send, hh1]; done)) d_A_send_138
  refine lv_iload_n hx hb d_A_send_117 rfl (lv_at hl 1 rfl) ?_
  refine lv_iconst (v := 4) hx hb d_A_send_118 (by decide) ?_
  refine lv_icmp_gt (tgt := 126) hx hb d_A_send_119 (by decide) (fun hh2 => ?_) (fun hh2 => ?_)
  · skip
    refine lv_aload_n hx hb d_A_send_126 rfl (lv_at hl 0 rfl) ?_
    refine g_A_16 C h d_A_send_127 ?_
    refine lv_iload hx hb d_A_send_130 (lv_at hl 5 rfl) ?_
    refine la_tal C h hr4 d_A_send_132 ?_
    refine lv_iload_n hx hb d_A_send_133 rfl (lv_at hl 2 rfl) ?_
    refine l_tal C h (w := (Int32.toNatClampNeg rq)) (vp_lt hr4) ha d_A_send_134 ?_
    refine z_top (y := X 1 (Int32.toNatClampNeg rq) (Int32.toNatClampNeg ln)) rfl ?_
    refine lv_iconst (v := 1) hx hb d_A_send_135 (by decide) ?_
    refine lv_iadd hx hb d_A_send_136 ?_
    have J := J137_1 _ _ _ (lv_sub hl [0, 1, 2, 3, 4, 5, 6, 7] rfl) h
    rw [show (jS0_A_send_137_1 X M kd ln sn to rq nm cv) = ((X 1 (Int32.toNatClampNeg rq) (Int32.toNatClampNeg ln)) + 1) from (by first | (simp only [jS0_A_send_137_1, hh1, eq_true hh2, ↓reduceIte]; done) | (simp [jS0_A_send_137_1, hh1, eq_true hh2]; done))] at J
    exact J
  · skip
    refine lv_iconst (v := 1) hx hb d_A_send_122 (by decide) ?_
    refine lv_goto (tgt := 137) hx hb d_A_send_123 (by decide) ?_
    have J := J137_1 _ _ _ (lv_sub hl [0, 1, 2, 3, 4, 5, 6, 7] rfl) h
    rw [show (jS0_A_send_137_1 X M kd ln sn to rq nm cv) = 1 from (by first | (simp only [jS0_A_send_137_1, hh1, eq_false hh2, ↓reduceIte]; done) | (simp [jS0_A_send_137_1, hh1, eq_false hh2]; done))] at J
    exact J
def x_kbl (X : zXS) (M : zMS) (kk : Nat) : Nat → Nat → Int32
  | 0, _ => 0
  | c + 1, i => if r_A_isOrdered X M (nI i) = 0 then x_kbl X M kk c (i + 1) else if X 0 1 (Int32.toNatClampNeg (nI i)) = X 0 1 (Int32.toNatClampNeg (nI kk)) then (if X 0 3 (Int32.toNatClampNeg (nI i)) = X 0 3 (Int32.toNatClampNeg (nI kk)) then 1 else x_kbl X M kk c (i + 1)) else x_kbl X M kk c (i + 1)
def r_A_keepsBack (X : zXS) (M : zMS) (kk : Nat) : Int32 := if r_A_isOrdered X M (nI kk) = 0 then 0 else x_kbl X M kk kk 0
theorem hd_A_keepsBack : y_A_keepsBack.cls ≠ "java/lang/invoke/MethodHandle" ∧ y_A_keepsBack.cls ≠ "java/lang/invoke/VarHandle" ∧ (parseMethodDescriptor y_A_keepsBack.desc).map (fun d => d.parameters.length) = some 1 := by decide +kernel
set_option maxHeartbeats 1000000 in
set_option maxRecDepth 100000 in
theorem k_A_keepsBack (l : Launch) (dC : Nat → ClassId) (dI : Nat → Nat → Nat) (k : Nat → ClassId) (q : Nat → Nat) (X : zXS) (M : zMS) (kk : Nat) (h1 : kk < 64) : zMet l dC dI k q y_A_keepsBack c_A_keepsBack 3 (some .boolean) 1 21 [.ref (q 1), .int (nI kk)] (some (.int (r_A_keepsBack X M kk))) X M X M := by
  refine zMet.of (by decide) (Nat.le_of_ble_eq_true rfl) ?_
  intro p e s m args below meth c ls C hr hk hl h
  have hx := C.1
  have hb := C.2.1
  have hl : lv_has ls 3 [(0, .ref (q 1)), (1, .int (nI kk))] := hl
  have hk0 : vp_in (nI kk) 64 := vp_in_nI h1 (by omega)
  have loop : ∀ (c0 i : Nat) (ls : Array Slot) (H : Heap) (locs : List Loc), i + c0 = kk → r_A_keepsBack X M kk = x_kbl X M kk c0 i → lv_has ls 3 [(2, .int (nI i)), (0, .ref (q 1)), (1, .int (nI kk))] → zH dC dI k q X M (zA q) s.heap H locs → W p l e { frames := 1, cells := 0, slots := 0, locals := 21 } s m args below meth c H locs 0 0 (MQ below (zQc dC dI k q X M (some (.int (r_A_keepsBack X M kk)))) args s 0 0 (zA q)) (F0 m 12 ls []) := by
    intro c0
    induction c0 with
    | zero =>
      intro i ls H locs hi hM hl h
      refine lv_iload_n hx hb d_A_keepsBack_12 rfl (lv_at hl 0 rfl) ?_
      refine lv_iload_n hx hb d_A_keepsBack_13 rfl (lv_at hl 2 rfl) ?_
      refine lv_icmp_ge (tgt := 71) hx hb d_A_keepsBack_14 (by decide) (fun hh1 => ?_) (fun hh1 => absurd (nI_le (by omega) (by omega)) hh1)
      refine lv_iconst (v := 0) hx hb d_A_keepsBack_71 (by decide) ?_
      exact z_retzE C h hr hk (by first | exact Or.inl rfl | exact Or.inr rfl) (by first | rfl | (rw [hM]; simp only [x_kbl, ↓reduceIte]; done) | (simp only [r_A_keepsBack, ↓reduceIte]; done)) (by first | rfl | (rw [hM]; simp only [x_kbl, ↓reduceIte]; done) | (simp only [r_A_keepsBack, ↓reduceIte]; done)) (by first | rfl | (rw [hM]; simp only [x_kbl, ↓reduceIte]; done) | (simp only [r_A_keepsBack, ↓reduceIte]; done)) d_A_keepsBack_72
    | succ c0 ih =>
      intro i ls H locs hi hM hl h
      have hi0 : vp_in (nI i) 64 := vp_in_nI (by omega) (by omega)
      refine lv_iload_n hx hb d_A_keepsBack_12 rfl (lv_at hl 0 rfl) ?_
      refine lv_iload_n hx hb d_A_keepsBack_13 rfl (lv_at hl 2 rfl) ?_
      refine lv_icmp_ge (tgt := 71) hx hb d_A_keepsBack_14 (by decide) (fun hh2 => absurd hh2 (nI_ge (by omega) (by omega))) (fun hh2 => ?_)
      refine lv_aload_n hx hb d_A_keepsBack_17 rfl (lv_at hl 1 rfl) ?_
      refine lv_iload_n hx hb d_A_keepsBack_18 rfl (lv_at hl 0 rfl) ?_
      refine z_callV (i := 1) C h (k_A_isOrdered l dC dI k q X M (nI i) hi0) co_A_isOrdered ml_A_23 im_A_isOrdered se_A_isOrdered in_A rfl rfl hd_A_isOrdered ⟨by decide, by decide⟩ ⟨Nat.zero_le _, Nat.zero_le _⟩ hl.1 (Nat.le_of_ble_eq_true rfl) d_A_keepsBack_19 rfl (fun H locs h => ?_)
      refine W.eq (g2 := F0 m 22 ls [.int (r_A_isOrdered X M (nI i))]) rfl ?_
      have h : zH dC dI k q X M (zA q) s.heap H locs := h
      refine lv_if_eq (tgt := 65) hx hb d_A_keepsBack_22 (by decide) (fun hh3 => ?_) (fun hh3 => ?_)
      · skip
        refine lv_iinc (k := 0) (v := ((nI i) + 1)) hx hb d_A_keepsBack_65 hl rfl rfl (by decide) rfl (fun ls hl => ?_)
        have hl : lv_has ls 3 [(2, .int ((nI i) + 1)), (0, .ref (q 1)), (1, .int (nI kk))] := hl
        refine lv_goto (tgt := 12) hx hb d_A_keepsBack_68 (by decide) ?_
        exact ih (i + 1) _ _ _ (by omega) (by rw [hM]; simp only [x_kbl, eq_true hh3, ↓reduceIte]) (by rw [← nI_1]; exact hl) h
      · skip
        refine lv_aload_n hx hb d_A_keepsBack_25 rfl (lv_at hl 1 rfl) ?_
        refine g_A_13 C h d_A_keepsBack_26 ?_
        refine lv_iconst (v := 1) hx hb d_A_keepsBack_29 (by decide) ?_
        refine la_parts C h (by unfold vp_in; decide) d_A_keepsBack_30 ?_
        refine lv_iload_n hx hb d_A_keepsBack_31 rfl (lv_at hl 0 rfl) ?_
        refine l_parts C h (w := 1) (by decide) hi0 d_A_keepsBack_32 ?_
        refine lv_aload_n hx hb d_A_keepsBack_33 rfl (lv_at hl 1 rfl) ?_
        refine g_A_13 C h d_A_keepsBack_34 ?_
        refine lv_iconst (v := 1) hx hb d_A_keepsBack_37 (by decide) ?_
        refine la_parts C h (by unfold vp_in; decide) d_A_keepsBack_38 ?_
        refine lv_iload_n hx hb d_A_keepsBack_39 rfl (lv_at hl 2 rfl) ?_
        refine l_parts C h (w := 1) (by decide) hk0 d_A_keepsBack_40 ?_
        refine lv_icmp_ne (tgt := 65) hx hb d_A_keepsBack_41 (by decide) (fun hh4 => ?_) (fun hh4 => ?_)
        · skip
          refine lv_iinc (k := 0) (v := ((nI i) + 1)) hx hb d_A_keepsBack_65 hl rfl rfl (by decide) rfl (fun ls hl => ?_)
          have hl : lv_has ls 3 [(2, .int ((nI i) + 1)), (0, .ref (q 1)), (1, .int (nI kk))] := hl
          refine lv_goto (tgt := 12) hx hb d_A_keepsBack_68 (by decide) ?_
          exact ih (i + 1) _ _ _ (by omega) (by rw [hM]; simp only [x_kbl, eq_false hh3, eq_false hh4, ↓reduceIte]) (by rw [← nI_1]; exact hl) h
        · skip
          refine lv_aload_n hx hb d_A_keepsBack_44 rfl (lv_at hl 1 rfl) ?_
          refine g_A_13 C h d_A_keepsBack_45 ?_
          refine lv_iconst (v := 3) hx hb d_A_keepsBack_48 (by decide) ?_
          refine la_parts C h (by unfold vp_in; decide) d_A_keepsBack_49 ?_
          refine lv_iload_n hx hb d_A_keepsBack_50 rfl (lv_at hl 0 rfl) ?_
          refine l_parts C h (w := 3) (by decide) hi0 d_A_keepsBack_51 ?_
          refine lv_aload_n hx hb d_A_keepsBack_52 rfl (lv_at hl 1 rfl) ?_
          refine g_A_13 C h d_A_keepsBack_53 ?_
          refine lv_iconst (v := 3) hx hb d_A_keepsBack_56 (by decide) ?_
          refine la_parts C h (by unfold vp_in; decide) d_A_keepsBack_57 ?_
          refine lv_iload_n hx hb d_A_keepsBack_58 rfl (lv_at hl 2 rfl) ?_
          refine l_parts C h (w := 3) (by decide) hk0 d_A_keepsBack_59 ?_
          refine lv_icmp_ne (tgt := 65) hx hb d_A_keepsBack_60 (by decide) (fun hh5 => ?_) (fun hh5 => ?_)
          · skip
            refine lv_iinc (k := 0) (v := ((nI i) + 1)) hx hb d_A_keepsBack_65 hl rfl rfl (by decide) rfl (fun ls hl => ?_)
            have hl : lv_has ls 3 [(2, .int ((nI i) + 1)), (0, .ref (q 1)), (1, .int (nI kk))] := hl
            refine lv_goto (tgt := 12) hx hb d_A_keepsBack_68 (by decide) ?_
            exact ih (i + 1) _ _ _ (by omega) (by rw [hM]; simp only [x_kbl, eq_false hh3, eq_true hh4, eq_false hh5, ↓reduceIte]) (by rw [← nI_1]; exact hl) h
          · skip
            refine lv_iconst (v := 1) hx hb d_A_keepsBack_63 (by decide) ?_
            exact z_retzE C h hr hk (by first | exact Or.inl rfl | exact Or.inr rfl) (by first | rfl | (rw [hM]; simp only [x_kbl, eq_false hh3, eq_true hh4, eq_true hh5, ↓reduceIte]; done) | (simp only [r_A_keepsBack, eq_false hh3, eq_true hh4, eq_true hh5, ↓reduceIte]; done)) (by first | rfl | (rw [hM]; simp only [x_kbl, eq_false hh3, eq_true hh4, eq_true hh5, ↓reduceIte]; done) | (simp only [r_A_keepsBack, eq_false hh3, eq_true hh4, eq_true hh5, ↓reduceIte]; done)) (by first | rfl | (rw [hM]; simp only [x_kbl, eq_false hh3, eq_true hh4, eq_true hh5, ↓reduceIte]; done) | (simp only [r_A_keepsBack, eq_false hh3, eq_true hh4, eq_true hh5, ↓reduceIte]; done)) d_A_keepsBack_64
  refine lv_aload_n hx hb d_A_keepsBack_0 rfl (lv_at hl 0 rfl) ?_
  refine lv_iload_n hx hb d_A_keepsBack_1 rfl (lv_at hl 1 rfl) ?_
  refine z_callV (i := 1) C h (k_A_isOrdered l dC dI k q X M (nI kk) hk0) co_A_isOrdered ml_A_23 im_A_isOrdered se_A_isOrdered in_A rfl rfl hd_A_isOrdered ⟨by decide, by decide⟩ ⟨Nat.zero_le _, Nat.zero_le _⟩ hl.1 (Nat.le_of_ble_eq_true rfl) d_A_keepsBack_2 rfl (fun H locs h => ?_)
  refine W.eq (g2 := F0 m 5 ls [.int (r_A_isOrdered X M (nI kk))]) rfl ?_
  have h : zH dC dI k q X M (zA q) s.heap H locs := h
  refine lv_if_ne (tgt := 10) hx hb d_A_keepsBack_5 (by decide) (fun hh6 => ?_) (fun hh6 => ?_)
  · skip
    refine lv_iconst (v := 0) hx hb d_A_keepsBack_10 (by decide) ?_
    refine lv_istore_n hx hb d_A_keepsBack_11 rfl hl (by decide) rfl (fun ls hl => ?_)
    have hl : lv_has ls 3 [(2, .int 0), (0, .ref (q 1)), (1, .int (nI kk))] := hl
    exact loop kk 0 _ _ _ (by omega) (by rw [r_A_keepsBack, if_neg hh6]) hl h
  · skip
    refine lv_iconst (v := 0) hx hb d_A_keepsBack_8 (by decide) ?_
    exact z_retzE C h hr hk (by first | exact Or.inl rfl | exact Or.inr rfl) (by first | rfl | (rw [hM]; simp only [x_kbl, eq_true hh6, ↓reduceIte]; done) | (simp only [r_A_keepsBack, eq_true hh6, ↓reduceIte]; done)) (by first | rfl | (rw [hM]; simp only [x_kbl, eq_true hh6, ↓reduceIte]; done) | (simp only [r_A_keepsBack, eq_true hh6, ↓reduceIte]; done)) (by first | rfl | (rw [hM]; simp only [x_kbl, eq_true hh6, ↓reduceIte]; done) | (simp only [r_A_keepsBack, eq_true hh6, ↓reduceIte]; done)) d_A_keepsBack_9
def x_sh (w : Nat) : Nat → Nat → zXS → zXS
  | 0, _, X => X
  | c + 1, i, X => x_sh w c (i + 1) (u3 X 0 (Int32.toNatClampNeg (nI w)) (Int32.toNatClampNeg (nI i)) (X 0 (Int32.toNatClampNeg (nI w)) (Int32.toNatClampNeg (nI i + 1))))
def x_rm (kk n : Nat) : Nat → Nat → zXS → zXS
  | 0, _, X => X
  | c + 1, w, X => x_rm kk n c (w + 1) (x_sh w (n - kk) kk X)
def x_A_remove (X : zXS) (M : zMS) (kk n : Nat) : zXS := x_rm kk n 7 0 (u3 X 2 0 0 (X 2 0 0 - 1))
theorem x_sh_2 (w : Nat) : ∀ (c i : Nat) (X : zXS), x_sh w c i X 2 = X 2
  | 0, _, _ => rfl
  | c + 1, i, X => by rw [x_sh, x_sh_2 w c]; rfl
theorem hd_A_remove : y_A_remove.cls ≠ "java/lang/invoke/MethodHandle" ∧ y_A_remove.cls ≠ "java/lang/invoke/VarHandle" ∧ (parseMethodDescriptor y_A_remove.desc).map (fun d => d.parameters.length) = some 1 := by decide +kernel
set_option maxHeartbeats 1000000 in
set_option maxRecDepth 100000 in
theorem k_A_remove (l : Launch) (dC : Nat → ClassId) (dI : Nat → Nat → Nat) (k : Nat → ClassId) (q : Nat → Nat) (X : zXS) (M : zMS) (kk n : Nat) (h1 : kk ≤ n) (h2 : n < 64) (h0 : X 2 0 0 = nI (n + 1)) : zMet l dC dI k q y_A_remove c_A_remove 4 none 0 0 [.ref (q 1), .int (nI kk)] none X M (x_A_remove X M kk n) M := by
  refine zMet.of (by decide) (Nat.le_of_ble_eq_true rfl) ?_
  intro p e s m args below meth c ls C hr hk hl h
  have hx := C.1
  have hb := C.2.1
  have hl : lv_has ls 4 [(0, .ref (q 1)), (1, .int (nI kk))] := hl
  have inner : ∀ (w : Nat), w < 7 → ∀ (X0 : zXS), (∀ (ls : Array Slot) (H : Heap) (locs : List Loc), lv_has ls 4 [(2, .int (nI w)), (0, .ref (q 1)), (1, .int (nI kk))] → zH dC dI k q (x_sh w (n - kk) kk X0) M (zA q) s.heap H locs → W p l e { frames := 0, cells := 0, slots := 0, locals := 0 } s m args below meth c H locs 0 0 (MQ below (zQc dC dI k q (x_A_remove X M kk n) M none) args s 0 0 (zA q)) (F0 m 52 ls [])) → ∀ (c0 i : Nat) (X1 : zXS) (ls : Array Slot) (H : Heap) (locs : List Loc), i + c0 = n → X1 2 0 0 = nI n → x_sh w (n - kk) kk X0 = x_sh w c0 i X1 → lv_has ls 4 [(3, .int (nI i)), (2, .int (nI w)), (0, .ref (q 1)), (1, .int (nI kk))] → zH dC dI k q X1 M (zA q) s.heap H locs → W p l e { frames := 0, cells := 0, slots := 0, locals := 0 } s m args below meth c H locs 0 0 (MQ below (zQc dC dI k q (x_A_remove X M kk n) M none) args s 0 0 (zA q)) (F0 m 20 ls []) := by
    intro w hw X0 K c0
    have hw0 : vp_in (nI w) 7 := vp_in_nI hw (by omega)
    induction c0 with
    | zero =>
      intro i X1 ls H locs hi hR hres hl h
      refine lv_iload_n hx hb d_A_remove_20 rfl (lv_at hl 0 rfl) ?_
      refine lv_aload_n hx hb d_A_remove_21 rfl (lv_at hl 2 rfl) ?_
      refine g_A_19 C h d_A_remove_22 ?_
      refine lv_icmp_ge (tgt := 52) hx hb d_A_remove_25 (by decide) (fun hh1 => ?_) (fun hh1 => absurd (by rw [hR]; exact nI_le (by omega) (by omega)) hh1)
      exact K _ _ _ (lv_sub hl [1, 2, 3] rfl) (by rw [hres, x_sh]; exact h)
    | succ c0 ih =>
      intro i X1 ls H locs hi hR hres hl h
      have hi0 : vp_in (nI i) 64 := vp_in_nI (by omega) (by omega)
      have hi1 : vp_in (nI i + 1) 64 := by rw [nI_1]; exact vp_in_nI (by omega) (by omega)
      refine lv_iload_n hx hb d_A_remove_20 rfl (lv_at hl 0 rfl) ?_
      refine lv_aload_n hx hb d_A_remove_21 rfl (lv_at hl 2 rfl) ?_
      refine g_A_19 C h d_A_remove_22 ?_
      refine lv_icmp_ge (tgt := 52) hx hb d_A_remove_25 (by decide) (fun hh2 => absurd hh2 (by rw [hR]; exact nI_ge (by omega) (by omega))) (fun hh2 => ?_)
      refine lv_aload_n hx hb d_A_remove_28 rfl (lv_at hl 2 rfl) ?_
      refine g_A_13 C h d_A_remove_29 ?_
      refine lv_iload_n hx hb d_A_remove_32 rfl (lv_at hl 1 rfl) ?_
      refine la_parts C h hw0 d_A_remove_33 ?_
      refine lv_iload_n hx hb d_A_remove_34 rfl (lv_at hl 0 rfl) ?_
      refine lv_aload_n hx hb d_A_remove_35 rfl (lv_at hl 2 rfl) ?_
      refine g_A_13 C h d_A_remove_36 ?_
      refine lv_iload_n hx hb d_A_remove_39 rfl (lv_at hl 1 rfl) ?_
      refine la_parts C h hw0 d_A_remove_40 ?_
      refine lv_iload_n hx hb d_A_remove_41 rfl (lv_at hl 0 rfl) ?_
      refine lv_iconst (v := 1) hx hb d_A_remove_42 (by decide) ?_
      refine lv_iadd hx hb d_A_remove_43 ?_
      refine l_parts C h (w := (Int32.toNatClampNeg (nI w))) (vp_lt hw0) hi1 d_A_remove_44 ?_
      refine s_parts C h (w := (Int32.toNatClampNeg (nI w))) (vp_lt hw0) hi0 d_A_remove_45 (fun H locs h => ?_)
      refine lv_iinc (k := 0) (v := ((nI i) + 1)) hx hb d_A_remove_46 hl rfl rfl (by decide) rfl (fun ls hl => ?_)
      have hl : lv_has ls 4 [(3, .int ((nI i) + 1)), (2, .int (nI w)), (0, .ref (q 1)), (1, .int (nI kk))] := hl
      refine lv_goto (tgt := 20) hx hb d_A_remove_49 (by decide) ?_
      exact ih (i + 1) (u3 X1 0 (Int32.toNatClampNeg (nI w)) (Int32.toNatClampNeg (nI i)) (X1 0 (Int32.toNatClampNeg (nI w)) (Int32.toNatClampNeg ((nI i) + 1)))) _ _ _ (by omega) hR hres (by rw [← nI_1]; exact hl) h
  have outer : ∀ (c0 w : Nat) (X1 : zXS) (ls : Array Slot) (H : Heap) (locs : List Loc), w + c0 = 7 → X1 2 0 0 = nI n → (x_A_remove X M kk n) = x_rm kk n c0 w X1 → lv_has ls 4 [(2, .int (nI w)), (0, .ref (q 1)), (1, .int (nI kk))] → zH dC dI k q X1 M (zA q) s.heap H locs → W p l e { frames := 0, cells := 0, slots := 0, locals := 0 } s m args below meth c H locs 0 0 (MQ below (zQc dC dI k q (x_A_remove X M kk n) M none) args s 0 0 (zA q)) (F0 m 12 ls []) := by
    intro c0
    induction c0 with
    | zero =>
      intro w X1 ls H locs hi hR hres hl h
      have e7 : nI w = 7 := by rw [show w = 7 by omega]; rfl
      refine lv_iload_n hx hb d_A_remove_12 rfl (lv_at hl 0 rfl) ?_
      refine lv_bipush (v := 7) hx hb d_A_remove_13 (by decide) ?_
      refine lv_icmp_ge (tgt := 58) hx hb d_A_remove_15 (by decide) (fun hh3 => ?_) (fun hh3 => absurd (by rw [e7]; decide) hh3)
      exact z_retvE C h hr hk (by rw [hres, x_rm]) rfl d_A_remove_58
    | succ c0 ih =>
      intro w X1 ls H locs hi hR hres hl h
      refine lv_iload_n hx hb d_A_remove_12 rfl (lv_at hl 0 rfl) ?_
      refine lv_bipush (v := 7) hx hb d_A_remove_13 (by decide) ?_
      refine lv_icmp_ge (tgt := 58) hx hb d_A_remove_15 (by decide) (fun hh4 => absurd hh4 (nI_ge (a := w) (b := 7) (by omega) (by omega))) (fun hh4 => ?_)
      refine lv_iload_n hx hb d_A_remove_18 rfl (lv_at hl 2 rfl) ?_
      refine lv_istore_n hx hb d_A_remove_19 rfl hl (by decide) rfl (fun ls hl => ?_)
      have hl : lv_has ls 4 [(3, .int (nI kk)), (2, .int (nI w)), (0, .ref (q 1)), (1, .int (nI kk))] := hl
      refine inner w (by omega) X1 ?_ (n - kk) kk X1 _ _ _ (by omega) hR rfl hl h
      intro ls H locs hl h
      have hl : lv_has ls 4 [(2, .int (nI w)), (0, .ref (q 1)), (1, .int (nI kk))] := hl
      refine lv_iinc (k := 0) (v := ((nI w) + 1)) hx hb d_A_remove_52 hl rfl rfl (by decide) rfl (fun ls hl => ?_)
      have hl : lv_has ls 4 [(2, .int ((nI w) + 1)), (0, .ref (q 1)), (1, .int (nI kk))] := hl
      refine lv_goto (tgt := 12) hx hb d_A_remove_55 (by decide) ?_
      exact ih (w + 1) _ _ _ _ (by omega) (by rw [x_sh_2]; exact hR) hres (by rw [← nI_1]; exact hl) h
  refine lv_aload_n hx hb d_A_remove_0 rfl (lv_at hl 0 rfl) ?_
  refine lv_dup hx hb d_A_remove_1 rfl ?_
  refine g_A_19 C h d_A_remove_2 ?_
  refine lv_iconst (v := 1) hx hb d_A_remove_5 (by decide) ?_
  refine lv_isub hx hb d_A_remove_6 ?_
  refine p_A_19 C h d_A_remove_7 (fun H locs h => ?_)
  refine lv_iconst (v := 0) hx hb d_A_remove_10 (by decide) ?_
  refine lv_istore_n hx hb d_A_remove_11 rfl hl (by decide) rfl (fun ls hl => ?_)
  have hl : lv_has ls 4 [(2, .int 0), (0, .ref (q 1)), (1, .int (nI kk))] := hl
  exact outer 7 0 _ _ _ _ (by omega) (by show X 2 0 0 - 1 = nI n; rw [h0]; exact nI_pred n) rfl hl h
