theorem cnt_next {X : zXS} {M : zMS} {n : Nat} {a b c d e f g : Int32} (h : X 2 0 0 = nI n) : (x_A_send X M a b c d e f g) 2 0 0 = nI (n + 1) := by
  show X 2 0 0 + 1 = nI (n + 1)
  rw [h, nI_1]
theorem vp_nI4 {j : Nat} (h : j < 4) : vp_in (nI j) 4 := vp_in_nI h (by omega)
theorem z_out3a {x : Int32} (h1 : ¬ x = 1) (h2 : ¬ x = 2) (h3 : ¬ x = 3) : x.toInt < 1 ∨ 3 < x.toInt := by
  rw [← Int32.toInt_inj] at h1 h2 h3
  have e1 : (1 : Int32).toInt = 1 := rfl
  have e2 : (2 : Int32).toInt = 2 := rfl
  have e3 : (3 : Int32).toInt = 3 := rfl
  omega
theorem z_out3b {x : Int32} (h1 : ¬ x = 5) (h2 : ¬ x = 6) (h3 : ¬ x = 7) : x.toInt < 5 ∨ 7 < x.toInt := by
  rw [← Int32.toInt_inj] at h1 h2 h3
  have e1 : (5 : Int32).toInt = 5 := rfl
  have e2 : (6 : Int32).toInt = 6 := rfl
  have e3 : (7 : Int32).toInt = 7 := rfl
  omega
theorem z_out7 {x : Int32} (h5 : ¬ x = 5) (h6 : ¬ x = 6) (h7 : ¬ x = 7) (h8 : ¬ x = 8) (h9 : ¬ x = 9) (ha : ¬ x = 10) (hb : ¬ x = 11) : x.toInt < 5 ∨ 11 < x.toInt := by
  rw [← Int32.toInt_inj] at h5 h6 h7 h8 h9 ha hb
  have e5 : (5 : Int32).toInt = 5 := rfl
  have e6 : (6 : Int32).toInt = 6 := rfl
  have e7 : (7 : Int32).toInt = 7 := rfl
  have e8 : (8 : Int32).toInt = 8 := rfl
  have e9 : (9 : Int32).toInt = 9 := rfl
  have e10 : (10 : Int32).toInt = 10 := rfl
  have e11 : (11 : Int32).toInt = 11 := rfl
  omega
theorem hd_C_change : y_C_change.cls ≠ "java/lang/invoke/MethodHandle" ∧ y_C_change.cls ≠ "java/lang/invoke/VarHandle" ∧ (parseMethodDescriptor y_C_change.desc).map (fun d => d.parameters.length) = some 2 := by decide +kernel
def x_C_change (X : zXS) (M : zMS) (j0 : Nat) (a : Int32) (v : Int32) : zXS := (if (X 3 j0 (Int32.toNatClampNeg a)) = 2 then (u3 (u3 X 4 j0 (Int32.toNatClampNeg a) v) 3 j0 (Int32.toNatClampNeg a) 3) else (u3 X 4 j0 (Int32.toNatClampNeg a) v))
set_option maxHeartbeats 1000000 in
set_option maxRecDepth 100000 in
theorem k_C_change (l : Launch) (dC : Nat → ClassId) (dI : Nat → Nat → Nat) (k : Nat → ClassId) (q : Nat → Nat) (X : zXS) (M : zMS) (j0 : Nat) (a : Int32) (v : Int32)  (hj : j0 < 4) (ha : vp_in a 4)  : zMet l dC dI k q y_C_change c_C_change 3 none 0 0 [.ref (q (16 + 4 * j0)), .int a, .int v] none X M (x_C_change X M j0 a v) M := by
  refine zMet.of (by decide) (Nat.le_of_ble_eq_true rfl) ?_
  intro p e s m args below meth c ls C hr hk hl h
  have hx := C.1
  have hb := C.2.1
  have hl : lv_has ls 3 [(0, .ref (q (16 + 4 * j0))), (1, .int a), (2, .int v)] := hl
  refine lv_aload_n hx hb d_C_change_0 rfl (lv_at hl 0 rfl) ?_
  refine g_C_15 C h (j0 := j0) hj d_C_change_1 ?_
  refine lv_iload_n hx hb d_C_change_4 rfl (lv_at hl 1 rfl) ?_
  refine lv_iload_n hx hb d_C_change_5 rfl (lv_at hl 2 rfl) ?_
  refine s_val C h (j0 := j0) hj ha d_C_change_6 (fun H locs h => ?_)
  refine lv_aload_n hx hb d_C_change_7 rfl (lv_at hl 0 rfl) ?_
  refine g_C_9 C h (j0 := j0) hj d_C_change_8 ?_
  refine lv_iload_n hx hb d_C_change_11 rfl (lv_at hl 1 rfl) ?_
  refine l_st C h (j0 := j0) hj ha d_C_change_12 ?_
  refine z_top (y := X 3 j0 (Int32.toNatClampNeg a)) rfl ?_
  refine lv_iconst (v := 2) hx hb d_C_change_13 (by decide) ?_
  refine lv_icmp_ne (tgt := 24) hx hb d_C_change_14 (by decide) (fun hh1 => ?_) (fun hh1 => ?_)
  · skip
    exact z_retvE C h hr hk (by first | rfl | (simp only [x_C_change, eq_false hh1, ↓reduceIte]; done) | (simp [x_C_change, eq_false hh1]; done)) (by first | rfl | (simp only [x_C_change, eq_false hh1, ↓reduceIte]; done) | (simp [x_C_change, eq_false hh1]; done)) d_C_change_24
  · skip
    refine lv_aload_n hx hb d_C_change_17 rfl (lv_at hl 0 rfl) ?_
    refine g_C_9 C h (j0 := j0) hj d_C_change_18 ?_
    refine lv_iload_n hx hb d_C_change_21 rfl (lv_at hl 1 rfl) ?_
    refine lv_iconst (v := 3) hx hb d_C_change_22 (by decide) ?_
    refine s_st C h (j0 := j0) hj ha d_C_change_23 (fun H locs h => ?_)
    exact z_retvE C h hr hk (by first | rfl | (simp only [x_C_change, eq_true hh1, ↓reduceIte]; done) | (simp [x_C_change, eq_true hh1]; done)) (by first | rfl | (simp only [x_C_change, eq_true hh1, ↓reduceIte]; done) | (simp [x_C_change, eq_true hh1]; done)) d_C_change_24
theorem hd_C_finish : y_C_finish.cls ≠ "java/lang/invoke/MethodHandle" ∧ y_C_finish.cls ≠ "java/lang/invoke/VarHandle" ∧ (parseMethodDescriptor y_C_finish.desc).map (fun d => d.parameters.length) = some 1 := by decide +kernel
def jS0_C_finish_24_1 (X : zXS) (M : zMS) (j0 : Nat) (a : Int32) : Int32 := (if (X 7 j0 0) = 1 then (X 8 j0 0) else (X 4 j0 (Int32.toNatClampNeg a)))
def jS0_C_finish_57_1 (X : zXS) (M : zMS) (j0 : Nat) (a : Int32) : Int32 := (if (X 7 j0 0) = 1 then (X 8 j0 0) else ((X 4 j0 (Int32.toNatClampNeg a)) + (X 8 j0 0)))
def jX_C_finish_60_1 (X : zXS) (M : zMS) (j0 : Nat) (a : Int32) : zXS := (if (X 7 j0 0) = 0 then (u3 X 10 j0 0 (jS0_C_finish_24_1 X M j0 a)) else (x_C_change (u3 X 10 j0 0 (jS0_C_finish_24_1 X M j0 a)) M j0 a (jS0_C_finish_57_1 X M j0 a)))
def x_C_finish (X : zXS) (M : zMS) (j0 : Nat) (a : Int32) : zXS := (u3 (u3 (jX_C_finish_60_1 X M j0 a) 9 j0 0 (((jX_C_finish_60_1 X M j0 a) 9 j0 0) + 1)) 6 j0 0 0)
set_option maxHeartbeats 1000000 in
set_option maxRecDepth 100000 in
theorem k_C_finish (l : Launch) (dC : Nat → ClassId) (dI : Nat → Nat → Nat) (k : Nat → ClassId) (q : Nat → Nat) (X : zXS) (M : zMS) (j0 : Nat) (a : Int32)  (hj : j0 < 4) (ha : vp_in a 4)  : zMet l dC dI k q y_C_finish c_C_finish 3 none 1 22 [.ref (q (16 + 4 * j0)), .int a] none X M (x_C_finish X M j0 a) M := by
  refine zMet.of (by decide) (Nat.le_of_ble_eq_true rfl) ?_
  intro p e s m args below meth c ls C hr hk hl h
  have hx := C.1
  have hb := C.2.1
  have hl : lv_has ls 3 [(0, .ref (q (16 + 4 * j0))), (1, .int a)] := hl
  refine lv_aload_n hx hb d_C_finish_0 rfl (lv_at hl 0 rfl) ?_
  refine g_C_15 C h (j0 := j0) hj d_C_finish_1 ?_
  refine lv_iload_n hx hb d_C_finish_4 rfl (lv_at hl 1 rfl) ?_
  refine l_val C h (j0 := j0) hj ha d_C_finish_5 ?_
  refine lv_istore_n hx hb d_C_finish_6 rfl hl (by decide) rfl (fun ls hl => ?_)
  have hl : lv_has ls 3 [(2, .int (X 4 j0 (Int32.toNatClampNeg a))), (0, .ref (q (16 + 4 * j0))), (1, .int a)] := hl
  refine lv_aload_n hx hb d_C_finish_7 rfl (lv_at hl 1 rfl) ?_
  have J24_1 : ∀ (ls : Array Slot) (H : Heap) (locs : List Loc), lv_has ls 3 [(0, .ref (q (16 + 4 * j0))), (1, .int a), (2, .int (X 4 j0 (Int32.toNatClampNeg a)))] → zH dC dI k q X M (zA q) s.heap H locs → W p l e { frames := 1, cells := 0, slots := 0, locals := 22 } s m args below meth c H locs 0 0 (MQ below (zQc dC dI k q (x_C_finish X M j0 a) M none) args s 0 0 (zA q)) (F0 m 24 ls [.int (jS0_C_finish_24_1 X M j0 a), .ref (q (16 + 4 * j0))]) := by
    intro ls H locs hl h
    refine p_C_35 C h (j0 := j0) hj d_C_finish_24 (fun H locs h => ?_)
    have J60_1 : ∀ (ls : Array Slot) (H : Heap) (locs : List Loc), lv_has ls 3 [(0, .ref (q (16 + 4 * j0))), (1, .int a), (2, .int (X 4 j0 (Int32.toNatClampNeg a)))] → zH dC dI k q (jX_C_finish_60_1 X M j0 a) M (zA q) s.heap H locs → W p l e { frames := 1, cells := 0, slots := 0, locals := 22 } s m args below meth c H locs 0 0 (MQ below (zQc dC dI k q (x_C_finish X M j0 a) M none) args s 0 0 (zA q)) (F0 m 60 ls []) := by
      intro ls H locs hl h
      refine lv_aload_n hx hb d_C_finish_60 rfl (lv_at hl 0 rfl) ?_
      refine lv_dup hx hb d_C_finish_61 rfl ?_
      refine g_C_32 C h (j0 := j0) hj d_C_finish_62 ?_
      refine lv_iconst (v := 1) hx hb d_C_finish_65 (by decide) ?_
      refine lv_iadd hx hb d_C_finish_66 ?_
      refine p_C_32 C h (j0 := j0) hj d_C_finish_67 (fun H locs h => ?_)
      refine lv_aload_n hx hb d_C_finish_70 rfl (lv_at hl 0 rfl) ?_
      refine lv_iconst (v := 0) hx hb d_C_finish_71 (by decide) ?_
      refine p_C_21 C h (j0 := j0) hj (Or.inl rfl) d_C_finish_72 (fun H locs h => ?_)
      exact z_retvE C h hr hk (by first | rfl | (simp only [x_C_finish, ↓reduceIte]; done) | (simp [x_C_finish]; done)) (by first | rfl | (simp only [x_C_finish, ↓reduceIte]; done) | (simp [x_C_finish]; done)) d_C_finish_75
    refine lv_aload_n hx hb d_C_finish_27 rfl (lv_at hl 0 rfl) ?_
    refine g_C_25 C h (j0 := j0) hj d_C_finish_28 ?_
    refine z_top (y := X 7 j0 0) rfl ?_
    refine lv_if_eq (tgt := 60) hx hb d_C_finish_31 (by decide) (fun hh1 => ?_) (fun hh1 => ?_)
    · skip
      exact J60_1 _ _ _ (lv_sub hl [0, 1, 2] rfl) (by rw [show (jX_C_finish_60_1 X M j0 a) = (u3 X 10 j0 0 (jS0_C_finish_24_1 X M j0 a)) from (by first | (simp only [jX_C_finish_60_1, eq_true hh1, ↓reduceIte]; done) | (simp [jX_C_finish_60_1, eq_true hh1]; done))]; exact h)
    · skip
      refine lv_aload_n hx hb d_C_finish_34 rfl (lv_at hl 0 rfl) ?_
      refine lv_iload_n hx hb d_C_finish_35 rfl (lv_at hl 1 rfl) ?_
      have J57_1 : ∀ (ls : Array Slot) (H : Heap) (locs : List Loc), lv_has ls 3 [(0, .ref (q (16 + 4 * j0))), (1, .int a), (2, .int (X 4 j0 (Int32.toNatClampNeg a)))] → zH dC dI k q (u3 X 10 j0 0 (jS0_C_finish_24_1 X M j0 a)) M (zA q) s.heap H locs → W p l e { frames := 1, cells := 0, slots := 0, locals := 22 } s m args below meth c H locs 0 0 (MQ below (zQc dC dI k q (x_C_finish X M j0 a) M none) args s 0 0 (zA q)) (F0 m 57 ls [.int (jS0_C_finish_57_1 X M j0 a), .int a, .ref (q (16 + 4 * j0))]) := by
        intro ls H locs hl h
        refine z_callV (i := 16 + 4 * j0) C h (k_C_change l dC dI k q (u3 X 10 j0 0 (jS0_C_finish_24_1 X M j0 a)) M j0 a (jS0_C_finish_57_1 X M j0 a) hj ha) co_C_change ml_C_96 im_C_change se_C_change in_C (zW_core hj) rfl hd_C_change ⟨by decide, by decide⟩ ⟨Nat.zero_le _, Nat.zero_le _⟩ hl.1 (Nat.le_of_ble_eq_true rfl) d_C_finish_57 rfl (fun H locs h => ?_)
        refine W.eq (g2 := F0 m 60 ls []) rfl ?_
        have h : zH dC dI k q (x_C_change (u3 X 10 j0 0 (jS0_C_finish_24_1 X M j0 a)) M j0 a (jS0_C_finish_57_1 X M j0 a)) M (zA q) s.heap H locs := h
        exact J60_1 _ _ _ (lv_sub hl [0, 1, 2] rfl) (by rw [show (jX_C_finish_60_1 X M j0 a) = (x_C_change (u3 X 10 j0 0 (jS0_C_finish_24_1 X M j0 a)) M j0 a (jS0_C_finish_57_1 X M j0 a)) from (by first | (simp only [jX_C_finish_60_1, eq_false hh1, ↓reduceIte]; done) | (simp [jX_C_finish_60_1, eq_false hh1]; done))]; exact h)
      refine lv_aload_n hx hb d_C_finish_36 rfl (lv_at hl 0 rfl) ?_
      refine g_C_25 C h (j0 := j0) hj d_C_finish_37 ?_
      refine z_top (y := X 7 j0 0) rfl ?_
      refine lv_iconst (v := 1) hx hb d_C_finish_40 (by decide) ?_
      refine lv_icmp_ne (tgt := 51) hx hb d_C_finish_41 (by decide) (fun hh2 => ?_) (fun hh2 => ?_)
      · skip
        refine lv_iload_n hx hb d_C_finish_51 rfl (lv_at hl 2 rfl) ?_
        refine lv_aload_n hx hb d_C_finish_52 rfl (lv_at hl 0 rfl) ?_
        refine g_C_29 C h (j0 := j0) hj d_C_finish_53 ?_
        refine z_top (y := X 8 j0 0) rfl ?_
        refine lv_iadd hx hb d_C_finish_56 ?_
        have J := J57_1 _ _ _ (lv_sub hl [0, 1, 2] rfl) h
        rw [show (jS0_C_finish_57_1 X M j0 a) = ((X 4 j0 (Int32.toNatClampNeg a)) + (X 8 j0 0)) from (by first | (simp only [jS0_C_finish_57_1, eq_false hh1, eq_false hh2, ↓reduceIte]; done) | (simp [jS0_C_finish_57_1, eq_false hh1, eq_false hh2]; done))] at J
        exact J
      · skip
        refine lv_aload_n hx hb d_C_finish_44 rfl (lv_at hl 0 rfl) ?_
        refine g_C_29 C h (j0 := j0) hj d_C_finish_45 ?_
        refine z_top (y := X 8 j0 0) rfl ?_
        refine lv_goto (tgt := 57) hx hb d_C_finish_48 (by decide) ?_
        have J := J57_1 _ _ _ (lv_sub hl [0, 1, 2] rfl) h
        rw [show (jS0_C_finish_57_1 X M j0 a) = (X 8 j0 0) from (by first | (simp only [jS0_C_finish_57_1, eq_false hh1, eq_true hh2, ↓reduceIte]; done) | (simp [jS0_C_finish_57_1, eq_false hh1, eq_true hh2]; done))] at J
        exact J
  refine lv_aload_n hx hb d_C_finish_8 rfl (lv_at hl 1 rfl) ?_
  refine g_C_25 C h (j0 := j0) hj d_C_finish_9 ?_
  refine lv_iconst (v := 1) hx hb d_C_finish_12 (by decide) ?_
  refine lv_icmp_ne (tgt := 23) hx hb d_C_finish_13 (by decide) (fun hh3 => ?_) (fun hh3 => ?_)
  · skip
    refine lv_iload_n hx hb d_C_finish_23 rfl (lv_at hl 0 rfl) ?_
    have J := J24_1 _ _ _ (lv_sub hl [1, 2, 0] rfl) h
    rw [show (jS0_C_finish_24_1 X M j0 a) = (X 4 j0 (Int32.toNatClampNeg a)) from (by first | (simp only [jS0_C_finish_24_1, eq_false hh3, ↓reduceIte]; done) | (simp [jS0_C_finish_24_1, eq_false hh3]; done))] at J
    exact J
  · skip
    refine lv_aload_n hx hb d_C_finish_16 rfl (lv_at hl 1 rfl) ?_
    refine g_C_29 C h (j0 := j0) hj d_C_finish_17 ?_
    refine lv_goto (tgt := 24) hx hb d_C_finish_20 (by decide) ?_
    have J := J24_1 _ _ _ (lv_sub hl [1, 2, 0] rfl) h
    rw [show (jS0_C_finish_24_1 X M j0 a) = (X 8 j0 0) from (by first | (simp only [jS0_C_finish_24_1, eq_true hh3, ↓reduceIte]; done) | (simp [jS0_C_finish_24_1, eq_true hh3]; done))] at J
    exact J
theorem hd_C_ownIfNothingOwed : y_C_ownIfNothingOwed.cls ≠ "java/lang/invoke/MethodHandle" ∧ y_C_ownIfNothingOwed.cls ≠ "java/lang/invoke/VarHandle" ∧ (parseMethodDescriptor y_C_ownIfNothingOwed.desc).map (fun d => d.parameters.length) = some 1 := by decide +kernel
def x_C_ownIfNothingOwed (X : zXS) (M : zMS) (j0 : Nat) (a : Int32) : zXS := (if (X 5 j0 (Int32.toNatClampNeg a)) = 0 then (x_C_finish (u3 X 3 j0 (Int32.toNatClampNeg a) 3) M j0 a) else X)
set_option maxHeartbeats 1000000 in
set_option maxRecDepth 100000 in
theorem k_C_ownIfNothingOwed (l : Launch) (dC : Nat → ClassId) (dI : Nat → Nat → Nat) (k : Nat → ClassId) (q : Nat → Nat) (X : zXS) (M : zMS) (j0 : Nat) (a : Int32)  (hj : j0 < 4) (ha : vp_in a 4)  : zMet l dC dI k q y_C_ownIfNothingOwed c_C_ownIfNothingOwed 2 none 2 44 [.ref (q (16 + 4 * j0)), .int a] none X M (x_C_ownIfNothingOwed X M j0 a) M := by
  refine zMet.of (by decide) (Nat.le_of_ble_eq_true rfl) ?_
  intro p e s m args below meth c ls C hr hk hl h
  have hx := C.1
  have hb := C.2.1
  have hl : lv_has ls 2 [(0, .ref (q (16 + 4 * j0))), (1, .int a)] := hl
  refine lv_aload_n hx hb d_C_ownIfNothingOwed_0 rfl (lv_at hl 0 rfl) ?_
  refine g_C_18 C h (j0 := j0) hj d_C_ownIfNothingOwed_1 ?_
  refine lv_iload_n hx hb d_C_ownIfNothingOwed_4 rfl (lv_at hl 1 rfl) ?_
  refine l_ow C h (j0 := j0) hj ha d_C_ownIfNothingOwed_5 ?_
  refine lv_if_ne (tgt := 21) hx hb d_C_ownIfNothingOwed_6 (by decide) (fun hh1 => ?_) (fun hh1 => ?_)
  · skip
    exact z_retvE C h hr hk (by first | rfl | (simp only [x_C_ownIfNothingOwed, eq_false hh1, ↓reduceIte]; done) | (simp [x_C_ownIfNothingOwed, eq_false hh1]; done)) (by first | rfl | (simp only [x_C_ownIfNothingOwed, eq_false hh1, ↓reduceIte]; done) | (simp [x_C_ownIfNothingOwed, eq_false hh1]; done)) d_C_ownIfNothingOwed_21
  · skip
    refine lv_aload_n hx hb d_C_ownIfNothingOwed_9 rfl (lv_at hl 0 rfl) ?_
    refine g_C_9 C h (j0 := j0) hj d_C_ownIfNothingOwed_10 ?_
    refine lv_iload_n hx hb d_C_ownIfNothingOwed_13 rfl (lv_at hl 1 rfl) ?_
    refine lv_iconst (v := 3) hx hb d_C_ownIfNothingOwed_14 (by decide) ?_
    refine s_st C h (j0 := j0) hj ha d_C_ownIfNothingOwed_15 (fun H locs h => ?_)
    refine lv_aload_n hx hb d_C_ownIfNothingOwed_16 rfl (lv_at hl 0 rfl) ?_
    refine lv_iload_n hx hb d_C_ownIfNothingOwed_17 rfl (lv_at hl 1 rfl) ?_
    refine z_callV (i := 16 + 4 * j0) C h (k_C_finish l dC dI k q (u3 X 3 j0 (Int32.toNatClampNeg a) 3) M j0 a hj ha) co_C_finish ml_C_52 im_C_finish se_C_finish in_C (zW_core hj) rfl hd_C_finish ⟨by decide, by decide⟩ ⟨Nat.zero_le _, Nat.zero_le _⟩ hl.1 (Nat.le_of_ble_eq_true rfl) d_C_ownIfNothingOwed_18 rfl (fun H locs h => ?_)
    refine W.eq (g2 := F0 m 21 ls []) rfl ?_
    have h : zH dC dI k q (x_C_finish (u3 X 3 j0 (Int32.toNatClampNeg a) 3) M j0 a) M (zA q) s.heap H locs := h
    exact z_retvE C h hr hk (by first | rfl | (simp only [x_C_ownIfNothingOwed, eq_true hh1, ↓reduceIte]; done) | (simp [x_C_ownIfNothingOwed, eq_true hh1]; done)) (by first | rfl | (simp only [x_C_ownIfNothingOwed, eq_true hh1, ↓reduceIte]; done) | (simp [x_C_ownIfNothingOwed, eq_true hh1]; done)) d_C_ownIfNothingOwed_21
theorem hd_C_takeDropped : y_C_takeDropped.cls ≠ "java/lang/invoke/MethodHandle" ∧ y_C_takeDropped.cls ≠ "java/lang/invoke/VarHandle" ∧ (parseMethodDescriptor y_C_takeDropped.desc).map (fun d => d.parameters.length) = some 1 := by decide +kernel
def x_C_takeDropped (X : zXS) (M : zMS) (j0 : Nat) (a : Int32) : zXS := (if (X 3 j0 (Int32.toNatClampNeg a)) = 6 then (x_C_ownIfNothingOwed (u3 X 5 j0 (Int32.toNatClampNeg a) ((X 5 j0 (Int32.toNatClampNeg a)) - 1)) M j0 a) else (if (X 3 j0 (Int32.toNatClampNeg a)) = 8 then (x_C_ownIfNothingOwed (u3 X 5 j0 (Int32.toNatClampNeg a) ((X 5 j0 (Int32.toNatClampNeg a)) - 1)) M j0 a) else (u3 X 5 j0 (Int32.toNatClampNeg a) ((X 5 j0 (Int32.toNatClampNeg a)) - 1))))
set_option maxHeartbeats 1000000 in
set_option maxRecDepth 100000 in
theorem k_C_takeDropped (l : Launch) (dC : Nat → ClassId) (dI : Nat → Nat → Nat) (k : Nat → ClassId) (q : Nat → Nat) (X : zXS) (M : zMS) (j0 : Nat) (a : Int32)  (hj : j0 < 4) (ha : vp_in a 4)  : zMet l dC dI k q y_C_takeDropped c_C_takeDropped 2 none 3 65 [.ref (q (16 + 4 * j0)), .int a] none X M (x_C_takeDropped X M j0 a) M := by
  refine zMet.of (by decide) (Nat.le_of_ble_eq_true rfl) ?_
  intro p e s m args below meth c ls C hr hk hl h
  have hx := C.1
  have hb := C.2.1
  have hl : lv_has ls 2 [(0, .ref (q (16 + 4 * j0))), (1, .int a)] := hl
  refine lv_aload_n hx hb d_C_takeDropped_0 rfl (lv_at hl 0 rfl) ?_
  refine g_C_18 C h (j0 := j0) hj d_C_takeDropped_1 ?_
  refine lv_iload_n hx hb d_C_takeDropped_4 rfl (lv_at hl 1 rfl) ?_
  refine lv_dup2_11 hx hb d_C_takeDropped_5 rfl rfl ?_
  refine l_ow C h (j0 := j0) hj ha d_C_takeDropped_6 ?_
  refine lv_iconst (v := 1) hx hb d_C_takeDropped_7 (by decide) ?_
  refine lv_isub hx hb d_C_takeDropped_8 ?_
  refine s_ow C h (j0 := j0) hj ha d_C_takeDropped_9 (fun H locs h => ?_)
  refine lv_aload_n hx hb d_C_takeDropped_10 rfl (lv_at hl 0 rfl) ?_
  refine g_C_9 C h (j0 := j0) hj d_C_takeDropped_11 ?_
  refine lv_iload_n hx hb d_C_takeDropped_14 rfl (lv_at hl 1 rfl) ?_
  refine l_st C h (j0 := j0) hj ha d_C_takeDropped_15 ?_
  refine z_top (y := X 3 j0 (Int32.toNatClampNeg a)) rfl ?_
  refine lv_bipush (v := 6) hx hb d_C_takeDropped_16 (by decide) ?_
  refine lv_icmp_eq (tgt := 32) hx hb d_C_takeDropped_18 (by decide) (fun hh1 => ?_) (fun hh1 => ?_)
  · skip
    refine lv_aload_n hx hb d_C_takeDropped_32 rfl (lv_at hl 0 rfl) ?_
    refine lv_iload_n hx hb d_C_takeDropped_33 rfl (lv_at hl 1 rfl) ?_
    refine z_callV (i := 16 + 4 * j0) C h (k_C_ownIfNothingOwed l dC dI k q (u3 X 5 j0 (Int32.toNatClampNeg a) ((X 5 j0 (Int32.toNatClampNeg a)) - 1)) M j0 a hj ha) co_C_ownIfNothingOwed ml_C_93 im_C_ownIfNothingOwed se_C_ownIfNothingOwed in_C (zW_core hj) rfl hd_C_ownIfNothingOwed ⟨by decide, by decide⟩ ⟨Nat.zero_le _, Nat.zero_le _⟩ hl.1 (Nat.le_of_ble_eq_true rfl) d_C_takeDropped_34 rfl (fun H locs h => ?_)
    refine W.eq (g2 := F0 m 37 ls []) rfl ?_
    have h : zH dC dI k q (x_C_ownIfNothingOwed (u3 X 5 j0 (Int32.toNatClampNeg a) ((X 5 j0 (Int32.toNatClampNeg a)) - 1)) M j0 a) M (zA q) s.heap H locs := h
    exact z_retvE C h hr hk (by first | rfl | (simp only [x_C_takeDropped, eq_true hh1, ↓reduceIte]; done) | (simp [x_C_takeDropped, eq_true hh1]; done)) (by first | rfl | (simp only [x_C_takeDropped, eq_true hh1, ↓reduceIte]; done) | (simp [x_C_takeDropped, eq_true hh1]; done)) d_C_takeDropped_37
  · skip
    refine lv_aload_n hx hb d_C_takeDropped_21 rfl (lv_at hl 0 rfl) ?_
    refine g_C_9 C h (j0 := j0) hj d_C_takeDropped_22 ?_
    refine lv_iload_n hx hb d_C_takeDropped_25 rfl (lv_at hl 1 rfl) ?_
    refine l_st C h (j0 := j0) hj ha d_C_takeDropped_26 ?_
    refine z_top (y := X 3 j0 (Int32.toNatClampNeg a)) rfl ?_
    refine lv_bipush (v := 8) hx hb d_C_takeDropped_27 (by decide) ?_
    refine lv_icmp_ne (tgt := 37) hx hb d_C_takeDropped_29 (by decide) (fun hh2 => ?_) (fun hh2 => ?_)
    · skip
      exact z_retvE C h hr hk (by first | rfl | (simp only [x_C_takeDropped, eq_false hh1, eq_false hh2, ↓reduceIte]; done) | (simp [x_C_takeDropped, eq_false hh1, eq_false hh2]; done)) (by first | rfl | (simp only [x_C_takeDropped, eq_false hh1, eq_false hh2, ↓reduceIte]; done) | (simp [x_C_takeDropped, eq_false hh1, eq_false hh2]; done)) d_C_takeDropped_37
    · skip
      refine lv_aload_n hx hb d_C_takeDropped_32 rfl (lv_at hl 0 rfl) ?_
      refine lv_iload_n hx hb d_C_takeDropped_33 rfl (lv_at hl 1 rfl) ?_
      refine z_callV (i := 16 + 4 * j0) C h (k_C_ownIfNothingOwed l dC dI k q (u3 X 5 j0 (Int32.toNatClampNeg a) ((X 5 j0 (Int32.toNatClampNeg a)) - 1)) M j0 a hj ha) co_C_ownIfNothingOwed ml_C_93 im_C_ownIfNothingOwed se_C_ownIfNothingOwed in_C (zW_core hj) rfl hd_C_ownIfNothingOwed ⟨by decide, by decide⟩ ⟨Nat.zero_le _, Nat.zero_le _⟩ hl.1 (Nat.le_of_ble_eq_true rfl) d_C_takeDropped_34 rfl (fun H locs h => ?_)
      refine W.eq (g2 := F0 m 37 ls []) rfl ?_
      have h : zH dC dI k q (x_C_ownIfNothingOwed (u3 X 5 j0 (Int32.toNatClampNeg a) ((X 5 j0 (Int32.toNatClampNeg a)) - 1)) M j0 a) M (zA q) s.heap H locs := h
      exact z_retvE C h hr hk (by first | rfl | (simp only [x_C_takeDropped, eq_false hh1, eq_true hh2, ↓reduceIte]; done) | (simp [x_C_takeDropped, eq_false hh1, eq_true hh2]; done)) (by first | rfl | (simp only [x_C_takeDropped, eq_false hh1, eq_true hh2, ↓reduceIte]; done) | (simp [x_C_takeDropped, eq_false hh1, eq_true hh2]; done)) d_C_takeDropped_37
theorem hd_C_takeData : y_C_takeData.cls ≠ "java/lang/invoke/MethodHandle" ∧ y_C_takeData.cls ≠ "java/lang/invoke/VarHandle" ∧ (parseMethodDescriptor y_C_takeData.desc).map (fun d => d.parameters.length) = some 3 := by decide +kernel
def jS0_C_takeData_63_1 (X : zXS) (M : zMS) (j0 : Nat) (a : Int32) (nn : Int32) (v : Int32) : Int32 := (if (X 3 j0 (Int32.toNatClampNeg a)) = 7 then 8 else 6)
def x_C_takeData (X : zXS) (M : zMS) (j0 : Nat) (a : Int32) (nn : Int32) (v : Int32) : zXS := (if (X 3 j0 (Int32.toNatClampNeg a)) = 4 then (x_C_finish (u3 (u3 X 4 j0 (Int32.toNatClampNeg a) v) 3 j0 (Int32.toNatClampNeg a) 1) M j0 a) else (x_C_ownIfNothingOwed (u3 (u3 (u3 X 4 j0 (Int32.toNatClampNeg a) v) 5 j0 (Int32.toNatClampNeg a) ((X 5 j0 (Int32.toNatClampNeg a)) + nn)) 3 j0 (Int32.toNatClampNeg a) (jS0_C_takeData_63_1 X M j0 a nn v)) M j0 a))
set_option maxHeartbeats 1000000 in
set_option maxRecDepth 100000 in
theorem k_C_takeData (l : Launch) (dC : Nat → ClassId) (dI : Nat → Nat → Nat) (k : Nat → ClassId) (q : Nat → Nat) (X : zXS) (M : zMS) (j0 : Nat) (a : Int32) (nn : Int32) (v : Int32)  (hj : j0 < 4) (ha : vp_in a 4)  : zMet l dC dI k q y_C_takeData c_C_takeData 4 none 3 65 [.ref (q (16 + 4 * j0)), .int a, .int nn, .int v] none X M (x_C_takeData X M j0 a nn v) M := by
  refine zMet.of (by decide) (Nat.le_of_ble_eq_true rfl) ?_
  intro p e s m args below meth c ls C hr hk hl h
  have hx := C.1
  have hb := C.2.1
  have hl : lv_has ls 4 [(0, .ref (q (16 + 4 * j0))), (1, .int a), (2, .int nn), (3, .int v)] := hl
  refine lv_aload_n hx hb d_C_takeData_0 rfl (lv_at hl 0 rfl) ?_
  refine g_C_15 C h (j0 := j0) hj d_C_takeData_1 ?_
  refine lv_iload_n hx hb d_C_takeData_4 rfl (lv_at hl 1 rfl) ?_
  refine lv_iload_n hx hb d_C_takeData_5 rfl (lv_at hl 3 rfl) ?_
  refine s_val C h (j0 := j0) hj ha d_C_takeData_6 (fun H locs h => ?_)
  refine lv_aload_n hx hb d_C_takeData_7 rfl (lv_at hl 0 rfl) ?_
  refine g_C_9 C h (j0 := j0) hj d_C_takeData_8 ?_
  refine lv_iload_n hx hb d_C_takeData_11 rfl (lv_at hl 1 rfl) ?_
  refine l_st C h (j0 := j0) hj ha d_C_takeData_12 ?_
  refine z_top (y := X 3 j0 (Int32.toNatClampNeg a)) rfl ?_
  refine lv_iconst (v := 4) hx hb d_C_takeData_13 (by decide) ?_
  refine lv_icmp_ne (tgt := 30) hx hb d_C_takeData_14 (by decide) (fun hh1 => ?_) (fun hh1 => ?_)
  · skip
    refine lv_aload_n hx hb d_C_takeData_30 rfl (lv_at hl 0 rfl) ?_
    refine g_C_18 C h (j0 := j0) hj d_C_takeData_31 ?_
    refine lv_iload_n hx hb d_C_takeData_34 rfl (lv_at hl 1 rfl) ?_
    refine lv_dup2_11 hx hb d_C_takeData_35 rfl rfl ?_
    refine l_ow C h (j0 := j0) hj ha d_C_takeData_36 ?_
    refine z_top (y := X 5 j0 (Int32.toNatClampNeg a)) rfl ?_
    refine lv_iload_n hx hb d_C_takeData_37 rfl (lv_at hl 2 rfl) ?_
    refine lv_iadd hx hb d_C_takeData_38 ?_
    refine s_ow C h (j0 := j0) hj ha d_C_takeData_39 (fun H locs h => ?_)
    refine lv_aload_n hx hb d_C_takeData_40 rfl (lv_at hl 0 rfl) ?_
    refine g_C_9 C h (j0 := j0) hj d_C_takeData_41 ?_
    refine lv_iload_n hx hb d_C_takeData_44 rfl (lv_at hl 1 rfl) ?_
    have J63_1 : ∀ (ls : Array Slot) (H : Heap) (locs : List Loc), lv_has ls 4 [(0, .ref (q (16 + 4 * j0))), (1, .int a), (2, .int nn), (3, .int v)] → zH dC dI k q (u3 (u3 X 4 j0 (Int32.toNatClampNeg a) v) 5 j0 (Int32.toNatClampNeg a) ((X 5 j0 (Int32.toNatClampNeg a)) + nn)) M (zA q) s.heap H locs → W p l e { frames := 3, cells := 0, slots := 0, locals := 65 } s m args below meth c H locs 0 0 (MQ below (zQc dC dI k q (x_C_takeData X M j0 a nn v) M none) args s 0 0 (zA q)) (F0 m 63 ls [.int (jS0_C_takeData_63_1 X M j0 a nn v), .int a, .ref (q (17 + 4 * j0))]) := by
      intro ls H locs hl h
      refine s_st C h (j0 := j0) hj ha d_C_takeData_63 (fun H locs h => ?_)
      refine lv_aload_n hx hb d_C_takeData_64 rfl (lv_at hl 0 rfl) ?_
      refine lv_iload_n hx hb d_C_takeData_65 rfl (lv_at hl 1 rfl) ?_
      refine z_callV (i := 16 + 4 * j0) C h (k_C_ownIfNothingOwed l dC dI k q (u3 (u3 (u3 X 4 j0 (Int32.toNatClampNeg a) v) 5 j0 (Int32.toNatClampNeg a) ((X 5 j0 (Int32.toNatClampNeg a)) + nn)) 3 j0 (Int32.toNatClampNeg a) (jS0_C_takeData_63_1 X M j0 a nn v)) M j0 a hj ha) co_C_ownIfNothingOwed ml_C_93 im_C_ownIfNothingOwed se_C_ownIfNothingOwed in_C (zW_core hj) rfl hd_C_ownIfNothingOwed ⟨by decide, by decide⟩ ⟨Nat.zero_le _, Nat.zero_le _⟩ hl.1 (Nat.le_of_ble_eq_true rfl) d_C_takeData_66 rfl (fun H locs h => ?_)
      refine W.eq (g2 := F0 m 69 ls []) rfl ?_
      have h : zH dC dI k q (x_C_ownIfNothingOwed (u3 (u3 (u3 X 4 j0 (Int32.toNatClampNeg a) v) 5 j0 (Int32.toNatClampNeg a) ((X 5 j0 (Int32.toNatClampNeg a)) + nn)) 3 j0 (Int32.toNatClampNeg a) (jS0_C_takeData_63_1 X M j0 a nn v)) M j0 a) M (zA q) s.heap H locs := h
      exact z_retvE C h hr hk (by first | rfl | (simp only [x_C_takeData, eq_false hh1, ↓reduceIte]; done) | (simp [x_C_takeData, eq_false hh1]; done)) (by first | rfl | (simp only [x_C_takeData, eq_false hh1, ↓reduceIte]; done) | (simp [x_C_takeData, eq_false hh1]; done)) d_C_takeData_69
    refine lv_aload_n hx hb d_C_takeData_45 rfl (lv_at hl 0 rfl) ?_
    refine g_C_9 C h (j0 := j0) hj d_C_takeData_46 ?_
    refine lv_iload_n hx hb d_C_takeData_49 rfl (lv_at hl 1 rfl) ?_
    refine l_st C h (j0 := j0) hj ha d_C_takeData_50 ?_
    refine z_top (y := X 3 j0 (Int32.toNatClampNeg a)) rfl ?_
    refine lv_bipush (v := 7) hx hb d_C_takeData_51 (by decide) ?_
    refine lv_icmp_ne (tgt := 61) hx hb d_C_takeData_53 (by decide) (fun hh2 => ?_) (fun hh2 => ?_)
    · skip
      refine lv_bipush (v := 6) hx hb d_C_takeData_61 (by decide) ?_
      have J := J63_1 _ _ _ (lv_sub hl [0, 1, 2, 3] rfl) h
      rw [show (jS0_C_takeData_63_1 X M j0 a nn v) = 6 from (by first | (simp only [jS0_C_takeData_63_1, eq_false hh1, eq_false hh2, ↓reduceIte]; done) | (simp [jS0_C_takeData_63_1, eq_false hh1, eq_false hh2]; done))] at J
      exact J
    · skip
      refine lv_bipush (v := 8) hx hb d_C_takeData_56 (by decide) ?_
      refine lv_goto (tgt := 63) hx hb d_C_takeData_58 (by decide) ?_
      have J := J63_1 _ _ _ (lv_sub hl [0, 1, 2, 3] rfl) h
      rw [show (jS0_C_takeData_63_1 X M j0 a nn v) = 8 from (by first | (simp only [jS0_C_takeData_63_1, eq_false hh1, eq_true hh2, ↓reduceIte]; done) | (simp [jS0_C_takeData_63_1, eq_false hh1, eq_true hh2]; done))] at J
      exact J
  · skip
    refine lv_aload_n hx hb d_C_takeData_17 rfl (lv_at hl 0 rfl) ?_
    refine g_C_9 C h (j0 := j0) hj d_C_takeData_18 ?_
    refine lv_iload_n hx hb d_C_takeData_21 rfl (lv_at hl 1 rfl) ?_
    refine lv_iconst (v := 1) hx hb d_C_takeData_22 (by decide) ?_
    refine s_st C h (j0 := j0) hj ha d_C_takeData_23 (fun H locs h => ?_)
    refine lv_aload_n hx hb d_C_takeData_24 rfl (lv_at hl 0 rfl) ?_
    refine lv_iload_n hx hb d_C_takeData_25 rfl (lv_at hl 1 rfl) ?_
    refine z_callV (i := 16 + 4 * j0) C h (k_C_finish l dC dI k q (u3 (u3 X 4 j0 (Int32.toNatClampNeg a) v) 3 j0 (Int32.toNatClampNeg a) 1) M j0 a hj ha) co_C_finish ml_C_52 im_C_finish se_C_finish in_C (zW_core hj) rfl hd_C_finish ⟨by decide, by decide⟩ ⟨Nat.zero_le _, Nat.zero_le _⟩ hl.1 (Nat.le_of_ble_eq_true rfl) d_C_takeData_26 rfl (fun H locs h => ?_)
    refine W.eq (g2 := F0 m 29 ls []) rfl ?_
    have h : zH dC dI k q (x_C_finish (u3 (u3 X 4 j0 (Int32.toNatClampNeg a) v) 3 j0 (Int32.toNatClampNeg a) 1) M j0 a) M (zA q) s.heap H locs := h
    exact z_retvE C h hr hk (by first | rfl | (simp only [x_C_takeData, eq_true hh1, ↓reduceIte]; done) | (simp [x_C_takeData, eq_true hh1]; done)) (by first | rfl | (simp only [x_C_takeData, eq_true hh1, ↓reduceIte]; done) | (simp [x_C_takeData, eq_true hh1]; done)) d_C_takeData_29
theorem hd_C_dropFor : y_C_dropFor.cls ≠ "java/lang/invoke/MethodHandle" ∧ y_C_dropFor.cls ≠ "java/lang/invoke/VarHandle" ∧ (parseMethodDescriptor y_C_dropFor.desc).map (fun d => d.parameters.length) = some 2 := by decide +kernel
def x_C_dropFor (X : zXS) (M : zMS) (j0 : Nat) (r : Int32) (a : Int32) : zXS := (if (X 3 j0 (Int32.toNatClampNeg a)) = 7 then (u3 (x_A_send X M 11 a (nI j0) r r 0 0) 3 j0 (Int32.toNatClampNeg a) 5) else (if (X 3 j0 (Int32.toNatClampNeg a)) = 11 then (u3 (x_A_send X M 11 a (nI j0) r r 0 0) 3 j0 (Int32.toNatClampNeg a) 12) else (u3 (x_A_send X M 11 a (nI j0) r r 0 0) 3 j0 (Int32.toNatClampNeg a) 0)))
set_option maxHeartbeats 1000000 in
set_option maxRecDepth 100000 in
theorem k_C_dropFor (l : Launch) (dC : Nat → ClassId) (dI : Nat → Nat → Nat) (k : Nat → ClassId) (q : Nat → Nat) (X : zXS) (M : zMS) (j0 : Nat) (r : Int32) (a : Int32)  (hj : j0 < 4) (ha : vp_in a 4) (n : Nat) (hn : X 2 0 0 = nI n) (hb9 : n + 4 ≤ 64) (hr4 : vp_in r 4) : zMet l dC dI k q y_C_dropFor c_C_dropFor 3 none 1 27 [.ref (q (16 + 4 * j0)), .int r, .int a] none X M (x_C_dropFor X M j0 r a) M := by
  refine zMet.of (by decide) (Nat.le_of_ble_eq_true rfl) ?_
  intro p e s m args below meth c ls C hr hk hl h
  have hx := C.1
  have hb := C.2.1
  have hl : lv_has ls 3 [(0, .ref (q (16 + 4 * j0))), (1, .int r), (2, .int a)] := hl
  refine lv_aload_n hx hb d_C_dropFor_0 rfl (lv_at hl 0 rfl) ?_
  refine g_C_41 C h (j0 := j0) hj d_C_dropFor_1 ?_
  refine lv_bipush (v := 11) hx hb d_C_dropFor_4 (by decide) ?_
  refine lv_iload_n hx hb d_C_dropFor_6 rfl (lv_at hl 2 rfl) ?_
  refine lv_aload_n hx hb d_C_dropFor_7 rfl (lv_at hl 0 rfl) ?_
  refine g_C_38 C h (j0 := j0) hj d_C_dropFor_8 ?_
  refine lv_iload_n hx hb d_C_dropFor_11 rfl (lv_at hl 1 rfl) ?_
  refine lv_iload_n hx hb d_C_dropFor_12 rfl (lv_at hl 1 rfl) ?_
  refine lv_iconst (v := 0) hx hb d_C_dropFor_13 (by decide) ?_
  refine lv_iconst (v := 0) hx hb d_C_dropFor_14 (by decide) ?_
  refine z_callV (i := 1) C h (k_A_send l dC dI k q X M 11 a (nI j0) r r 0 0 (n + 0) hn (by omega) ha hr4) co_A_send ml_C_86 im_A_send se_A_send in_A rfl rfl hd_A_send ⟨by decide, by decide⟩ ⟨Nat.zero_le _, Nat.zero_le _⟩ hl.1 (Nat.le_of_ble_eq_true rfl) d_C_dropFor_15 rfl (fun H locs h => ?_)
  refine W.eq (g2 := F0 m 18 ls []) rfl ?_
  have h : zH dC dI k q (x_A_send X M 11 a (nI j0) r r 0 0) M (zA q) s.heap H locs := h
  refine lv_aload_n hx hb d_C_dropFor_18 rfl (lv_at hl 0 rfl) ?_
  refine g_C_9 C h (j0 := j0) hj d_C_dropFor_19 ?_
  refine lv_iload_n hx hb d_C_dropFor_22 rfl (lv_at hl 2 rfl) ?_
  refine l_st C h (j0 := j0) hj ha d_C_dropFor_23 ?_
  refine z_top (y := X 3 j0 (Int32.toNatClampNeg a)) rfl ?_
  rcases (Decidable.em ((X 3 j0 (Int32.toNatClampNeg a)) = 7)) with hh1 | hh1
  · skip
    refine lv_lookup (off := 28) (tgt := 52) hx hb d_C_dropFor_24 (by decide) (by rw [hh1]; decide) (by decide) ?_
    refine lv_aload_n hx hb d_C_dropFor_52 rfl (lv_at hl 0 rfl) ?_
    refine g_C_9 C h (j0 := j0) hj d_C_dropFor_53 ?_
    refine lv_iload_n hx hb d_C_dropFor_56 rfl (lv_at hl 2 rfl) ?_
    refine lv_iconst (v := 5) hx hb d_C_dropFor_57 (by decide) ?_
    refine s_st C h (j0 := j0) hj ha d_C_dropFor_58 (fun H locs h => ?_)
    refine lv_goto (tgt := 80) hx hb d_C_dropFor_59 (by decide) ?_
    exact z_retvE C h hr hk (by first | rfl | (simp only [x_C_dropFor, eq_true hh1, ↓reduceIte]; done) | (simp [x_C_dropFor, eq_true hh1]; done)) (by first | rfl | (simp only [x_C_dropFor, eq_true hh1, ↓reduceIte]; done) | (simp [x_C_dropFor, eq_true hh1]; done)) d_C_dropFor_80
  rcases (Decidable.em ((X 3 j0 (Int32.toNatClampNeg a)) = 11)) with hh2 | hh2
  · skip
    refine lv_lookup (off := 38) (tgt := 62) hx hb d_C_dropFor_24 (by decide) (by rw [hh2]; decide) (by decide) ?_
    refine lv_aload_n hx hb d_C_dropFor_62 rfl (lv_at hl 0 rfl) ?_
    refine g_C_9 C h (j0 := j0) hj d_C_dropFor_63 ?_
    refine lv_iload_n hx hb d_C_dropFor_66 rfl (lv_at hl 2 rfl) ?_
    refine lv_bipush (v := 12) hx hb d_C_dropFor_67 (by decide) ?_
    refine s_st C h (j0 := j0) hj ha d_C_dropFor_69 (fun H locs h => ?_)
    refine lv_goto (tgt := 80) hx hb d_C_dropFor_70 (by decide) ?_
    exact z_retvE C h hr hk (by first | rfl | (simp only [x_C_dropFor, eq_false hh1, eq_true hh2, ↓reduceIte]; done) | (simp [x_C_dropFor, eq_false hh1, eq_true hh2]; done)) (by first | rfl | (simp only [x_C_dropFor, eq_false hh1, eq_true hh2, ↓reduceIte]; done) | (simp [x_C_dropFor, eq_false hh1, eq_true hh2]; done)) d_C_dropFor_80
  refine lv_lookup (off := 49) (tgt := 73) hx hb d_C_dropFor_24 (by decide) (by rw [lv_osw hh1 (by decide), lv_osw hh2 (by decide)]; rfl) (by decide) ?_
  refine lv_aload_n hx hb d_C_dropFor_73 rfl (lv_at hl 0 rfl) ?_
  refine g_C_9 C h (j0 := j0) hj d_C_dropFor_74 ?_
  refine lv_iload_n hx hb d_C_dropFor_77 rfl (lv_at hl 2 rfl) ?_
  refine lv_iconst (v := 0) hx hb d_C_dropFor_78 (by decide) ?_
  refine s_st C h (j0 := j0) hj ha d_C_dropFor_79 (fun H locs h => ?_)
  exact z_retvE C h hr hk (by first | rfl | (simp only [x_C_dropFor, eq_false hh1, eq_false hh2, ↓reduceIte]; done) | (simp [x_C_dropFor, eq_false hh1, eq_false hh2]; done)) (by first | rfl | (simp only [x_C_dropFor, eq_false hh1, eq_false hh2, ↓reduceIte]; done) | (simp [x_C_dropFor, eq_false hh1, eq_false hh2]; done)) d_C_dropFor_80
theorem hd_C_isLeavingAlone : y_C_isLeavingAlone.cls ≠ "java/lang/invoke/MethodHandle" ∧ y_C_isLeavingAlone.cls ≠ "java/lang/invoke/VarHandle" ∧ (parseMethodDescriptor y_C_isLeavingAlone.desc).map (fun d => d.parameters.length) = some 1 := by decide +kernel
def r_C_isLeavingAlone (X : zXS) (M : zMS) (j0 : Nat) (a : Int32) : Int32 := (if (X 3 j0 (Int32.toNatClampNeg a)) = 9 then 1 else (if (X 3 j0 (Int32.toNatClampNeg a)) = 10 then 1 else 0))
set_option maxHeartbeats 1000000 in
set_option maxRecDepth 100000 in
theorem k_C_isLeavingAlone (l : Launch) (dC : Nat → ClassId) (dI : Nat → Nat → Nat) (k : Nat → ClassId) (q : Nat → Nat) (X : zXS) (M : zMS) (j0 : Nat) (a : Int32)  (hj : j0 < 4) (ha : vp_in a 4)  : zMet l dC dI k q y_C_isLeavingAlone c_C_isLeavingAlone 2 (some .boolean) 0 0 [.ref (q (16 + 4 * j0)), .int a] (some (.int (r_C_isLeavingAlone X M j0 a))) X M X M := by
  refine zMet.of (by decide) (Nat.le_of_ble_eq_true rfl) ?_
  intro p e s m args below meth c ls C hr hk hl h
  have hx := C.1
  have hb := C.2.1
  have hl : lv_has ls 2 [(0, .ref (q (16 + 4 * j0))), (1, .int a)] := hl
  refine lv_aload_n hx hb d_C_isLeavingAlone_0 rfl (lv_at hl 0 rfl) ?_
  refine g_C_9 C h (j0 := j0) hj d_C_isLeavingAlone_1 ?_
  refine lv_iload_n hx hb d_C_isLeavingAlone_4 rfl (lv_at hl 1 rfl) ?_
  refine l_st C h (j0 := j0) hj ha d_C_isLeavingAlone_5 ?_
  refine lv_bipush (v := 9) hx hb d_C_isLeavingAlone_6 (by decide) ?_
  refine lv_icmp_eq (tgt := 22) hx hb d_C_isLeavingAlone_8 (by decide) (fun hh1 => ?_) (fun hh1 => ?_)
  · skip
    refine lv_iconst (v := 1) hx hb d_C_isLeavingAlone_22 (by decide) ?_
    refine lv_goto (tgt := 27) hx hb d_C_isLeavingAlone_23 (by decide) ?_
    exact z_retzE C h hr hk (by first | exact Or.inl rfl | exact Or.inr rfl) (by first | rfl | (simp only [r_C_isLeavingAlone, eq_true hh1, ↓reduceIte]; done) | (simp [r_C_isLeavingAlone, eq_true hh1]; done)) (by first | rfl | (simp only [r_C_isLeavingAlone, eq_true hh1, ↓reduceIte]; done) | (simp [r_C_isLeavingAlone, eq_true hh1]; done)) (by first | rfl | (simp only [r_C_isLeavingAlone, eq_true hh1, ↓reduceIte]; done) | (simp [r_C_isLeavingAlone, eq_true hh1]; done)) d_C_isLeavingAlone_27
  · skip
    refine lv_aload_n hx hb d_C_isLeavingAlone_11 rfl (lv_at hl 0 rfl) ?_
    refine g_C_9 C h (j0 := j0) hj d_C_isLeavingAlone_12 ?_
    refine lv_iload_n hx hb d_C_isLeavingAlone_15 rfl (lv_at hl 1 rfl) ?_
    refine l_st C h (j0 := j0) hj ha d_C_isLeavingAlone_16 ?_
    refine lv_bipush (v := 10) hx hb d_C_isLeavingAlone_17 (by decide) ?_
    refine lv_icmp_ne (tgt := 26) hx hb d_C_isLeavingAlone_19 (by decide) (fun hh2 => ?_) (fun hh2 => ?_)
    · skip
      refine lv_iconst (v := 0) hx hb d_C_isLeavingAlone_26 (by decide) ?_
      exact z_retzE C h hr hk (by first | exact Or.inl rfl | exact Or.inr rfl) (by first | rfl | (simp only [r_C_isLeavingAlone, eq_false hh1, eq_false hh2, ↓reduceIte]; done) | (simp [r_C_isLeavingAlone, eq_false hh1, eq_false hh2]; done)) (by first | rfl | (simp only [r_C_isLeavingAlone, eq_false hh1, eq_false hh2, ↓reduceIte]; done) | (simp [r_C_isLeavingAlone, eq_false hh1, eq_false hh2]; done)) (by first | rfl | (simp only [r_C_isLeavingAlone, eq_false hh1, eq_false hh2, ↓reduceIte]; done) | (simp [r_C_isLeavingAlone, eq_false hh1, eq_false hh2]; done)) d_C_isLeavingAlone_27
    · skip
      refine lv_iconst (v := 1) hx hb d_C_isLeavingAlone_22 (by decide) ?_
      refine lv_goto (tgt := 27) hx hb d_C_isLeavingAlone_23 (by decide) ?_
      exact z_retzE C h hr hk (by first | exact Or.inl rfl | exact Or.inr rfl) (by first | rfl | (simp only [r_C_isLeavingAlone, eq_false hh1, eq_true hh2, ↓reduceIte]; done) | (simp [r_C_isLeavingAlone, eq_false hh1, eq_true hh2]; done)) (by first | rfl | (simp only [r_C_isLeavingAlone, eq_false hh1, eq_true hh2, ↓reduceIte]; done) | (simp [r_C_isLeavingAlone, eq_false hh1, eq_true hh2]; done)) (by first | rfl | (simp only [r_C_isLeavingAlone, eq_false hh1, eq_true hh2, ↓reduceIte]; done) | (simp [r_C_isLeavingAlone, eq_false hh1, eq_true hh2]; done)) d_C_isLeavingAlone_27
theorem hd_C_yieldTo : y_C_yieldTo.cls ≠ "java/lang/invoke/MethodHandle" ∧ y_C_yieldTo.cls ≠ "java/lang/invoke/VarHandle" ∧ (parseMethodDescriptor y_C_yieldTo.desc).map (fun d => d.parameters.length) = some 2 := by decide +kernel
def jS0_C_yieldTo_44_1 (X : zXS) (M : zMS) (j0 : Nat) (r : Int32) (a : Int32) : Int32 := (if (r_C_isLeavingAlone X M j0 a) = 0 then 0 else 12)
def x_C_yieldTo (X : zXS) (M : zMS) (j0 : Nat) (r : Int32) (a : Int32) : zXS := (u3 (x_A_send X M 9 a (nI j0) r r 0 (X 4 j0 (Int32.toNatClampNeg a))) 3 j0 (Int32.toNatClampNeg a) (jS0_C_yieldTo_44_1 X M j0 r a))
set_option maxHeartbeats 1000000 in
set_option maxRecDepth 100000 in
theorem k_C_yieldTo (l : Launch) (dC : Nat → ClassId) (dI : Nat → Nat → Nat) (k : Nat → ClassId) (q : Nat → Nat) (X : zXS) (M : zMS) (j0 : Nat) (r : Int32) (a : Int32)  (hj : j0 < 4) (ha : vp_in a 4) (n : Nat) (hn : X 2 0 0 = nI n) (hb9 : n + 4 ≤ 64) (hr4 : vp_in r 4) : zMet l dC dI k q y_C_yieldTo c_C_yieldTo 4 none 1 27 [.ref (q (16 + 4 * j0)), .int r, .int a] none X M (x_C_yieldTo X M j0 r a) M := by
  refine zMet.of (by decide) (Nat.le_of_ble_eq_true rfl) ?_
  intro p e s m args below meth c ls C hr hk hl h
  have hx := C.1
  have hb := C.2.1
  have hl : lv_has ls 4 [(0, .ref (q (16 + 4 * j0))), (1, .int r), (2, .int a)] := hl
  refine lv_aload_n hx hb d_C_yieldTo_0 rfl (lv_at hl 0 rfl) ?_
  refine lv_iload_n hx hb d_C_yieldTo_1 rfl (lv_at hl 2 rfl) ?_
  refine z_callV (i := 16 + 4 * j0) C h (k_C_isLeavingAlone l dC dI k q X M j0 a hj ha) co_C_isLeavingAlone ml_C_90 im_C_isLeavingAlone se_C_isLeavingAlone in_C (zW_core hj) rfl hd_C_isLeavingAlone ⟨by decide, by decide⟩ ⟨Nat.zero_le _, Nat.zero_le _⟩ hl.1 (Nat.le_of_ble_eq_true rfl) d_C_yieldTo_2 rfl (fun H locs h => ?_)
  refine W.eq (g2 := F0 m 5 ls [.int (r_C_isLeavingAlone X M j0 a)]) rfl ?_
  have h : zH dC dI k q X M (zA q) s.heap H locs := h
  refine lv_istore_n hx hb d_C_yieldTo_5 rfl hl (by decide) rfl (fun ls hl => ?_)
  have hl : lv_has ls 4 [(3, .int (r_C_isLeavingAlone X M j0 a)), (0, .ref (q (16 + 4 * j0))), (1, .int r), (2, .int a)] := hl
  refine lv_aload_n hx hb d_C_yieldTo_6 rfl (lv_at hl 1 rfl) ?_
  refine g_C_41 C h (j0 := j0) hj d_C_yieldTo_7 ?_
  refine lv_bipush (v := 9) hx hb d_C_yieldTo_10 (by decide) ?_
  refine lv_iload_n hx hb d_C_yieldTo_12 rfl (lv_at hl 3 rfl) ?_
  refine lv_aload_n hx hb d_C_yieldTo_13 rfl (lv_at hl 1 rfl) ?_
  refine g_C_38 C h (j0 := j0) hj d_C_yieldTo_14 ?_
  refine lv_iload_n hx hb d_C_yieldTo_17 rfl (lv_at hl 2 rfl) ?_
  refine lv_iload_n hx hb d_C_yieldTo_18 rfl (lv_at hl 2 rfl) ?_
  refine lv_iconst (v := 0) hx hb d_C_yieldTo_19 (by decide) ?_
  refine lv_aload_n hx hb d_C_yieldTo_20 rfl (lv_at hl 1 rfl) ?_
  refine g_C_15 C h (j0 := j0) hj d_C_yieldTo_21 ?_
  refine lv_iload_n hx hb d_C_yieldTo_24 rfl (lv_at hl 3 rfl) ?_
  refine l_val C h (j0 := j0) hj ha d_C_yieldTo_25 ?_
  refine z_callV (i := 1) C h (k_A_send l dC dI k q X M 9 a (nI j0) r r 0 (X 4 j0 (Int32.toNatClampNeg a)) (n + 0) hn (by omega) ha hr4) co_A_send ml_C_86 im_A_send se_A_send in_A rfl rfl hd_A_send ⟨by decide, by decide⟩ ⟨Nat.zero_le _, Nat.zero_le _⟩ hl.1 (Nat.le_of_ble_eq_true rfl) d_C_yieldTo_26 rfl (fun H locs h => ?_)
  refine W.eq (g2 := F0 m 29 ls []) rfl ?_
  have h : zH dC dI k q (x_A_send X M 9 a (nI j0) r r 0 (X 4 j0 (Int32.toNatClampNeg a))) M (zA q) s.heap H locs := h
  refine lv_aload_n hx hb d_C_yieldTo_29 rfl (lv_at hl 1 rfl) ?_
  refine g_C_9 C h (j0 := j0) hj d_C_yieldTo_30 ?_
  refine lv_iload_n hx hb d_C_yieldTo_33 rfl (lv_at hl 3 rfl) ?_
  have J44_1 : ∀ (ls : Array Slot) (H : Heap) (locs : List Loc), lv_has ls 4 [(0, .ref (q (16 + 4 * j0))), (1, .int r), (2, .int a), (3, .int (r_C_isLeavingAlone X M j0 a))] → zH dC dI k q (x_A_send X M 9 a (nI j0) r r 0 (X 4 j0 (Int32.toNatClampNeg a))) M (zA q) s.heap H locs → W p l e { frames := 1, cells := 0, slots := 0, locals := 27 } s m args below meth c H locs 0 0 (MQ below (zQc dC dI k q (x_C_yieldTo X M j0 r a) M none) args s 0 0 (zA q)) (F0 m 44 ls [.int (jS0_C_yieldTo_44_1 X M j0 r a), .int a, .ref (q (17 + 4 * j0))]) := by
    intro ls H locs hl h
    refine s_st C h (j0 := j0) hj ha d_C_yieldTo_44 (fun H locs h => ?_)
    exact z_retvE C h hr hk (by first | rfl | (simp only [x_C_yieldTo, ↓reduceIte]; done) | (simp [x_C_yieldTo]; done)) (by first | rfl | (simp only [x_C_yieldTo, ↓reduceIte]; done) | (simp [x_C_yieldTo]; done)) d_C_yieldTo_45
  refine lv_iload_n hx hb d_C_yieldTo_34 rfl (lv_at hl 0 rfl) ?_
  refine lv_if_eq (tgt := 43) hx hb d_C_yieldTo_35 (by decide) (fun hh1 => ?_) (fun hh1 => ?_)
  · skip
    refine lv_iconst (v := 0) hx hb d_C_yieldTo_43 (by decide) ?_
    have J := J44_1 _ _ _ (lv_sub hl [1, 2, 3, 0] rfl) h
    rw [show (jS0_C_yieldTo_44_1 X M j0 r a) = 0 from (by first | (simp only [jS0_C_yieldTo_44_1, eq_true hh1, ↓reduceIte]; done) | (simp [jS0_C_yieldTo_44_1, eq_true hh1]; done))] at J
    exact J
  · skip
    refine lv_bipush (v := 12) hx hb d_C_yieldTo_38 (by decide) ?_
    refine lv_goto (tgt := 44) hx hb d_C_yieldTo_40 (by decide) ?_
    have J := J44_1 _ _ _ (lv_sub hl [1, 2, 3, 0] rfl) h
    rw [show (jS0_C_yieldTo_44_1 X M j0 r a) = 12 from (by first | (simp only [jS0_C_yieldTo_44_1, eq_false hh1, ↓reduceIte]; done) | (simp [jS0_C_yieldTo_44_1, eq_false hh1]; done))] at J
    exact J
theorem hd_C_shareWith : y_C_shareWith.cls ≠ "java/lang/invoke/MethodHandle" ∧ y_C_shareWith.cls ≠ "java/lang/invoke/VarHandle" ∧ (parseMethodDescriptor y_C_shareWith.desc).map (fun d => d.parameters.length) = some 2 := by decide +kernel
def jS0_C_shareWith_67_1 (X : zXS) (M : zMS) (j0 : Nat) (r : Int32) (a : Int32) : Int32 := (if (r_C_isLeavingAlone X M j0 a) = 0 then 1 else 11)
def x_C_shareWith (X : zXS) (M : zMS) (j0 : Nat) (r : Int32) (a : Int32) : zXS := (u3 (x_A_send (x_A_send X M 9 a (nI j0) r r 0 (X 4 j0 (Int32.toNatClampNeg a))) M 9 a (nI j0) 4 r 0 (X 4 j0 (Int32.toNatClampNeg a))) 3 j0 (Int32.toNatClampNeg a) (jS0_C_shareWith_67_1 X M j0 r a))
set_option maxHeartbeats 1000000 in
set_option maxRecDepth 100000 in
theorem k_C_shareWith (l : Launch) (dC : Nat → ClassId) (dI : Nat → Nat → Nat) (k : Nat → ClassId) (q : Nat → Nat) (X : zXS) (M : zMS) (j0 : Nat) (r : Int32) (a : Int32)  (hj : j0 < 4) (ha : vp_in a 4) (n : Nat) (hn : X 2 0 0 = nI n) (hb9 : n + 4 ≤ 64) (hr4 : vp_in r 4) : zMet l dC dI k q y_C_shareWith c_C_shareWith 4 none 1 27 [.ref (q (16 + 4 * j0)), .int r, .int a] none X M (x_C_shareWith X M j0 r a) M := by
  refine zMet.of (by decide) (Nat.le_of_ble_eq_true rfl) ?_
  intro p e s m args below meth c ls C hr hk hl h
  have hx := C.1
  have hb := C.2.1
  have hl : lv_has ls 4 [(0, .ref (q (16 + 4 * j0))), (1, .int r), (2, .int a)] := hl
  refine lv_aload_n hx hb d_C_shareWith_0 rfl (lv_at hl 0 rfl) ?_
  refine lv_iload_n hx hb d_C_shareWith_1 rfl (lv_at hl 2 rfl) ?_
  refine z_callV (i := 16 + 4 * j0) C h (k_C_isLeavingAlone l dC dI k q X M j0 a hj ha) co_C_isLeavingAlone ml_C_90 im_C_isLeavingAlone se_C_isLeavingAlone in_C (zW_core hj) rfl hd_C_isLeavingAlone ⟨by decide, by decide⟩ ⟨Nat.zero_le _, Nat.zero_le _⟩ hl.1 (Nat.le_of_ble_eq_true rfl) d_C_shareWith_2 rfl (fun H locs h => ?_)
  refine W.eq (g2 := F0 m 5 ls [.int (r_C_isLeavingAlone X M j0 a)]) rfl ?_
  have h : zH dC dI k q X M (zA q) s.heap H locs := h
  refine lv_istore_n hx hb d_C_shareWith_5 rfl hl (by decide) rfl (fun ls hl => ?_)
  have hl : lv_has ls 4 [(3, .int (r_C_isLeavingAlone X M j0 a)), (0, .ref (q (16 + 4 * j0))), (1, .int r), (2, .int a)] := hl
  refine lv_aload_n hx hb d_C_shareWith_6 rfl (lv_at hl 1 rfl) ?_
  refine g_C_41 C h (j0 := j0) hj d_C_shareWith_7 ?_
  refine lv_bipush (v := 9) hx hb d_C_shareWith_10 (by decide) ?_
  refine lv_iload_n hx hb d_C_shareWith_12 rfl (lv_at hl 3 rfl) ?_
  refine lv_aload_n hx hb d_C_shareWith_13 rfl (lv_at hl 1 rfl) ?_
  refine g_C_38 C h (j0 := j0) hj d_C_shareWith_14 ?_
  refine lv_iload_n hx hb d_C_shareWith_17 rfl (lv_at hl 2 rfl) ?_
  refine lv_iload_n hx hb d_C_shareWith_18 rfl (lv_at hl 2 rfl) ?_
  refine lv_iconst (v := 0) hx hb d_C_shareWith_19 (by decide) ?_
  refine lv_aload_n hx hb d_C_shareWith_20 rfl (lv_at hl 1 rfl) ?_
  refine g_C_15 C h (j0 := j0) hj d_C_shareWith_21 ?_
  refine lv_iload_n hx hb d_C_shareWith_24 rfl (lv_at hl 3 rfl) ?_
  refine l_val C h (j0 := j0) hj ha d_C_shareWith_25 ?_
  refine z_callV (i := 1) C h (k_A_send l dC dI k q X M 9 a (nI j0) r r 0 (X 4 j0 (Int32.toNatClampNeg a)) (n + 0) hn (by omega) ha hr4) co_A_send ml_C_86 im_A_send se_A_send in_A rfl rfl hd_A_send ⟨by decide, by decide⟩ ⟨Nat.zero_le _, Nat.zero_le _⟩ hl.1 (Nat.le_of_ble_eq_true rfl) d_C_shareWith_26 rfl (fun H locs h => ?_)
  refine W.eq (g2 := F0 m 29 ls []) rfl ?_
  have h : zH dC dI k q (x_A_send X M 9 a (nI j0) r r 0 (X 4 j0 (Int32.toNatClampNeg a))) M (zA q) s.heap H locs := h
  refine lv_aload_n hx hb d_C_shareWith_29 rfl (lv_at hl 1 rfl) ?_
  refine g_C_41 C h (j0 := j0) hj d_C_shareWith_30 ?_
  refine lv_bipush (v := 9) hx hb d_C_shareWith_33 (by decide) ?_
  refine lv_iload_n hx hb d_C_shareWith_35 rfl (lv_at hl 3 rfl) ?_
  refine lv_aload_n hx hb d_C_shareWith_36 rfl (lv_at hl 1 rfl) ?_
  refine g_C_38 C h (j0 := j0) hj d_C_shareWith_37 ?_
  refine lv_iconst (v := 4) hx hb d_C_shareWith_40 (by decide) ?_
  refine lv_iload_n hx hb d_C_shareWith_41 rfl (lv_at hl 2 rfl) ?_
  refine lv_iconst (v := 0) hx hb d_C_shareWith_42 (by decide) ?_
  refine lv_aload_n hx hb d_C_shareWith_43 rfl (lv_at hl 1 rfl) ?_
  refine g_C_15 C h (j0 := j0) hj d_C_shareWith_44 ?_
  refine lv_iload_n hx hb d_C_shareWith_47 rfl (lv_at hl 3 rfl) ?_
  refine l_val C h (j0 := j0) hj ha d_C_shareWith_48 ?_
  refine z_top (y := X 4 j0 (Int32.toNatClampNeg a)) rfl ?_
  refine z_callV (i := 1) C h (k_A_send l dC dI k q (x_A_send X M 9 a (nI j0) r r 0 (X 4 j0 (Int32.toNatClampNeg a))) M 9 a (nI j0) 4 r 0 (X 4 j0 (Int32.toNatClampNeg a)) (n + 1) (cnt_next hn) (by omega) ha hr4) co_A_send ml_C_86 im_A_send se_A_send in_A rfl rfl hd_A_send ⟨by decide, by decide⟩ ⟨Nat.zero_le _, Nat.zero_le _⟩ hl.1 (Nat.le_of_ble_eq_true rfl) d_C_shareWith_49 rfl (fun H locs h => ?_)
  refine W.eq (g2 := F0 m 52 ls []) rfl ?_
  have h : zH dC dI k q (x_A_send (x_A_send X M 9 a (nI j0) r r 0 (X 4 j0 (Int32.toNatClampNeg a))) M 9 a (nI j0) 4 r 0 (X 4 j0 (Int32.toNatClampNeg a))) M (zA q) s.heap H locs := h
  refine lv_aload_n hx hb d_C_shareWith_52 rfl (lv_at hl 1 rfl) ?_
  refine g_C_9 C h (j0 := j0) hj d_C_shareWith_53 ?_
  refine lv_iload_n hx hb d_C_shareWith_56 rfl (lv_at hl 3 rfl) ?_
  have J67_1 : ∀ (ls : Array Slot) (H : Heap) (locs : List Loc), lv_has ls 4 [(0, .ref (q (16 + 4 * j0))), (1, .int r), (2, .int a), (3, .int (r_C_isLeavingAlone X M j0 a))] → zH dC dI k q (x_A_send (x_A_send X M 9 a (nI j0) r r 0 (X 4 j0 (Int32.toNatClampNeg a))) M 9 a (nI j0) 4 r 0 (X 4 j0 (Int32.toNatClampNeg a))) M (zA q) s.heap H locs → W p l e { frames := 1, cells := 0, slots := 0, locals := 27 } s m args below meth c H locs 0 0 (MQ below (zQc dC dI k q (x_C_shareWith X M j0 r a) M none) args s 0 0 (zA q)) (F0 m 67 ls [.int (jS0_C_shareWith_67_1 X M j0 r a), .int a, .ref (q (17 + 4 * j0))]) := by
    intro ls H locs hl h
    refine s_st C h (j0 := j0) hj ha d_C_shareWith_67 (fun H locs h => ?_)
    exact z_retvE C h hr hk (by first | rfl | (simp only [x_C_shareWith, ↓reduceIte]; done) | (simp [x_C_shareWith]; done)) (by first | rfl | (simp only [x_C_shareWith, ↓reduceIte]; done) | (simp [x_C_shareWith]; done)) d_C_shareWith_68
  refine lv_iload_n hx hb d_C_shareWith_57 rfl (lv_at hl 0 rfl) ?_
  refine lv_if_eq (tgt := 66) hx hb d_C_shareWith_58 (by decide) (fun hh1 => ?_) (fun hh1 => ?_)
  · skip
    refine lv_iconst (v := 1) hx hb d_C_shareWith_66 (by decide) ?_
    have J := J67_1 _ _ _ (lv_sub hl [1, 2, 3, 0] rfl) h
    rw [show (jS0_C_shareWith_67_1 X M j0 r a) = 1 from (by first | (simp only [jS0_C_shareWith_67_1, eq_true hh1, ↓reduceIte]; done) | (simp [jS0_C_shareWith_67_1, eq_true hh1]; done))] at J
    exact J
  · skip
    refine lv_bipush (v := 11) hx hb d_C_shareWith_61 (by decide) ?_
    refine lv_goto (tgt := 67) hx hb d_C_shareWith_63 (by decide) ?_
    have J := J67_1 _ _ _ (lv_sub hl [1, 2, 3, 0] rfl) h
    rw [show (jS0_C_shareWith_67_1 X M j0 r a) = 11 from (by first | (simp only [jS0_C_shareWith_67_1, eq_false hh1, ↓reduceIte]; done) | (simp [jS0_C_shareWith_67_1, eq_false hh1]; done))] at J
    exact J
theorem hd_C_sendLeave : y_C_sendLeave.cls ≠ "java/lang/invoke/MethodHandle" ∧ y_C_sendLeave.cls ≠ "java/lang/invoke/VarHandle" ∧ (parseMethodDescriptor y_C_sendLeave.desc).map (fun d => d.parameters.length) = some 4 := by decide +kernel
def x_C_sendLeave (X : zXS) (M : zMS) (j0 : Nat) (w : Int32) (a : Int32) (v : Int32) (st : Int32) : zXS := (u3 (x_A_send X M w a (nI j0) 4 (nI j0) 0 v) 3 j0 (Int32.toNatClampNeg a) st)
set_option maxHeartbeats 1000000 in
set_option maxRecDepth 100000 in
theorem k_C_sendLeave (l : Launch) (dC : Nat → ClassId) (dI : Nat → Nat → Nat) (k : Nat → ClassId) (q : Nat → Nat) (X : zXS) (M : zMS) (j0 : Nat) (w : Int32) (a : Int32) (v : Int32) (st : Int32)  (hj : j0 < 4) (ha : vp_in a 4) (n : Nat) (hn : X 2 0 0 = nI n) (hb9 : n + 4 ≤ 64) : zMet l dC dI k q y_C_sendLeave c_C_sendLeave 5 none 1 27 [.ref (q (16 + 4 * j0)), .int w, .int a, .int v, .int st] none X M (x_C_sendLeave X M j0 w a v st) M := by
  refine zMet.of (by decide) (Nat.le_of_ble_eq_true rfl) ?_
  intro p e s m args below meth c ls C hr hk hl h
  have hx := C.1
  have hb := C.2.1
  have hl : lv_has ls 5 [(0, .ref (q (16 + 4 * j0))), (1, .int w), (2, .int a), (3, .int v), (4, .int st)] := hl
  refine lv_aload_n hx hb d_C_sendLeave_0 rfl (lv_at hl 0 rfl) ?_
  refine g_C_41 C h (j0 := j0) hj d_C_sendLeave_1 ?_
  refine lv_iload_n hx hb d_C_sendLeave_4 rfl (lv_at hl 1 rfl) ?_
  refine lv_iload_n hx hb d_C_sendLeave_5 rfl (lv_at hl 2 rfl) ?_
  refine lv_aload_n hx hb d_C_sendLeave_6 rfl (lv_at hl 0 rfl) ?_
  refine g_C_38 C h (j0 := j0) hj d_C_sendLeave_7 ?_
  refine lv_iconst (v := 4) hx hb d_C_sendLeave_10 (by decide) ?_
  refine lv_aload_n hx hb d_C_sendLeave_11 rfl (lv_at hl 0 rfl) ?_
  refine g_C_38 C h (j0 := j0) hj d_C_sendLeave_12 ?_
  refine lv_iconst (v := 0) hx hb d_C_sendLeave_15 (by decide) ?_
  refine lv_iload_n hx hb d_C_sendLeave_16 rfl (lv_at hl 3 rfl) ?_
  refine z_callV (i := 1) C h (k_A_send l dC dI k q X M w a (nI j0) 4 (nI j0) 0 v (n + 0) hn (by omega) ha (vp_nI4 hj)) co_A_send ml_C_86 im_A_send se_A_send in_A rfl rfl hd_A_send ⟨by decide, by decide⟩ ⟨Nat.zero_le _, Nat.zero_le _⟩ hl.1 (Nat.le_of_ble_eq_true rfl) d_C_sendLeave_17 rfl (fun H locs h => ?_)
  refine W.eq (g2 := F0 m 20 ls []) rfl ?_
  have h : zH dC dI k q (x_A_send X M w a (nI j0) 4 (nI j0) 0 v) M (zA q) s.heap H locs := h
  refine lv_aload_n hx hb d_C_sendLeave_20 rfl (lv_at hl 0 rfl) ?_
  refine g_C_9 C h (j0 := j0) hj d_C_sendLeave_21 ?_
  refine lv_iload_n hx hb d_C_sendLeave_24 rfl (lv_at hl 2 rfl) ?_
  refine lv_iload hx hb d_C_sendLeave_25 (lv_at hl 4 rfl) ?_
  refine s_st C h (j0 := j0) hj ha d_C_sendLeave_27 (fun H locs h => ?_)
  exact z_retvE C h hr hk (by first | rfl | (simp only [x_C_sendLeave, ↓reduceIte]; done) | (simp [x_C_sendLeave]; done)) (by first | rfl | (simp only [x_C_sendLeave, ↓reduceIte]; done) | (simp [x_C_sendLeave]; done)) d_C_sendLeave_28
theorem hd_C_request : y_C_request.cls ≠ "java/lang/invoke/MethodHandle" ∧ y_C_request.cls ≠ "java/lang/invoke/VarHandle" ∧ (parseMethodDescriptor y_C_request.desc).map (fun d => d.parameters.length) = some 1 := by decide +kernel
def jS0_C_request_90_1 (X : zXS) (M : zMS) (j0 : Nat) (a : Int32) : Int32 := (if ((u3 (u3 X 6 j0 0 1) 5 j0 (Int32.toNatClampNeg a) 0) 3 j0 (Int32.toNatClampNeg a)) = 1 then 7 else 5)
def x_C_request (X : zXS) (M : zMS) (j0 : Nat) (a : Int32) : zXS := (if (X 7 j0 0) = 0 then (u3 (x_A_send (u3 (u3 X 6 j0 0 1) 5 j0 (Int32.toNatClampNeg a) 0) M 0 a (nI j0) 4 (nI j0) 0 0) 3 j0 (Int32.toNatClampNeg a) 4) else (u3 (x_A_send (u3 (u3 X 6 j0 0 1) 5 j0 (Int32.toNatClampNeg a) 0) M 1 a (nI j0) 4 (nI j0) 0 0) 3 j0 (Int32.toNatClampNeg a) (jS0_C_request_90_1 X M j0 a)))
set_option maxHeartbeats 1000000 in
set_option maxRecDepth 100000 in
theorem k_C_request (l : Launch) (dC : Nat → ClassId) (dI : Nat → Nat → Nat) (k : Nat → ClassId) (q : Nat → Nat) (X : zXS) (M : zMS) (j0 : Nat) (a : Int32)  (hj : j0 < 4) (ha : vp_in a 4) (n : Nat) (hn : X 2 0 0 = nI n) (hb9 : n + 4 ≤ 64) : zMet l dC dI k q y_C_request c_C_request 2 none 1 27 [.ref (q (16 + 4 * j0)), .int a] none X M (x_C_request X M j0 a) M := by
  refine zMet.of (by decide) (Nat.le_of_ble_eq_true rfl) ?_
  intro p e s m args below meth c ls C hr hk hl h
  have hx := C.1
  have hb := C.2.1
  have hl : lv_has ls 2 [(0, .ref (q (16 + 4 * j0))), (1, .int a)] := hl
  refine lv_aload_n hx hb d_C_request_0 rfl (lv_at hl 0 rfl) ?_
  refine lv_iconst (v := 1) hx hb d_C_request_1 (by decide) ?_
  refine p_C_21 C h (j0 := j0) hj (Or.inr rfl) d_C_request_2 (fun H locs h => ?_)
  refine lv_aload_n hx hb d_C_request_5 rfl (lv_at hl 0 rfl) ?_
  refine g_C_18 C h (j0 := j0) hj d_C_request_6 ?_
  refine lv_iload_n hx hb d_C_request_9 rfl (lv_at hl 1 rfl) ?_
  refine lv_iconst (v := 0) hx hb d_C_request_10 (by decide) ?_
  refine s_ow C h (j0 := j0) hj ha d_C_request_11 (fun H locs h => ?_)
  refine lv_aload_n hx hb d_C_request_12 rfl (lv_at hl 0 rfl) ?_
  refine g_C_25 C h (j0 := j0) hj d_C_request_13 ?_
  refine z_top (y := X 7 j0 0) rfl ?_
  refine lv_if_ne (tgt := 49) hx hb d_C_request_16 (by decide) (fun hh1 => ?_) (fun hh1 => ?_)
  · skip
    refine lv_aload_n hx hb d_C_request_49 rfl (lv_at hl 0 rfl) ?_
    refine g_C_41 C h (j0 := j0) hj d_C_request_50 ?_
    refine lv_iconst (v := 1) hx hb d_C_request_53 (by decide) ?_
    refine lv_iload_n hx hb d_C_request_54 rfl (lv_at hl 1 rfl) ?_
    refine lv_aload_n hx hb d_C_request_55 rfl (lv_at hl 0 rfl) ?_
    refine g_C_38 C h (j0 := j0) hj d_C_request_56 ?_
    refine lv_iconst (v := 4) hx hb d_C_request_59 (by decide) ?_
    refine lv_aload_n hx hb d_C_request_60 rfl (lv_at hl 0 rfl) ?_
    refine g_C_38 C h (j0 := j0) hj d_C_request_61 ?_
    refine lv_iconst (v := 0) hx hb d_C_request_64 (by decide) ?_
    refine lv_iconst (v := 0) hx hb d_C_request_65 (by decide) ?_
    refine z_callV (i := 1) C h (k_A_send l dC dI k q (u3 (u3 X 6 j0 0 1) 5 j0 (Int32.toNatClampNeg a) 0) M 1 a (nI j0) 4 (nI j0) 0 0 (n + 0) hn (by omega) ha (vp_nI4 hj)) co_A_send ml_C_86 im_A_send se_A_send in_A rfl rfl hd_A_send ⟨by decide, by decide⟩ ⟨Nat.zero_le _, Nat.zero_le _⟩ hl.1 (Nat.le_of_ble_eq_true rfl) d_C_request_66 rfl (fun H locs h => ?_)
    refine W.eq (g2 := F0 m 69 ls []) rfl ?_
    have h : zH dC dI k q (x_A_send (u3 (u3 X 6 j0 0 1) 5 j0 (Int32.toNatClampNeg a) 0) M 1 a (nI j0) 4 (nI j0) 0 0) M (zA q) s.heap H locs := h
    refine lv_aload_n hx hb d_C_request_69 rfl (lv_at hl 0 rfl) ?_
    refine g_C_9 C h (j0 := j0) hj d_C_request_70 ?_
    refine lv_iload_n hx hb d_C_request_73 rfl (lv_at hl 1 rfl) ?_
    have J90_1 : ∀ (ls : Array Slot) (H : Heap) (locs : List Loc), lv_has ls 2 [(0, .ref (q (16 + 4 * j0))), (1, .int a)] → zH dC dI k q (x_A_send (u3 (u3 X 6 j0 0 1) 5 j0 (Int32.toNatClampNeg a) 0) M 1 a (nI j0) 4 (nI j0) 0 0) M (zA q) s.heap H locs → W p l e { frames := 1, cells := 0, slots := 0, locals := 27 } s m args below meth c H locs 0 0 (MQ below (zQc dC dI k q (x_C_request X M j0 a) M none) args s 0 0 (zA q)) (F0 m 90 ls [.int (jS0_C_request_90_1 X M j0 a), .int a, .ref (q (17 + 4 * j0))]) := by
      intro ls H locs hl h
      refine s_st C h (j0 := j0) hj ha d_C_request_90 (fun H locs h => ?_)
      exact z_retvE C h hr hk (by first | rfl | (simp only [x_C_request, eq_false hh1, ↓reduceIte]; done) | (simp [x_C_request, eq_false hh1]; done)) (by first | rfl | (simp only [x_C_request, eq_false hh1, ↓reduceIte]; done) | (simp [x_C_request, eq_false hh1]; done)) d_C_request_91
    refine lv_aload_n hx hb d_C_request_74 rfl (lv_at hl 0 rfl) ?_
    refine g_C_9 C h (j0 := j0) hj d_C_request_75 ?_
    refine lv_iload_n hx hb d_C_request_78 rfl (lv_at hl 1 rfl) ?_
    refine l_st C h (j0 := j0) hj ha d_C_request_79 ?_
    refine z_top (y := (u3 (u3 X 6 j0 0 1) 5 j0 (Int32.toNatClampNeg a) 0) 3 j0 (Int32.toNatClampNeg a)) rfl ?_
    refine lv_iconst (v := 1) hx hb d_C_request_80 (by decide) ?_
    refine lv_icmp_ne (tgt := 89) hx hb d_C_request_81 (by decide) (fun hh2 => ?_) (fun hh2 => ?_)
    · skip
      refine lv_iconst (v := 5) hx hb d_C_request_89 (by decide) ?_
      have J := J90_1 _ _ _ (lv_sub hl [0, 1] rfl) h
      rw [show (jS0_C_request_90_1 X M j0 a) = 5 from (by first | (simp only [jS0_C_request_90_1, eq_false hh1, eq_false hh2, ↓reduceIte]; done) | (simp [jS0_C_request_90_1, eq_false hh1, eq_false hh2]; done))] at J
      exact J
    · skip
      refine lv_bipush (v := 7) hx hb d_C_request_84 (by decide) ?_
      refine lv_goto (tgt := 90) hx hb d_C_request_86 (by decide) ?_
      have J := J90_1 _ _ _ (lv_sub hl [0, 1] rfl) h
      rw [show (jS0_C_request_90_1 X M j0 a) = 7 from (by first | (simp only [jS0_C_request_90_1, eq_false hh1, eq_true hh2, ↓reduceIte]; done) | (simp [jS0_C_request_90_1, eq_false hh1, eq_true hh2]; done))] at J
      exact J
  · skip
    refine lv_aload_n hx hb d_C_request_19 rfl (lv_at hl 0 rfl) ?_
    refine g_C_41 C h (j0 := j0) hj d_C_request_20 ?_
    refine lv_iconst (v := 0) hx hb d_C_request_23 (by decide) ?_
    refine lv_iload_n hx hb d_C_request_24 rfl (lv_at hl 1 rfl) ?_
    refine lv_aload_n hx hb d_C_request_25 rfl (lv_at hl 0 rfl) ?_
    refine g_C_38 C h (j0 := j0) hj d_C_request_26 ?_
    refine lv_iconst (v := 4) hx hb d_C_request_29 (by decide) ?_
    refine lv_aload_n hx hb d_C_request_30 rfl (lv_at hl 0 rfl) ?_
    refine g_C_38 C h (j0 := j0) hj d_C_request_31 ?_
    refine lv_iconst (v := 0) hx hb d_C_request_34 (by decide) ?_
    refine lv_iconst (v := 0) hx hb d_C_request_35 (by decide) ?_
    refine z_callV (i := 1) C h (k_A_send l dC dI k q (u3 (u3 X 6 j0 0 1) 5 j0 (Int32.toNatClampNeg a) 0) M 0 a (nI j0) 4 (nI j0) 0 0 (n + 0) hn (by omega) ha (vp_nI4 hj)) co_A_send ml_C_86 im_A_send se_A_send in_A rfl rfl hd_A_send ⟨by decide, by decide⟩ ⟨Nat.zero_le _, Nat.zero_le _⟩ hl.1 (Nat.le_of_ble_eq_true rfl) d_C_request_36 rfl (fun H locs h => ?_)
    refine W.eq (g2 := F0 m 39 ls []) rfl ?_
    have h : zH dC dI k q (x_A_send (u3 (u3 X 6 j0 0 1) 5 j0 (Int32.toNatClampNeg a) 0) M 0 a (nI j0) 4 (nI j0) 0 0) M (zA q) s.heap H locs := h
    refine lv_aload_n hx hb d_C_request_39 rfl (lv_at hl 0 rfl) ?_
    refine g_C_9 C h (j0 := j0) hj d_C_request_40 ?_
    refine lv_iload_n hx hb d_C_request_43 rfl (lv_at hl 1 rfl) ?_
    refine lv_iconst (v := 4) hx hb d_C_request_44 (by decide) ?_
    refine s_st C h (j0 := j0) hj ha d_C_request_45 (fun H locs h => ?_)
    refine lv_goto (tgt := 91) hx hb d_C_request_46 (by decide) ?_
    exact z_retvE C h hr hk (by first | rfl | (simp only [x_C_request, eq_true hh1, ↓reduceIte]; done) | (simp [x_C_request, eq_true hh1]; done)) (by first | rfl | (simp only [x_C_request, eq_true hh1, ↓reduceIte]; done) | (simp [x_C_request, eq_true hh1]; done)) d_C_request_91
theorem hd_C_isEnough : y_C_isEnough.cls ≠ "java/lang/invoke/MethodHandle" ∧ y_C_isEnough.cls ≠ "java/lang/invoke/VarHandle" ∧ (parseMethodDescriptor y_C_isEnough.desc).map (fun d => d.parameters.length) = some 1 := by decide +kernel
def jS0_C_isEnough_18_1 (X : zXS) (M : zMS) (j0 : Nat) (a : Int32) : Int32 := (if (X 7 j0 0) = 0 then 1 else 2)
def r_C_isEnough (X : zXS) (M : zMS) (j0 : Nat) (a : Int32) : Int32 := (if (X 3 j0 (Int32.toNatClampNeg a)) < (jS0_C_isEnough_18_1 X M j0 a) then 0 else 1)
set_option maxHeartbeats 1000000 in
set_option maxRecDepth 100000 in
theorem k_C_isEnough (l : Launch) (dC : Nat → ClassId) (dI : Nat → Nat → Nat) (k : Nat → ClassId) (q : Nat → Nat) (X : zXS) (M : zMS) (j0 : Nat) (a : Int32)  (hj : j0 < 4) (ha : vp_in a 4)  : zMet l dC dI k q y_C_isEnough c_C_isEnough 2 (some .boolean) 0 0 [.ref (q (16 + 4 * j0)), .int a] (some (.int (r_C_isEnough X M j0 a))) X M X M := by
  refine zMet.of (by decide) (Nat.le_of_ble_eq_true rfl) ?_
  intro p e s m args below meth c ls C hr hk hl h
  have hx := C.1
  have hb := C.2.1
  have hl : lv_has ls 2 [(0, .ref (q (16 + 4 * j0))), (1, .int a)] := hl
  refine lv_aload_n hx hb d_C_isEnough_0 rfl (lv_at hl 0 rfl) ?_
  refine g_C_9 C h (j0 := j0) hj d_C_isEnough_1 ?_
  refine lv_iload_n hx hb d_C_isEnough_4 rfl (lv_at hl 1 rfl) ?_
  refine l_st C h (j0 := j0) hj ha d_C_isEnough_5 ?_
  have J18_1 : ∀ (ls : Array Slot) (H : Heap) (locs : List Loc), lv_has ls 2 [(0, .ref (q (16 + 4 * j0))), (1, .int a)] → zH dC dI k q X M (zA q) s.heap H locs → W p l e { frames := 0, cells := 0, slots := 0, locals := 0 } s m args below meth c H locs 0 0 (MQ below (zQc dC dI k q X M (some (.int (r_C_isEnough X M j0 a)))) args s 0 0 (zA q)) (F0 m 18 ls [.int (jS0_C_isEnough_18_1 X M j0 a), .int (X 3 j0 (Int32.toNatClampNeg a))]) := by
    intro ls H locs hl h
    refine lv_icmp_lt (tgt := 25) hx hb d_C_isEnough_18 (by decide) (fun hh1 => ?_) (fun hh1 => ?_)
    · skip
      refine lv_iconst (v := 0) hx hb d_C_isEnough_25 (by decide) ?_
      exact z_retzE C h hr hk (by first | exact Or.inl rfl | exact Or.inr rfl) (by first | rfl | (simp only [r_C_isEnough, eq_true hh1, ↓reduceIte]; done) | (simp [r_C_isEnough, eq_true hh1]; done)) (by first | rfl | (simp only [r_C_isEnough, eq_true hh1, ↓reduceIte]; done) | (simp [r_C_isEnough, eq_true hh1]; done)) (by first | rfl | (simp only [r_C_isEnough, eq_true hh1, ↓reduceIte]; done) | (simp [r_C_isEnough, eq_true hh1]; done)) d_C_isEnough_26
    · skip
      refine lv_iconst (v := 1) hx hb d_C_isEnough_21 (by decide) ?_
      refine lv_goto (tgt := 26) hx hb d_C_isEnough_22 (by decide) ?_
      exact z_retzE C h hr hk (by first | exact Or.inl rfl | exact Or.inr rfl) (by first | rfl | (simp only [r_C_isEnough, eq_false hh1, ↓reduceIte]; done) | (simp [r_C_isEnough, eq_false hh1]; done)) (by first | rfl | (simp only [r_C_isEnough, eq_false hh1, ↓reduceIte]; done) | (simp [r_C_isEnough, eq_false hh1]; done)) (by first | rfl | (simp only [r_C_isEnough, eq_false hh1, ↓reduceIte]; done) | (simp [r_C_isEnough, eq_false hh1]; done)) d_C_isEnough_26
  refine lv_aload_n hx hb d_C_isEnough_6 rfl (lv_at hl 0 rfl) ?_
  refine g_C_25 C h (j0 := j0) hj d_C_isEnough_7 ?_
  refine lv_if_ne (tgt := 17) hx hb d_C_isEnough_10 (by decide) (fun hh2 => ?_) (fun hh2 => ?_)
  · skip
    refine lv_iconst (v := 2) hx hb d_C_isEnough_17 (by decide) ?_
    have J := J18_1 _ _ _ (lv_sub hl [0, 1] rfl) h
    rw [show (jS0_C_isEnough_18_1 X M j0 a) = 2 from (by first | (simp only [jS0_C_isEnough_18_1, eq_false hh2, ↓reduceIte]; done) | (simp [jS0_C_isEnough_18_1, eq_false hh2]; done))] at J
    exact J
  · skip
    refine lv_iconst (v := 1) hx hb d_C_isEnough_13 (by decide) ?_
    refine lv_goto (tgt := 18) hx hb d_C_isEnough_14 (by decide) ?_
    have J := J18_1 _ _ _ (lv_sub hl [0, 1] rfl) h
    rw [show (jS0_C_isEnough_18_1 X M j0 a) = 1 from (by first | (simp only [jS0_C_isEnough_18_1, eq_true hh2, ↓reduceIte]; done) | (simp [jS0_C_isEnough_18_1, eq_true hh2]; done))] at J
    exact J
theorem hd_C_isStill : y_C_isStill.cls ≠ "java/lang/invoke/MethodHandle" ∧ y_C_isStill.cls ≠ "java/lang/invoke/VarHandle" ∧ (parseMethodDescriptor y_C_isStill.desc).map (fun d => d.parameters.length) = some 1 := by decide +kernel
def r_C_isStill (X : zXS) (M : zMS) (j0 : Nat) (a : Int32) : Int32 := (if 3 < (X 3 j0 (Int32.toNatClampNeg a)) then 0 else 1)
set_option maxHeartbeats 1000000 in
set_option maxRecDepth 100000 in
theorem k_C_isStill (l : Launch) (dC : Nat → ClassId) (dI : Nat → Nat → Nat) (k : Nat → ClassId) (q : Nat → Nat) (X : zXS) (M : zMS) (j0 : Nat) (a : Int32)  (hj : j0 < 4) (ha : vp_in a 4)  : zMet l dC dI k q y_C_isStill c_C_isStill 2 (some .boolean) 0 0 [.ref (q (16 + 4 * j0)), .int a] (some (.int (r_C_isStill X M j0 a))) X M X M := by
  refine zMet.of (by decide) (Nat.le_of_ble_eq_true rfl) ?_
  intro p e s m args below meth c ls C hr hk hl h
  have hx := C.1
  have hb := C.2.1
  have hl : lv_has ls 2 [(0, .ref (q (16 + 4 * j0))), (1, .int a)] := hl
  refine lv_aload_n hx hb d_C_isStill_0 rfl (lv_at hl 0 rfl) ?_
  refine g_C_9 C h (j0 := j0) hj d_C_isStill_1 ?_
  refine lv_iload_n hx hb d_C_isStill_4 rfl (lv_at hl 1 rfl) ?_
  refine l_st C h (j0 := j0) hj ha d_C_isStill_5 ?_
  refine lv_iconst (v := 3) hx hb d_C_isStill_6 (by decide) ?_
  refine lv_icmp_gt (tgt := 14) hx hb d_C_isStill_7 (by decide) (fun hh1 => ?_) (fun hh1 => ?_)
  · skip
    refine lv_iconst (v := 0) hx hb d_C_isStill_14 (by decide) ?_
    exact z_retzE C h hr hk (by first | exact Or.inl rfl | exact Or.inr rfl) (by first | rfl | (simp only [r_C_isStill, eq_true hh1, ↓reduceIte]; done) | (simp [r_C_isStill, eq_true hh1]; done)) (by first | rfl | (simp only [r_C_isStill, eq_true hh1, ↓reduceIte]; done) | (simp [r_C_isStill, eq_true hh1]; done)) (by first | rfl | (simp only [r_C_isStill, eq_true hh1, ↓reduceIte]; done) | (simp [r_C_isStill, eq_true hh1]; done)) d_C_isStill_15
  · skip
    refine lv_iconst (v := 1) hx hb d_C_isStill_10 (by decide) ?_
    refine lv_goto (tgt := 15) hx hb d_C_isStill_11 (by decide) ?_
    exact z_retzE C h hr hk (by first | exact Or.inl rfl | exact Or.inr rfl) (by first | rfl | (simp only [r_C_isStill, eq_false hh1, ↓reduceIte]; done) | (simp [r_C_isStill, eq_false hh1]; done)) (by first | rfl | (simp only [r_C_isStill, eq_false hh1, ↓reduceIte]; done) | (simp [r_C_isStill, eq_false hh1]; done)) (by first | rfl | (simp only [r_C_isStill, eq_false hh1, ↓reduceIte]; done) | (simp [r_C_isStill, eq_false hh1]; done)) d_C_isStill_15
theorem hd_C_shownOwed : y_C_shownOwed.cls ≠ "java/lang/invoke/MethodHandle" ∧ y_C_shownOwed.cls ≠ "java/lang/invoke/VarHandle" ∧ (parseMethodDescriptor y_C_shownOwed.desc).map (fun d => d.parameters.length) = some 1 := by decide +kernel
def r_C_shownOwed (X : zXS) (M : zMS) (j0 : Nat) (a : Int32) : Int32 := (if (X 3 j0 (Int32.toNatClampNeg a)) < 5 then 0 else (if 8 < (X 3 j0 (Int32.toNatClampNeg a)) then 0 else (X 5 j0 (Int32.toNatClampNeg a))))
set_option maxHeartbeats 1000000 in
set_option maxRecDepth 100000 in
theorem k_C_shownOwed (l : Launch) (dC : Nat → ClassId) (dI : Nat → Nat → Nat) (k : Nat → ClassId) (q : Nat → Nat) (X : zXS) (M : zMS) (j0 : Nat) (a : Int32)  (hj : j0 < 4) (ha : vp_in a 4)  : zMet l dC dI k q y_C_shownOwed c_C_shownOwed 2 (some .int) 0 0 [.ref (q (16 + 4 * j0)), .int a] (some (.int (r_C_shownOwed X M j0 a))) X M X M := by
  refine zMet.of (by decide) (Nat.le_of_ble_eq_true rfl) ?_
  intro p e s m args below meth c ls C hr hk hl h
  have hx := C.1
  have hb := C.2.1
  have hl : lv_has ls 2 [(0, .ref (q (16 + 4 * j0))), (1, .int a)] := hl
  refine lv_aload_n hx hb d_C_shownOwed_0 rfl (lv_at hl 0 rfl) ?_
  refine g_C_9 C h (j0 := j0) hj d_C_shownOwed_1 ?_
  refine lv_iload_n hx hb d_C_shownOwed_4 rfl (lv_at hl 1 rfl) ?_
  refine l_st C h (j0 := j0) hj ha d_C_shownOwed_5 ?_
  refine lv_iconst (v := 5) hx hb d_C_shownOwed_6 (by decide) ?_
  refine lv_icmp_lt (tgt := 30) hx hb d_C_shownOwed_7 (by decide) (fun hh1 => ?_) (fun hh1 => ?_)
  · skip
    refine lv_iconst (v := 0) hx hb d_C_shownOwed_30 (by decide) ?_
    exact z_retE C h hr hk (by first | rfl | (simp only [r_C_shownOwed, eq_true hh1, ↓reduceIte]; done) | (simp [r_C_shownOwed, eq_true hh1]; done)) (by first | rfl | (simp only [r_C_shownOwed, eq_true hh1, ↓reduceIte]; done) | (simp [r_C_shownOwed, eq_true hh1]; done)) (by first | rfl | (simp only [r_C_shownOwed, eq_true hh1, ↓reduceIte]; done) | (simp [r_C_shownOwed, eq_true hh1]; done)) d_C_shownOwed_31
  · skip
    refine lv_aload_n hx hb d_C_shownOwed_10 rfl (lv_at hl 0 rfl) ?_
    refine g_C_9 C h (j0 := j0) hj d_C_shownOwed_11 ?_
    refine lv_iload_n hx hb d_C_shownOwed_14 rfl (lv_at hl 1 rfl) ?_
    refine l_st C h (j0 := j0) hj ha d_C_shownOwed_15 ?_
    refine lv_bipush (v := 8) hx hb d_C_shownOwed_16 (by decide) ?_
    refine lv_icmp_gt (tgt := 30) hx hb d_C_shownOwed_18 (by decide) (fun hh2 => ?_) (fun hh2 => ?_)
    · skip
      refine lv_iconst (v := 0) hx hb d_C_shownOwed_30 (by decide) ?_
      exact z_retE C h hr hk (by first | rfl | (simp only [r_C_shownOwed, eq_false hh1, eq_true hh2, ↓reduceIte]; done) | (simp [r_C_shownOwed, eq_false hh1, eq_true hh2]; done)) (by first | rfl | (simp only [r_C_shownOwed, eq_false hh1, eq_true hh2, ↓reduceIte]; done) | (simp [r_C_shownOwed, eq_false hh1, eq_true hh2]; done)) (by first | rfl | (simp only [r_C_shownOwed, eq_false hh1, eq_true hh2, ↓reduceIte]; done) | (simp [r_C_shownOwed, eq_false hh1, eq_true hh2]; done)) d_C_shownOwed_31
    · skip
      refine lv_aload_n hx hb d_C_shownOwed_21 rfl (lv_at hl 0 rfl) ?_
      refine g_C_18 C h (j0 := j0) hj d_C_shownOwed_22 ?_
      refine lv_iload_n hx hb d_C_shownOwed_25 rfl (lv_at hl 1 rfl) ?_
      refine l_ow C h (j0 := j0) hj ha d_C_shownOwed_26 ?_
      refine lv_goto (tgt := 31) hx hb d_C_shownOwed_27 (by decide) ?_
      exact z_retE C h hr hk (by first | rfl | (simp only [r_C_shownOwed, eq_false hh1, eq_false hh2, ↓reduceIte]; done) | (simp [r_C_shownOwed, eq_false hh1, eq_false hh2]; done)) (by first | rfl | (simp only [r_C_shownOwed, eq_false hh1, eq_false hh2, ↓reduceIte]; done) | (simp [r_C_shownOwed, eq_false hh1, eq_false hh2]; done)) (by first | rfl | (simp only [r_C_shownOwed, eq_false hh1, eq_false hh2, ↓reduceIte]; done) | (simp [r_C_shownOwed, eq_false hh1, eq_false hh2]; done)) d_C_shownOwed_31
theorem hd_C_shownValue : y_C_shownValue.cls ≠ "java/lang/invoke/MethodHandle" ∧ y_C_shownValue.cls ≠ "java/lang/invoke/VarHandle" ∧ (parseMethodDescriptor y_C_shownValue.desc).map (fun d => d.parameters.length) = some 1 := by decide +kernel
def r_C_shownValue (X : zXS) (M : zMS) (j0 : Nat) (a : Int32) : Int32 := (if (X 3 j0 (Int32.toNatClampNeg a)) = 0 then 0 else (if (X 3 j0 (Int32.toNatClampNeg a)) = 4 then 0 else (if (X 3 j0 (Int32.toNatClampNeg a)) = 5 then 0 else (if (X 3 j0 (Int32.toNatClampNeg a)) = 12 then 0 else (X 4 j0 (Int32.toNatClampNeg a))))))
set_option maxHeartbeats 1000000 in
set_option maxRecDepth 100000 in
theorem k_C_shownValue (l : Launch) (dC : Nat → ClassId) (dI : Nat → Nat → Nat) (k : Nat → ClassId) (q : Nat → Nat) (X : zXS) (M : zMS) (j0 : Nat) (a : Int32)  (hj : j0 < 4) (ha : vp_in a 4)  : zMet l dC dI k q y_C_shownValue c_C_shownValue 2 (some .int) 0 0 [.ref (q (16 + 4 * j0)), .int a] (some (.int (r_C_shownValue X M j0 a))) X M X M := by
  refine zMet.of (by decide) (Nat.le_of_ble_eq_true rfl) ?_
  intro p e s m args below meth c ls C hr hk hl h
  have hx := C.1
  have hb := C.2.1
  have hl : lv_has ls 2 [(0, .ref (q (16 + 4 * j0))), (1, .int a)] := hl
  refine lv_aload_n hx hb d_C_shownValue_0 rfl (lv_at hl 0 rfl) ?_
  refine g_C_9 C h (j0 := j0) hj d_C_shownValue_1 ?_
  refine lv_iload_n hx hb d_C_shownValue_4 rfl (lv_at hl 1 rfl) ?_
  refine l_st C h (j0 := j0) hj ha d_C_shownValue_5 ?_
  rcases (Decidable.em ((X 3 j0 (Int32.toNatClampNeg a)) = 0)) with hh1 | hh1
  · skip
    refine lv_lookup (off := 42) (tgt := 48) hx hb d_C_shownValue_6 (by decide) (by rw [hh1]; decide) (by decide) ?_
    refine lv_iconst (v := 0) hx hb d_C_shownValue_48 (by decide) ?_
    exact z_retE C h hr hk (by first | rfl | (simp only [r_C_shownValue, eq_true hh1, ↓reduceIte]; done) | (simp [r_C_shownValue, eq_true hh1]; done)) (by first | rfl | (simp only [r_C_shownValue, eq_true hh1, ↓reduceIte]; done) | (simp [r_C_shownValue, eq_true hh1]; done)) (by first | rfl | (simp only [r_C_shownValue, eq_true hh1, ↓reduceIte]; done) | (simp [r_C_shownValue, eq_true hh1]; done)) d_C_shownValue_49
  rcases (Decidable.em ((X 3 j0 (Int32.toNatClampNeg a)) = 4)) with hh2 | hh2
  · skip
    refine lv_lookup (off := 42) (tgt := 48) hx hb d_C_shownValue_6 (by decide) (by rw [hh2]; decide) (by decide) ?_
    refine lv_iconst (v := 0) hx hb d_C_shownValue_48 (by decide) ?_
    exact z_retE C h hr hk (by first | rfl | (simp only [r_C_shownValue, eq_false hh1, eq_true hh2, ↓reduceIte]; done) | (simp [r_C_shownValue, eq_false hh1, eq_true hh2]; done)) (by first | rfl | (simp only [r_C_shownValue, eq_false hh1, eq_true hh2, ↓reduceIte]; done) | (simp [r_C_shownValue, eq_false hh1, eq_true hh2]; done)) (by first | rfl | (simp only [r_C_shownValue, eq_false hh1, eq_true hh2, ↓reduceIte]; done) | (simp [r_C_shownValue, eq_false hh1, eq_true hh2]; done)) d_C_shownValue_49
  rcases (Decidable.em ((X 3 j0 (Int32.toNatClampNeg a)) = 5)) with hh3 | hh3
  · skip
    refine lv_lookup (off := 42) (tgt := 48) hx hb d_C_shownValue_6 (by decide) (by rw [hh3]; decide) (by decide) ?_
    refine lv_iconst (v := 0) hx hb d_C_shownValue_48 (by decide) ?_
    exact z_retE C h hr hk (by first | rfl | (simp only [r_C_shownValue, eq_false hh1, eq_false hh2, eq_true hh3, ↓reduceIte]; done) | (simp [r_C_shownValue, eq_false hh1, eq_false hh2, eq_true hh3]; done)) (by first | rfl | (simp only [r_C_shownValue, eq_false hh1, eq_false hh2, eq_true hh3, ↓reduceIte]; done) | (simp [r_C_shownValue, eq_false hh1, eq_false hh2, eq_true hh3]; done)) (by first | rfl | (simp only [r_C_shownValue, eq_false hh1, eq_false hh2, eq_true hh3, ↓reduceIte]; done) | (simp [r_C_shownValue, eq_false hh1, eq_false hh2, eq_true hh3]; done)) d_C_shownValue_49
  rcases (Decidable.em ((X 3 j0 (Int32.toNatClampNeg a)) = 12)) with hh4 | hh4
  · skip
    refine lv_lookup (off := 42) (tgt := 48) hx hb d_C_shownValue_6 (by decide) (by rw [hh4]; decide) (by decide) ?_
    refine lv_iconst (v := 0) hx hb d_C_shownValue_48 (by decide) ?_
    exact z_retE C h hr hk (by first | rfl | (simp only [r_C_shownValue, eq_false hh1, eq_false hh2, eq_false hh3, eq_true hh4, ↓reduceIte]; done) | (simp [r_C_shownValue, eq_false hh1, eq_false hh2, eq_false hh3, eq_true hh4]; done)) (by first | rfl | (simp only [r_C_shownValue, eq_false hh1, eq_false hh2, eq_false hh3, eq_true hh4, ↓reduceIte]; done) | (simp [r_C_shownValue, eq_false hh1, eq_false hh2, eq_false hh3, eq_true hh4]; done)) (by first | rfl | (simp only [r_C_shownValue, eq_false hh1, eq_false hh2, eq_false hh3, eq_true hh4, ↓reduceIte]; done) | (simp [r_C_shownValue, eq_false hh1, eq_false hh2, eq_false hh3, eq_true hh4]; done)) d_C_shownValue_49
  refine lv_lookup (off := 44) (tgt := 50) hx hb d_C_shownValue_6 (by decide) (by rw [lv_osw hh1 (by decide), lv_osw hh2 (by decide), lv_osw hh3 (by decide), lv_osw hh4 (by decide)]; rfl) (by decide) ?_
  refine lv_aload_n hx hb d_C_shownValue_50 rfl (lv_at hl 0 rfl) ?_
  refine g_C_15 C h (j0 := j0) hj d_C_shownValue_51 ?_
  refine lv_iload_n hx hb d_C_shownValue_54 rfl (lv_at hl 1 rfl) ?_
  refine l_val C h (j0 := j0) hj ha d_C_shownValue_55 ?_
  exact z_retE C h hr hk (by first | rfl | (simp only [r_C_shownValue, eq_false hh1, eq_false hh2, eq_false hh3, eq_false hh4, ↓reduceIte]; done) | (simp [r_C_shownValue, eq_false hh1, eq_false hh2, eq_false hh3, eq_false hh4]; done)) (by first | rfl | (simp only [r_C_shownValue, eq_false hh1, eq_false hh2, eq_false hh3, eq_false hh4, ↓reduceIte]; done) | (simp [r_C_shownValue, eq_false hh1, eq_false hh2, eq_false hh3, eq_false hh4]; done)) (by first | rfl | (simp only [r_C_shownValue, eq_false hh1, eq_false hh2, eq_false hh3, eq_false hh4, ↓reduceIte]; done) | (simp [r_C_shownValue, eq_false hh1, eq_false hh2, eq_false hh3, eq_false hh4]; done)) d_C_shownValue_56
theorem hd_C_stalls : y_C_stalls.cls ≠ "java/lang/invoke/MethodHandle" ∧ y_C_stalls.cls ≠ "java/lang/invoke/VarHandle" ∧ (parseMethodDescriptor y_C_stalls.desc).map (fun d => d.parameters.length) = some 2 := by decide +kernel
def r_C_stalls (X : zXS) (M : zMS) (j0 : Nat) (w : Int32) (a : Int32) : Int32 := (if w = 5 then (if (X 3 j0 (Int32.toNatClampNeg a)) < 4 then 0 else (if 8 < (X 3 j0 (Int32.toNatClampNeg a)) then 0 else 1)) else (if w = 6 then (if (X 3 j0 (Int32.toNatClampNeg a)) < 4 then 0 else (if 8 < (X 3 j0 (Int32.toNatClampNeg a)) then 0 else 1)) else (if w = 7 then (if (X 3 j0 (Int32.toNatClampNeg a)) = 4 then 1 else 0) else 0)))
set_option maxHeartbeats 1000000 in
set_option maxRecDepth 100000 in
theorem k_C_stalls (l : Launch) (dC : Nat → ClassId) (dI : Nat → Nat → Nat) (k : Nat → ClassId) (q : Nat → Nat) (X : zXS) (M : zMS) (j0 : Nat) (w : Int32) (a : Int32)  (hj : j0 < 4) (ha : vp_in a 4)  : zMet l dC dI k q y_C_stalls c_C_stalls 3 (some .boolean) 0 0 [.ref (q (16 + 4 * j0)), .int w, .int a] (some (.int (r_C_stalls X M j0 w a))) X M X M := by
  refine zMet.of (by decide) (Nat.le_of_ble_eq_true rfl) ?_
  intro p e s m args below meth c ls C hr hk hl h
  have hx := C.1
  have hb := C.2.1
  have hl : lv_has ls 3 [(0, .ref (q (16 + 4 * j0))), (1, .int w), (2, .int a)] := hl
  refine lv_iload_n hx hb d_C_stalls_0 rfl (lv_at hl 1 rfl) ?_
  rcases (Decidable.em (w = 5)) with hh1 | hh1
  · skip
    refine lv_tableIn (tgt := 28) hx hb d_C_stalls_1 (by rw [hh1]; decide) (by rw [hh1]; decide) (by rw [hh1]; rfl) (by decide) ?_
    refine lv_aload_n hx hb d_C_stalls_28 rfl (lv_at hl 0 rfl) ?_
    refine g_C_9 C h (j0 := j0) hj d_C_stalls_29 ?_
    refine lv_iload_n hx hb d_C_stalls_32 rfl (lv_at hl 2 rfl) ?_
    refine l_st C h (j0 := j0) hj ha d_C_stalls_33 ?_
    refine lv_iconst (v := 4) hx hb d_C_stalls_34 (by decide) ?_
    refine lv_icmp_lt (tgt := 53) hx hb d_C_stalls_35 (by decide) (fun hh2 => ?_) (fun hh2 => ?_)
    · skip
      refine lv_iconst (v := 0) hx hb d_C_stalls_53 (by decide) ?_
      exact z_retzE C h hr hk (by first | exact Or.inl rfl | exact Or.inr rfl) (by first | rfl | (simp only [r_C_stalls, eq_true hh1, eq_true hh2, ↓reduceIte]; done) | (simp [r_C_stalls, eq_true hh1, eq_true hh2]; done)) (by first | rfl | (simp only [r_C_stalls, eq_true hh1, eq_true hh2, ↓reduceIte]; done) | (simp [r_C_stalls, eq_true hh1, eq_true hh2]; done)) (by first | rfl | (simp only [r_C_stalls, eq_true hh1, eq_true hh2, ↓reduceIte]; done) | (simp [r_C_stalls, eq_true hh1, eq_true hh2]; done)) d_C_stalls_54
    · skip
      refine lv_aload_n hx hb d_C_stalls_38 rfl (lv_at hl 0 rfl) ?_
      refine g_C_9 C h (j0 := j0) hj d_C_stalls_39 ?_
      refine lv_iload_n hx hb d_C_stalls_42 rfl (lv_at hl 2 rfl) ?_
      refine l_st C h (j0 := j0) hj ha d_C_stalls_43 ?_
      refine lv_bipush (v := 8) hx hb d_C_stalls_44 (by decide) ?_
      refine lv_icmp_gt (tgt := 53) hx hb d_C_stalls_46 (by decide) (fun hh3 => ?_) (fun hh3 => ?_)
      · skip
        refine lv_iconst (v := 0) hx hb d_C_stalls_53 (by decide) ?_
        exact z_retzE C h hr hk (by first | exact Or.inl rfl | exact Or.inr rfl) (by first | rfl | (simp only [r_C_stalls, eq_true hh1, eq_false hh2, eq_true hh3, ↓reduceIte]; done) | (simp [r_C_stalls, eq_true hh1, eq_false hh2, eq_true hh3]; done)) (by first | rfl | (simp only [r_C_stalls, eq_true hh1, eq_false hh2, eq_true hh3, ↓reduceIte]; done) | (simp [r_C_stalls, eq_true hh1, eq_false hh2, eq_true hh3]; done)) (by first | rfl | (simp only [r_C_stalls, eq_true hh1, eq_false hh2, eq_true hh3, ↓reduceIte]; done) | (simp [r_C_stalls, eq_true hh1, eq_false hh2, eq_true hh3]; done)) d_C_stalls_54
      · skip
        refine lv_iconst (v := 1) hx hb d_C_stalls_49 (by decide) ?_
        refine lv_goto (tgt := 54) hx hb d_C_stalls_50 (by decide) ?_
        exact z_retzE C h hr hk (by first | exact Or.inl rfl | exact Or.inr rfl) (by first | rfl | (simp only [r_C_stalls, eq_true hh1, eq_false hh2, eq_false hh3, ↓reduceIte]; done) | (simp [r_C_stalls, eq_true hh1, eq_false hh2, eq_false hh3]; done)) (by first | rfl | (simp only [r_C_stalls, eq_true hh1, eq_false hh2, eq_false hh3, ↓reduceIte]; done) | (simp [r_C_stalls, eq_true hh1, eq_false hh2, eq_false hh3]; done)) (by first | rfl | (simp only [r_C_stalls, eq_true hh1, eq_false hh2, eq_false hh3, ↓reduceIte]; done) | (simp [r_C_stalls, eq_true hh1, eq_false hh2, eq_false hh3]; done)) d_C_stalls_54
  rcases (Decidable.em (w = 6)) with hh4 | hh4
  · skip
    refine lv_tableIn (tgt := 28) hx hb d_C_stalls_1 (by rw [hh4]; decide) (by rw [hh4]; decide) (by rw [hh4]; rfl) (by decide) ?_
    refine lv_aload_n hx hb d_C_stalls_28 rfl (lv_at hl 0 rfl) ?_
    refine g_C_9 C h (j0 := j0) hj d_C_stalls_29 ?_
    refine lv_iload_n hx hb d_C_stalls_32 rfl (lv_at hl 2 rfl) ?_
    refine l_st C h (j0 := j0) hj ha d_C_stalls_33 ?_
    refine lv_iconst (v := 4) hx hb d_C_stalls_34 (by decide) ?_
    refine lv_icmp_lt (tgt := 53) hx hb d_C_stalls_35 (by decide) (fun hh5 => ?_) (fun hh5 => ?_)
    · skip
      refine lv_iconst (v := 0) hx hb d_C_stalls_53 (by decide) ?_
      exact z_retzE C h hr hk (by first | exact Or.inl rfl | exact Or.inr rfl) (by first | rfl | (simp only [r_C_stalls, eq_false hh1, eq_true hh4, eq_true hh5, ↓reduceIte]; done) | (simp [r_C_stalls, eq_false hh1, eq_true hh4, eq_true hh5]; done)) (by first | rfl | (simp only [r_C_stalls, eq_false hh1, eq_true hh4, eq_true hh5, ↓reduceIte]; done) | (simp [r_C_stalls, eq_false hh1, eq_true hh4, eq_true hh5]; done)) (by first | rfl | (simp only [r_C_stalls, eq_false hh1, eq_true hh4, eq_true hh5, ↓reduceIte]; done) | (simp [r_C_stalls, eq_false hh1, eq_true hh4, eq_true hh5]; done)) d_C_stalls_54
    · skip
      refine lv_aload_n hx hb d_C_stalls_38 rfl (lv_at hl 0 rfl) ?_
      refine g_C_9 C h (j0 := j0) hj d_C_stalls_39 ?_
      refine lv_iload_n hx hb d_C_stalls_42 rfl (lv_at hl 2 rfl) ?_
      refine l_st C h (j0 := j0) hj ha d_C_stalls_43 ?_
      refine lv_bipush (v := 8) hx hb d_C_stalls_44 (by decide) ?_
      refine lv_icmp_gt (tgt := 53) hx hb d_C_stalls_46 (by decide) (fun hh6 => ?_) (fun hh6 => ?_)
      · skip
        refine lv_iconst (v := 0) hx hb d_C_stalls_53 (by decide) ?_
        exact z_retzE C h hr hk (by first | exact Or.inl rfl | exact Or.inr rfl) (by first | rfl | (simp only [r_C_stalls, eq_false hh1, eq_true hh4, eq_false hh5, eq_true hh6, ↓reduceIte]; done) | (simp [r_C_stalls, eq_false hh1, eq_true hh4, eq_false hh5, eq_true hh6]; done)) (by first | rfl | (simp only [r_C_stalls, eq_false hh1, eq_true hh4, eq_false hh5, eq_true hh6, ↓reduceIte]; done) | (simp [r_C_stalls, eq_false hh1, eq_true hh4, eq_false hh5, eq_true hh6]; done)) (by first | rfl | (simp only [r_C_stalls, eq_false hh1, eq_true hh4, eq_false hh5, eq_true hh6, ↓reduceIte]; done) | (simp [r_C_stalls, eq_false hh1, eq_true hh4, eq_false hh5, eq_true hh6]; done)) d_C_stalls_54
      · skip
        refine lv_iconst (v := 1) hx hb d_C_stalls_49 (by decide) ?_
        refine lv_goto (tgt := 54) hx hb d_C_stalls_50 (by decide) ?_
        exact z_retzE C h hr hk (by first | exact Or.inl rfl | exact Or.inr rfl) (by first | rfl | (simp only [r_C_stalls, eq_false hh1, eq_true hh4, eq_false hh5, eq_false hh6, ↓reduceIte]; done) | (simp [r_C_stalls, eq_false hh1, eq_true hh4, eq_false hh5, eq_false hh6]; done)) (by first | rfl | (simp only [r_C_stalls, eq_false hh1, eq_true hh4, eq_false hh5, eq_false hh6, ↓reduceIte]; done) | (simp [r_C_stalls, eq_false hh1, eq_true hh4, eq_false hh5, eq_false hh6]; done)) (by first | rfl | (simp only [r_C_stalls, eq_false hh1, eq_true hh4, eq_false hh5, eq_false hh6, ↓reduceIte]; done) | (simp [r_C_stalls, eq_false hh1, eq_true hh4, eq_false hh5, eq_false hh6]; done)) d_C_stalls_54
  rcases (Decidable.em (w = 7)) with hh7 | hh7
  · skip
    refine lv_tableIn (tgt := 55) hx hb d_C_stalls_1 (by rw [hh7]; decide) (by rw [hh7]; decide) (by rw [hh7]; rfl) (by decide) ?_
    refine lv_aload_n hx hb d_C_stalls_55 rfl (lv_at hl 0 rfl) ?_
    refine g_C_9 C h (j0 := j0) hj d_C_stalls_56 ?_
    refine lv_iload_n hx hb d_C_stalls_59 rfl (lv_at hl 2 rfl) ?_
    refine l_st C h (j0 := j0) hj ha d_C_stalls_60 ?_
    refine lv_iconst (v := 4) hx hb d_C_stalls_61 (by decide) ?_
    refine lv_icmp_ne (tgt := 69) hx hb d_C_stalls_62 (by decide) (fun hh8 => ?_) (fun hh8 => ?_)
    · skip
      refine lv_iconst (v := 0) hx hb d_C_stalls_69 (by decide) ?_
      exact z_retzE C h hr hk (by first | exact Or.inl rfl | exact Or.inr rfl) (by first | rfl | (simp only [r_C_stalls, eq_false hh1, eq_false hh4, eq_true hh7, eq_false hh8, ↓reduceIte]; done) | (simp [r_C_stalls, eq_false hh1, eq_false hh4, eq_true hh7, eq_false hh8]; done)) (by first | rfl | (simp only [r_C_stalls, eq_false hh1, eq_false hh4, eq_true hh7, eq_false hh8, ↓reduceIte]; done) | (simp [r_C_stalls, eq_false hh1, eq_false hh4, eq_true hh7, eq_false hh8]; done)) (by first | rfl | (simp only [r_C_stalls, eq_false hh1, eq_false hh4, eq_true hh7, eq_false hh8, ↓reduceIte]; done) | (simp [r_C_stalls, eq_false hh1, eq_false hh4, eq_true hh7, eq_false hh8]; done)) d_C_stalls_70
    · skip
      refine lv_iconst (v := 1) hx hb d_C_stalls_65 (by decide) ?_
      refine lv_goto (tgt := 70) hx hb d_C_stalls_66 (by decide) ?_
      exact z_retzE C h hr hk (by first | exact Or.inl rfl | exact Or.inr rfl) (by first | rfl | (simp only [r_C_stalls, eq_false hh1, eq_false hh4, eq_true hh7, eq_true hh8, ↓reduceIte]; done) | (simp [r_C_stalls, eq_false hh1, eq_false hh4, eq_true hh7, eq_true hh8]; done)) (by first | rfl | (simp only [r_C_stalls, eq_false hh1, eq_false hh4, eq_true hh7, eq_true hh8, ↓reduceIte]; done) | (simp [r_C_stalls, eq_false hh1, eq_false hh4, eq_true hh7, eq_true hh8]; done)) (by first | rfl | (simp only [r_C_stalls, eq_false hh1, eq_false hh4, eq_true hh7, eq_true hh8, ↓reduceIte]; done) | (simp [r_C_stalls, eq_false hh1, eq_false hh4, eq_true hh7, eq_true hh8]; done)) d_C_stalls_70
  refine lv_tableOut (tgt := 71) hx hb d_C_stalls_1 (z_out3b hh1 hh4 hh7) (by decide) ?_
  refine lv_iconst (v := 0) hx hb d_C_stalls_71 (by decide) ?_
  exact z_retzE C h hr hk (by first | exact Or.inl rfl | exact Or.inr rfl) (by first | rfl | (simp only [r_C_stalls, eq_false hh1, eq_false hh4, eq_false hh7, ↓reduceIte]; done) | (simp [r_C_stalls, eq_false hh1, eq_false hh4, eq_false hh7]; done)) (by first | rfl | (simp only [r_C_stalls, eq_false hh1, eq_false hh4, eq_false hh7, ↓reduceIte]; done) | (simp [r_C_stalls, eq_false hh1, eq_false hh4, eq_false hh7]; done)) (by first | rfl | (simp only [r_C_stalls, eq_false hh1, eq_false hh4, eq_false hh7, ↓reduceIte]; done) | (simp [r_C_stalls, eq_false hh1, eq_false hh4, eq_false hh7]; done)) d_C_stalls_72
theorem hd_C_giveUp : y_C_giveUp.cls ≠ "java/lang/invoke/MethodHandle" ∧ y_C_giveUp.cls ≠ "java/lang/invoke/VarHandle" ∧ (parseMethodDescriptor y_C_giveUp.desc).map (fun d => d.parameters.length) = some 1 := by decide +kernel
def r_C_giveUp (X : zXS) (M : zMS) (j0 : Nat) (a : Int32) : Int32 := (if (r_C_isStill X M j0 a) = 0 then (-2) else (if (X 3 j0 (Int32.toNatClampNeg a)) = 1 then 1 else (if (X 3 j0 (Int32.toNatClampNeg a)) = 2 then 1 else (if (X 3 j0 (Int32.toNatClampNeg a)) = 3 then 1 else 0))))
def x_C_giveUp (X : zXS) (M : zMS) (j0 : Nat) (a : Int32) : zXS := (if (r_C_isStill X M j0 a) = 0 then X else (if (X 3 j0 (Int32.toNatClampNeg a)) = 1 then (x_C_sendLeave X M j0 2 a 0 11) else (if (X 3 j0 (Int32.toNatClampNeg a)) = 2 then (x_C_sendLeave X M j0 3 a 0 10) else (if (X 3 j0 (Int32.toNatClampNeg a)) = 3 then (x_C_sendLeave X M j0 4 a (X 4 j0 (Int32.toNatClampNeg a)) 9) else X))))
set_option maxHeartbeats 1000000 in
set_option maxRecDepth 100000 in
theorem k_C_giveUp (l : Launch) (dC : Nat → ClassId) (dI : Nat → Nat → Nat) (k : Nat → ClassId) (q : Nat → Nat) (X : zXS) (M : zMS) (j0 : Nat) (a : Int32)  (hj : j0 < 4) (ha : vp_in a 4) (n : Nat) (hn : X 2 0 0 = nI n) (hb9 : n + 4 ≤ 64) : zMet l dC dI k q y_C_giveUp c_C_giveUp 2 (some .int) 2 51 [.ref (q (16 + 4 * j0)), .int a] (some (.int (r_C_giveUp X M j0 a))) X M (x_C_giveUp X M j0 a) M := by
  refine zMet.of (by decide) (Nat.le_of_ble_eq_true rfl) ?_
  intro p e s m args below meth c ls C hr hk hl h
  have hx := C.1
  have hb := C.2.1
  have hl : lv_has ls 2 [(0, .ref (q (16 + 4 * j0))), (1, .int a)] := hl
  refine lv_aload_n hx hb d_C_giveUp_0 rfl (lv_at hl 0 rfl) ?_
  refine lv_iload_n hx hb d_C_giveUp_1 rfl (lv_at hl 1 rfl) ?_
  refine z_callV (i := 16 + 4 * j0) C h (k_C_isStill l dC dI k q X M j0 a hj ha) co_C_isStill ml_C_45 im_C_isStill se_C_isStill in_C (zW_core hj) rfl hd_C_isStill ⟨by decide, by decide⟩ ⟨Nat.zero_le _, Nat.zero_le _⟩ hl.1 (Nat.le_of_ble_eq_true rfl) d_C_giveUp_2 rfl (fun H locs h => ?_)
  refine W.eq (g2 := F0 m 5 ls [.int (r_C_isStill X M j0 a)]) rfl ?_
  have h : zH dC dI k q X M (zA q) s.heap H locs := h
  refine lv_if_ne (tgt := 11) hx hb d_C_giveUp_5 (by decide) (fun hh1 => ?_) (fun hh1 => ?_)
  · skip
    refine lv_aload_n hx hb d_C_giveUp_11 rfl (lv_at hl 0 rfl) ?_
    refine g_C_9 C h (j0 := j0) hj d_C_giveUp_12 ?_
    refine lv_iload_n hx hb d_C_giveUp_15 rfl (lv_at hl 1 rfl) ?_
    refine l_st C h (j0 := j0) hj ha d_C_giveUp_16 ?_
    rcases (Decidable.em ((X 3 j0 (Int32.toNatClampNeg a)) = 1)) with hh2 | hh2
    · skip
      refine lv_tableIn (tgt := 44) hx hb d_C_giveUp_17 (by rw [hh2]; decide) (by rw [hh2]; decide) (by rw [hh2]; rfl) (by decide) ?_
      refine lv_aload_n hx hb d_C_giveUp_44 rfl (lv_at hl 0 rfl) ?_
      refine lv_iconst (v := 2) hx hb d_C_giveUp_45 (by decide) ?_
      refine lv_iload_n hx hb d_C_giveUp_46 rfl (lv_at hl 1 rfl) ?_
      refine lv_iconst (v := 0) hx hb d_C_giveUp_47 (by decide) ?_
      refine lv_bipush (v := 11) hx hb d_C_giveUp_48 (by decide) ?_
      refine z_callV (i := 16 + 4 * j0) C h (k_C_sendLeave l dC dI k q X M j0 2 a 0 11 hj ha n hn hb9) co_C_sendLeave ml_C_59 im_C_sendLeave se_C_sendLeave in_C (zW_core hj) rfl hd_C_sendLeave ⟨by decide, by decide⟩ ⟨Nat.zero_le _, Nat.zero_le _⟩ hl.1 (Nat.le_of_ble_eq_true rfl) d_C_giveUp_50 rfl (fun H locs h => ?_)
      refine W.eq (g2 := F0 m 53 ls []) rfl ?_
      have h : zH dC dI k q (x_C_sendLeave X M j0 2 a 0 11) M (zA q) s.heap H locs := h
      refine lv_iconst (v := 1) hx hb d_C_giveUp_53 (by decide) ?_
      exact z_retE C h hr hk (by first | rfl | (simp only [r_C_giveUp, x_C_giveUp, eq_false hh1, eq_true hh2, ↓reduceIte]; done) | (simp [r_C_giveUp, x_C_giveUp, eq_false hh1, eq_true hh2]; done)) (by first | rfl | (simp only [r_C_giveUp, x_C_giveUp, eq_false hh1, eq_true hh2, ↓reduceIte]; done) | (simp [r_C_giveUp, x_C_giveUp, eq_false hh1, eq_true hh2]; done)) (by first | rfl | (simp only [r_C_giveUp, x_C_giveUp, eq_false hh1, eq_true hh2, ↓reduceIte]; done) | (simp [r_C_giveUp, x_C_giveUp, eq_false hh1, eq_true hh2]; done)) d_C_giveUp_54
    rcases (Decidable.em ((X 3 j0 (Int32.toNatClampNeg a)) = 2)) with hh3 | hh3
    · skip
      refine lv_tableIn (tgt := 55) hx hb d_C_giveUp_17 (by rw [hh3]; decide) (by rw [hh3]; decide) (by rw [hh3]; rfl) (by decide) ?_
      refine lv_aload_n hx hb d_C_giveUp_55 rfl (lv_at hl 0 rfl) ?_
      refine lv_iconst (v := 3) hx hb d_C_giveUp_56 (by decide) ?_
      refine lv_iload_n hx hb d_C_giveUp_57 rfl (lv_at hl 1 rfl) ?_
      refine lv_iconst (v := 0) hx hb d_C_giveUp_58 (by decide) ?_
      refine lv_bipush (v := 10) hx hb d_C_giveUp_59 (by decide) ?_
      refine z_callV (i := 16 + 4 * j0) C h (k_C_sendLeave l dC dI k q X M j0 3 a 0 10 hj ha n hn hb9) co_C_sendLeave ml_C_59 im_C_sendLeave se_C_sendLeave in_C (zW_core hj) rfl hd_C_sendLeave ⟨by decide, by decide⟩ ⟨Nat.zero_le _, Nat.zero_le _⟩ hl.1 (Nat.le_of_ble_eq_true rfl) d_C_giveUp_61 rfl (fun H locs h => ?_)
      refine W.eq (g2 := F0 m 64 ls []) rfl ?_
      have h : zH dC dI k q (x_C_sendLeave X M j0 3 a 0 10) M (zA q) s.heap H locs := h
      refine lv_iconst (v := 1) hx hb d_C_giveUp_64 (by decide) ?_
      exact z_retE C h hr hk (by first | rfl | (simp only [r_C_giveUp, x_C_giveUp, eq_false hh1, eq_false hh2, eq_true hh3, ↓reduceIte]; done) | (simp [r_C_giveUp, x_C_giveUp, eq_false hh1, eq_false hh2, eq_true hh3]; done)) (by first | rfl | (simp only [r_C_giveUp, x_C_giveUp, eq_false hh1, eq_false hh2, eq_true hh3, ↓reduceIte]; done) | (simp [r_C_giveUp, x_C_giveUp, eq_false hh1, eq_false hh2, eq_true hh3]; done)) (by first | rfl | (simp only [r_C_giveUp, x_C_giveUp, eq_false hh1, eq_false hh2, eq_true hh3, ↓reduceIte]; done) | (simp [r_C_giveUp, x_C_giveUp, eq_false hh1, eq_false hh2, eq_true hh3]; done)) d_C_giveUp_65
    rcases (Decidable.em ((X 3 j0 (Int32.toNatClampNeg a)) = 3)) with hh4 | hh4
    · skip
      refine lv_tableIn (tgt := 66) hx hb d_C_giveUp_17 (by rw [hh4]; decide) (by rw [hh4]; decide) (by rw [hh4]; rfl) (by decide) ?_
      refine lv_aload_n hx hb d_C_giveUp_66 rfl (lv_at hl 0 rfl) ?_
      refine lv_iconst (v := 4) hx hb d_C_giveUp_67 (by decide) ?_
      refine lv_iload_n hx hb d_C_giveUp_68 rfl (lv_at hl 1 rfl) ?_
      refine lv_aload_n hx hb d_C_giveUp_69 rfl (lv_at hl 0 rfl) ?_
      refine g_C_15 C h (j0 := j0) hj d_C_giveUp_70 ?_
      refine lv_iload_n hx hb d_C_giveUp_73 rfl (lv_at hl 1 rfl) ?_
      refine l_val C h (j0 := j0) hj ha d_C_giveUp_74 ?_
      refine lv_bipush (v := 9) hx hb d_C_giveUp_75 (by decide) ?_
      refine z_callV (i := 16 + 4 * j0) C h (k_C_sendLeave l dC dI k q X M j0 4 a (X 4 j0 (Int32.toNatClampNeg a)) 9 hj ha n hn hb9) co_C_sendLeave ml_C_59 im_C_sendLeave se_C_sendLeave in_C (zW_core hj) rfl hd_C_sendLeave ⟨by decide, by decide⟩ ⟨Nat.zero_le _, Nat.zero_le _⟩ hl.1 (Nat.le_of_ble_eq_true rfl) d_C_giveUp_77 rfl (fun H locs h => ?_)
      refine W.eq (g2 := F0 m 80 ls []) rfl ?_
      have h : zH dC dI k q (x_C_sendLeave X M j0 4 a (X 4 j0 (Int32.toNatClampNeg a)) 9) M (zA q) s.heap H locs := h
      refine lv_iconst (v := 1) hx hb d_C_giveUp_80 (by decide) ?_
      exact z_retE C h hr hk (by first | rfl | (simp only [r_C_giveUp, x_C_giveUp, eq_false hh1, eq_false hh2, eq_false hh3, eq_true hh4, ↓reduceIte]; done) | (simp [r_C_giveUp, x_C_giveUp, eq_false hh1, eq_false hh2, eq_false hh3, eq_true hh4]; done)) (by first | rfl | (simp only [r_C_giveUp, x_C_giveUp, eq_false hh1, eq_false hh2, eq_false hh3, eq_true hh4, ↓reduceIte]; done) | (simp [r_C_giveUp, x_C_giveUp, eq_false hh1, eq_false hh2, eq_false hh3, eq_true hh4]; done)) (by first | rfl | (simp only [r_C_giveUp, x_C_giveUp, eq_false hh1, eq_false hh2, eq_false hh3, eq_true hh4, ↓reduceIte]; done) | (simp [r_C_giveUp, x_C_giveUp, eq_false hh1, eq_false hh2, eq_false hh3, eq_true hh4]; done)) d_C_giveUp_81
    refine lv_tableOut (tgt := 82) hx hb d_C_giveUp_17 (z_out3a hh2 hh3 hh4) (by decide) ?_
    refine lv_iconst (v := 0) hx hb d_C_giveUp_82 (by decide) ?_
    exact z_retE C h hr hk (by first | rfl | (simp only [r_C_giveUp, x_C_giveUp, eq_false hh1, eq_false hh2, eq_false hh3, eq_false hh4, ↓reduceIte]; done) | (simp [r_C_giveUp, x_C_giveUp, eq_false hh1, eq_false hh2, eq_false hh3, eq_false hh4]; done)) (by first | rfl | (simp only [r_C_giveUp, x_C_giveUp, eq_false hh1, eq_false hh2, eq_false hh3, eq_false hh4, ↓reduceIte]; done) | (simp [r_C_giveUp, x_C_giveUp, eq_false hh1, eq_false hh2, eq_false hh3, eq_false hh4]; done)) (by first | rfl | (simp only [r_C_giveUp, x_C_giveUp, eq_false hh1, eq_false hh2, eq_false hh3, eq_false hh4, ↓reduceIte]; done) | (simp [r_C_giveUp, x_C_giveUp, eq_false hh1, eq_false hh2, eq_false hh3, eq_false hh4]; done)) d_C_giveUp_83
  · skip
    refine lv_bipush (v := -2) hx hb d_C_giveUp_8 (by decide) ?_
    exact z_retE C h hr hk (by first | rfl | (simp only [r_C_giveUp, x_C_giveUp, eq_true hh1, ↓reduceIte]; done) | (simp [r_C_giveUp, x_C_giveUp, eq_true hh1]; done)) (by first | rfl | (simp only [r_C_giveUp, x_C_giveUp, eq_true hh1, ↓reduceIte]; done) | (simp [r_C_giveUp, x_C_giveUp, eq_true hh1]; done)) (by first | rfl | (simp only [r_C_giveUp, x_C_giveUp, eq_true hh1, ↓reduceIte]; done) | (simp [r_C_giveUp, x_C_giveUp, eq_true hh1]; done)) d_C_giveUp_10
theorem hd_C_start : y_C_start.cls ≠ "java/lang/invoke/MethodHandle" ∧ y_C_start.cls ≠ "java/lang/invoke/VarHandle" ∧ (parseMethodDescriptor y_C_start.desc).map (fun d => d.parameters.length) = some 3 := by decide +kernel
def r_C_start (X : zXS) (M : zMS) (j0 : Nat) (w : Int32) (a : Int32) (v : Int32) : Int32 := (if (X 6 j0 0) = 0 then (if (r_C_isStill X M j0 a) = 0 then (-2) else (if (r_C_isEnough (u3 (u3 X 7 j0 0 w) 8 j0 0 v) M j0 a) = 0 then 0 else 1)) else (-2))
def x_C_start (X : zXS) (M : zMS) (j0 : Nat) (w : Int32) (a : Int32) (v : Int32) : zXS := (if (X 6 j0 0) = 0 then (if (r_C_isStill X M j0 a) = 0 then X else (if (r_C_isEnough (u3 (u3 X 7 j0 0 w) 8 j0 0 v) M j0 a) = 0 then (x_C_request (u3 (u3 X 7 j0 0 w) 8 j0 0 v) M j0 a) else (x_C_finish (u3 (u3 X 7 j0 0 w) 8 j0 0 v) M j0 a))) else X)
set_option maxHeartbeats 1000000 in
set_option maxRecDepth 100000 in
theorem k_C_start (l : Launch) (dC : Nat → ClassId) (dI : Nat → Nat → Nat) (k : Nat → ClassId) (q : Nat → Nat) (X : zXS) (M : zMS) (j0 : Nat) (w : Int32) (a : Int32) (v : Int32)  (hj : j0 < 4) (ha : vp_in a 4) (n : Nat) (hn : X 2 0 0 = nI n) (hb9 : n + 4 ≤ 64) : zMet l dC dI k q y_C_start c_C_start 4 (some .int) 2 48 [.ref (q (16 + 4 * j0)), .int w, .int a, .int v] (some (.int (r_C_start X M j0 w a v))) X M (x_C_start X M j0 w a v) M := by
  refine zMet.of (by decide) (Nat.le_of_ble_eq_true rfl) ?_
  intro p e s m args below meth c ls C hr hk hl h
  have hx := C.1
  have hb := C.2.1
  have hl : lv_has ls 4 [(0, .ref (q (16 + 4 * j0))), (1, .int w), (2, .int a), (3, .int v)] := hl
  refine lv_aload_n hx hb d_C_start_0 rfl (lv_at hl 0 rfl) ?_
  refine g_C_21 C h (j0 := j0) hj d_C_start_1 ?_
  refine lv_if_ne (tgt := 15) hx hb d_C_start_4 (by decide) (fun hh1 => ?_) (fun hh1 => ?_)
  · skip
    refine lv_bipush (v := -2) hx hb d_C_start_15 (by decide) ?_
    exact z_retE C h hr hk (by first | rfl | (simp only [r_C_start, x_C_start, eq_false hh1, ↓reduceIte]; done) | (simp [r_C_start, x_C_start, eq_false hh1]; done)) (by first | rfl | (simp only [r_C_start, x_C_start, eq_false hh1, ↓reduceIte]; done) | (simp [r_C_start, x_C_start, eq_false hh1]; done)) (by first | rfl | (simp only [r_C_start, x_C_start, eq_false hh1, ↓reduceIte]; done) | (simp [r_C_start, x_C_start, eq_false hh1]; done)) d_C_start_17
  · skip
    refine lv_aload_n hx hb d_C_start_7 rfl (lv_at hl 0 rfl) ?_
    refine lv_iload_n hx hb d_C_start_8 rfl (lv_at hl 2 rfl) ?_
    refine z_callV (i := 16 + 4 * j0) C h (k_C_isStill l dC dI k q X M j0 a hj ha) co_C_isStill ml_C_45 im_C_isStill se_C_isStill in_C (zW_core hj) rfl hd_C_isStill ⟨by decide, by decide⟩ ⟨Nat.zero_le _, Nat.zero_le _⟩ hl.1 (Nat.le_of_ble_eq_true rfl) d_C_start_9 rfl (fun H locs h => ?_)
    refine W.eq (g2 := F0 m 12 ls [.int (r_C_isStill X M j0 a)]) rfl ?_
    have h : zH dC dI k q X M (zA q) s.heap H locs := h
    refine lv_if_ne (tgt := 18) hx hb d_C_start_12 (by decide) (fun hh2 => ?_) (fun hh2 => ?_)
    · skip
      refine lv_aload_n hx hb d_C_start_18 rfl (lv_at hl 0 rfl) ?_
      refine lv_iload_n hx hb d_C_start_19 rfl (lv_at hl 1 rfl) ?_
      refine p_C_25 C h (j0 := j0) hj d_C_start_20 (fun H locs h => ?_)
      refine lv_aload_n hx hb d_C_start_23 rfl (lv_at hl 0 rfl) ?_
      refine lv_iload_n hx hb d_C_start_24 rfl (lv_at hl 3 rfl) ?_
      refine p_C_29 C h (j0 := j0) hj d_C_start_25 (fun H locs h => ?_)
      refine lv_aload_n hx hb d_C_start_28 rfl (lv_at hl 0 rfl) ?_
      refine lv_iload_n hx hb d_C_start_29 rfl (lv_at hl 2 rfl) ?_
      refine z_callV (i := 16 + 4 * j0) C h (k_C_isEnough l dC dI k q (u3 (u3 X 7 j0 0 w) 8 j0 0 v) M j0 a hj ha) co_C_isEnough ml_C_49 im_C_isEnough se_C_isEnough in_C (zW_core hj) rfl hd_C_isEnough ⟨by decide, by decide⟩ ⟨Nat.zero_le _, Nat.zero_le _⟩ hl.1 (Nat.le_of_ble_eq_true rfl) d_C_start_30 rfl (fun H locs h => ?_)
      refine W.eq (g2 := F0 m 33 ls [.int (r_C_isEnough (u3 (u3 X 7 j0 0 w) 8 j0 0 v) M j0 a)]) rfl ?_
      have h : zH dC dI k q (u3 (u3 X 7 j0 0 w) 8 j0 0 v) M (zA q) s.heap H locs := h
      refine lv_if_eq (tgt := 43) hx hb d_C_start_33 (by decide) (fun hh3 => ?_) (fun hh3 => ?_)
      · skip
        refine lv_aload_n hx hb d_C_start_43 rfl (lv_at hl 0 rfl) ?_
        refine lv_iload_n hx hb d_C_start_44 rfl (lv_at hl 2 rfl) ?_
        refine z_callV (i := 16 + 4 * j0) C h (k_C_request l dC dI k q (u3 (u3 X 7 j0 0 w) 8 j0 0 v) M j0 a hj ha n hn hb9) co_C_request ml_C_56 im_C_request se_C_request in_C (zW_core hj) rfl hd_C_request ⟨by decide, by decide⟩ ⟨Nat.zero_le _, Nat.zero_le _⟩ hl.1 (Nat.le_of_ble_eq_true rfl) d_C_start_45 rfl (fun H locs h => ?_)
        refine W.eq (g2 := F0 m 48 ls []) rfl ?_
        have h : zH dC dI k q (x_C_request (u3 (u3 X 7 j0 0 w) 8 j0 0 v) M j0 a) M (zA q) s.heap H locs := h
        refine lv_iconst (v := 0) hx hb d_C_start_48 (by decide) ?_
        exact z_retE C h hr hk (by first | rfl | (simp only [r_C_start, x_C_start, eq_true hh1, eq_false hh2, eq_true hh3, ↓reduceIte]; done) | (simp [r_C_start, x_C_start, eq_true hh1, eq_false hh2, eq_true hh3]; done)) (by first | rfl | (simp only [r_C_start, x_C_start, eq_true hh1, eq_false hh2, eq_true hh3, ↓reduceIte]; done) | (simp [r_C_start, x_C_start, eq_true hh1, eq_false hh2, eq_true hh3]; done)) (by first | rfl | (simp only [r_C_start, x_C_start, eq_true hh1, eq_false hh2, eq_true hh3, ↓reduceIte]; done) | (simp [r_C_start, x_C_start, eq_true hh1, eq_false hh2, eq_true hh3]; done)) d_C_start_49
      · skip
        refine lv_aload_n hx hb d_C_start_36 rfl (lv_at hl 0 rfl) ?_
        refine lv_iload_n hx hb d_C_start_37 rfl (lv_at hl 2 rfl) ?_
        refine z_callV (i := 16 + 4 * j0) C h (k_C_finish l dC dI k q (u3 (u3 X 7 j0 0 w) 8 j0 0 v) M j0 a hj ha) co_C_finish ml_C_52 im_C_finish se_C_finish in_C (zW_core hj) rfl hd_C_finish ⟨by decide, by decide⟩ ⟨Nat.zero_le _, Nat.zero_le _⟩ hl.1 (Nat.le_of_ble_eq_true rfl) d_C_start_38 rfl (fun H locs h => ?_)
        refine W.eq (g2 := F0 m 41 ls []) rfl ?_
        have h : zH dC dI k q (x_C_finish (u3 (u3 X 7 j0 0 w) 8 j0 0 v) M j0 a) M (zA q) s.heap H locs := h
        refine lv_iconst (v := 1) hx hb d_C_start_41 (by decide) ?_
        exact z_retE C h hr hk (by first | rfl | (simp only [r_C_start, x_C_start, eq_true hh1, eq_false hh2, eq_false hh3, ↓reduceIte]; done) | (simp [r_C_start, x_C_start, eq_true hh1, eq_false hh2, eq_false hh3]; done)) (by first | rfl | (simp only [r_C_start, x_C_start, eq_true hh1, eq_false hh2, eq_false hh3, ↓reduceIte]; done) | (simp [r_C_start, x_C_start, eq_true hh1, eq_false hh2, eq_false hh3]; done)) (by first | rfl | (simp only [r_C_start, x_C_start, eq_true hh1, eq_false hh2, eq_false hh3, ↓reduceIte]; done) | (simp [r_C_start, x_C_start, eq_true hh1, eq_false hh2, eq_false hh3]; done)) d_C_start_42
    · skip
      refine lv_bipush (v := -2) hx hb d_C_start_15 (by decide) ?_
      exact z_retE C h hr hk (by first | rfl | (simp only [r_C_start, x_C_start, eq_true hh1, eq_true hh2, ↓reduceIte]; done) | (simp [r_C_start, x_C_start, eq_true hh1, eq_true hh2]; done)) (by first | rfl | (simp only [r_C_start, x_C_start, eq_true hh1, eq_true hh2, ↓reduceIte]; done) | (simp [r_C_start, x_C_start, eq_true hh1, eq_true hh2]; done)) (by first | rfl | (simp only [r_C_start, x_C_start, eq_true hh1, eq_true hh2, ↓reduceIte]; done) | (simp [r_C_start, x_C_start, eq_true hh1, eq_true hh2]; done)) d_C_start_17
