theorem four_in {x : Int32} (h : ¬ m_four x = 0) : vp_in x 4 := by
  unfold m_four at h
  split at h
  · exact absurd rfl h
  · next h1 =>
    split at h
    · exact absurd rfl h
    · next h2 =>
      rw [vp_in_iff]
      rw [Int32.lt_iff_toInt_lt] at h1 h2
      have e3 : (3 : Int32).toInt = 3 := rfl
      have e0 : (0 : Int32).toInt = 0 := rfl
      omega
theorem rows_in {x y : Int32} {n N : Nat} (h0 : ¬ x < 0) (h : x < y) (hy : y = nI n) (hn : n ≤ N) (hN : N < 2 ^ 31) : vp_in x N := by
  rw [hy] at h
  rw [vp_in_iff]
  rw [Int32.lt_iff_toInt_lt] at h0 h
  rw [nI_toInt (by omega)] at h
  have e0 : (0 : Int32).toInt = 0 := rfl
  omega
theorem z_out6 {x : Int32} (h0 : ¬ x = 0) (h1 : ¬ x = 1) (h2 : ¬ x = 2) (h3 : ¬ x = 3) (h4 : ¬ x = 4) (h5 : ¬ x = 5) : x.toInt < 0 ∨ 5 < x.toInt := by
  rw [← Int32.toInt_inj] at h0 h1 h2 h3 h4 h5
  have e0 : (0 : Int32).toInt = 0 := rfl
  have e1 : (1 : Int32).toInt = 1 := rfl
  have e2 : (2 : Int32).toInt = 2 := rfl
  have e3 : (3 : Int32).toInt = 3 := rfl
  have e4 : (4 : Int32).toInt = 4 := rfl
  have e5 : (5 : Int32).toInt = 5 := rfl
  omega
theorem hd_M_finish : y_M_finish.cls ≠ "java/lang/invoke/MethodHandle" ∧ y_M_finish.cls ≠ "java/lang/invoke/VarHandle" ∧ (parseMethodDescriptor y_M_finish.desc).map (fun d => d.parameters.length) = some 2 := by decide +kernel
def jL4_M_finish_32_1 (X : zXS) (M : zMS) (co : Int32) (a : Int32) : Int32 := (if (M 7 (Int32.toNatClampNeg co)) = 1 then (M 8 (Int32.toNatClampNeg co)) else (M 1 (Int32.toNatClampNeg ((4 * co) + a))))
def jS0_M_finish_74_1 (X : zXS) (M : zMS) (co : Int32) (a : Int32) : Int32 := (if (M 7 (Int32.toNatClampNeg co)) = 1 then (M 8 (Int32.toNatClampNeg co)) else ((jL4_M_finish_32_1 X M co a) + (M 8 (Int32.toNatClampNeg co))))
def jM_M_finish_82_1 (X : zXS) (M : zMS) (co : Int32) (a : Int32) : zMS := (if (M 7 (Int32.toNatClampNeg co)) ≤ 0 then M else (u2 (u2 M 1 (Int32.toNatClampNeg ((4 * co) + a)) (jS0_M_finish_74_1 X M co a)) 0 (Int32.toNatClampNeg ((4 * co) + a)) 3))
def m_M_finish (X : zXS) (M : zMS) (co : Int32) (a : Int32) : zMS := (u2 (u2 (u2 (jM_M_finish_82_1 X M co a) 10 (Int32.toNatClampNeg co) (jL4_M_finish_32_1 X M co a)) 9 (Int32.toNatClampNeg co) (((jM_M_finish_82_1 X M co a) 9 (Int32.toNatClampNeg co)) + 1)) 5 (Int32.toNatClampNeg co) 0)
set_option maxHeartbeats 1000000 in
set_option maxRecDepth 100000 in
theorem k_M_finish (l : Launch) (dC : Nat → ClassId) (dI : Nat → Nat → Nat) (k : Nat → ClassId) (q : Nat → Nat) (X : zXS) (M : zMS) (co : Int32) (a : Int32)  (hc4 : vp_in co 4) (ha : vp_in a 4) : zMet l dC dI k q y_M_finish c_M_finish 5 none 0 0 [.ref (q 37), .int co, .int a] none X M X (m_M_finish X M co a) := by
  refine zMet.of (by decide) (Nat.le_of_ble_eq_true rfl) ?_
  intro p e s m args below meth c ls C hr hk hl h
  have hx := C.1
  have hb := C.2.1
  have hl : lv_has ls 5 [(0, .ref (q 37)), (1, .int co), (2, .int a)] := hl
  refine lv_iconst (v := 4) hx hb d_M_finish_0 (by decide) ?_
  refine lv_iload_n hx hb d_M_finish_1 rfl (lv_at hl 1 rfl) ?_
  refine lv_imul hx hb d_M_finish_2 ?_
  refine lv_iload_n hx hb d_M_finish_3 rfl (lv_at hl 2 rfl) ?_
  refine lv_iadd hx hb d_M_finish_4 ?_
  refine lv_istore_n hx hb d_M_finish_5 rfl hl (by decide) rfl (fun ls hl => ?_)
  have hl : lv_has ls 5 [(3, .int ((4 * co) + a)), (0, .ref (q 37)), (1, .int co), (2, .int a)] := hl
  refine lv_aload_n hx hb d_M_finish_6 rfl (lv_at hl 1 rfl) ?_
  refine g_M_13 C h d_M_finish_7 ?_
  refine lv_iload_n hx hb d_M_finish_10 rfl (lv_at hl 0 rfl) ?_
  refine l_M1 C h (vp4 hc4 ha) d_M_finish_11 ?_
  refine lv_istore hx hb d_M_finish_12 hl (by decide) rfl (fun ls hl => ?_)
  have hl : lv_has ls 5 [(4, .int (M 1 (Int32.toNatClampNeg ((4 * co) + a)))), (3, .int ((4 * co) + a)), (0, .ref (q 37)), (1, .int co), (2, .int a)] := hl
  have J32_1 : ∀ (ls : Array Slot) (H : Heap) (locs : List Loc), lv_has ls 5 [(0, .ref (q 37)), (1, .int co), (2, .int a), (3, .int ((4 * co) + a)), (4, .int (jL4_M_finish_32_1 X M co a))] → zH dC dI k q X M (zA q) s.heap H locs → W p l e { frames := 0, cells := 0, slots := 0, locals := 0 } s m args below meth c H locs 0 0 (MQ below (zQc dC dI k q X (m_M_finish X M co a) none) args s 0 0 (zA q)) (F0 m 32 ls []) := by
    intro ls H locs hl h
    have J82_1 : ∀ (ls : Array Slot) (H : Heap) (locs : List Loc), lv_has ls 5 [(0, .ref (q 37)), (1, .int co), (2, .int a), (3, .int ((4 * co) + a)), (4, .int (jL4_M_finish_32_1 X M co a))] → zH dC dI k q X (jM_M_finish_82_1 X M co a) (zA q) s.heap H locs → W p l e { frames := 0, cells := 0, slots := 0, locals := 0 } s m args below meth c H locs 0 0 (MQ below (zQc dC dI k q X (m_M_finish X M co a) none) args s 0 0 (zA q)) (F0 m 82 ls []) := by
      intro ls H locs hl h
      refine lv_aload_n hx hb d_M_finish_82 rfl (lv_at hl 0 rfl) ?_
      refine g_M_41 C h d_M_finish_83 ?_
      refine lv_iload_n hx hb d_M_finish_86 rfl (lv_at hl 1 rfl) ?_
      refine lv_iload hx hb d_M_finish_87 (lv_at hl 4 rfl) ?_
      refine s_M10 C h hc4 d_M_finish_89 (fun H locs h => ?_)
      refine lv_aload_n hx hb d_M_finish_90 rfl (lv_at hl 0 rfl) ?_
      refine g_M_38 C h d_M_finish_91 ?_
      refine lv_iload_n hx hb d_M_finish_94 rfl (lv_at hl 1 rfl) ?_
      refine lv_dup2_11 hx hb d_M_finish_95 rfl rfl ?_
      refine l_M9 C h hc4 d_M_finish_96 ?_
      refine z_top (y := (jM_M_finish_82_1 X M co a) 9 (Int32.toNatClampNeg co)) rfl ?_
      refine lv_iconst (v := 1) hx hb d_M_finish_97 (by decide) ?_
      refine lv_iadd hx hb d_M_finish_98 ?_
      refine s_M9 C h hc4 d_M_finish_99 (fun H locs h => ?_)
      refine lv_aload_n hx hb d_M_finish_100 rfl (lv_at hl 0 rfl) ?_
      refine g_M_25 C h d_M_finish_101 ?_
      refine lv_iload_n hx hb d_M_finish_104 rfl (lv_at hl 1 rfl) ?_
      refine lv_iconst (v := 0) hx hb d_M_finish_105 (by decide) ?_
      refine s_M5 C h hc4 (Or.inl rfl) d_M_finish_106 (fun H locs h => ?_)
      exact z_retvE C h hr hk (by first | rfl | (simp only [m_M_finish, ↓reduceIte]; done) | (simp [m_M_finish]; done)) (by first | rfl | (simp only [m_M_finish, ↓reduceIte]; done) | (simp [m_M_finish]; done)) d_M_finish_107
    refine lv_aload_n hx hb d_M_finish_32 rfl (lv_at hl 0 rfl) ?_
    refine g_M_32 C h d_M_finish_33 ?_
    refine lv_iload_n hx hb d_M_finish_36 rfl (lv_at hl 1 rfl) ?_
    refine l_M7 C h hc4 d_M_finish_37 ?_
    refine lv_if_le (tgt := 82) hx hb d_M_finish_38 (by decide) (fun hh1 => ?_) (fun hh1 => ?_)
    · skip
      exact J82_1 _ _ _ (lv_sub hl [0, 1, 2, 3, 4] rfl) (by rw [show (jM_M_finish_82_1 X M co a) = M from (by first | (simp only [jM_M_finish_82_1, eq_true hh1, ↓reduceIte]; done) | (simp [jM_M_finish_82_1, eq_true hh1]; done))]; exact h)
    · skip
      refine lv_aload_n hx hb d_M_finish_41 rfl (lv_at hl 0 rfl) ?_
      refine g_M_13 C h d_M_finish_42 ?_
      refine lv_iload_n hx hb d_M_finish_45 rfl (lv_at hl 3 rfl) ?_
      have J74_1 : ∀ (ls : Array Slot) (H : Heap) (locs : List Loc), lv_has ls 5 [(0, .ref (q 37)), (1, .int co), (2, .int a), (3, .int ((4 * co) + a)), (4, .int (jL4_M_finish_32_1 X M co a))] → zH dC dI k q X M (zA q) s.heap H locs → W p l e { frames := 0, cells := 0, slots := 0, locals := 0 } s m args below meth c H locs 0 0 (MQ below (zQc dC dI k q X (m_M_finish X M co a) none) args s 0 0 (zA q)) (F0 m 74 ls [.int (jS0_M_finish_74_1 X M co a), .int ((4 * co) + a), .ref (q 39)]) := by
        intro ls H locs hl h
        refine s_M1 C h (vp4 hc4 ha) d_M_finish_74 (fun H locs h => ?_)
        refine lv_aload_n hx hb d_M_finish_75 rfl (lv_at hl 0 rfl) ?_
        refine g_M_7 C h d_M_finish_76 ?_
        refine lv_iload_n hx hb d_M_finish_79 rfl (lv_at hl 3 rfl) ?_
        refine lv_iconst (v := 3) hx hb d_M_finish_80 (by decide) ?_
        refine s_M0 C h (vp4 hc4 ha) d_M_finish_81 (fun H locs h => ?_)
        exact J82_1 _ _ _ (lv_sub hl [0, 1, 2, 3, 4] rfl) (by rw [show (jM_M_finish_82_1 X M co a) = (u2 (u2 M 1 (Int32.toNatClampNeg ((4 * co) + a)) (jS0_M_finish_74_1 X M co a)) 0 (Int32.toNatClampNeg ((4 * co) + a)) 3) from (by first | (simp only [jM_M_finish_82_1, eq_false hh1, ↓reduceIte]; done) | (simp [jM_M_finish_82_1, eq_false hh1]; done))]; exact h)
      refine lv_aload_n hx hb d_M_finish_46 rfl (lv_at hl 0 rfl) ?_
      refine g_M_32 C h d_M_finish_47 ?_
      refine lv_iload_n hx hb d_M_finish_50 rfl (lv_at hl 1 rfl) ?_
      refine l_M7 C h hc4 d_M_finish_51 ?_
      refine lv_iconst (v := 1) hx hb d_M_finish_52 (by decide) ?_
      refine lv_icmp_ne (tgt := 65) hx hb d_M_finish_53 (by decide) (fun hh2 => ?_) (fun hh2 => ?_)
      · skip
        refine lv_iload hx hb d_M_finish_65 (lv_at hl 4 rfl) ?_
        refine lv_aload_n hx hb d_M_finish_67 rfl (lv_at hl 0 rfl) ?_
        refine g_M_35 C h d_M_finish_68 ?_
        refine lv_iload_n hx hb d_M_finish_71 rfl (lv_at hl 1 rfl) ?_
        refine l_M8 C h hc4 d_M_finish_72 ?_
        refine lv_iadd hx hb d_M_finish_73 ?_
        have J := J74_1 _ _ _ (lv_sub hl [0, 1, 2, 3, 4] rfl) h
        rw [show (jS0_M_finish_74_1 X M co a) = ((jL4_M_finish_32_1 X M co a) + (M 8 (Int32.toNatClampNeg co))) from (by first | (simp only [jS0_M_finish_74_1, eq_false hh1, eq_false hh2, ↓reduceIte]; done) | (simp [jS0_M_finish_74_1, eq_false hh1, eq_false hh2]; done))] at J
        exact J
      · skip
        refine lv_aload_n hx hb d_M_finish_56 rfl (lv_at hl 0 rfl) ?_
        refine g_M_35 C h d_M_finish_57 ?_
        refine lv_iload_n hx hb d_M_finish_60 rfl (lv_at hl 1 rfl) ?_
        refine l_M8 C h hc4 d_M_finish_61 ?_
        refine lv_goto (tgt := 74) hx hb d_M_finish_62 (by decide) ?_
        have J := J74_1 _ _ _ (lv_sub hl [0, 1, 2, 3, 4] rfl) h
        rw [show (jS0_M_finish_74_1 X M co a) = (M 8 (Int32.toNatClampNeg co)) from (by first | (simp only [jS0_M_finish_74_1, eq_false hh1, eq_true hh2, ↓reduceIte]; done) | (simp [jS0_M_finish_74_1, eq_false hh1, eq_true hh2]; done))] at J
        exact J
  refine lv_aload_n hx hb d_M_finish_14 rfl (lv_at hl 2 rfl) ?_
  refine g_M_32 C h d_M_finish_15 ?_
  refine lv_iload_n hx hb d_M_finish_18 rfl (lv_at hl 3 rfl) ?_
  refine l_M7 C h hc4 d_M_finish_19 ?_
  refine lv_iconst (v := 1) hx hb d_M_finish_20 (by decide) ?_
  refine lv_icmp_ne (tgt := 32) hx hb d_M_finish_21 (by decide) (fun hh3 => ?_) (fun hh3 => ?_)
  · skip
    exact J32_1 _ _ _ (by have hl := lv_sub hl [2, 3, 4, 1, 0] rfl; rw [show (jL4_M_finish_32_1 X M co a) = (M 1 (Int32.toNatClampNeg ((4 * co) + a))) from (by first | (simp only [jL4_M_finish_32_1, eq_false hh3, ↓reduceIte]; done) | (simp [jL4_M_finish_32_1, eq_false hh3]; done))]; exact hl) h
  · skip
    refine lv_aload_n hx hb d_M_finish_24 rfl (lv_at hl 2 rfl) ?_
    refine g_M_35 C h d_M_finish_25 ?_
    refine lv_iload_n hx hb d_M_finish_28 rfl (lv_at hl 3 rfl) ?_
    refine l_M8 C h hc4 d_M_finish_29 ?_
    refine lv_istore hx hb d_M_finish_30 hl (by decide) rfl (fun ls hl => ?_)
    have hl : lv_has ls 5 [(4, .int (M 8 (Int32.toNatClampNeg co))), (3, .int ((4 * co) + a)), (0, .ref (q 37)), (1, .int co), (2, .int a)] := hl
    exact J32_1 _ _ _ (by have hl := lv_sub hl [2, 3, 4, 1, 0] rfl; rw [show (jL4_M_finish_32_1 X M co a) = (M 8 (Int32.toNatClampNeg co)) from (by first | (simp only [jL4_M_finish_32_1, eq_true hh3, ↓reduceIte]; done) | (simp [jL4_M_finish_32_1, eq_true hh3]; done))]; exact hl) h
theorem hd_M_acknowledged : y_M_acknowledged.cls ≠ "java/lang/invoke/MethodHandle" ∧ y_M_acknowledged.cls ≠ "java/lang/invoke/VarHandle" ∧ (parseMethodDescriptor y_M_acknowledged.desc).map (fun d => d.parameters.length) = some 2 := by decide +kernel
def m_M_acknowledged (X : zXS) (M : zMS) (co : Int32) (a : Int32) : zMS := (if (M 3 (Int32.toNatClampNeg ((4 * co) + a))) = (M 2 (Int32.toNatClampNeg ((4 * co) + a))) then (m_M_finish X (u2 M 0 (Int32.toNatClampNeg ((4 * co) + a)) 3) co a) else M)
set_option maxHeartbeats 1000000 in
set_option maxRecDepth 100000 in
theorem k_M_acknowledged (l : Launch) (dC : Nat → ClassId) (dI : Nat → Nat → Nat) (k : Nat → ClassId) (q : Nat → Nat) (X : zXS) (M : zMS) (co : Int32) (a : Int32)  (hc4 : vp_in co 4) (ha : vp_in a 4) : zMet l dC dI k q y_M_acknowledged c_M_acknowledged 4 none 1 24 [.ref (q 37), .int co, .int a] none X M X (m_M_acknowledged X M co a) := by
  refine zMet.of (by decide) (Nat.le_of_ble_eq_true rfl) ?_
  intro p e s m args below meth c ls C hr hk hl h
  have hx := C.1
  have hb := C.2.1
  have hl : lv_has ls 4 [(0, .ref (q 37)), (1, .int co), (2, .int a)] := hl
  refine lv_iconst (v := 4) hx hb d_M_acknowledged_0 (by decide) ?_
  refine lv_iload_n hx hb d_M_acknowledged_1 rfl (lv_at hl 1 rfl) ?_
  refine lv_imul hx hb d_M_acknowledged_2 ?_
  refine lv_iload_n hx hb d_M_acknowledged_3 rfl (lv_at hl 2 rfl) ?_
  refine lv_iadd hx hb d_M_acknowledged_4 ?_
  refine lv_istore_n hx hb d_M_acknowledged_5 rfl hl (by decide) rfl (fun ls hl => ?_)
  have hl : lv_has ls 4 [(3, .int ((4 * co) + a)), (0, .ref (q 37)), (1, .int co), (2, .int a)] := hl
  refine lv_aload_n hx hb d_M_acknowledged_6 rfl (lv_at hl 1 rfl) ?_
  refine g_M_19 C h d_M_acknowledged_7 ?_
  refine lv_iload_n hx hb d_M_acknowledged_10 rfl (lv_at hl 0 rfl) ?_
  refine l_M3 C h (vp4 hc4 ha) d_M_acknowledged_11 ?_
  refine lv_aload_n hx hb d_M_acknowledged_12 rfl (lv_at hl 1 rfl) ?_
  refine g_M_16 C h d_M_acknowledged_13 ?_
  refine lv_iload_n hx hb d_M_acknowledged_16 rfl (lv_at hl 0 rfl) ?_
  refine l_M2 C h (vp4 hc4 ha) d_M_acknowledged_17 ?_
  refine lv_icmp_eq (tgt := 22) hx hb d_M_acknowledged_18 (by decide) (fun hh1 => ?_) (fun hh1 => ?_)
  · skip
    refine lv_aload_n hx hb d_M_acknowledged_22 rfl (lv_at hl 1 rfl) ?_
    refine g_M_7 C h d_M_acknowledged_23 ?_
    refine lv_iload_n hx hb d_M_acknowledged_26 rfl (lv_at hl 0 rfl) ?_
    refine lv_iconst (v := 3) hx hb d_M_acknowledged_27 (by decide) ?_
    refine s_M0 C h (vp4 hc4 ha) d_M_acknowledged_28 (fun H locs h => ?_)
    refine lv_aload_n hx hb d_M_acknowledged_29 rfl (lv_at hl 1 rfl) ?_
    refine lv_iload_n hx hb d_M_acknowledged_30 rfl (lv_at hl 2 rfl) ?_
    refine lv_iload_n hx hb d_M_acknowledged_31 rfl (lv_at hl 3 rfl) ?_
    refine z_callV (i := 37) C h (k_M_finish l dC dI k q X (u2 M 0 (Int32.toNatClampNeg ((4 * co) + a)) 3) co a hc4 ha) co_M_finish ml_M_136 im_M_finish se_M_finish in_M rfl rfl hd_M_finish ⟨by decide, by decide⟩ ⟨Nat.zero_le _, Nat.zero_le _⟩ hl.1 (Nat.le_of_ble_eq_true rfl) d_M_acknowledged_32 rfl (fun H locs h => ?_)
    refine W.eq (g2 := F0 m 35 ls []) rfl ?_
    have h : zH dC dI k q X (m_M_finish X (u2 M 0 (Int32.toNatClampNeg ((4 * co) + a)) 3) co a) (zA q) s.heap H locs := h
    exact z_retvE C h hr hk (by first | rfl | (simp only [m_M_acknowledged, eq_true hh1, ↓reduceIte]; done) | (simp [m_M_acknowledged, eq_true hh1]; done)) (by first | rfl | (simp only [m_M_acknowledged, eq_true hh1, ↓reduceIte]; done) | (simp [m_M_acknowledged, eq_true hh1]; done)) d_M_acknowledged_35
  · skip
    exact z_retvE C h hr hk (by first | rfl | (simp only [m_M_acknowledged, eq_false hh1, ↓reduceIte]; done) | (simp [m_M_acknowledged, eq_false hh1]; done)) (by first | rfl | (simp only [m_M_acknowledged, eq_false hh1, ↓reduceIte]; done) | (simp [m_M_acknowledged, eq_false hh1]; done)) d_M_acknowledged_21
theorem hd_M_toCore : y_M_toCore.cls ≠ "java/lang/invoke/MethodHandle" ∧ y_M_toCore.cls ≠ "java/lang/invoke/VarHandle" ∧ (parseMethodDescriptor y_M_toCore.desc).map (fun d => d.parameters.length) = some 6 := by decide +kernel
def jS0_M_toCore_323_1 (X : zXS) (M : zMS) (w : Int32) (a : Int32) (co : Int32) (r : Int32) (nn : Int32) (v : Int32) : Int32 := (if (M 0 (Int32.toNatClampNeg ((4 * co) + a))) = 7 then 8 else 6)
def jS0_M_toCore_66_1 (X : zXS) (M : zMS) (w : Int32) (a : Int32) (co : Int32) (r : Int32) (nn : Int32) (v : Int32) : Int32 := (if (M 0 (Int32.toNatClampNeg ((4 * co) + a))) = 2 then 1 else (if (M 0 (Int32.toNatClampNeg ((4 * co) + a))) = 3 then 1 else (if (M 0 (Int32.toNatClampNeg ((4 * co) + a))) = 9 then 1 else (if (M 0 (Int32.toNatClampNeg ((4 * co) + a))) = 10 then 1 else 0))))
def jS0_M_toCore_93_1 (X : zXS) (M : zMS) (w : Int32) (a : Int32) (co : Int32) (r : Int32) (nn : Int32) (v : Int32) : Int32 := (if (M 0 (Int32.toNatClampNeg ((4 * co) + a))) = 1 then 1 else (if (M 0 (Int32.toNatClampNeg ((4 * co) + a))) = 7 then 1 else (if (M 0 (Int32.toNatClampNeg ((4 * co) + a))) = 11 then 1 else 0)))
def jM_M_toCore_126_1 (X : zXS) (M : zMS) (w : Int32) (a : Int32) (co : Int32) (r : Int32) (nn : Int32) (v : Int32) : zMS := (if 7 ≤ w then (u2 M 0 (Int32.toNatClampNeg ((4 * co) + a)) (m_bec w (M 0 (Int32.toNatClampNeg ((4 * co) + a))))) else (if (jS0_M_toCore_66_1 X M w a co r nn v) = 0 then (u2 M 0 (Int32.toNatClampNeg ((4 * co) + a)) (m_bec w (M 0 (Int32.toNatClampNeg ((4 * co) + a))))) else (m_send (u2 M 0 (Int32.toNatClampNeg ((4 * co) + a)) (m_bec w (M 0 (Int32.toNatClampNeg ((4 * co) + a))))) 9 a co r r 0 (M 1 (Int32.toNatClampNeg ((4 * co) + a))))))
def jM_M_toCore_155_1 (X : zXS) (M : zMS) (w : Int32) (a : Int32) (co : Int32) (r : Int32) (nn : Int32) (v : Int32) : zMS := (if w = 5 then (if (jS0_M_toCore_66_1 X M w a co r nn v) = 0 then (jM_M_toCore_126_1 X M w a co r nn v) else (m_send (jM_M_toCore_126_1 X M w a co r nn v) 9 a co 4 r 0 ((jM_M_toCore_126_1 X M w a co r nn v) 1 (Int32.toNatClampNeg ((4 * co) + a))))) else (jM_M_toCore_126_1 X M w a co r nn v))
def jM_M_toCore_179_1 (X : zXS) (M : zMS) (w : Int32) (a : Int32) (co : Int32) (r : Int32) (nn : Int32) (v : Int32) : zMS := (if w = 7 then (if (jS0_M_toCore_93_1 X M w a co r nn v) = 0 then (jM_M_toCore_155_1 X M w a co r nn v) else (m_send (jM_M_toCore_155_1 X M w a co r nn v) 11 a co r r 0 0)) else (jM_M_toCore_155_1 X M w a co r nn v))
def m_M_toCore (X : zXS) (M : zMS) (w : Int32) (a : Int32) (co : Int32) (r : Int32) (nn : Int32) (v : Int32) : zMS := (if 8 ≤ w then (if w = 8 then (u2 M 0 (Int32.toNatClampNeg ((4 * co) + a)) 0) else (if w = 11 then (if (M 0 (Int32.toNatClampNeg ((4 * co) + a))) = 6 then (m_M_acknowledged X (u2 M 3 (Int32.toNatClampNeg ((4 * co) + a)) ((M 3 (Int32.toNatClampNeg ((4 * co) + a))) + 1)) co a) else (if (M 0 (Int32.toNatClampNeg ((4 * co) + a))) = 8 then (m_M_acknowledged X (u2 M 3 (Int32.toNatClampNeg ((4 * co) + a)) ((M 3 (Int32.toNatClampNeg ((4 * co) + a))) + 1)) co a) else (u2 M 3 (Int32.toNatClampNeg ((4 * co) + a)) ((M 3 (Int32.toNatClampNeg ((4 * co) + a))) + 1)))) else (if w = 10 then (m_M_finish X (u2 (u2 M 1 (Int32.toNatClampNeg ((4 * co) + a)) v) 0 (Int32.toNatClampNeg ((4 * co) + a)) 2) co a) else (if (M 0 (Int32.toNatClampNeg ((4 * co) + a))) = 4 then (m_M_finish X (u2 (u2 M 1 (Int32.toNatClampNeg ((4 * co) + a)) v) 0 (Int32.toNatClampNeg ((4 * co) + a)) 1) co a) else (m_M_acknowledged X (u2 (u2 (u2 M 1 (Int32.toNatClampNeg ((4 * co) + a)) v) 2 (Int32.toNatClampNeg ((4 * co) + a)) nn) 0 (Int32.toNatClampNeg ((4 * co) + a)) (jS0_M_toCore_323_1 X M w a co r nn v)) co a))))) else (jM_M_toCore_179_1 X M w a co r nn v))
set_option maxHeartbeats 1000000 in
set_option maxRecDepth 100000 in
theorem k_M_toCore (l : Launch) (dC : Nat → ClassId) (dI : Nat → Nat → Nat) (k : Nat → ClassId) (q : Nat → Nat) (X : zXS) (M : zMS) (w : Int32) (a : Int32) (co : Int32) (r : Int32) (nn : Int32) (v : Int32)  (n : Nat) (hn : M 15 0 = nI n) (hb9 : n + 8 < 200) (hc4 : vp_in co 4) (ha : vp_in a 4) (hr4 : vp_in r 4) : zMet l dC dI k q y_M_toCore c_M_toCore 11 none 2 53 [.ref (q 37), .int w, .int a, .int co, .int r, .int nn, .int v] none X M X (m_M_toCore X M w a co r nn v) := by
  refine zMet.of (by decide) (Nat.le_of_ble_eq_true rfl) ?_
  intro p e s m args below meth c ls C hr hk hl h
  have hx := C.1
  have hb := C.2.1
  have hl : lv_has ls 11 [(0, .ref (q 37)), (1, .int w), (2, .int a), (3, .int co), (4, .int r), (5, .int nn), (6, .int v)] := hl
  refine lv_iconst (v := 4) hx hb d_M_toCore_0 (by decide) ?_
  refine lv_iload_n hx hb d_M_toCore_1 rfl (lv_at hl 3 rfl) ?_
  refine lv_imul hx hb d_M_toCore_2 ?_
  refine lv_iload_n hx hb d_M_toCore_3 rfl (lv_at hl 2 rfl) ?_
  refine lv_iadd hx hb d_M_toCore_4 ?_
  refine lv_istore hx hb d_M_toCore_5 hl (by decide) rfl (fun ls hl => ?_)
  have hl : lv_has ls 11 [(7, .int ((4 * co) + a)), (0, .ref (q 37)), (1, .int w), (2, .int a), (3, .int co), (4, .int r), (5, .int nn), (6, .int v)] := hl
  refine lv_aload_n hx hb d_M_toCore_7 rfl (lv_at hl 1 rfl) ?_
  refine g_M_7 C h d_M_toCore_8 ?_
  refine lv_iload hx hb d_M_toCore_11 (lv_at hl 0 rfl) ?_
  refine l_M0 C h (vp4 hc4 ha) d_M_toCore_13 ?_
  refine lv_istore hx hb d_M_toCore_14 hl (by decide) rfl (fun ls hl => ?_)
  have hl : lv_has ls 11 [(8, .int (M 0 (Int32.toNatClampNeg ((4 * co) + a)))), (7, .int ((4 * co) + a)), (0, .ref (q 37)), (1, .int w), (2, .int a), (3, .int co), (4, .int r), (5, .int nn), (6, .int v)] := hl
  refine lv_iload_n hx hb d_M_toCore_16 rfl (lv_at hl 3 rfl) ?_
  refine lv_bipush (v := 8) hx hb d_M_toCore_17 (by decide) ?_
  refine lv_icmp_ge (tgt := 182) hx hb d_M_toCore_19 (by decide) (fun hh1 => ?_) (fun hh1 => ?_)
  · skip
    refine lv_iload_n hx hb d_M_toCore_182 rfl (lv_at hl 3 rfl) ?_
    refine lv_bipush (v := 8) hx hb d_M_toCore_183 (by decide) ?_
    refine lv_icmp_ne (tgt := 199) hx hb d_M_toCore_185 (by decide) (fun hh2 => ?_) (fun hh2 => ?_)
    · skip
      refine lv_iload_n hx hb d_M_toCore_199 rfl (lv_at hl 3 rfl) ?_
      refine lv_bipush (v := 11) hx hb d_M_toCore_200 (by decide) ?_
      refine lv_icmp_ne (tgt := 239) hx hb d_M_toCore_202 (by decide) (fun hh3 => ?_) (fun hh3 => ?_)
      · skip
        refine lv_aload_n hx hb d_M_toCore_239 rfl (lv_at hl 2 rfl) ?_
        refine g_M_13 C h d_M_toCore_240 ?_
        refine lv_iload hx hb d_M_toCore_243 (lv_at hl 1 rfl) ?_
        refine lv_iload hx hb d_M_toCore_245 (lv_at hl 8 rfl) ?_
        refine s_M1 C h (vp4 hc4 ha) d_M_toCore_247 (fun H locs h => ?_)
        refine lv_iload_n hx hb d_M_toCore_248 rfl (lv_at hl 3 rfl) ?_
        refine lv_bipush (v := 10) hx hb d_M_toCore_249 (by decide) ?_
        refine lv_icmp_ne (tgt := 271) hx hb d_M_toCore_251 (by decide) (fun hh4 => ?_) (fun hh4 => ?_)
        · skip
          refine lv_iload hx hb d_M_toCore_271 (lv_at hl 0 rfl) ?_
          refine lv_iconst (v := 4) hx hb d_M_toCore_273 (by decide) ?_
          refine lv_icmp_ne (tgt := 294) hx hb d_M_toCore_274 (by decide) (fun hh5 => ?_) (fun hh5 => ?_)
          · skip
            refine lv_aload_n hx hb d_M_toCore_294 rfl (lv_at hl 2 rfl) ?_
            refine g_M_16 C h d_M_toCore_295 ?_
            refine lv_iload hx hb d_M_toCore_298 (lv_at hl 1 rfl) ?_
            refine lv_iload hx hb d_M_toCore_300 (lv_at hl 7 rfl) ?_
            refine s_M2 C h (vp4 hc4 ha) d_M_toCore_302 (fun H locs h => ?_)
            refine lv_aload_n hx hb d_M_toCore_303 rfl (lv_at hl 2 rfl) ?_
            refine g_M_7 C h d_M_toCore_304 ?_
            refine lv_iload hx hb d_M_toCore_307 (lv_at hl 1 rfl) ?_
            have J323_1 : ∀ (ls : Array Slot) (H : Heap) (locs : List Loc), lv_has ls 11 [(0, .ref (q 37)), (1, .int w), (2, .int a), (3, .int co), (4, .int r), (5, .int nn), (6, .int v), (7, .int ((4 * co) + a)), (8, .int (M 0 (Int32.toNatClampNeg ((4 * co) + a))))] → zH dC dI k q X (u2 (u2 M 1 (Int32.toNatClampNeg ((4 * co) + a)) v) 2 (Int32.toNatClampNeg ((4 * co) + a)) nn) (zA q) s.heap H locs → W p l e { frames := 2, cells := 0, slots := 0, locals := 53 } s m args below meth c H locs 0 0 (MQ below (zQc dC dI k q X (m_M_toCore X M w a co r nn v) none) args s 0 0 (zA q)) (F0 m 323 ls [.int (jS0_M_toCore_323_1 X M w a co r nn v), .int ((4 * co) + a), .ref (q 38)]) := by
              intro ls H locs hl h
              refine s_M0 C h (vp4 hc4 ha) d_M_toCore_323 (fun H locs h => ?_)
              refine lv_aload_n hx hb d_M_toCore_324 rfl (lv_at hl 0 rfl) ?_
              refine lv_iload_n hx hb d_M_toCore_325 rfl (lv_at hl 3 rfl) ?_
              refine lv_iload_n hx hb d_M_toCore_326 rfl (lv_at hl 2 rfl) ?_
              refine z_callV (i := 37) C h (k_M_acknowledged l dC dI k q X (u2 (u2 (u2 M 1 (Int32.toNatClampNeg ((4 * co) + a)) v) 2 (Int32.toNatClampNeg ((4 * co) + a)) nn) 0 (Int32.toNatClampNeg ((4 * co) + a)) (jS0_M_toCore_323_1 X M w a co r nn v)) co a hc4 ha) co_M_acknowledged ml_M_133 im_M_acknowledged se_M_acknowledged in_M rfl rfl hd_M_acknowledged ⟨by decide, by decide⟩ ⟨Nat.zero_le _, Nat.zero_le _⟩ hl.1 (Nat.le_of_ble_eq_true rfl) d_M_toCore_327 rfl (fun H locs h => ?_)
              refine W.eq (g2 := F0 m 330 ls []) rfl ?_
              have h : zH dC dI k q X (m_M_acknowledged X (u2 (u2 (u2 M 1 (Int32.toNatClampNeg ((4 * co) + a)) v) 2 (Int32.toNatClampNeg ((4 * co) + a)) nn) 0 (Int32.toNatClampNeg ((4 * co) + a)) (jS0_M_toCore_323_1 X M w a co r nn v)) co a) (zA q) s.heap H locs := h
              exact z_retvE C h hr hk (by first | rfl | (simp only [m_M_toCore, eq_true hh1, eq_false hh2, eq_false hh3, eq_false hh4, eq_false hh5, ↓reduceIte]; done) | (simp [m_M_toCore, eq_true hh1, eq_false hh2, eq_false hh3, eq_false hh4, eq_false hh5]; done)) (by first | rfl | (simp only [m_M_toCore, eq_true hh1, eq_false hh2, eq_false hh3, eq_false hh4, eq_false hh5, ↓reduceIte]; done) | (simp [m_M_toCore, eq_true hh1, eq_false hh2, eq_false hh3, eq_false hh4, eq_false hh5]; done)) d_M_toCore_330
            refine lv_iload hx hb d_M_toCore_309 (lv_at hl 0 rfl) ?_
            refine lv_bipush (v := 7) hx hb d_M_toCore_311 (by decide) ?_
            refine lv_icmp_ne (tgt := 321) hx hb d_M_toCore_313 (by decide) (fun hh6 => ?_) (fun hh6 => ?_)
            · skip
              refine lv_bipush (v := 6) hx hb d_M_toCore_321 (by decide) ?_
              have J := J323_1 _ _ _ (lv_sub hl [2, 3, 4, 5, 6, 7, 8, 1, 0] rfl) h
              rw [show (jS0_M_toCore_323_1 X M w a co r nn v) = 6 from (by first | (simp only [jS0_M_toCore_323_1, eq_true hh1, eq_false hh2, eq_false hh3, eq_false hh4, eq_false hh5, eq_false hh6, ↓reduceIte]; done) | (simp [jS0_M_toCore_323_1, eq_true hh1, eq_false hh2, eq_false hh3, eq_false hh4, eq_false hh5, eq_false hh6]; done))] at J
              exact J
            · skip
              refine lv_bipush (v := 8) hx hb d_M_toCore_316 (by decide) ?_
              refine lv_goto (tgt := 323) hx hb d_M_toCore_318 (by decide) ?_
              have J := J323_1 _ _ _ (lv_sub hl [2, 3, 4, 5, 6, 7, 8, 1, 0] rfl) h
              rw [show (jS0_M_toCore_323_1 X M w a co r nn v) = 8 from (by first | (simp only [jS0_M_toCore_323_1, eq_true hh1, eq_false hh2, eq_false hh3, eq_false hh4, eq_false hh5, eq_true hh6, ↓reduceIte]; done) | (simp [jS0_M_toCore_323_1, eq_true hh1, eq_false hh2, eq_false hh3, eq_false hh4, eq_false hh5, eq_true hh6]; done))] at J
              exact J
          · skip
            refine lv_aload_n hx hb d_M_toCore_277 rfl (lv_at hl 2 rfl) ?_
            refine g_M_7 C h d_M_toCore_278 ?_
            refine lv_iload hx hb d_M_toCore_281 (lv_at hl 1 rfl) ?_
            refine lv_iconst (v := 1) hx hb d_M_toCore_283 (by decide) ?_
            refine s_M0 C h (vp4 hc4 ha) d_M_toCore_284 (fun H locs h => ?_)
            refine lv_aload_n hx hb d_M_toCore_285 rfl (lv_at hl 2 rfl) ?_
            refine lv_iload_n hx hb d_M_toCore_286 rfl (lv_at hl 5 rfl) ?_
            refine lv_iload_n hx hb d_M_toCore_287 rfl (lv_at hl 4 rfl) ?_
            refine z_callV (i := 37) C h (k_M_finish l dC dI k q X (u2 (u2 M 1 (Int32.toNatClampNeg ((4 * co) + a)) v) 0 (Int32.toNatClampNeg ((4 * co) + a)) 1) co a hc4 ha) co_M_finish ml_M_136 im_M_finish se_M_finish in_M rfl rfl hd_M_finish ⟨by decide, by decide⟩ ⟨Nat.zero_le _, Nat.zero_le _⟩ hl.1 (Nat.le_of_ble_eq_true rfl) d_M_toCore_288 rfl (fun H locs h => ?_)
            refine W.eq (g2 := F0 m 291 ls []) rfl ?_
            have h : zH dC dI k q X (m_M_finish X (u2 (u2 M 1 (Int32.toNatClampNeg ((4 * co) + a)) v) 0 (Int32.toNatClampNeg ((4 * co) + a)) 1) co a) (zA q) s.heap H locs := h
            refine lv_goto (tgt := 330) hx hb d_M_toCore_291 (by decide) ?_
            exact z_retvE C h hr hk (by first | rfl | (simp only [m_M_toCore, eq_true hh1, eq_false hh2, eq_false hh3, eq_false hh4, eq_true hh5, ↓reduceIte]; done) | (simp [m_M_toCore, eq_true hh1, eq_false hh2, eq_false hh3, eq_false hh4, eq_true hh5]; done)) (by first | rfl | (simp only [m_M_toCore, eq_true hh1, eq_false hh2, eq_false hh3, eq_false hh4, eq_true hh5, ↓reduceIte]; done) | (simp [m_M_toCore, eq_true hh1, eq_false hh2, eq_false hh3, eq_false hh4, eq_true hh5]; done)) d_M_toCore_330
        · skip
          refine lv_aload_n hx hb d_M_toCore_254 rfl (lv_at hl 2 rfl) ?_
          refine g_M_7 C h d_M_toCore_255 ?_
          refine lv_iload hx hb d_M_toCore_258 (lv_at hl 1 rfl) ?_
          refine lv_iconst (v := 2) hx hb d_M_toCore_260 (by decide) ?_
          refine s_M0 C h (vp4 hc4 ha) d_M_toCore_261 (fun H locs h => ?_)
          refine lv_aload_n hx hb d_M_toCore_262 rfl (lv_at hl 2 rfl) ?_
          refine lv_iload_n hx hb d_M_toCore_263 rfl (lv_at hl 5 rfl) ?_
          refine lv_iload_n hx hb d_M_toCore_264 rfl (lv_at hl 4 rfl) ?_
          refine z_callV (i := 37) C h (k_M_finish l dC dI k q X (u2 (u2 M 1 (Int32.toNatClampNeg ((4 * co) + a)) v) 0 (Int32.toNatClampNeg ((4 * co) + a)) 2) co a hc4 ha) co_M_finish ml_M_136 im_M_finish se_M_finish in_M rfl rfl hd_M_finish ⟨by decide, by decide⟩ ⟨Nat.zero_le _, Nat.zero_le _⟩ hl.1 (Nat.le_of_ble_eq_true rfl) d_M_toCore_265 rfl (fun H locs h => ?_)
          refine W.eq (g2 := F0 m 268 ls []) rfl ?_
          have h : zH dC dI k q X (m_M_finish X (u2 (u2 M 1 (Int32.toNatClampNeg ((4 * co) + a)) v) 0 (Int32.toNatClampNeg ((4 * co) + a)) 2) co a) (zA q) s.heap H locs := h
          refine lv_goto (tgt := 330) hx hb d_M_toCore_268 (by decide) ?_
          exact z_retvE C h hr hk (by first | rfl | (simp only [m_M_toCore, eq_true hh1, eq_false hh2, eq_false hh3, eq_true hh4, ↓reduceIte]; done) | (simp [m_M_toCore, eq_true hh1, eq_false hh2, eq_false hh3, eq_true hh4]; done)) (by first | rfl | (simp only [m_M_toCore, eq_true hh1, eq_false hh2, eq_false hh3, eq_true hh4, ↓reduceIte]; done) | (simp [m_M_toCore, eq_true hh1, eq_false hh2, eq_false hh3, eq_true hh4]; done)) d_M_toCore_330
      · skip
        refine lv_aload_n hx hb d_M_toCore_205 rfl (lv_at hl 2 rfl) ?_
        refine g_M_19 C h d_M_toCore_206 ?_
        refine lv_iload hx hb d_M_toCore_209 (lv_at hl 1 rfl) ?_
        refine lv_dup2_11 hx hb d_M_toCore_211 rfl rfl ?_
        refine l_M3 C h (vp4 hc4 ha) d_M_toCore_212 ?_
        refine lv_iconst (v := 1) hx hb d_M_toCore_213 (by decide) ?_
        refine lv_iadd hx hb d_M_toCore_214 ?_
        refine s_M3 C h (vp4 hc4 ha) d_M_toCore_215 (fun H locs h => ?_)
        refine lv_iload hx hb d_M_toCore_216 (lv_at hl 0 rfl) ?_
        refine lv_bipush (v := 6) hx hb d_M_toCore_218 (by decide) ?_
        refine lv_icmp_eq (tgt := 230) hx hb d_M_toCore_220 (by decide) (fun hh7 => ?_) (fun hh7 => ?_)
        · skip
          refine lv_aload_n hx hb d_M_toCore_230 rfl (lv_at hl 2 rfl) ?_
          refine lv_iload_n hx hb d_M_toCore_231 rfl (lv_at hl 5 rfl) ?_
          refine lv_iload_n hx hb d_M_toCore_232 rfl (lv_at hl 4 rfl) ?_
          refine z_callV (i := 37) C h (k_M_acknowledged l dC dI k q X (u2 M 3 (Int32.toNatClampNeg ((4 * co) + a)) ((M 3 (Int32.toNatClampNeg ((4 * co) + a))) + 1)) co a hc4 ha) co_M_acknowledged ml_M_133 im_M_acknowledged se_M_acknowledged in_M rfl rfl hd_M_acknowledged ⟨by decide, by decide⟩ ⟨Nat.zero_le _, Nat.zero_le _⟩ hl.1 (Nat.le_of_ble_eq_true rfl) d_M_toCore_233 rfl (fun H locs h => ?_)
          refine W.eq (g2 := F0 m 236 ls []) rfl ?_
          have h : zH dC dI k q X (m_M_acknowledged X (u2 M 3 (Int32.toNatClampNeg ((4 * co) + a)) ((M 3 (Int32.toNatClampNeg ((4 * co) + a))) + 1)) co a) (zA q) s.heap H locs := h
          refine lv_goto (tgt := 330) hx hb d_M_toCore_236 (by decide) ?_
          exact z_retvE C h hr hk (by first | rfl | (simp only [m_M_toCore, eq_true hh1, eq_false hh2, eq_true hh3, eq_true hh7, ↓reduceIte]; done) | (simp [m_M_toCore, eq_true hh1, eq_false hh2, eq_true hh3, eq_true hh7]; done)) (by first | rfl | (simp only [m_M_toCore, eq_true hh1, eq_false hh2, eq_true hh3, eq_true hh7, ↓reduceIte]; done) | (simp [m_M_toCore, eq_true hh1, eq_false hh2, eq_true hh3, eq_true hh7]; done)) d_M_toCore_330
        · skip
          refine lv_iload hx hb d_M_toCore_223 (lv_at hl 0 rfl) ?_
          refine lv_bipush (v := 8) hx hb d_M_toCore_225 (by decide) ?_
          refine lv_icmp_ne (tgt := 330) hx hb d_M_toCore_227 (by decide) (fun hh8 => ?_) (fun hh8 => ?_)
          · skip
            exact z_retvE C h hr hk (by first | rfl | (simp only [m_M_toCore, eq_true hh1, eq_false hh2, eq_true hh3, eq_false hh7, eq_false hh8, ↓reduceIte]; done) | (simp [m_M_toCore, eq_true hh1, eq_false hh2, eq_true hh3, eq_false hh7, eq_false hh8]; done)) (by first | rfl | (simp only [m_M_toCore, eq_true hh1, eq_false hh2, eq_true hh3, eq_false hh7, eq_false hh8, ↓reduceIte]; done) | (simp [m_M_toCore, eq_true hh1, eq_false hh2, eq_true hh3, eq_false hh7, eq_false hh8]; done)) d_M_toCore_330
          · skip
            refine lv_aload_n hx hb d_M_toCore_230 rfl (lv_at hl 2 rfl) ?_
            refine lv_iload_n hx hb d_M_toCore_231 rfl (lv_at hl 5 rfl) ?_
            refine lv_iload_n hx hb d_M_toCore_232 rfl (lv_at hl 4 rfl) ?_
            refine z_callV (i := 37) C h (k_M_acknowledged l dC dI k q X (u2 M 3 (Int32.toNatClampNeg ((4 * co) + a)) ((M 3 (Int32.toNatClampNeg ((4 * co) + a))) + 1)) co a hc4 ha) co_M_acknowledged ml_M_133 im_M_acknowledged se_M_acknowledged in_M rfl rfl hd_M_acknowledged ⟨by decide, by decide⟩ ⟨Nat.zero_le _, Nat.zero_le _⟩ hl.1 (Nat.le_of_ble_eq_true rfl) d_M_toCore_233 rfl (fun H locs h => ?_)
            refine W.eq (g2 := F0 m 236 ls []) rfl ?_
            have h : zH dC dI k q X (m_M_acknowledged X (u2 M 3 (Int32.toNatClampNeg ((4 * co) + a)) ((M 3 (Int32.toNatClampNeg ((4 * co) + a))) + 1)) co a) (zA q) s.heap H locs := h
            refine lv_goto (tgt := 330) hx hb d_M_toCore_236 (by decide) ?_
            exact z_retvE C h hr hk (by first | rfl | (simp only [m_M_toCore, eq_true hh1, eq_false hh2, eq_true hh3, eq_false hh7, eq_true hh8, ↓reduceIte]; done) | (simp [m_M_toCore, eq_true hh1, eq_false hh2, eq_true hh3, eq_false hh7, eq_true hh8]; done)) (by first | rfl | (simp only [m_M_toCore, eq_true hh1, eq_false hh2, eq_true hh3, eq_false hh7, eq_true hh8, ↓reduceIte]; done) | (simp [m_M_toCore, eq_true hh1, eq_false hh2, eq_true hh3, eq_false hh7, eq_true hh8]; done)) d_M_toCore_330
    · skip
      refine lv_aload_n hx hb d_M_toCore_188 rfl (lv_at hl 2 rfl) ?_
      refine g_M_7 C h d_M_toCore_189 ?_
      refine lv_iload hx hb d_M_toCore_192 (lv_at hl 1 rfl) ?_
      refine lv_iconst (v := 0) hx hb d_M_toCore_194 (by decide) ?_
      refine s_M0 C h (vp4 hc4 ha) d_M_toCore_195 (fun H locs h => ?_)
      refine lv_goto (tgt := 330) hx hb d_M_toCore_196 (by decide) ?_
      exact z_retvE C h hr hk (by first | rfl | (simp only [m_M_toCore, eq_true hh1, eq_true hh2, ↓reduceIte]; done) | (simp [m_M_toCore, eq_true hh1, eq_true hh2]; done)) (by first | rfl | (simp only [m_M_toCore, eq_true hh1, eq_true hh2, ↓reduceIte]; done) | (simp [m_M_toCore, eq_true hh1, eq_true hh2]; done)) d_M_toCore_330
  · skip
    refine lv_aload_n hx hb d_M_toCore_22 rfl (lv_at hl 2 rfl) ?_
    refine g_M_7 C h d_M_toCore_23 ?_
    refine lv_iload hx hb d_M_toCore_26 (lv_at hl 1 rfl) ?_
    refine lv_iload_n hx hb d_M_toCore_28 rfl (lv_at hl 3 rfl) ?_
    refine lv_iload hx hb d_M_toCore_29 (lv_at hl 0 rfl) ?_
    refine z_callS C h (k_M_becomes l dC dI k q X M w (M 0 (Int32.toNatClampNeg ((4 * co) + a)))) co_M_becomes ml_M_101 sc_M_becomes in_M hd_M_becomes ⟨by decide, by decide⟩ ⟨Nat.zero_le _, Nat.zero_le _⟩ hl.1 (Nat.le_of_ble_eq_true rfl) d_M_toCore_31 rfl (fun H locs h => ?_)
    refine W.eq (g2 := F0 m 34 ls [.int (m_bec w (M 0 (Int32.toNatClampNeg ((4 * co) + a)))), .int ((4 * co) + a), .ref (q 38)]) rfl ?_
    have h : zH dC dI k q X M (zA q) s.heap H locs := h
    refine s_M0 C h (vp4 hc4 ha) d_M_toCore_34 (fun H locs h => ?_)
    have J66_1 : ∀ (ls : Array Slot) (H : Heap) (locs : List Loc), lv_has ls 11 [(0, .ref (q 37)), (1, .int w), (2, .int a), (3, .int co), (4, .int r), (5, .int nn), (6, .int v), (7, .int ((4 * co) + a)), (8, .int (M 0 (Int32.toNatClampNeg ((4 * co) + a))))] → zH dC dI k q X (u2 M 0 (Int32.toNatClampNeg ((4 * co) + a)) (m_bec w (M 0 (Int32.toNatClampNeg ((4 * co) + a))))) (zA q) s.heap H locs → W p l e { frames := 2, cells := 0, slots := 0, locals := 53 } s m args below meth c H locs 0 0 (MQ below (zQc dC dI k q X (m_M_toCore X M w a co r nn v) none) args s 0 0 (zA q)) (F0 m 66 ls [.int (jS0_M_toCore_66_1 X M w a co r nn v)]) := by
      intro ls H locs hl h
      refine lv_istore hx hb d_M_toCore_66 hl (by decide) rfl (fun ls hl => ?_)
      have hl : lv_has ls 11 [(9, .int (jS0_M_toCore_66_1 X M w a co r nn v)), (0, .ref (q 37)), (1, .int w), (2, .int a), (3, .int co), (4, .int r), (5, .int nn), (6, .int v), (7, .int ((4 * co) + a)), (8, .int (M 0 (Int32.toNatClampNeg ((4 * co) + a))))] := hl
      have J93_1 : ∀ (ls : Array Slot) (H : Heap) (locs : List Loc), lv_has ls 11 [(0, .ref (q 37)), (1, .int w), (2, .int a), (3, .int co), (4, .int r), (5, .int nn), (6, .int v), (7, .int ((4 * co) + a)), (8, .int (M 0 (Int32.toNatClampNeg ((4 * co) + a)))), (9, .int (jS0_M_toCore_66_1 X M w a co r nn v))] → zH dC dI k q X (u2 M 0 (Int32.toNatClampNeg ((4 * co) + a)) (m_bec w (M 0 (Int32.toNatClampNeg ((4 * co) + a))))) (zA q) s.heap H locs → W p l e { frames := 2, cells := 0, slots := 0, locals := 53 } s m args below meth c H locs 0 0 (MQ below (zQc dC dI k q X (m_M_toCore X M w a co r nn v) none) args s 0 0 (zA q)) (F0 m 93 ls [.int (jS0_M_toCore_93_1 X M w a co r nn v)]) := by
        intro ls H locs hl h
        refine lv_istore hx hb d_M_toCore_93 hl (by decide) rfl (fun ls hl => ?_)
        have hl : lv_has ls 11 [(10, .int (jS0_M_toCore_93_1 X M w a co r nn v)), (0, .ref (q 37)), (1, .int w), (2, .int a), (3, .int co), (4, .int r), (5, .int nn), (6, .int v), (7, .int ((4 * co) + a)), (8, .int (M 0 (Int32.toNatClampNeg ((4 * co) + a)))), (9, .int (jS0_M_toCore_66_1 X M w a co r nn v))] := hl
        have J126_1 : ∀ (ls : Array Slot) (H : Heap) (locs : List Loc), lv_has ls 11 [(0, .ref (q 37)), (1, .int w), (2, .int a), (3, .int co), (4, .int r), (5, .int nn), (6, .int v), (7, .int ((4 * co) + a)), (8, .int (M 0 (Int32.toNatClampNeg ((4 * co) + a)))), (9, .int (jS0_M_toCore_66_1 X M w a co r nn v)), (10, .int (jS0_M_toCore_93_1 X M w a co r nn v))] → zH dC dI k q X (jM_M_toCore_126_1 X M w a co r nn v) (zA q) s.heap H locs → W p l e { frames := 2, cells := 0, slots := 0, locals := 53 } s m args below meth c H locs 0 0 (MQ below (zQc dC dI k q X (m_M_toCore X M w a co r nn v) none) args s 0 0 (zA q)) (F0 m 126 ls []) := by
          intro ls H locs hl h
          have hqjM_M_toCore_126_1 : zRow (jM_M_toCore_126_1 X M w a co r nn v) (n + 1) := (zRow.ite (zRow.wk (zRow.up (by decide) (zRow.of hn)) (by omega)) (zRow.ite (zRow.wk (zRow.up (by decide) (zRow.of hn)) (by omega)) (zRow.wk (zRow.next (zRow.up (by decide) (zRow.of hn))) (by omega))))
          have J155_1 : ∀ (ls : Array Slot) (H : Heap) (locs : List Loc), lv_has ls 11 [(0, .ref (q 37)), (1, .int w), (2, .int a), (3, .int co), (4, .int r), (5, .int nn), (6, .int v), (7, .int ((4 * co) + a)), (8, .int (M 0 (Int32.toNatClampNeg ((4 * co) + a)))), (9, .int (jS0_M_toCore_66_1 X M w a co r nn v)), (10, .int (jS0_M_toCore_93_1 X M w a co r nn v))] → zH dC dI k q X (jM_M_toCore_155_1 X M w a co r nn v) (zA q) s.heap H locs → W p l e { frames := 2, cells := 0, slots := 0, locals := 53 } s m args below meth c H locs 0 0 (MQ below (zQc dC dI k q X (m_M_toCore X M w a co r nn v) none) args s 0 0 (zA q)) (F0 m 155 ls []) := by
            intro ls H locs hl h
            have hqjM_M_toCore_155_1 : zRow (jM_M_toCore_155_1 X M w a co r nn v) (n + 2) := (zRow.ite (zRow.ite (zRow.wk hqjM_M_toCore_126_1 (by omega)) (zRow.wk (zRow.next hqjM_M_toCore_126_1) (by omega))) (zRow.wk hqjM_M_toCore_126_1 (by omega)))
            have J179_1 : ∀ (ls : Array Slot) (H : Heap) (locs : List Loc), lv_has ls 11 [(0, .ref (q 37)), (1, .int w), (2, .int a), (3, .int co), (4, .int r), (5, .int nn), (6, .int v), (7, .int ((4 * co) + a)), (8, .int (M 0 (Int32.toNatClampNeg ((4 * co) + a)))), (9, .int (jS0_M_toCore_66_1 X M w a co r nn v)), (10, .int (jS0_M_toCore_93_1 X M w a co r nn v))] → zH dC dI k q X (jM_M_toCore_179_1 X M w a co r nn v) (zA q) s.heap H locs → W p l e { frames := 2, cells := 0, slots := 0, locals := 53 } s m args below meth c H locs 0 0 (MQ below (zQc dC dI k q X (m_M_toCore X M w a co r nn v) none) args s 0 0 (zA q)) (F0 m 179 ls []) := by
              intro ls H locs hl h
              have hqjM_M_toCore_179_1 : zRow (jM_M_toCore_179_1 X M w a co r nn v) (n + 3) := (zRow.ite (zRow.ite (zRow.wk hqjM_M_toCore_155_1 (by omega)) (zRow.wk (zRow.next hqjM_M_toCore_155_1) (by omega))) (zRow.wk hqjM_M_toCore_155_1 (by omega)))
              refine lv_goto (tgt := 330) hx hb d_M_toCore_179 (by decide) ?_
              exact z_retvE C h hr hk (by first | rfl | (simp only [m_M_toCore, eq_false hh1, ↓reduceIte]; done) | (simp [m_M_toCore, eq_false hh1]; done)) (by first | rfl | (simp only [m_M_toCore, eq_false hh1, ↓reduceIte]; done) | (simp [m_M_toCore, eq_false hh1]; done)) d_M_toCore_330
            refine lv_iload_n hx hb d_M_toCore_155 rfl (lv_at hl 1 rfl) ?_
            refine lv_bipush (v := 7) hx hb d_M_toCore_156 (by decide) ?_
            refine lv_icmp_ne (tgt := 179) hx hb d_M_toCore_158 (by decide) (fun hh9 => ?_) (fun hh9 => ?_)
            · skip
              exact J179_1 _ _ _ (lv_sub hl [0, 1, 2, 3, 4, 5, 6, 7, 8, 9, 10] rfl) (by rw [show (jM_M_toCore_179_1 X M w a co r nn v) = (jM_M_toCore_155_1 X M w a co r nn v) from (by first | (simp only [jM_M_toCore_179_1, eq_false hh1, eq_false hh9, ↓reduceIte]; done) | (simp [jM_M_toCore_179_1, eq_false hh1, eq_false hh9]; done))]; exact h)
            · skip
              refine lv_iload hx hb d_M_toCore_161 (lv_at hl 10 rfl) ?_
              refine lv_if_eq (tgt := 179) hx hb d_M_toCore_163 (by decide) (fun hh10 => ?_) (fun hh10 => ?_)
              · skip
                exact J179_1 _ _ _ (lv_sub hl [0, 1, 2, 3, 4, 5, 6, 7, 8, 9, 10] rfl) (by rw [show (jM_M_toCore_179_1 X M w a co r nn v) = (jM_M_toCore_155_1 X M w a co r nn v) from (by first | (simp only [jM_M_toCore_179_1, eq_false hh1, eq_true hh9, eq_true hh10, ↓reduceIte]; done) | (simp [jM_M_toCore_179_1, eq_false hh1, eq_true hh9, eq_true hh10]; done))]; exact h)
              · skip
                refine lv_aload_n hx hb d_M_toCore_166 rfl (lv_at hl 0 rfl) ?_
                refine lv_bipush (v := 11) hx hb d_M_toCore_167 (by decide) ?_
                refine lv_iload_n hx hb d_M_toCore_169 rfl (lv_at hl 2 rfl) ?_
                refine lv_iload_n hx hb d_M_toCore_170 rfl (lv_at hl 3 rfl) ?_
                refine lv_iload hx hb d_M_toCore_171 (lv_at hl 4 rfl) ?_
                refine lv_iload hx hb d_M_toCore_173 (lv_at hl 4 rfl) ?_
                refine lv_iconst (v := 0) hx hb d_M_toCore_175 (by decide) ?_
                refine z_callV (i := 37) C h (k_M_send l dC dI k q X (jM_M_toCore_155_1 X M w a co r nn v) 11 a co r r 0 (zRow.room hqjM_M_toCore_155_1 (by omega)) (vp4 hr4 ha)) co_M_send ml_M_130 im_M_send se_M_send in_M rfl rfl hd_M_send ⟨by decide, by decide⟩ ⟨Nat.zero_le _, Nat.zero_le _⟩ hl.1 (Nat.le_of_ble_eq_true rfl) d_M_toCore_176 rfl (fun H locs h => ?_)
                refine W.eq (g2 := F0 m 179 ls []) rfl ?_
                have h : zH dC dI k q X (m_send (jM_M_toCore_155_1 X M w a co r nn v) 11 a co r r 0 0) (zA q) s.heap H locs := h
                exact J179_1 _ _ _ (lv_sub hl [0, 1, 2, 3, 4, 5, 6, 7, 8, 9, 10] rfl) (by rw [show (jM_M_toCore_179_1 X M w a co r nn v) = (m_send (jM_M_toCore_155_1 X M w a co r nn v) 11 a co r r 0 0) from (by first | (simp only [jM_M_toCore_179_1, eq_false hh1, eq_true hh9, eq_false hh10, ↓reduceIte]; done) | (simp [jM_M_toCore_179_1, eq_false hh1, eq_true hh9, eq_false hh10]; done))]; exact h)
          refine lv_iload_n hx hb d_M_toCore_126 rfl (lv_at hl 1 rfl) ?_
          refine lv_iconst (v := 5) hx hb d_M_toCore_127 (by decide) ?_
          refine lv_icmp_ne (tgt := 155) hx hb d_M_toCore_128 (by decide) (fun hh11 => ?_) (fun hh11 => ?_)
          · skip
            exact J155_1 _ _ _ (lv_sub hl [0, 1, 2, 3, 4, 5, 6, 7, 8, 9, 10] rfl) (by rw [show (jM_M_toCore_155_1 X M w a co r nn v) = (jM_M_toCore_126_1 X M w a co r nn v) from (by first | (simp only [jM_M_toCore_155_1, eq_false hh1, eq_false hh11, ↓reduceIte]; done) | (simp [jM_M_toCore_155_1, eq_false hh1, eq_false hh11]; done))]; exact h)
          · skip
            refine lv_iload hx hb d_M_toCore_131 (lv_at hl 9 rfl) ?_
            refine lv_if_eq (tgt := 155) hx hb d_M_toCore_133 (by decide) (fun hh12 => ?_) (fun hh12 => ?_)
            · skip
              exact J155_1 _ _ _ (lv_sub hl [0, 1, 2, 3, 4, 5, 6, 7, 8, 9, 10] rfl) (by rw [show (jM_M_toCore_155_1 X M w a co r nn v) = (jM_M_toCore_126_1 X M w a co r nn v) from (by first | (simp only [jM_M_toCore_155_1, eq_false hh1, eq_true hh11, eq_true hh12, ↓reduceIte]; done) | (simp [jM_M_toCore_155_1, eq_false hh1, eq_true hh11, eq_true hh12]; done))]; exact h)
            · skip
              refine lv_aload_n hx hb d_M_toCore_136 rfl (lv_at hl 0 rfl) ?_
              refine lv_bipush (v := 9) hx hb d_M_toCore_137 (by decide) ?_
              refine lv_iload_n hx hb d_M_toCore_139 rfl (lv_at hl 2 rfl) ?_
              refine lv_iload_n hx hb d_M_toCore_140 rfl (lv_at hl 3 rfl) ?_
              refine lv_iconst (v := 4) hx hb d_M_toCore_141 (by decide) ?_
              refine lv_iload hx hb d_M_toCore_142 (lv_at hl 4 rfl) ?_
              refine lv_iconst (v := 0) hx hb d_M_toCore_144 (by decide) ?_
              refine lv_aload_n hx hb d_M_toCore_145 rfl (lv_at hl 0 rfl) ?_
              refine g_M_13 C h d_M_toCore_146 ?_
              refine lv_iload hx hb d_M_toCore_149 (lv_at hl 7 rfl) ?_
              refine l_M1 C h (vp4 hc4 ha) d_M_toCore_151 ?_
              refine z_callV (i := 37) C h (k_M_sendWith l dC dI k q X (jM_M_toCore_126_1 X M w a co r nn v) 9 a co 4 r 0 ((jM_M_toCore_126_1 X M w a co r nn v) 1 (Int32.toNatClampNeg ((4 * co) + a))) (zRow.room hqjM_M_toCore_126_1 (by omega)) (vp4 hr4 ha)) co_M_sendWith ml_M_77 im_M_sendWith se_M_sendWith in_M rfl rfl hd_M_sendWith ⟨by decide, by decide⟩ ⟨Nat.zero_le _, Nat.zero_le _⟩ hl.1 (Nat.le_of_ble_eq_true rfl) d_M_toCore_152 rfl (fun H locs h => ?_)
              refine W.eq (g2 := F0 m 155 ls []) rfl ?_
              have h : zH dC dI k q X (m_send (jM_M_toCore_126_1 X M w a co r nn v) 9 a co 4 r 0 ((jM_M_toCore_126_1 X M w a co r nn v) 1 (Int32.toNatClampNeg ((4 * co) + a)))) (zA q) s.heap H locs := h
              exact J155_1 _ _ _ (lv_sub hl [0, 1, 2, 3, 4, 5, 6, 7, 8, 9, 10] rfl) (by rw [show (jM_M_toCore_155_1 X M w a co r nn v) = (m_send (jM_M_toCore_126_1 X M w a co r nn v) 9 a co 4 r 0 ((jM_M_toCore_126_1 X M w a co r nn v) 1 (Int32.toNatClampNeg ((4 * co) + a)))) from (by first | (simp only [jM_M_toCore_155_1, eq_false hh1, eq_true hh11, eq_false hh12, ↓reduceIte]; done) | (simp [jM_M_toCore_155_1, eq_false hh1, eq_true hh11, eq_false hh12]; done))]; exact h)
        refine lv_iload_n hx hb d_M_toCore_95 rfl (lv_at hl 2 rfl) ?_
        refine lv_bipush (v := 7) hx hb d_M_toCore_96 (by decide) ?_
        refine lv_icmp_ge (tgt := 126) hx hb d_M_toCore_98 (by decide) (fun hh13 => ?_) (fun hh13 => ?_)
        · skip
          exact J126_1 _ _ _ (lv_sub hl [1, 2, 3, 4, 5, 6, 7, 8, 9, 10, 0] rfl) (by rw [show (jM_M_toCore_126_1 X M w a co r nn v) = (u2 M 0 (Int32.toNatClampNeg ((4 * co) + a)) (m_bec w (M 0 (Int32.toNatClampNeg ((4 * co) + a))))) from (by first | (simp only [jM_M_toCore_126_1, eq_false hh1, eq_true hh13, ↓reduceIte]; done) | (simp [jM_M_toCore_126_1, eq_false hh1, eq_true hh13]; done))]; exact h)
        · skip
          refine lv_iload hx hb d_M_toCore_101 (lv_at hl 10 rfl) ?_
          refine lv_if_eq (tgt := 126) hx hb d_M_toCore_103 (by decide) (fun hh14 => ?_) (fun hh14 => ?_)
          · skip
            exact J126_1 _ _ _ (lv_sub hl [1, 2, 3, 4, 5, 6, 7, 8, 9, 10, 0] rfl) (by rw [show (jM_M_toCore_126_1 X M w a co r nn v) = (u2 M 0 (Int32.toNatClampNeg ((4 * co) + a)) (m_bec w (M 0 (Int32.toNatClampNeg ((4 * co) + a))))) from (by first | (simp only [jM_M_toCore_126_1, eq_false hh1, eq_false hh13, eq_true hh14, ↓reduceIte]; done) | (simp [jM_M_toCore_126_1, eq_false hh1, eq_false hh13, eq_true hh14]; done))]; exact h)
          · skip
            refine lv_aload_n hx hb d_M_toCore_106 rfl (lv_at hl 1 rfl) ?_
            refine lv_bipush (v := 9) hx hb d_M_toCore_107 (by decide) ?_
            refine lv_iload_n hx hb d_M_toCore_109 rfl (lv_at hl 3 rfl) ?_
            refine lv_iload_n hx hb d_M_toCore_110 rfl (lv_at hl 4 rfl) ?_
            refine lv_iload hx hb d_M_toCore_111 (lv_at hl 5 rfl) ?_
            refine lv_iload hx hb d_M_toCore_113 (lv_at hl 5 rfl) ?_
            refine lv_iconst (v := 0) hx hb d_M_toCore_115 (by decide) ?_
            refine lv_aload_n hx hb d_M_toCore_116 rfl (lv_at hl 1 rfl) ?_
            refine g_M_13 C h d_M_toCore_117 ?_
            refine lv_iload hx hb d_M_toCore_120 (lv_at hl 8 rfl) ?_
            refine l_M1 C h (vp4 hc4 ha) d_M_toCore_122 ?_
            refine z_top (y := M 1 (Int32.toNatClampNeg ((4 * co) + a))) rfl ?_
            refine z_callV (i := 37) C h (k_M_sendWith l dC dI k q X (u2 M 0 (Int32.toNatClampNeg ((4 * co) + a)) (m_bec w (M 0 (Int32.toNatClampNeg ((4 * co) + a))))) 9 a co r r 0 (M 1 (Int32.toNatClampNeg ((4 * co) + a))) (zRow.room (zRow.up (by decide) (zRow.of hn)) (by omega)) (vp4 hr4 ha)) co_M_sendWith ml_M_77 im_M_sendWith se_M_sendWith in_M rfl rfl hd_M_sendWith ⟨by decide, by decide⟩ ⟨Nat.zero_le _, Nat.zero_le _⟩ hl.1 (Nat.le_of_ble_eq_true rfl) d_M_toCore_123 rfl (fun H locs h => ?_)
            refine W.eq (g2 := F0 m 126 ls []) rfl ?_
            have h : zH dC dI k q X (m_send (u2 M 0 (Int32.toNatClampNeg ((4 * co) + a)) (m_bec w (M 0 (Int32.toNatClampNeg ((4 * co) + a))))) 9 a co r r 0 (M 1 (Int32.toNatClampNeg ((4 * co) + a)))) (zA q) s.heap H locs := h
            exact J126_1 _ _ _ (lv_sub hl [1, 2, 3, 4, 5, 6, 7, 8, 9, 10, 0] rfl) (by rw [show (jM_M_toCore_126_1 X M w a co r nn v) = (m_send (u2 M 0 (Int32.toNatClampNeg ((4 * co) + a)) (m_bec w (M 0 (Int32.toNatClampNeg ((4 * co) + a))))) 9 a co r r 0 (M 1 (Int32.toNatClampNeg ((4 * co) + a)))) from (by first | (simp only [jM_M_toCore_126_1, eq_false hh1, eq_false hh13, eq_false hh14, ↓reduceIte]; done) | (simp [jM_M_toCore_126_1, eq_false hh1, eq_false hh13, eq_false hh14]; done))]; exact h)
      refine lv_iload hx hb d_M_toCore_68 (lv_at hl 9 rfl) ?_
      refine lv_iconst (v := 1) hx hb d_M_toCore_70 (by decide) ?_
      refine lv_icmp_eq (tgt := 88) hx hb d_M_toCore_71 (by decide) (fun hh15 => ?_) (fun hh15 => ?_)
      · skip
        refine lv_iconst (v := 1) hx hb d_M_toCore_88 (by decide) ?_
        refine lv_goto (tgt := 93) hx hb d_M_toCore_89 (by decide) ?_
        have J := J93_1 _ _ _ (lv_sub hl [1, 2, 3, 4, 5, 6, 7, 8, 9, 0] rfl) h
        rw [show (jS0_M_toCore_93_1 X M w a co r nn v) = 1 from (by first | (simp only [jS0_M_toCore_93_1, eq_false hh1, eq_true hh15, ↓reduceIte]; done) | (simp [jS0_M_toCore_93_1, eq_false hh1, eq_true hh15]; done))] at J
        exact J
      · skip
        refine lv_iload hx hb d_M_toCore_74 (lv_at hl 9 rfl) ?_
        refine lv_bipush (v := 7) hx hb d_M_toCore_76 (by decide) ?_
        refine lv_icmp_eq (tgt := 88) hx hb d_M_toCore_78 (by decide) (fun hh16 => ?_) (fun hh16 => ?_)
        · skip
          refine lv_iconst (v := 1) hx hb d_M_toCore_88 (by decide) ?_
          refine lv_goto (tgt := 93) hx hb d_M_toCore_89 (by decide) ?_
          have J := J93_1 _ _ _ (lv_sub hl [1, 2, 3, 4, 5, 6, 7, 8, 9, 0] rfl) h
          rw [show (jS0_M_toCore_93_1 X M w a co r nn v) = 1 from (by first | (simp only [jS0_M_toCore_93_1, eq_false hh1, eq_false hh15, eq_true hh16, ↓reduceIte]; done) | (simp [jS0_M_toCore_93_1, eq_false hh1, eq_false hh15, eq_true hh16]; done))] at J
          exact J
        · skip
          refine lv_iload hx hb d_M_toCore_81 (lv_at hl 9 rfl) ?_
          refine lv_bipush (v := 11) hx hb d_M_toCore_83 (by decide) ?_
          refine lv_icmp_ne (tgt := 92) hx hb d_M_toCore_85 (by decide) (fun hh17 => ?_) (fun hh17 => ?_)
          · skip
            refine lv_iconst (v := 0) hx hb d_M_toCore_92 (by decide) ?_
            have J := J93_1 _ _ _ (lv_sub hl [1, 2, 3, 4, 5, 6, 7, 8, 9, 0] rfl) h
            rw [show (jS0_M_toCore_93_1 X M w a co r nn v) = 0 from (by first | (simp only [jS0_M_toCore_93_1, eq_false hh1, eq_false hh15, eq_false hh16, eq_false hh17, ↓reduceIte]; done) | (simp [jS0_M_toCore_93_1, eq_false hh1, eq_false hh15, eq_false hh16, eq_false hh17]; done))] at J
            exact J
          · skip
            refine lv_iconst (v := 1) hx hb d_M_toCore_88 (by decide) ?_
            refine lv_goto (tgt := 93) hx hb d_M_toCore_89 (by decide) ?_
            have J := J93_1 _ _ _ (lv_sub hl [1, 2, 3, 4, 5, 6, 7, 8, 9, 0] rfl) h
            rw [show (jS0_M_toCore_93_1 X M w a co r nn v) = 1 from (by first | (simp only [jS0_M_toCore_93_1, eq_false hh1, eq_false hh15, eq_false hh16, eq_true hh17, ↓reduceIte]; done) | (simp [jS0_M_toCore_93_1, eq_false hh1, eq_false hh15, eq_false hh16, eq_true hh17]; done))] at J
            exact J
    refine lv_iload hx hb d_M_toCore_35 (lv_at hl 0 rfl) ?_
    refine lv_iconst (v := 2) hx hb d_M_toCore_37 (by decide) ?_
    refine lv_icmp_eq (tgt := 61) hx hb d_M_toCore_38 (by decide) (fun hh18 => ?_) (fun hh18 => ?_)
    · skip
      refine lv_iconst (v := 1) hx hb d_M_toCore_61 (by decide) ?_
      refine lv_goto (tgt := 66) hx hb d_M_toCore_62 (by decide) ?_
      have J := J66_1 _ _ _ (lv_sub hl [2, 3, 4, 5, 6, 7, 8, 1, 0] rfl) h
      rw [show (jS0_M_toCore_66_1 X M w a co r nn v) = 1 from (by first | (simp only [jS0_M_toCore_66_1, eq_false hh1, eq_true hh18, ↓reduceIte]; done) | (simp [jS0_M_toCore_66_1, eq_false hh1, eq_true hh18]; done))] at J
      exact J
    · skip
      refine lv_iload hx hb d_M_toCore_41 (lv_at hl 0 rfl) ?_
      refine lv_iconst (v := 3) hx hb d_M_toCore_43 (by decide) ?_
      refine lv_icmp_eq (tgt := 61) hx hb d_M_toCore_44 (by decide) (fun hh19 => ?_) (fun hh19 => ?_)
      · skip
        refine lv_iconst (v := 1) hx hb d_M_toCore_61 (by decide) ?_
        refine lv_goto (tgt := 66) hx hb d_M_toCore_62 (by decide) ?_
        have J := J66_1 _ _ _ (lv_sub hl [2, 3, 4, 5, 6, 7, 8, 1, 0] rfl) h
        rw [show (jS0_M_toCore_66_1 X M w a co r nn v) = 1 from (by first | (simp only [jS0_M_toCore_66_1, eq_false hh1, eq_false hh18, eq_true hh19, ↓reduceIte]; done) | (simp [jS0_M_toCore_66_1, eq_false hh1, eq_false hh18, eq_true hh19]; done))] at J
        exact J
      · skip
        refine lv_iload hx hb d_M_toCore_47 (lv_at hl 0 rfl) ?_
        refine lv_bipush (v := 9) hx hb d_M_toCore_49 (by decide) ?_
        refine lv_icmp_eq (tgt := 61) hx hb d_M_toCore_51 (by decide) (fun hh20 => ?_) (fun hh20 => ?_)
        · skip
          refine lv_iconst (v := 1) hx hb d_M_toCore_61 (by decide) ?_
          refine lv_goto (tgt := 66) hx hb d_M_toCore_62 (by decide) ?_
          have J := J66_1 _ _ _ (lv_sub hl [2, 3, 4, 5, 6, 7, 8, 1, 0] rfl) h
          rw [show (jS0_M_toCore_66_1 X M w a co r nn v) = 1 from (by first | (simp only [jS0_M_toCore_66_1, eq_false hh1, eq_false hh18, eq_false hh19, eq_true hh20, ↓reduceIte]; done) | (simp [jS0_M_toCore_66_1, eq_false hh1, eq_false hh18, eq_false hh19, eq_true hh20]; done))] at J
          exact J
        · skip
          refine lv_iload hx hb d_M_toCore_54 (lv_at hl 0 rfl) ?_
          refine lv_bipush (v := 10) hx hb d_M_toCore_56 (by decide) ?_
          refine lv_icmp_ne (tgt := 65) hx hb d_M_toCore_58 (by decide) (fun hh21 => ?_) (fun hh21 => ?_)
          · skip
            refine lv_iconst (v := 0) hx hb d_M_toCore_65 (by decide) ?_
            have J := J66_1 _ _ _ (lv_sub hl [2, 3, 4, 5, 6, 7, 8, 1, 0] rfl) h
            rw [show (jS0_M_toCore_66_1 X M w a co r nn v) = 0 from (by first | (simp only [jS0_M_toCore_66_1, eq_false hh1, eq_false hh18, eq_false hh19, eq_false hh20, eq_false hh21, ↓reduceIte]; done) | (simp [jS0_M_toCore_66_1, eq_false hh1, eq_false hh18, eq_false hh19, eq_false hh20, eq_false hh21]; done))] at J
            exact J
          · skip
            refine lv_iconst (v := 1) hx hb d_M_toCore_61 (by decide) ?_
            refine lv_goto (tgt := 66) hx hb d_M_toCore_62 (by decide) ?_
            have J := J66_1 _ _ _ (lv_sub hl [2, 3, 4, 5, 6, 7, 8, 1, 0] rfl) h
            rw [show (jS0_M_toCore_66_1 X M w a co r nn v) = 1 from (by first | (simp only [jS0_M_toCore_66_1, eq_false hh1, eq_false hh18, eq_false hh19, eq_false hh20, eq_true hh21, ↓reduceIte]; done) | (simp [jS0_M_toCore_66_1, eq_false hh1, eq_false hh18, eq_false hh19, eq_false hh20, eq_true hh21]; done))] at J
            exact J
theorem hd_M_start : y_M_start.cls ≠ "java/lang/invoke/MethodHandle" ∧ y_M_start.cls ≠ "java/lang/invoke/VarHandle" ∧ (parseMethodDescriptor y_M_start.desc).map (fun d => d.parameters.length) = some 4 := by decide +kernel
def jS0_M_start_77_1 (X : zXS) (M : zMS) (co : Int32) (a : Int32) (w : Int32) (v : Int32) : Int32 := (if w = 0 then 0 else 1)
def jS0_M_start_149_1 (X : zXS) (M : zMS) (co : Int32) (a : Int32) (w : Int32) (v : Int32) : Int32 := (if w = 0 then 4 else (if (M 0 (Int32.toNatClampNeg ((4 * co) + a))) = 1 then 7 else 5))
def jS0_M_start_160_1 (X : zXS) (M : zMS) (co : Int32) (a : Int32) (w : Int32) (v : Int32) : Int32 := (if w = 0 then 0 else 1)
def r_M_start (X : zXS) (M : zMS) (co : Int32) (a : Int32) (w : Int32) (v : Int32) : Int32 := (if (m_four co) = 0 then (-1) else (if (m_four a) = 0 then (-1) else (if (M 5 (Int32.toNatClampNeg co)) = 0 then (if (M 0 (Int32.toNatClampNeg ((4 * co) + a))) ≤ 3 then (if (M 0 (Int32.toNatClampNeg ((4 * co) + a))) ≤ (jS0_M_start_77_1 X M co a w v) then 0 else 1) else (-2)) else (-2))))
def m_M_start (X : zXS) (M : zMS) (co : Int32) (a : Int32) (w : Int32) (v : Int32) : zMS := (if (m_four co) = 0 then M else (if (m_four a) = 0 then M else (if (M 5 (Int32.toNatClampNeg co)) = 0 then (if (M 0 (Int32.toNatClampNeg ((4 * co) + a))) ≤ 3 then (if (M 0 (Int32.toNatClampNeg ((4 * co) + a))) ≤ (jS0_M_start_77_1 X M co a w v) then (m_send (u2 (u2 (u2 (u2 (u2 (u2 (u2 M 7 (Int32.toNatClampNeg co) w) 8 (Int32.toNatClampNeg co) v) 5 (Int32.toNatClampNeg co) 1) 6 (Int32.toNatClampNeg co) a) 3 (Int32.toNatClampNeg ((4 * co) + a)) 0) 2 (Int32.toNatClampNeg ((4 * co) + a)) 0) 0 (Int32.toNatClampNeg ((4 * co) + a)) (jS0_M_start_149_1 X M co a w v)) (jS0_M_start_160_1 X M co a w v) a co 4 co 0 0) else (m_M_finish X (u2 (u2 M 7 (Int32.toNatClampNeg co) w) 8 (Int32.toNatClampNeg co) v) co a)) else M) else M)))
set_option maxHeartbeats 1000000 in
set_option maxRecDepth 100000 in
theorem k_M_start (l : Launch) (dC : Nat → ClassId) (dI : Nat → Nat → Nat) (k : Nat → ClassId) (q : Nat → Nat) (X : zXS) (M : zMS) (co : Int32) (a : Int32) (w : Int32) (v : Int32)  (n : Nat) (hn : M 15 0 = nI n) (hb9 : n + 8 < 200) : zMet l dC dI k q y_M_start c_M_start 6 (some .int) 2 53 [.ref (q 37), .int co, .int a, .int w, .int v] (some (.int (r_M_start X M co a w v))) X M X (m_M_start X M co a w v) := by
  refine zMet.of (by decide) (Nat.le_of_ble_eq_true rfl) ?_
  intro p e s m args below meth c ls C hr hk hl h
  have hx := C.1
  have hb := C.2.1
  have hl : lv_has ls 6 [(0, .ref (q 37)), (1, .int co), (2, .int a), (3, .int w), (4, .int v)] := hl
  refine lv_iload_n hx hb d_M_start_0 rfl (lv_at hl 1 rfl) ?_
  refine z_callS C h (k_M_isFour l dC dI k q X M co) co_M_isFour ml_M_139 sc_M_isFour in_M hd_M_isFour ⟨by decide, by decide⟩ ⟨Nat.zero_le _, Nat.zero_le _⟩ hl.1 (Nat.le_of_ble_eq_true rfl) d_M_start_1 rfl (fun H locs h => ?_)
  refine W.eq (g2 := F0 m 4 ls [.int (m_four co)]) rfl ?_
  have h : zH dC dI k q X M (zA q) s.heap H locs := h
  refine lv_if_eq (tgt := 14) hx hb d_M_start_4 (by decide) (fun hh1 => ?_) (fun hh1 => ?_)
  · skip
    refine lv_iconst (v := -1) hx hb d_M_start_14 (by decide) ?_
    exact z_retE C h hr hk (by first | rfl | (simp only [r_M_start, m_M_start, eq_true hh1, ↓reduceIte]; done) | (simp [r_M_start, m_M_start, eq_true hh1]; done)) (by first | rfl | (simp only [r_M_start, m_M_start, eq_true hh1, ↓reduceIte]; done) | (simp [r_M_start, m_M_start, eq_true hh1]; done)) (by first | rfl | (simp only [r_M_start, m_M_start, eq_true hh1, ↓reduceIte]; done) | (simp [r_M_start, m_M_start, eq_true hh1]; done)) d_M_start_15
  · skip
    refine lv_iload_n hx hb d_M_start_7 rfl (lv_at hl 2 rfl) ?_
    refine z_callS C h (k_M_isFour l dC dI k q X M a) co_M_isFour ml_M_139 sc_M_isFour in_M hd_M_isFour ⟨by decide, by decide⟩ ⟨Nat.zero_le _, Nat.zero_le _⟩ hl.1 (Nat.le_of_ble_eq_true rfl) d_M_start_8 rfl (fun H locs h => ?_)
    refine W.eq (g2 := F0 m 11 ls [.int (m_four a)]) rfl ?_
    have h : zH dC dI k q X M (zA q) s.heap H locs := h
    refine lv_if_ne (tgt := 16) hx hb d_M_start_11 (by decide) (fun hh2 => ?_) (fun hh2 => ?_)
    · skip
      refine lv_iconst (v := 4) hx hb d_M_start_16 (by decide) ?_
      refine lv_iload_n hx hb d_M_start_17 rfl (lv_at hl 1 rfl) ?_
      refine lv_imul hx hb d_M_start_18 ?_
      refine lv_iload_n hx hb d_M_start_19 rfl (lv_at hl 2 rfl) ?_
      refine lv_iadd hx hb d_M_start_20 ?_
      refine lv_istore hx hb d_M_start_21 hl (by decide) rfl (fun ls hl => ?_)
      have hl : lv_has ls 6 [(5, .int ((4 * co) + a)), (0, .ref (q 37)), (1, .int co), (2, .int a), (3, .int w), (4, .int v)] := hl
      refine lv_aload_n hx hb d_M_start_23 rfl (lv_at hl 1 rfl) ?_
      refine g_M_25 C h d_M_start_24 ?_
      refine lv_iload_n hx hb d_M_start_27 rfl (lv_at hl 2 rfl) ?_
      refine l_M5 C h (four_in hh1) d_M_start_28 ?_
      refine lv_if_ne (tgt := 43) hx hb d_M_start_29 (by decide) (fun hh3 => ?_) (fun hh3 => ?_)
      · skip
        refine lv_bipush (v := -2) hx hb d_M_start_43 (by decide) ?_
        exact z_retE C h hr hk (by first | rfl | (simp only [r_M_start, m_M_start, eq_false hh1, eq_false hh2, eq_false hh3, ↓reduceIte]; done) | (simp [r_M_start, m_M_start, eq_false hh1, eq_false hh2, eq_false hh3]; done)) (by first | rfl | (simp only [r_M_start, m_M_start, eq_false hh1, eq_false hh2, eq_false hh3, ↓reduceIte]; done) | (simp [r_M_start, m_M_start, eq_false hh1, eq_false hh2, eq_false hh3]; done)) (by first | rfl | (simp only [r_M_start, m_M_start, eq_false hh1, eq_false hh2, eq_false hh3, ↓reduceIte]; done) | (simp [r_M_start, m_M_start, eq_false hh1, eq_false hh2, eq_false hh3]; done)) d_M_start_45
      · skip
        refine lv_aload_n hx hb d_M_start_32 rfl (lv_at hl 1 rfl) ?_
        refine g_M_7 C h d_M_start_33 ?_
        refine lv_iload hx hb d_M_start_36 (lv_at hl 0 rfl) ?_
        refine l_M0 C h (vp4 (four_in hh1) (four_in hh2)) d_M_start_38 ?_
        refine lv_iconst (v := 3) hx hb d_M_start_39 (by decide) ?_
        refine lv_icmp_le (tgt := 46) hx hb d_M_start_40 (by decide) (fun hh4 => ?_) (fun hh4 => ?_)
        · skip
          refine lv_aload_n hx hb d_M_start_46 rfl (lv_at hl 1 rfl) ?_
          refine g_M_32 C h d_M_start_47 ?_
          refine lv_iload_n hx hb d_M_start_50 rfl (lv_at hl 2 rfl) ?_
          refine lv_iload_n hx hb d_M_start_51 rfl (lv_at hl 4 rfl) ?_
          refine s_M7 C h (four_in hh1) d_M_start_52 (fun H locs h => ?_)
          refine lv_aload_n hx hb d_M_start_53 rfl (lv_at hl 1 rfl) ?_
          refine g_M_35 C h d_M_start_54 ?_
          refine lv_iload_n hx hb d_M_start_57 rfl (lv_at hl 2 rfl) ?_
          refine lv_iload hx hb d_M_start_58 (lv_at hl 5 rfl) ?_
          refine s_M8 C h (four_in hh1) d_M_start_60 (fun H locs h => ?_)
          refine lv_aload_n hx hb d_M_start_61 rfl (lv_at hl 1 rfl) ?_
          refine g_M_7 C h d_M_start_62 ?_
          refine lv_iload hx hb d_M_start_65 (lv_at hl 0 rfl) ?_
          refine l_M0 C h (vp4 (four_in hh1) (four_in hh2)) d_M_start_67 ?_
          refine z_top (y := M 0 (Int32.toNatClampNeg ((4 * co) + a))) rfl ?_
          have J77_1 : ∀ (ls : Array Slot) (H : Heap) (locs : List Loc), lv_has ls 6 [(0, .ref (q 37)), (1, .int co), (2, .int a), (3, .int w), (4, .int v), (5, .int ((4 * co) + a))] → zH dC dI k q X (u2 (u2 M 7 (Int32.toNatClampNeg co) w) 8 (Int32.toNatClampNeg co) v) (zA q) s.heap H locs → W p l e { frames := 2, cells := 0, slots := 0, locals := 53 } s m args below meth c H locs 0 0 (MQ below (zQc dC dI k q X (m_M_start X M co a w v) (some (.int (r_M_start X M co a w v)))) args s 0 0 (zA q)) (F0 m 77 ls [.int (jS0_M_start_77_1 X M co a w v), .int (M 0 (Int32.toNatClampNeg ((4 * co) + a)))]) := by
            intro ls H locs hl h
            refine lv_icmp_le (tgt := 88) hx hb d_M_start_77 (by decide) (fun hh5 => ?_) (fun hh5 => ?_)
            · skip
              refine lv_aload_n hx hb d_M_start_88 rfl (lv_at hl 0 rfl) ?_
              refine g_M_25 C h d_M_start_89 ?_
              refine lv_iload_n hx hb d_M_start_92 rfl (lv_at hl 1 rfl) ?_
              refine lv_iconst (v := 1) hx hb d_M_start_93 (by decide) ?_
              refine s_M5 C h (four_in hh1) (Or.inr rfl) d_M_start_94 (fun H locs h => ?_)
              refine lv_aload_n hx hb d_M_start_95 rfl (lv_at hl 0 rfl) ?_
              refine g_M_29 C h d_M_start_96 ?_
              refine lv_iload_n hx hb d_M_start_99 rfl (lv_at hl 1 rfl) ?_
              refine lv_iload_n hx hb d_M_start_100 rfl (lv_at hl 2 rfl) ?_
              refine s_M6 C h (four_in hh1) d_M_start_101 (fun H locs h => ?_)
              refine lv_aload_n hx hb d_M_start_102 rfl (lv_at hl 0 rfl) ?_
              refine g_M_19 C h d_M_start_103 ?_
              refine lv_iload hx hb d_M_start_106 (lv_at hl 5 rfl) ?_
              refine lv_iconst (v := 0) hx hb d_M_start_108 (by decide) ?_
              refine s_M3 C h (vp4 (four_in hh1) (four_in hh2)) d_M_start_109 (fun H locs h => ?_)
              refine lv_aload_n hx hb d_M_start_110 rfl (lv_at hl 0 rfl) ?_
              refine g_M_16 C h d_M_start_111 ?_
              refine lv_iload hx hb d_M_start_114 (lv_at hl 5 rfl) ?_
              refine lv_iconst (v := 0) hx hb d_M_start_116 (by decide) ?_
              refine s_M2 C h (vp4 (four_in hh1) (four_in hh2)) d_M_start_117 (fun H locs h => ?_)
              refine lv_aload_n hx hb d_M_start_118 rfl (lv_at hl 0 rfl) ?_
              refine g_M_7 C h d_M_start_119 ?_
              refine lv_iload hx hb d_M_start_122 (lv_at hl 5 rfl) ?_
              have J149_1 : ∀ (ls : Array Slot) (H : Heap) (locs : List Loc), lv_has ls 6 [(0, .ref (q 37)), (1, .int co), (2, .int a), (3, .int w), (4, .int v), (5, .int ((4 * co) + a))] → zH dC dI k q X (u2 (u2 (u2 (u2 (u2 (u2 M 7 (Int32.toNatClampNeg co) w) 8 (Int32.toNatClampNeg co) v) 5 (Int32.toNatClampNeg co) 1) 6 (Int32.toNatClampNeg co) a) 3 (Int32.toNatClampNeg ((4 * co) + a)) 0) 2 (Int32.toNatClampNeg ((4 * co) + a)) 0) (zA q) s.heap H locs → W p l e { frames := 2, cells := 0, slots := 0, locals := 53 } s m args below meth c H locs 0 0 (MQ below (zQc dC dI k q X (m_M_start X M co a w v) (some (.int (r_M_start X M co a w v)))) args s 0 0 (zA q)) (F0 m 149 ls [.int (jS0_M_start_149_1 X M co a w v), .int ((4 * co) + a), .ref (q 38)]) := by
                intro ls H locs hl h
                refine s_M0 C h (vp4 (four_in hh1) (four_in hh2)) d_M_start_149 (fun H locs h => ?_)
                refine lv_aload_n hx hb d_M_start_150 rfl (lv_at hl 0 rfl) ?_
                have J160_1 : ∀ (ls : Array Slot) (H : Heap) (locs : List Loc), lv_has ls 6 [(0, .ref (q 37)), (1, .int co), (2, .int a), (3, .int w), (4, .int v), (5, .int ((4 * co) + a))] → zH dC dI k q X (u2 (u2 (u2 (u2 (u2 (u2 (u2 M 7 (Int32.toNatClampNeg co) w) 8 (Int32.toNatClampNeg co) v) 5 (Int32.toNatClampNeg co) 1) 6 (Int32.toNatClampNeg co) a) 3 (Int32.toNatClampNeg ((4 * co) + a)) 0) 2 (Int32.toNatClampNeg ((4 * co) + a)) 0) 0 (Int32.toNatClampNeg ((4 * co) + a)) (jS0_M_start_149_1 X M co a w v)) (zA q) s.heap H locs → W p l e { frames := 2, cells := 0, slots := 0, locals := 53 } s m args below meth c H locs 0 0 (MQ below (zQc dC dI k q X (m_M_start X M co a w v) (some (.int (r_M_start X M co a w v)))) args s 0 0 (zA q)) (F0 m 160 ls [.int (jS0_M_start_160_1 X M co a w v), .ref (q 37)]) := by
                  intro ls H locs hl h
                  refine lv_iload_n hx hb d_M_start_160 rfl (lv_at hl 2 rfl) ?_
                  refine lv_iload_n hx hb d_M_start_161 rfl (lv_at hl 1 rfl) ?_
                  refine lv_iconst (v := 4) hx hb d_M_start_162 (by decide) ?_
                  refine lv_iload_n hx hb d_M_start_163 rfl (lv_at hl 1 rfl) ?_
                  refine lv_iconst (v := 0) hx hb d_M_start_164 (by decide) ?_
                  refine z_callV (i := 37) C h (k_M_send l dC dI k q X (u2 (u2 (u2 (u2 (u2 (u2 (u2 M 7 (Int32.toNatClampNeg co) w) 8 (Int32.toNatClampNeg co) v) 5 (Int32.toNatClampNeg co) 1) 6 (Int32.toNatClampNeg co) a) 3 (Int32.toNatClampNeg ((4 * co) + a)) 0) 2 (Int32.toNatClampNeg ((4 * co) + a)) 0) 0 (Int32.toNatClampNeg ((4 * co) + a)) (jS0_M_start_149_1 X M co a w v)) (jS0_M_start_160_1 X M co a w v) a co 4 co 0 (zRow.room (zRow.up (by decide) (zRow.up (by decide) (zRow.up (by decide) (zRow.up (by decide) (zRow.up (by decide) (zRow.up (by decide) (zRow.up (by decide) (zRow.of hn)))))))) (by omega)) (vp4 (four_in hh1) (four_in hh2))) co_M_send ml_M_130 im_M_send se_M_send in_M rfl rfl hd_M_send ⟨by decide, by decide⟩ ⟨Nat.zero_le _, Nat.zero_le _⟩ hl.1 (Nat.le_of_ble_eq_true rfl) d_M_start_165 rfl (fun H locs h => ?_)
                  refine W.eq (g2 := F0 m 168 ls []) rfl ?_
                  have h : zH dC dI k q X (m_send (u2 (u2 (u2 (u2 (u2 (u2 (u2 M 7 (Int32.toNatClampNeg co) w) 8 (Int32.toNatClampNeg co) v) 5 (Int32.toNatClampNeg co) 1) 6 (Int32.toNatClampNeg co) a) 3 (Int32.toNatClampNeg ((4 * co) + a)) 0) 2 (Int32.toNatClampNeg ((4 * co) + a)) 0) 0 (Int32.toNatClampNeg ((4 * co) + a)) (jS0_M_start_149_1 X M co a w v)) (jS0_M_start_160_1 X M co a w v) a co 4 co 0 0) (zA q) s.heap H locs := h
                  refine lv_iconst (v := 0) hx hb d_M_start_168 (by decide) ?_
                  exact z_retE C h hr hk (by first | rfl | (simp only [r_M_start, m_M_start, eq_false hh1, eq_false hh2, eq_true hh3, eq_true hh4, eq_true hh5, ↓reduceIte]; done) | (simp [r_M_start, m_M_start, eq_false hh1, eq_false hh2, eq_true hh3, eq_true hh4, eq_true hh5]; done)) (by first | rfl | (simp only [r_M_start, m_M_start, eq_false hh1, eq_false hh2, eq_true hh3, eq_true hh4, eq_true hh5, ↓reduceIte]; done) | (simp [r_M_start, m_M_start, eq_false hh1, eq_false hh2, eq_true hh3, eq_true hh4, eq_true hh5]; done)) (by first | rfl | (simp only [r_M_start, m_M_start, eq_false hh1, eq_false hh2, eq_true hh3, eq_true hh4, eq_true hh5, ↓reduceIte]; done) | (simp [r_M_start, m_M_start, eq_false hh1, eq_false hh2, eq_true hh3, eq_true hh4, eq_true hh5]; done)) d_M_start_169
                refine lv_iload_n hx hb d_M_start_151 rfl (lv_at hl 3 rfl) ?_
                refine lv_if_ne (tgt := 159) hx hb d_M_start_152 (by decide) (fun hh6 => ?_) (fun hh6 => ?_)
                · skip
                  refine lv_iconst (v := 1) hx hb d_M_start_159 (by decide) ?_
                  have J := J160_1 _ _ _ (lv_sub hl [0, 1, 2, 3, 4, 5] rfl) h
                  rw [show (jS0_M_start_160_1 X M co a w v) = 1 from (by first | (simp only [jS0_M_start_160_1, eq_false hh1, eq_false hh2, eq_true hh3, eq_true hh4, eq_true hh5, eq_false hh6, ↓reduceIte]; done) | (simp [jS0_M_start_160_1, eq_false hh1, eq_false hh2, eq_true hh3, eq_true hh4, eq_true hh5, eq_false hh6]; done))] at J
                  exact J
                · skip
                  refine lv_iconst (v := 0) hx hb d_M_start_155 (by decide) ?_
                  refine lv_goto (tgt := 160) hx hb d_M_start_156 (by decide) ?_
                  have J := J160_1 _ _ _ (lv_sub hl [0, 1, 2, 3, 4, 5] rfl) h
                  rw [show (jS0_M_start_160_1 X M co a w v) = 0 from (by first | (simp only [jS0_M_start_160_1, eq_false hh1, eq_false hh2, eq_true hh3, eq_true hh4, eq_true hh5, eq_true hh6, ↓reduceIte]; done) | (simp [jS0_M_start_160_1, eq_false hh1, eq_false hh2, eq_true hh3, eq_true hh4, eq_true hh5, eq_true hh6]; done))] at J
                  exact J
              refine lv_iload_n hx hb d_M_start_124 rfl (lv_at hl 3 rfl) ?_
              refine lv_if_ne (tgt := 132) hx hb d_M_start_125 (by decide) (fun hh7 => ?_) (fun hh7 => ?_)
              · skip
                refine lv_aload_n hx hb d_M_start_132 rfl (lv_at hl 0 rfl) ?_
                refine g_M_7 C h d_M_start_133 ?_
                refine lv_iload hx hb d_M_start_136 (lv_at hl 5 rfl) ?_
                refine l_M0 C h (vp4 (four_in hh1) (four_in hh2)) d_M_start_138 ?_
                refine z_top (y := M 0 (Int32.toNatClampNeg ((4 * co) + a))) rfl ?_
                refine lv_iconst (v := 1) hx hb d_M_start_139 (by decide) ?_
                refine lv_icmp_ne (tgt := 148) hx hb d_M_start_140 (by decide) (fun hh8 => ?_) (fun hh8 => ?_)
                · skip
                  refine lv_iconst (v := 5) hx hb d_M_start_148 (by decide) ?_
                  have J := J149_1 _ _ _ (lv_sub hl [0, 1, 2, 3, 4, 5] rfl) h
                  rw [show (jS0_M_start_149_1 X M co a w v) = 5 from (by first | (simp only [jS0_M_start_149_1, eq_false hh1, eq_false hh2, eq_true hh3, eq_true hh4, eq_true hh5, eq_false hh7, eq_false hh8, ↓reduceIte]; done) | (simp [jS0_M_start_149_1, eq_false hh1, eq_false hh2, eq_true hh3, eq_true hh4, eq_true hh5, eq_false hh7, eq_false hh8]; done))] at J
                  exact J
                · skip
                  refine lv_bipush (v := 7) hx hb d_M_start_143 (by decide) ?_
                  refine lv_goto (tgt := 149) hx hb d_M_start_145 (by decide) ?_
                  have J := J149_1 _ _ _ (lv_sub hl [0, 1, 2, 3, 4, 5] rfl) h
                  rw [show (jS0_M_start_149_1 X M co a w v) = 7 from (by first | (simp only [jS0_M_start_149_1, eq_false hh1, eq_false hh2, eq_true hh3, eq_true hh4, eq_true hh5, eq_false hh7, eq_true hh8, ↓reduceIte]; done) | (simp [jS0_M_start_149_1, eq_false hh1, eq_false hh2, eq_true hh3, eq_true hh4, eq_true hh5, eq_false hh7, eq_true hh8]; done))] at J
                  exact J
              · skip
                refine lv_iconst (v := 4) hx hb d_M_start_128 (by decide) ?_
                refine lv_goto (tgt := 149) hx hb d_M_start_129 (by decide) ?_
                have J := J149_1 _ _ _ (lv_sub hl [0, 1, 2, 3, 4, 5] rfl) h
                rw [show (jS0_M_start_149_1 X M co a w v) = 4 from (by first | (simp only [jS0_M_start_149_1, eq_false hh1, eq_false hh2, eq_true hh3, eq_true hh4, eq_true hh5, eq_true hh7, ↓reduceIte]; done) | (simp [jS0_M_start_149_1, eq_false hh1, eq_false hh2, eq_true hh3, eq_true hh4, eq_true hh5, eq_true hh7]; done))] at J
                exact J
            · skip
              refine lv_aload_n hx hb d_M_start_80 rfl (lv_at hl 0 rfl) ?_
              refine lv_iload_n hx hb d_M_start_81 rfl (lv_at hl 1 rfl) ?_
              refine lv_iload_n hx hb d_M_start_82 rfl (lv_at hl 2 rfl) ?_
              refine z_callV (i := 37) C h (k_M_finish l dC dI k q X (u2 (u2 M 7 (Int32.toNatClampNeg co) w) 8 (Int32.toNatClampNeg co) v) co a (four_in hh1) (four_in hh2)) co_M_finish ml_M_136 im_M_finish se_M_finish in_M rfl rfl hd_M_finish ⟨by decide, by decide⟩ ⟨Nat.zero_le _, Nat.zero_le _⟩ hl.1 (Nat.le_of_ble_eq_true rfl) d_M_start_83 rfl (fun H locs h => ?_)
              refine W.eq (g2 := F0 m 86 ls []) rfl ?_
              have h : zH dC dI k q X (m_M_finish X (u2 (u2 M 7 (Int32.toNatClampNeg co) w) 8 (Int32.toNatClampNeg co) v) co a) (zA q) s.heap H locs := h
              refine lv_iconst (v := 1) hx hb d_M_start_86 (by decide) ?_
              exact z_retE C h hr hk (by first | rfl | (simp only [r_M_start, m_M_start, eq_false hh1, eq_false hh2, eq_true hh3, eq_true hh4, eq_false hh5, ↓reduceIte]; done) | (simp [r_M_start, m_M_start, eq_false hh1, eq_false hh2, eq_true hh3, eq_true hh4, eq_false hh5]; done)) (by first | rfl | (simp only [r_M_start, m_M_start, eq_false hh1, eq_false hh2, eq_true hh3, eq_true hh4, eq_false hh5, ↓reduceIte]; done) | (simp [r_M_start, m_M_start, eq_false hh1, eq_false hh2, eq_true hh3, eq_true hh4, eq_false hh5]; done)) (by first | rfl | (simp only [r_M_start, m_M_start, eq_false hh1, eq_false hh2, eq_true hh3, eq_true hh4, eq_false hh5, ↓reduceIte]; done) | (simp [r_M_start, m_M_start, eq_false hh1, eq_false hh2, eq_true hh3, eq_true hh4, eq_false hh5]; done)) d_M_start_87
          refine lv_iload_n hx hb d_M_start_68 rfl (lv_at hl 4 rfl) ?_
          refine lv_if_ne (tgt := 76) hx hb d_M_start_69 (by decide) (fun hh9 => ?_) (fun hh9 => ?_)
          · skip
            refine lv_iconst (v := 1) hx hb d_M_start_76 (by decide) ?_
            have J := J77_1 _ _ _ (lv_sub hl [1, 2, 3, 4, 5, 0] rfl) h
            rw [show (jS0_M_start_77_1 X M co a w v) = 1 from (by first | (simp only [jS0_M_start_77_1, eq_false hh1, eq_false hh2, eq_true hh3, eq_true hh4, eq_false hh9, ↓reduceIte]; done) | (simp [jS0_M_start_77_1, eq_false hh1, eq_false hh2, eq_true hh3, eq_true hh4, eq_false hh9]; done))] at J
            exact J
          · skip
            refine lv_iconst (v := 0) hx hb d_M_start_72 (by decide) ?_
            refine lv_goto (tgt := 77) hx hb d_M_start_73 (by decide) ?_
            have J := J77_1 _ _ _ (lv_sub hl [1, 2, 3, 4, 5, 0] rfl) h
            rw [show (jS0_M_start_77_1 X M co a w v) = 0 from (by first | (simp only [jS0_M_start_77_1, eq_false hh1, eq_false hh2, eq_true hh3, eq_true hh4, eq_true hh9, ↓reduceIte]; done) | (simp [jS0_M_start_77_1, eq_false hh1, eq_false hh2, eq_true hh3, eq_true hh4, eq_true hh9]; done))] at J
            exact J
        · skip
          refine lv_bipush (v := -2) hx hb d_M_start_43 (by decide) ?_
          exact z_retE C h hr hk (by first | rfl | (simp only [r_M_start, m_M_start, eq_false hh1, eq_false hh2, eq_true hh3, eq_false hh4, ↓reduceIte]; done) | (simp [r_M_start, m_M_start, eq_false hh1, eq_false hh2, eq_true hh3, eq_false hh4]; done)) (by first | rfl | (simp only [r_M_start, m_M_start, eq_false hh1, eq_false hh2, eq_true hh3, eq_false hh4, ↓reduceIte]; done) | (simp [r_M_start, m_M_start, eq_false hh1, eq_false hh2, eq_true hh3, eq_false hh4]; done)) (by first | rfl | (simp only [r_M_start, m_M_start, eq_false hh1, eq_false hh2, eq_true hh3, eq_false hh4, ↓reduceIte]; done) | (simp [r_M_start, m_M_start, eq_false hh1, eq_false hh2, eq_true hh3, eq_false hh4]; done)) d_M_start_45
    · skip
      refine lv_iconst (v := -1) hx hb d_M_start_14 (by decide) ?_
      exact z_retE C h hr hk (by first | rfl | (simp only [r_M_start, m_M_start, eq_false hh1, eq_true hh2, ↓reduceIte]; done) | (simp [r_M_start, m_M_start, eq_false hh1, eq_true hh2]; done)) (by first | rfl | (simp only [r_M_start, m_M_start, eq_false hh1, eq_true hh2, ↓reduceIte]; done) | (simp [r_M_start, m_M_start, eq_false hh1, eq_true hh2]; done)) (by first | rfl | (simp only [r_M_start, m_M_start, eq_false hh1, eq_true hh2, ↓reduceIte]; done) | (simp [r_M_start, m_M_start, eq_false hh1, eq_true hh2]; done)) d_M_start_15
theorem hd_M_load : y_M_load.cls ≠ "java/lang/invoke/MethodHandle" ∧ y_M_load.cls ≠ "java/lang/invoke/VarHandle" ∧ (parseMethodDescriptor y_M_load.desc).map (fun d => d.parameters.length) = some 2 := by decide +kernel
def r_M_load (X : zXS) (M : zMS) (co : Int32) (a : Int32) : Int32 := (r_M_start X M co a 0 0)
def m_M_load (X : zXS) (M : zMS) (co : Int32) (a : Int32) : zMS := (m_M_start X M co a 0 0)
set_option maxHeartbeats 1000000 in
set_option maxRecDepth 100000 in
theorem k_M_load (l : Launch) (dC : Nat → ClassId) (dI : Nat → Nat → Nat) (k : Nat → ClassId) (q : Nat → Nat) (X : zXS) (M : zMS) (co : Int32) (a : Int32)  (n : Nat) (hn : M 15 0 = nI n) (hb9 : n + 8 < 200) : zMet l dC dI k q y_M_load c_M_load 3 (some .int) 3 78 [.ref (q 37), .int co, .int a] (some (.int (r_M_load X M co a))) X M X (m_M_load X M co a) := by
  refine zMet.of (by decide) (Nat.le_of_ble_eq_true rfl) ?_
  intro p e s m args below meth c ls C hr hk hl h
  have hx := C.1
  have hb := C.2.1
  have hl : lv_has ls 3 [(0, .ref (q 37)), (1, .int co), (2, .int a)] := hl
  refine lv_aload_n hx hb d_M_load_0 rfl (lv_at hl 0 rfl) ?_
  refine lv_iload_n hx hb d_M_load_1 rfl (lv_at hl 1 rfl) ?_
  refine lv_iload_n hx hb d_M_load_2 rfl (lv_at hl 2 rfl) ?_
  refine lv_iconst (v := 0) hx hb d_M_load_3 (by decide) ?_
  refine lv_iconst (v := 0) hx hb d_M_load_4 (by decide) ?_
  refine z_callV (i := 37) C h (k_M_start l dC dI k q X M co a 0 0 n hn hb9) co_M_start ml_M_142 im_M_start se_M_start in_M rfl rfl hd_M_start ⟨by decide, by decide⟩ ⟨Nat.zero_le _, Nat.zero_le _⟩ hl.1 (Nat.le_of_ble_eq_true rfl) d_M_load_5 rfl (fun H locs h => ?_)
  refine W.eq (g2 := F0 m 8 ls [.int (r_M_start X M co a 0 0)]) rfl ?_
  have h : zH dC dI k q X (m_M_start X M co a 0 0) (zA q) s.heap H locs := h
  exact z_retE C h hr hk (by first | rfl | (simp only [r_M_load, m_M_load, ↓reduceIte]; done) | (simp [r_M_load, m_M_load]; done)) (by first | rfl | (simp only [r_M_load, m_M_load, ↓reduceIte]; done) | (simp [r_M_load, m_M_load]; done)) (by first | rfl | (simp only [r_M_load, m_M_load, ↓reduceIte]; done) | (simp [r_M_load, m_M_load]; done)) d_M_load_8
theorem hd_M_store : y_M_store.cls ≠ "java/lang/invoke/MethodHandle" ∧ y_M_store.cls ≠ "java/lang/invoke/VarHandle" ∧ (parseMethodDescriptor y_M_store.desc).map (fun d => d.parameters.length) = some 3 := by decide +kernel
def r_M_store (X : zXS) (M : zMS) (co : Int32) (a : Int32) (v : Int32) : Int32 := (r_M_start X M co a 1 v)
def m_M_store (X : zXS) (M : zMS) (co : Int32) (a : Int32) (v : Int32) : zMS := (m_M_start X M co a 1 v)
set_option maxHeartbeats 1000000 in
set_option maxRecDepth 100000 in
theorem k_M_store (l : Launch) (dC : Nat → ClassId) (dI : Nat → Nat → Nat) (k : Nat → ClassId) (q : Nat → Nat) (X : zXS) (M : zMS) (co : Int32) (a : Int32) (v : Int32)  (n : Nat) (hn : M 15 0 = nI n) (hb9 : n + 8 < 200) : zMet l dC dI k q y_M_store c_M_store 4 (some .int) 3 78 [.ref (q 37), .int co, .int a, .int v] (some (.int (r_M_store X M co a v))) X M X (m_M_store X M co a v) := by
  refine zMet.of (by decide) (Nat.le_of_ble_eq_true rfl) ?_
  intro p e s m args below meth c ls C hr hk hl h
  have hx := C.1
  have hb := C.2.1
  have hl : lv_has ls 4 [(0, .ref (q 37)), (1, .int co), (2, .int a), (3, .int v)] := hl
  refine lv_aload_n hx hb d_M_store_0 rfl (lv_at hl 0 rfl) ?_
  refine lv_iload_n hx hb d_M_store_1 rfl (lv_at hl 1 rfl) ?_
  refine lv_iload_n hx hb d_M_store_2 rfl (lv_at hl 2 rfl) ?_
  refine lv_iconst (v := 1) hx hb d_M_store_3 (by decide) ?_
  refine lv_iload_n hx hb d_M_store_4 rfl (lv_at hl 3 rfl) ?_
  refine z_callV (i := 37) C h (k_M_start l dC dI k q X M co a 1 v n hn hb9) co_M_start ml_M_142 im_M_start se_M_start in_M rfl rfl hd_M_start ⟨by decide, by decide⟩ ⟨Nat.zero_le _, Nat.zero_le _⟩ hl.1 (Nat.le_of_ble_eq_true rfl) d_M_store_5 rfl (fun H locs h => ?_)
  refine W.eq (g2 := F0 m 8 ls [.int (r_M_start X M co a 1 v)]) rfl ?_
  have h : zH dC dI k q X (m_M_start X M co a 1 v) (zA q) s.heap H locs := h
  exact z_retE C h hr hk (by first | rfl | (simp only [r_M_store, m_M_store, ↓reduceIte]; done) | (simp [r_M_store, m_M_store]; done)) (by first | rfl | (simp only [r_M_store, m_M_store, ↓reduceIte]; done) | (simp [r_M_store, m_M_store]; done)) (by first | rfl | (simp only [r_M_store, m_M_store, ↓reduceIte]; done) | (simp [r_M_store, m_M_store]; done)) d_M_store_8
theorem hd_M_add : y_M_add.cls ≠ "java/lang/invoke/MethodHandle" ∧ y_M_add.cls ≠ "java/lang/invoke/VarHandle" ∧ (parseMethodDescriptor y_M_add.desc).map (fun d => d.parameters.length) = some 3 := by decide +kernel
def r_M_add (X : zXS) (M : zMS) (co : Int32) (a : Int32) (v : Int32) : Int32 := (r_M_start X M co a 2 v)
def m_M_add (X : zXS) (M : zMS) (co : Int32) (a : Int32) (v : Int32) : zMS := (m_M_start X M co a 2 v)
set_option maxHeartbeats 1000000 in
set_option maxRecDepth 100000 in
theorem k_M_add (l : Launch) (dC : Nat → ClassId) (dI : Nat → Nat → Nat) (k : Nat → ClassId) (q : Nat → Nat) (X : zXS) (M : zMS) (co : Int32) (a : Int32) (v : Int32)  (n : Nat) (hn : M 15 0 = nI n) (hb9 : n + 8 < 200) : zMet l dC dI k q y_M_add c_M_add 4 (some .int) 3 78 [.ref (q 37), .int co, .int a, .int v] (some (.int (r_M_add X M co a v))) X M X (m_M_add X M co a v) := by
  refine zMet.of (by decide) (Nat.le_of_ble_eq_true rfl) ?_
  intro p e s m args below meth c ls C hr hk hl h
  have hx := C.1
  have hb := C.2.1
  have hl : lv_has ls 4 [(0, .ref (q 37)), (1, .int co), (2, .int a), (3, .int v)] := hl
  refine lv_aload_n hx hb d_M_add_0 rfl (lv_at hl 0 rfl) ?_
  refine lv_iload_n hx hb d_M_add_1 rfl (lv_at hl 1 rfl) ?_
  refine lv_iload_n hx hb d_M_add_2 rfl (lv_at hl 2 rfl) ?_
  refine lv_iconst (v := 2) hx hb d_M_add_3 (by decide) ?_
  refine lv_iload_n hx hb d_M_add_4 rfl (lv_at hl 3 rfl) ?_
  refine z_callV (i := 37) C h (k_M_start l dC dI k q X M co a 2 v n hn hb9) co_M_start ml_M_142 im_M_start se_M_start in_M rfl rfl hd_M_start ⟨by decide, by decide⟩ ⟨Nat.zero_le _, Nat.zero_le _⟩ hl.1 (Nat.le_of_ble_eq_true rfl) d_M_add_5 rfl (fun H locs h => ?_)
  refine W.eq (g2 := F0 m 8 ls [.int (r_M_start X M co a 2 v)]) rfl ?_
  have h : zH dC dI k q X (m_M_start X M co a 2 v) (zA q) s.heap H locs := h
  exact z_retE C h hr hk (by first | rfl | (simp only [r_M_add, m_M_add, ↓reduceIte]; done) | (simp [r_M_add, m_M_add]; done)) (by first | rfl | (simp only [r_M_add, m_M_add, ↓reduceIte]; done) | (simp [r_M_add, m_M_add]; done)) (by first | rfl | (simp only [r_M_add, m_M_add, ↓reduceIte]; done) | (simp [r_M_add, m_M_add]; done)) d_M_add_8
theorem hd_M_leave : y_M_leave.cls ≠ "java/lang/invoke/MethodHandle" ∧ y_M_leave.cls ≠ "java/lang/invoke/VarHandle" ∧ (parseMethodDescriptor y_M_leave.desc).map (fun d => d.parameters.length) = some 2 := by decide +kernel
def jS0_M_leave_83_1 (X : zXS) (M : zMS) (co : Int32) (a : Int32) : Int32 := (if (M 0 (Int32.toNatClampNeg ((4 * co) + a))) = 3 then (M 1 (Int32.toNatClampNeg ((4 * co) + a))) else 0)
def r_M_leave (X : zXS) (M : zMS) (co : Int32) (a : Int32) : Int32 := (if (m_four co) = 0 then (-1) else (if (m_four a) = 0 then (-1) else (if (M 0 (Int32.toNatClampNeg ((4 * co) + a))) ≤ 3 then (if (M 0 (Int32.toNatClampNeg ((4 * co) + a))) = 0 then 0 else 1) else (-2))))
def m_M_leave (X : zXS) (M : zMS) (co : Int32) (a : Int32) : zMS := (if (m_four co) = 0 then M else (if (m_four a) = 0 then M else (if (M 0 (Int32.toNatClampNeg ((4 * co) + a))) ≤ 3 then (if (M 0 (Int32.toNatClampNeg ((4 * co) + a))) = 0 then M else (m_send (u2 M 0 (Int32.toNatClampNeg ((4 * co) + a)) (12 - (M 0 (Int32.toNatClampNeg ((4 * co) + a))))) ((M 0 (Int32.toNatClampNeg ((4 * co) + a))) + 1) a co 4 co 0 (jS0_M_leave_83_1 X M co a))) else M)))
set_option maxHeartbeats 1000000 in
set_option maxRecDepth 100000 in
theorem k_M_leave (l : Launch) (dC : Nat → ClassId) (dI : Nat → Nat → Nat) (k : Nat → ClassId) (q : Nat → Nat) (X : zXS) (M : zMS) (co : Int32) (a : Int32)  (n : Nat) (hn : M 15 0 = nI n) (hb9 : n + 8 < 200) : zMet l dC dI k q y_M_leave c_M_leave 5 (some .int) 1 27 [.ref (q 37), .int co, .int a] (some (.int (r_M_leave X M co a))) X M X (m_M_leave X M co a) := by
  refine zMet.of (by decide) (Nat.le_of_ble_eq_true rfl) ?_
  intro p e s m args below meth c ls C hr hk hl h
  have hx := C.1
  have hb := C.2.1
  have hl : lv_has ls 5 [(0, .ref (q 37)), (1, .int co), (2, .int a)] := hl
  refine lv_iload_n hx hb d_M_leave_0 rfl (lv_at hl 1 rfl) ?_
  refine z_callS C h (k_M_isFour l dC dI k q X M co) co_M_isFour ml_M_139 sc_M_isFour in_M hd_M_isFour ⟨by decide, by decide⟩ ⟨Nat.zero_le _, Nat.zero_le _⟩ hl.1 (Nat.le_of_ble_eq_true rfl) d_M_leave_1 rfl (fun H locs h => ?_)
  refine W.eq (g2 := F0 m 4 ls [.int (m_four co)]) rfl ?_
  have h : zH dC dI k q X M (zA q) s.heap H locs := h
  refine lv_if_eq (tgt := 14) hx hb d_M_leave_4 (by decide) (fun hh1 => ?_) (fun hh1 => ?_)
  · skip
    refine lv_iconst (v := -1) hx hb d_M_leave_14 (by decide) ?_
    exact z_retE C h hr hk (by first | rfl | (simp only [r_M_leave, m_M_leave, eq_true hh1, ↓reduceIte]; done) | (simp [r_M_leave, m_M_leave, eq_true hh1]; done)) (by first | rfl | (simp only [r_M_leave, m_M_leave, eq_true hh1, ↓reduceIte]; done) | (simp [r_M_leave, m_M_leave, eq_true hh1]; done)) (by first | rfl | (simp only [r_M_leave, m_M_leave, eq_true hh1, ↓reduceIte]; done) | (simp [r_M_leave, m_M_leave, eq_true hh1]; done)) d_M_leave_15
  · skip
    refine lv_iload_n hx hb d_M_leave_7 rfl (lv_at hl 2 rfl) ?_
    refine z_callS C h (k_M_isFour l dC dI k q X M a) co_M_isFour ml_M_139 sc_M_isFour in_M hd_M_isFour ⟨by decide, by decide⟩ ⟨Nat.zero_le _, Nat.zero_le _⟩ hl.1 (Nat.le_of_ble_eq_true rfl) d_M_leave_8 rfl (fun H locs h => ?_)
    refine W.eq (g2 := F0 m 11 ls [.int (m_four a)]) rfl ?_
    have h : zH dC dI k q X M (zA q) s.heap H locs := h
    refine lv_if_ne (tgt := 16) hx hb d_M_leave_11 (by decide) (fun hh2 => ?_) (fun hh2 => ?_)
    · skip
      refine lv_iconst (v := 4) hx hb d_M_leave_16 (by decide) ?_
      refine lv_iload_n hx hb d_M_leave_17 rfl (lv_at hl 1 rfl) ?_
      refine lv_imul hx hb d_M_leave_18 ?_
      refine lv_iload_n hx hb d_M_leave_19 rfl (lv_at hl 2 rfl) ?_
      refine lv_iadd hx hb d_M_leave_20 ?_
      refine lv_istore_n hx hb d_M_leave_21 rfl hl (by decide) rfl (fun ls hl => ?_)
      have hl : lv_has ls 5 [(3, .int ((4 * co) + a)), (0, .ref (q 37)), (1, .int co), (2, .int a)] := hl
      refine lv_aload_n hx hb d_M_leave_22 rfl (lv_at hl 1 rfl) ?_
      refine g_M_7 C h d_M_leave_23 ?_
      refine lv_iload_n hx hb d_M_leave_26 rfl (lv_at hl 0 rfl) ?_
      refine l_M0 C h (vp4 (four_in hh1) (four_in hh2)) d_M_leave_27 ?_
      refine lv_istore hx hb d_M_leave_28 hl (by decide) rfl (fun ls hl => ?_)
      have hl : lv_has ls 5 [(4, .int (M 0 (Int32.toNatClampNeg ((4 * co) + a)))), (3, .int ((4 * co) + a)), (0, .ref (q 37)), (1, .int co), (2, .int a)] := hl
      refine lv_iload hx hb d_M_leave_30 (lv_at hl 0 rfl) ?_
      refine lv_iconst (v := 3) hx hb d_M_leave_32 (by decide) ?_
      refine lv_icmp_le (tgt := 39) hx hb d_M_leave_33 (by decide) (fun hh3 => ?_) (fun hh3 => ?_)
      · skip
        refine lv_iload hx hb d_M_leave_39 (lv_at hl 0 rfl) ?_
        refine lv_if_ne (tgt := 46) hx hb d_M_leave_41 (by decide) (fun hh4 => ?_) (fun hh4 => ?_)
        · skip
          refine lv_aload_n hx hb d_M_leave_46 rfl (lv_at hl 2 rfl) ?_
          refine g_M_7 C h d_M_leave_47 ?_
          refine lv_iload_n hx hb d_M_leave_50 rfl (lv_at hl 1 rfl) ?_
          refine lv_bipush (v := 12) hx hb d_M_leave_51 (by decide) ?_
          refine lv_iload hx hb d_M_leave_53 (lv_at hl 0 rfl) ?_
          refine lv_isub hx hb d_M_leave_55 ?_
          refine s_M0 C h (vp4 (four_in hh1) (four_in hh2)) d_M_leave_56 (fun H locs h => ?_)
          refine lv_aload_n hx hb d_M_leave_57 rfl (lv_at hl 2 rfl) ?_
          refine lv_iload hx hb d_M_leave_58 (lv_at hl 0 rfl) ?_
          refine lv_iconst (v := 1) hx hb d_M_leave_60 (by decide) ?_
          refine lv_iadd hx hb d_M_leave_61 ?_
          refine lv_iload_n hx hb d_M_leave_62 rfl (lv_at hl 4 rfl) ?_
          refine lv_iload_n hx hb d_M_leave_63 rfl (lv_at hl 3 rfl) ?_
          refine lv_iconst (v := 4) hx hb d_M_leave_64 (by decide) ?_
          refine lv_iload_n hx hb d_M_leave_65 rfl (lv_at hl 3 rfl) ?_
          refine lv_iconst (v := 0) hx hb d_M_leave_66 (by decide) ?_
          have J83_1 : ∀ (ls : Array Slot) (H : Heap) (locs : List Loc), lv_has ls 5 [(0, .ref (q 37)), (1, .int co), (2, .int a), (3, .int ((4 * co) + a)), (4, .int (M 0 (Int32.toNatClampNeg ((4 * co) + a))))] → zH dC dI k q X (u2 M 0 (Int32.toNatClampNeg ((4 * co) + a)) (12 - (M 0 (Int32.toNatClampNeg ((4 * co) + a))))) (zA q) s.heap H locs → W p l e { frames := 1, cells := 0, slots := 0, locals := 27 } s m args below meth c H locs 0 0 (MQ below (zQc dC dI k q X (m_M_leave X M co a) (some (.int (r_M_leave X M co a)))) args s 0 0 (zA q)) (F0 m 83 ls [.int (jS0_M_leave_83_1 X M co a), .int 0, .int co, .int 4, .int co, .int a, .int ((M 0 (Int32.toNatClampNeg ((4 * co) + a))) + 1), .ref (q 37)]) := by
            intro ls H locs hl h
            refine z_callV (i := 37) C h (k_M_sendWith l dC dI k q X (u2 M 0 (Int32.toNatClampNeg ((4 * co) + a)) (12 - (M 0 (Int32.toNatClampNeg ((4 * co) + a))))) ((M 0 (Int32.toNatClampNeg ((4 * co) + a))) + 1) a co 4 co 0 (jS0_M_leave_83_1 X M co a) (zRow.room (zRow.up (by decide) (zRow.of hn)) (by omega)) (vp4 (four_in hh1) (four_in hh2))) co_M_sendWith ml_M_77 im_M_sendWith se_M_sendWith in_M rfl rfl hd_M_sendWith ⟨by decide, by decide⟩ ⟨Nat.zero_le _, Nat.zero_le _⟩ hl.1 (Nat.le_of_ble_eq_true rfl) d_M_leave_83 rfl (fun H locs h => ?_)
            refine W.eq (g2 := F0 m 86 ls []) rfl ?_
            have h : zH dC dI k q X (m_send (u2 M 0 (Int32.toNatClampNeg ((4 * co) + a)) (12 - (M 0 (Int32.toNatClampNeg ((4 * co) + a))))) ((M 0 (Int32.toNatClampNeg ((4 * co) + a))) + 1) a co 4 co 0 (jS0_M_leave_83_1 X M co a)) (zA q) s.heap H locs := h
            refine lv_iconst (v := 1) hx hb d_M_leave_86 (by decide) ?_
            exact z_retE C h hr hk (by first | rfl | (simp only [r_M_leave, m_M_leave, eq_false hh1, eq_false hh2, eq_true hh3, eq_false hh4, ↓reduceIte]; done) | (simp [r_M_leave, m_M_leave, eq_false hh1, eq_false hh2, eq_true hh3, eq_false hh4]; done)) (by first | rfl | (simp only [r_M_leave, m_M_leave, eq_false hh1, eq_false hh2, eq_true hh3, eq_false hh4, ↓reduceIte]; done) | (simp [r_M_leave, m_M_leave, eq_false hh1, eq_false hh2, eq_true hh3, eq_false hh4]; done)) (by first | rfl | (simp only [r_M_leave, m_M_leave, eq_false hh1, eq_false hh2, eq_true hh3, eq_false hh4, ↓reduceIte]; done) | (simp [r_M_leave, m_M_leave, eq_false hh1, eq_false hh2, eq_true hh3, eq_false hh4]; done)) d_M_leave_87
          refine lv_iload hx hb d_M_leave_67 (lv_at hl 0 rfl) ?_
          refine lv_iconst (v := 3) hx hb d_M_leave_69 (by decide) ?_
          refine lv_icmp_ne (tgt := 82) hx hb d_M_leave_70 (by decide) (fun hh5 => ?_) (fun hh5 => ?_)
          · skip
            refine lv_iconst (v := 0) hx hb d_M_leave_82 (by decide) ?_
            have J := J83_1 _ _ _ (lv_sub hl [2, 3, 4, 1, 0] rfl) h
            rw [show (jS0_M_leave_83_1 X M co a) = 0 from (by first | (simp only [jS0_M_leave_83_1, eq_false hh1, eq_false hh2, eq_true hh3, eq_false hh4, eq_false hh5, ↓reduceIte]; done) | (simp [jS0_M_leave_83_1, eq_false hh1, eq_false hh2, eq_true hh3, eq_false hh4, eq_false hh5]; done))] at J
            exact J
          · skip
            refine lv_aload_n hx hb d_M_leave_73 rfl (lv_at hl 2 rfl) ?_
            refine g_M_13 C h d_M_leave_74 ?_
            refine lv_iload_n hx hb d_M_leave_77 rfl (lv_at hl 1 rfl) ?_
            refine l_M1 C h (vp4 (four_in hh1) (four_in hh2)) d_M_leave_78 ?_
            refine z_top (y := M 1 (Int32.toNatClampNeg ((4 * co) + a))) rfl ?_
            refine lv_goto (tgt := 83) hx hb d_M_leave_79 (by decide) ?_
            have J := J83_1 _ _ _ (lv_sub hl [2, 3, 4, 1, 0] rfl) h
            rw [show (jS0_M_leave_83_1 X M co a) = (M 1 (Int32.toNatClampNeg ((4 * co) + a))) from (by first | (simp only [jS0_M_leave_83_1, eq_false hh1, eq_false hh2, eq_true hh3, eq_false hh4, eq_true hh5, ↓reduceIte]; done) | (simp [jS0_M_leave_83_1, eq_false hh1, eq_false hh2, eq_true hh3, eq_false hh4, eq_true hh5]; done))] at J
            exact J
        · skip
          refine lv_iconst (v := 0) hx hb d_M_leave_44 (by decide) ?_
          exact z_retE C h hr hk (by first | rfl | (simp only [r_M_leave, m_M_leave, eq_false hh1, eq_false hh2, eq_true hh3, eq_true hh4, ↓reduceIte]; done) | (simp [r_M_leave, m_M_leave, eq_false hh1, eq_false hh2, eq_true hh3, eq_true hh4]; done)) (by first | rfl | (simp only [r_M_leave, m_M_leave, eq_false hh1, eq_false hh2, eq_true hh3, eq_true hh4, ↓reduceIte]; done) | (simp [r_M_leave, m_M_leave, eq_false hh1, eq_false hh2, eq_true hh3, eq_true hh4]; done)) (by first | rfl | (simp only [r_M_leave, m_M_leave, eq_false hh1, eq_false hh2, eq_true hh3, eq_true hh4, ↓reduceIte]; done) | (simp [r_M_leave, m_M_leave, eq_false hh1, eq_false hh2, eq_true hh3, eq_true hh4]; done)) d_M_leave_45
      · skip
        refine lv_bipush (v := -2) hx hb d_M_leave_36 (by decide) ?_
        exact z_retE C h hr hk (by first | rfl | (simp only [r_M_leave, m_M_leave, eq_false hh1, eq_false hh2, eq_false hh3, ↓reduceIte]; done) | (simp [r_M_leave, m_M_leave, eq_false hh1, eq_false hh2, eq_false hh3]; done)) (by first | rfl | (simp only [r_M_leave, m_M_leave, eq_false hh1, eq_false hh2, eq_false hh3, ↓reduceIte]; done) | (simp [r_M_leave, m_M_leave, eq_false hh1, eq_false hh2, eq_false hh3]; done)) (by first | rfl | (simp only [r_M_leave, m_M_leave, eq_false hh1, eq_false hh2, eq_false hh3, ↓reduceIte]; done) | (simp [r_M_leave, m_M_leave, eq_false hh1, eq_false hh2, eq_false hh3]; done)) d_M_leave_38
    · skip
      refine lv_iconst (v := -1) hx hb d_M_leave_14 (by decide) ?_
      exact z_retE C h hr hk (by first | rfl | (simp only [r_M_leave, m_M_leave, eq_false hh1, eq_true hh2, ↓reduceIte]; done) | (simp [r_M_leave, m_M_leave, eq_false hh1, eq_true hh2]; done)) (by first | rfl | (simp only [r_M_leave, m_M_leave, eq_false hh1, eq_true hh2, ↓reduceIte]; done) | (simp [r_M_leave, m_M_leave, eq_false hh1, eq_true hh2]; done)) (by first | rfl | (simp only [r_M_leave, m_M_leave, eq_false hh1, eq_true hh2, ↓reduceIte]; done) | (simp [r_M_leave, m_M_leave, eq_false hh1, eq_true hh2]; done)) d_M_leave_15
theorem hd_M_message : y_M_message.cls ≠ "java/lang/invoke/MethodHandle" ∧ y_M_message.cls ≠ "java/lang/invoke/VarHandle" ∧ (parseMethodDescriptor y_M_message.desc).map (fun d => d.parameters.length) = some 2 := by decide +kernel
def r_M_message (X : zXS) (M : zMS) (x : Int32) (w : Int32) : Int32 := (if x = (-1) then (M 15 0) else (if x < 0 then (-1) else (if x < (M 15 0) then (if w = 0 then (M 16 (Int32.toNatClampNeg x)) else (if w = 1 then (M 17 (Int32.toNatClampNeg x)) else (if w = 2 then (M 18 (Int32.toNatClampNeg x)) else (if w = 3 then (M 19 (Int32.toNatClampNeg x)) else (if w = 4 then (M 20 (Int32.toNatClampNeg x)) else (if w = 5 then (M 21 (Int32.toNatClampNeg x)) else (-1))))))) else (-1))))
set_option maxHeartbeats 1000000 in
set_option maxRecDepth 100000 in
theorem k_M_message (l : Launch) (dC : Nat → ClassId) (dI : Nat → Nat → Nat) (k : Nat → ClassId) (q : Nat → Nat) (X : zXS) (M : zMS) (x : Int32) (w : Int32)  (n : Nat) (hn : M 15 0 = nI n) (hb9 : n + 8 < 200) : zMet l dC dI k q y_M_message c_M_message 3 (some .int) 0 0 [.ref (q 37), .int x, .int w] (some (.int (r_M_message X M x w))) X M X M := by
  refine zMet.of (by decide) (Nat.le_of_ble_eq_true rfl) ?_
  intro p e s m args below meth c ls C hr hk hl h
  have hx := C.1
  have hb := C.2.1
  have hl : lv_has ls 3 [(0, .ref (q 37)), (1, .int x), (2, .int w)] := hl
  refine lv_iload_n hx hb d_M_message_0 rfl (lv_at hl 1 rfl) ?_
  refine lv_iconst (v := -1) hx hb d_M_message_1 (by decide) ?_
  refine lv_icmp_ne (tgt := 10) hx hb d_M_message_2 (by decide) (fun hh1 => ?_) (fun hh1 => ?_)
  · skip
    refine lv_iload_n hx hb d_M_message_10 rfl (lv_at hl 1 rfl) ?_
    refine lv_if_lt (tgt := 22) hx hb d_M_message_11 (by decide) (fun hh2 => ?_) (fun hh2 => ?_)
    · skip
      refine lv_iconst (v := -1) hx hb d_M_message_22 (by decide) ?_
      exact z_retE C h hr hk (by first | rfl | (simp only [r_M_message, eq_false hh1, eq_true hh2, ↓reduceIte]; done) | (simp [r_M_message, eq_false hh1, eq_true hh2]; done)) (by first | rfl | (simp only [r_M_message, eq_false hh1, eq_true hh2, ↓reduceIte]; done) | (simp [r_M_message, eq_false hh1, eq_true hh2]; done)) (by first | rfl | (simp only [r_M_message, eq_false hh1, eq_true hh2, ↓reduceIte]; done) | (simp [r_M_message, eq_false hh1, eq_true hh2]; done)) d_M_message_23
    · skip
      refine lv_iload_n hx hb d_M_message_14 rfl (lv_at hl 1 rfl) ?_
      refine lv_aload_n hx hb d_M_message_15 rfl (lv_at hl 0 rfl) ?_
      refine g_M_81 C h d_M_message_16 ?_
      refine lv_icmp_lt (tgt := 24) hx hb d_M_message_19 (by decide) (fun hh3 => ?_) (fun hh3 => ?_)
      · skip
        refine lv_iload_n hx hb d_M_message_24 rfl (lv_at hl 2 rfl) ?_
        rcases (Decidable.em (w = 0)) with hh4 | hh4
        · skip
          refine lv_tableIn (tgt := 64) hx hb d_M_message_25 (by rw [hh4]; decide) (by rw [hh4]; decide) (by rw [hh4]; rfl) (by decide) ?_
          refine lv_aload_n hx hb d_M_message_64 rfl (lv_at hl 0 rfl) ?_
          refine g_M_56 C h d_M_message_65 ?_
          refine lv_iload_n hx hb d_M_message_68 rfl (lv_at hl 1 rfl) ?_
          refine l_M16 C h (rows_in hh2 hh3 hn (by omega) (by omega)) d_M_message_69 ?_
          exact z_retE C h hr hk (by first | rfl | (simp only [r_M_message, eq_false hh1, eq_false hh2, eq_true hh3, eq_true hh4, ↓reduceIte]; done) | (simp [r_M_message, eq_false hh1, eq_false hh2, eq_true hh3, eq_true hh4]; done)) (by first | rfl | (simp only [r_M_message, eq_false hh1, eq_false hh2, eq_true hh3, eq_true hh4, ↓reduceIte]; done) | (simp [r_M_message, eq_false hh1, eq_false hh2, eq_true hh3, eq_true hh4]; done)) (by first | rfl | (simp only [r_M_message, eq_false hh1, eq_false hh2, eq_true hh3, eq_true hh4, ↓reduceIte]; done) | (simp [r_M_message, eq_false hh1, eq_false hh2, eq_true hh3, eq_true hh4]; done)) d_M_message_70
        rcases (Decidable.em (w = 1)) with hh5 | hh5
        · skip
          refine lv_tableIn (tgt := 71) hx hb d_M_message_25 (by rw [hh5]; decide) (by rw [hh5]; decide) (by rw [hh5]; rfl) (by decide) ?_
          refine lv_aload_n hx hb d_M_message_71 rfl (lv_at hl 0 rfl) ?_
          refine g_M_59 C h d_M_message_72 ?_
          refine lv_iload_n hx hb d_M_message_75 rfl (lv_at hl 1 rfl) ?_
          refine l_M17 C h (rows_in hh2 hh3 hn (by omega) (by omega)) d_M_message_76 ?_
          exact z_retE C h hr hk (by first | rfl | (simp only [r_M_message, eq_false hh1, eq_false hh2, eq_true hh3, eq_false hh4, eq_true hh5, ↓reduceIte]; done) | (simp [r_M_message, eq_false hh1, eq_false hh2, eq_true hh3, eq_false hh4, eq_true hh5]; done)) (by first | rfl | (simp only [r_M_message, eq_false hh1, eq_false hh2, eq_true hh3, eq_false hh4, eq_true hh5, ↓reduceIte]; done) | (simp [r_M_message, eq_false hh1, eq_false hh2, eq_true hh3, eq_false hh4, eq_true hh5]; done)) (by first | rfl | (simp only [r_M_message, eq_false hh1, eq_false hh2, eq_true hh3, eq_false hh4, eq_true hh5, ↓reduceIte]; done) | (simp [r_M_message, eq_false hh1, eq_false hh2, eq_true hh3, eq_false hh4, eq_true hh5]; done)) d_M_message_77
        rcases (Decidable.em (w = 2)) with hh6 | hh6
        · skip
          refine lv_tableIn (tgt := 78) hx hb d_M_message_25 (by rw [hh6]; decide) (by rw [hh6]; decide) (by rw [hh6]; rfl) (by decide) ?_
          refine lv_aload_n hx hb d_M_message_78 rfl (lv_at hl 0 rfl) ?_
          refine g_M_62 C h d_M_message_79 ?_
          refine lv_iload_n hx hb d_M_message_82 rfl (lv_at hl 1 rfl) ?_
          refine l_M18 C h (rows_in hh2 hh3 hn (by omega) (by omega)) d_M_message_83 ?_
          exact z_retE C h hr hk (by first | rfl | (simp only [r_M_message, eq_false hh1, eq_false hh2, eq_true hh3, eq_false hh4, eq_false hh5, eq_true hh6, ↓reduceIte]; done) | (simp [r_M_message, eq_false hh1, eq_false hh2, eq_true hh3, eq_false hh4, eq_false hh5, eq_true hh6]; done)) (by first | rfl | (simp only [r_M_message, eq_false hh1, eq_false hh2, eq_true hh3, eq_false hh4, eq_false hh5, eq_true hh6, ↓reduceIte]; done) | (simp [r_M_message, eq_false hh1, eq_false hh2, eq_true hh3, eq_false hh4, eq_false hh5, eq_true hh6]; done)) (by first | rfl | (simp only [r_M_message, eq_false hh1, eq_false hh2, eq_true hh3, eq_false hh4, eq_false hh5, eq_true hh6, ↓reduceIte]; done) | (simp [r_M_message, eq_false hh1, eq_false hh2, eq_true hh3, eq_false hh4, eq_false hh5, eq_true hh6]; done)) d_M_message_84
        rcases (Decidable.em (w = 3)) with hh7 | hh7
        · skip
          refine lv_tableIn (tgt := 85) hx hb d_M_message_25 (by rw [hh7]; decide) (by rw [hh7]; decide) (by rw [hh7]; rfl) (by decide) ?_
          refine lv_aload_n hx hb d_M_message_85 rfl (lv_at hl 0 rfl) ?_
          refine g_M_65 C h d_M_message_86 ?_
          refine lv_iload_n hx hb d_M_message_89 rfl (lv_at hl 1 rfl) ?_
          refine l_M19 C h (rows_in hh2 hh3 hn (by omega) (by omega)) d_M_message_90 ?_
          exact z_retE C h hr hk (by first | rfl | (simp only [r_M_message, eq_false hh1, eq_false hh2, eq_true hh3, eq_false hh4, eq_false hh5, eq_false hh6, eq_true hh7, ↓reduceIte]; done) | (simp [r_M_message, eq_false hh1, eq_false hh2, eq_true hh3, eq_false hh4, eq_false hh5, eq_false hh6, eq_true hh7]; done)) (by first | rfl | (simp only [r_M_message, eq_false hh1, eq_false hh2, eq_true hh3, eq_false hh4, eq_false hh5, eq_false hh6, eq_true hh7, ↓reduceIte]; done) | (simp [r_M_message, eq_false hh1, eq_false hh2, eq_true hh3, eq_false hh4, eq_false hh5, eq_false hh6, eq_true hh7]; done)) (by first | rfl | (simp only [r_M_message, eq_false hh1, eq_false hh2, eq_true hh3, eq_false hh4, eq_false hh5, eq_false hh6, eq_true hh7, ↓reduceIte]; done) | (simp [r_M_message, eq_false hh1, eq_false hh2, eq_true hh3, eq_false hh4, eq_false hh5, eq_false hh6, eq_true hh7]; done)) d_M_message_91
        rcases (Decidable.em (w = 4)) with hh8 | hh8
        · skip
          refine lv_tableIn (tgt := 92) hx hb d_M_message_25 (by rw [hh8]; decide) (by rw [hh8]; decide) (by rw [hh8]; rfl) (by decide) ?_
          refine lv_aload_n hx hb d_M_message_92 rfl (lv_at hl 0 rfl) ?_
          refine g_M_68 C h d_M_message_93 ?_
          refine lv_iload_n hx hb d_M_message_96 rfl (lv_at hl 1 rfl) ?_
          refine l_M20 C h (rows_in hh2 hh3 hn (by omega) (by omega)) d_M_message_97 ?_
          exact z_retE C h hr hk (by first | rfl | (simp only [r_M_message, eq_false hh1, eq_false hh2, eq_true hh3, eq_false hh4, eq_false hh5, eq_false hh6, eq_false hh7, eq_true hh8, ↓reduceIte]; done) | (simp [r_M_message, eq_false hh1, eq_false hh2, eq_true hh3, eq_false hh4, eq_false hh5, eq_false hh6, eq_false hh7, eq_true hh8]; done)) (by first | rfl | (simp only [r_M_message, eq_false hh1, eq_false hh2, eq_true hh3, eq_false hh4, eq_false hh5, eq_false hh6, eq_false hh7, eq_true hh8, ↓reduceIte]; done) | (simp [r_M_message, eq_false hh1, eq_false hh2, eq_true hh3, eq_false hh4, eq_false hh5, eq_false hh6, eq_false hh7, eq_true hh8]; done)) (by first | rfl | (simp only [r_M_message, eq_false hh1, eq_false hh2, eq_true hh3, eq_false hh4, eq_false hh5, eq_false hh6, eq_false hh7, eq_true hh8, ↓reduceIte]; done) | (simp [r_M_message, eq_false hh1, eq_false hh2, eq_true hh3, eq_false hh4, eq_false hh5, eq_false hh6, eq_false hh7, eq_true hh8]; done)) d_M_message_98
        rcases (Decidable.em (w = 5)) with hh9 | hh9
        · skip
          refine lv_tableIn (tgt := 99) hx hb d_M_message_25 (by rw [hh9]; decide) (by rw [hh9]; decide) (by rw [hh9]; rfl) (by decide) ?_
          refine lv_aload_n hx hb d_M_message_99 rfl (lv_at hl 0 rfl) ?_
          refine g_M_71 C h d_M_message_100 ?_
          refine lv_iload_n hx hb d_M_message_103 rfl (lv_at hl 1 rfl) ?_
          refine l_M21 C h (rows_in hh2 hh3 hn (by omega) (by omega)) d_M_message_104 ?_
          exact z_retE C h hr hk (by first | rfl | (simp only [r_M_message, eq_false hh1, eq_false hh2, eq_true hh3, eq_false hh4, eq_false hh5, eq_false hh6, eq_false hh7, eq_false hh8, eq_true hh9, ↓reduceIte]; done) | (simp [r_M_message, eq_false hh1, eq_false hh2, eq_true hh3, eq_false hh4, eq_false hh5, eq_false hh6, eq_false hh7, eq_false hh8, eq_true hh9]; done)) (by first | rfl | (simp only [r_M_message, eq_false hh1, eq_false hh2, eq_true hh3, eq_false hh4, eq_false hh5, eq_false hh6, eq_false hh7, eq_false hh8, eq_true hh9, ↓reduceIte]; done) | (simp [r_M_message, eq_false hh1, eq_false hh2, eq_true hh3, eq_false hh4, eq_false hh5, eq_false hh6, eq_false hh7, eq_false hh8, eq_true hh9]; done)) (by first | rfl | (simp only [r_M_message, eq_false hh1, eq_false hh2, eq_true hh3, eq_false hh4, eq_false hh5, eq_false hh6, eq_false hh7, eq_false hh8, eq_true hh9, ↓reduceIte]; done) | (simp [r_M_message, eq_false hh1, eq_false hh2, eq_true hh3, eq_false hh4, eq_false hh5, eq_false hh6, eq_false hh7, eq_false hh8, eq_true hh9]; done)) d_M_message_105
        refine lv_tableOut (tgt := 106) hx hb d_M_message_25 (z_out6 hh4 hh5 hh6 hh7 hh8 hh9) (by decide) ?_
        refine lv_iconst (v := -1) hx hb d_M_message_106 (by decide) ?_
        exact z_retE C h hr hk (by first | rfl | (simp only [r_M_message, eq_false hh1, eq_false hh2, eq_true hh3, eq_false hh4, eq_false hh5, eq_false hh6, eq_false hh7, eq_false hh8, eq_false hh9, ↓reduceIte]; done) | (simp [r_M_message, eq_false hh1, eq_false hh2, eq_true hh3, eq_false hh4, eq_false hh5, eq_false hh6, eq_false hh7, eq_false hh8, eq_false hh9]; done)) (by first | rfl | (simp only [r_M_message, eq_false hh1, eq_false hh2, eq_true hh3, eq_false hh4, eq_false hh5, eq_false hh6, eq_false hh7, eq_false hh8, eq_false hh9, ↓reduceIte]; done) | (simp [r_M_message, eq_false hh1, eq_false hh2, eq_true hh3, eq_false hh4, eq_false hh5, eq_false hh6, eq_false hh7, eq_false hh8, eq_false hh9]; done)) (by first | rfl | (simp only [r_M_message, eq_false hh1, eq_false hh2, eq_true hh3, eq_false hh4, eq_false hh5, eq_false hh6, eq_false hh7, eq_false hh8, eq_false hh9, ↓reduceIte]; done) | (simp [r_M_message, eq_false hh1, eq_false hh2, eq_true hh3, eq_false hh4, eq_false hh5, eq_false hh6, eq_false hh7, eq_false hh8, eq_false hh9]; done)) d_M_message_107
      · skip
        refine lv_iconst (v := -1) hx hb d_M_message_22 (by decide) ?_
        exact z_retE C h hr hk (by first | rfl | (simp only [r_M_message, eq_false hh1, eq_false hh2, eq_false hh3, ↓reduceIte]; done) | (simp [r_M_message, eq_false hh1, eq_false hh2, eq_false hh3]; done)) (by first | rfl | (simp only [r_M_message, eq_false hh1, eq_false hh2, eq_false hh3, ↓reduceIte]; done) | (simp [r_M_message, eq_false hh1, eq_false hh2, eq_false hh3]; done)) (by first | rfl | (simp only [r_M_message, eq_false hh1, eq_false hh2, eq_false hh3, ↓reduceIte]; done) | (simp [r_M_message, eq_false hh1, eq_false hh2, eq_false hh3]; done)) d_M_message_23
  · skip
    refine lv_aload_n hx hb d_M_message_5 rfl (lv_at hl 0 rfl) ?_
    refine g_M_81 C h d_M_message_6 ?_
    exact z_retE C h hr hk (by first | rfl | (simp only [r_M_message, eq_true hh1, ↓reduceIte]; done) | (simp [r_M_message, eq_true hh1]; done)) (by first | rfl | (simp only [r_M_message, eq_true hh1, ↓reduceIte]; done) | (simp [r_M_message, eq_true hh1]; done)) (by first | rfl | (simp only [r_M_message, eq_true hh1, ↓reduceIte]; done) | (simp [r_M_message, eq_true hh1]; done)) d_M_message_9
theorem hd_M_carried : y_M_carried.cls ≠ "java/lang/invoke/MethodHandle" ∧ y_M_carried.cls ≠ "java/lang/invoke/VarHandle" ∧ (parseMethodDescriptor y_M_carried.desc).map (fun d => d.parameters.length) = some 1 := by decide +kernel
def r_M_carried (X : zXS) (M : zMS) (x : Int32) : Int32 := (if x < 0 then 0 else (if x < (M 15 0) then (M 22 (Int32.toNatClampNeg x)) else 0))
set_option maxHeartbeats 1000000 in
set_option maxRecDepth 100000 in
theorem k_M_carried (l : Launch) (dC : Nat → ClassId) (dI : Nat → Nat → Nat) (k : Nat → ClassId) (q : Nat → Nat) (X : zXS) (M : zMS) (x : Int32)  (n : Nat) (hn : M 15 0 = nI n) (hb9 : n + 8 < 200) : zMet l dC dI k q y_M_carried c_M_carried 2 (some .int) 0 0 [.ref (q 37), .int x] (some (.int (r_M_carried X M x))) X M X M := by
  refine zMet.of (by decide) (Nat.le_of_ble_eq_true rfl) ?_
  intro p e s m args below meth c ls C hr hk hl h
  have hx := C.1
  have hb := C.2.1
  have hl : lv_has ls 2 [(0, .ref (q 37)), (1, .int x)] := hl
  refine lv_iload_n hx hb d_M_carried_0 rfl (lv_at hl 1 rfl) ?_
  refine lv_if_lt (tgt := 12) hx hb d_M_carried_1 (by decide) (fun hh1 => ?_) (fun hh1 => ?_)
  · skip
    refine lv_iconst (v := 0) hx hb d_M_carried_12 (by decide) ?_
    refine lv_goto (tgt := 22) hx hb d_M_carried_13 (by decide) ?_
    exact z_retE C h hr hk (by first | rfl | (simp only [r_M_carried, eq_true hh1, ↓reduceIte]; done) | (simp [r_M_carried, eq_true hh1]; done)) (by first | rfl | (simp only [r_M_carried, eq_true hh1, ↓reduceIte]; done) | (simp [r_M_carried, eq_true hh1]; done)) (by first | rfl | (simp only [r_M_carried, eq_true hh1, ↓reduceIte]; done) | (simp [r_M_carried, eq_true hh1]; done)) d_M_carried_22
  · skip
    refine lv_iload_n hx hb d_M_carried_4 rfl (lv_at hl 1 rfl) ?_
    refine lv_aload_n hx hb d_M_carried_5 rfl (lv_at hl 0 rfl) ?_
    refine g_M_81 C h d_M_carried_6 ?_
    refine lv_icmp_lt (tgt := 16) hx hb d_M_carried_9 (by decide) (fun hh2 => ?_) (fun hh2 => ?_)
    · skip
      refine lv_aload_n hx hb d_M_carried_16 rfl (lv_at hl 0 rfl) ?_
      refine g_M_74 C h d_M_carried_17 ?_
      refine lv_iload_n hx hb d_M_carried_20 rfl (lv_at hl 1 rfl) ?_
      refine l_M22 C h (rows_in hh1 hh2 hn (by omega) (by omega)) d_M_carried_21 ?_
      exact z_retE C h hr hk (by first | rfl | (simp only [r_M_carried, eq_false hh1, eq_true hh2, ↓reduceIte]; done) | (simp [r_M_carried, eq_false hh1, eq_true hh2]; done)) (by first | rfl | (simp only [r_M_carried, eq_false hh1, eq_true hh2, ↓reduceIte]; done) | (simp [r_M_carried, eq_false hh1, eq_true hh2]; done)) (by first | rfl | (simp only [r_M_carried, eq_false hh1, eq_true hh2, ↓reduceIte]; done) | (simp [r_M_carried, eq_false hh1, eq_true hh2]; done)) d_M_carried_22
    · skip
      refine lv_iconst (v := 0) hx hb d_M_carried_12 (by decide) ?_
      refine lv_goto (tgt := 22) hx hb d_M_carried_13 (by decide) ?_
      exact z_retE C h hr hk (by first | rfl | (simp only [r_M_carried, eq_false hh1, eq_false hh2, ↓reduceIte]; done) | (simp [r_M_carried, eq_false hh1, eq_false hh2]; done)) (by first | rfl | (simp only [r_M_carried, eq_false hh1, eq_false hh2, ↓reduceIte]; done) | (simp [r_M_carried, eq_false hh1, eq_false hh2]; done)) (by first | rfl | (simp only [r_M_carried, eq_false hh1, eq_false hh2, ↓reduceIte]; done) | (simp [r_M_carried, eq_false hh1, eq_false hh2]; done)) d_M_carried_22
theorem hd_M_state : y_M_state.cls ≠ "java/lang/invoke/MethodHandle" ∧ y_M_state.cls ≠ "java/lang/invoke/VarHandle" ∧ (parseMethodDescriptor y_M_state.desc).map (fun d => d.parameters.length) = some 2 := by decide +kernel
def r_M_state (X : zXS) (M : zMS) (co : Int32) (a : Int32) : Int32 := (if (m_four co) = 0 then (-1) else (if (m_four a) = 0 then (-1) else (M 0 (Int32.toNatClampNeg ((4 * co) + a)))))
set_option maxHeartbeats 1000000 in
set_option maxRecDepth 100000 in
theorem k_M_state (l : Launch) (dC : Nat → ClassId) (dI : Nat → Nat → Nat) (k : Nat → ClassId) (q : Nat → Nat) (X : zXS) (M : zMS) (co : Int32) (a : Int32)   : zMet l dC dI k q y_M_state c_M_state 3 (some .int) 1 20 [.ref (q 37), .int co, .int a] (some (.int (r_M_state X M co a))) X M X M := by
  refine zMet.of (by decide) (Nat.le_of_ble_eq_true rfl) ?_
  intro p e s m args below meth c ls C hr hk hl h
  have hx := C.1
  have hb := C.2.1
  have hl : lv_has ls 3 [(0, .ref (q 37)), (1, .int co), (2, .int a)] := hl
  refine lv_iload_n hx hb d_M_state_0 rfl (lv_at hl 1 rfl) ?_
  refine z_callS C h (k_M_isFour l dC dI k q X M co) co_M_isFour ml_M_139 sc_M_isFour in_M hd_M_isFour ⟨by decide, by decide⟩ ⟨Nat.zero_le _, Nat.zero_le _⟩ hl.1 (Nat.le_of_ble_eq_true rfl) d_M_state_1 rfl (fun H locs h => ?_)
  refine W.eq (g2 := F0 m 4 ls [.int (m_four co)]) rfl ?_
  have h : zH dC dI k q X M (zA q) s.heap H locs := h
  refine lv_if_eq (tgt := 27) hx hb d_M_state_4 (by decide) (fun hh1 => ?_) (fun hh1 => ?_)
  · skip
    refine lv_iconst (v := -1) hx hb d_M_state_27 (by decide) ?_
    exact z_retE C h hr hk (by first | rfl | (simp only [r_M_state, eq_true hh1, ↓reduceIte]; done) | (simp [r_M_state, eq_true hh1]; done)) (by first | rfl | (simp only [r_M_state, eq_true hh1, ↓reduceIte]; done) | (simp [r_M_state, eq_true hh1]; done)) (by first | rfl | (simp only [r_M_state, eq_true hh1, ↓reduceIte]; done) | (simp [r_M_state, eq_true hh1]; done)) d_M_state_28
  · skip
    refine lv_iload_n hx hb d_M_state_7 rfl (lv_at hl 2 rfl) ?_
    refine z_callS C h (k_M_isFour l dC dI k q X M a) co_M_isFour ml_M_139 sc_M_isFour in_M hd_M_isFour ⟨by decide, by decide⟩ ⟨Nat.zero_le _, Nat.zero_le _⟩ hl.1 (Nat.le_of_ble_eq_true rfl) d_M_state_8 rfl (fun H locs h => ?_)
    refine W.eq (g2 := F0 m 11 ls [.int (m_four a)]) rfl ?_
    have h : zH dC dI k q X M (zA q) s.heap H locs := h
    refine lv_if_eq (tgt := 27) hx hb d_M_state_11 (by decide) (fun hh2 => ?_) (fun hh2 => ?_)
    · skip
      refine lv_iconst (v := -1) hx hb d_M_state_27 (by decide) ?_
      exact z_retE C h hr hk (by first | rfl | (simp only [r_M_state, eq_false hh1, eq_true hh2, ↓reduceIte]; done) | (simp [r_M_state, eq_false hh1, eq_true hh2]; done)) (by first | rfl | (simp only [r_M_state, eq_false hh1, eq_true hh2, ↓reduceIte]; done) | (simp [r_M_state, eq_false hh1, eq_true hh2]; done)) (by first | rfl | (simp only [r_M_state, eq_false hh1, eq_true hh2, ↓reduceIte]; done) | (simp [r_M_state, eq_false hh1, eq_true hh2]; done)) d_M_state_28
    · skip
      refine lv_aload_n hx hb d_M_state_14 rfl (lv_at hl 0 rfl) ?_
      refine g_M_7 C h d_M_state_15 ?_
      refine lv_iconst (v := 4) hx hb d_M_state_18 (by decide) ?_
      refine lv_iload_n hx hb d_M_state_19 rfl (lv_at hl 1 rfl) ?_
      refine lv_imul hx hb d_M_state_20 ?_
      refine lv_iload_n hx hb d_M_state_21 rfl (lv_at hl 2 rfl) ?_
      refine lv_iadd hx hb d_M_state_22 ?_
      refine l_M0 C h (vp4 (four_in hh1) (four_in hh2)) d_M_state_23 ?_
      refine lv_goto (tgt := 28) hx hb d_M_state_24 (by decide) ?_
      exact z_retE C h hr hk (by first | rfl | (simp only [r_M_state, eq_false hh1, eq_false hh2, ↓reduceIte]; done) | (simp [r_M_state, eq_false hh1, eq_false hh2]; done)) (by first | rfl | (simp only [r_M_state, eq_false hh1, eq_false hh2, ↓reduceIte]; done) | (simp [r_M_state, eq_false hh1, eq_false hh2]; done)) (by first | rfl | (simp only [r_M_state, eq_false hh1, eq_false hh2, ↓reduceIte]; done) | (simp [r_M_state, eq_false hh1, eq_false hh2]; done)) d_M_state_28
theorem hd_M_value : y_M_value.cls ≠ "java/lang/invoke/MethodHandle" ∧ y_M_value.cls ≠ "java/lang/invoke/VarHandle" ∧ (parseMethodDescriptor y_M_value.desc).map (fun d => d.parameters.length) = some 2 := by decide +kernel
def r_M_value (X : zXS) (M : zMS) (co : Int32) (a : Int32) : Int32 := (if (m_four co) = 0 then 0 else (if (m_four a) = 0 then 0 else (if (M 0 (Int32.toNatClampNeg ((4 * co) + a))) = 0 then 0 else (if (M 0 (Int32.toNatClampNeg ((4 * co) + a))) = 4 then 0 else (if (M 0 (Int32.toNatClampNeg ((4 * co) + a))) = 5 then 0 else (if (M 0 (Int32.toNatClampNeg ((4 * co) + a))) = 12 then 0 else (M 1 (Int32.toNatClampNeg ((4 * co) + a)))))))))
set_option maxHeartbeats 1000000 in
set_option maxRecDepth 100000 in
theorem k_M_value (l : Launch) (dC : Nat → ClassId) (dI : Nat → Nat → Nat) (k : Nat → ClassId) (q : Nat → Nat) (X : zXS) (M : zMS) (co : Int32) (a : Int32)   : zMet l dC dI k q y_M_value c_M_value 4 (some .int) 1 20 [.ref (q 37), .int co, .int a] (some (.int (r_M_value X M co a))) X M X M := by
  refine zMet.of (by decide) (Nat.le_of_ble_eq_true rfl) ?_
  intro p e s m args below meth c ls C hr hk hl h
  have hx := C.1
  have hb := C.2.1
  have hl : lv_has ls 4 [(0, .ref (q 37)), (1, .int co), (2, .int a)] := hl
  refine lv_iload_n hx hb d_M_value_0 rfl (lv_at hl 1 rfl) ?_
  refine z_callS C h (k_M_isFour l dC dI k q X M co) co_M_isFour ml_M_139 sc_M_isFour in_M hd_M_isFour ⟨by decide, by decide⟩ ⟨Nat.zero_le _, Nat.zero_le _⟩ hl.1 (Nat.le_of_ble_eq_true rfl) d_M_value_1 rfl (fun H locs h => ?_)
  refine W.eq (g2 := F0 m 4 ls [.int (m_four co)]) rfl ?_
  have h : zH dC dI k q X M (zA q) s.heap H locs := h
  refine lv_if_eq (tgt := 14) hx hb d_M_value_4 (by decide) (fun hh1 => ?_) (fun hh1 => ?_)
  · skip
    refine lv_iconst (v := 0) hx hb d_M_value_14 (by decide) ?_
    exact z_retE C h hr hk (by first | rfl | (simp only [r_M_value, eq_true hh1, ↓reduceIte]; done) | (simp [r_M_value, eq_true hh1]; done)) (by first | rfl | (simp only [r_M_value, eq_true hh1, ↓reduceIte]; done) | (simp [r_M_value, eq_true hh1]; done)) (by first | rfl | (simp only [r_M_value, eq_true hh1, ↓reduceIte]; done) | (simp [r_M_value, eq_true hh1]; done)) d_M_value_15
  · skip
    refine lv_iload_n hx hb d_M_value_7 rfl (lv_at hl 2 rfl) ?_
    refine z_callS C h (k_M_isFour l dC dI k q X M a) co_M_isFour ml_M_139 sc_M_isFour in_M hd_M_isFour ⟨by decide, by decide⟩ ⟨Nat.zero_le _, Nat.zero_le _⟩ hl.1 (Nat.le_of_ble_eq_true rfl) d_M_value_8 rfl (fun H locs h => ?_)
    refine W.eq (g2 := F0 m 11 ls [.int (m_four a)]) rfl ?_
    have h : zH dC dI k q X M (zA q) s.heap H locs := h
    refine lv_if_ne (tgt := 16) hx hb d_M_value_11 (by decide) (fun hh2 => ?_) (fun hh2 => ?_)
    · skip
      refine lv_aload_n hx hb d_M_value_16 rfl (lv_at hl 0 rfl) ?_
      refine g_M_7 C h d_M_value_17 ?_
      refine lv_iconst (v := 4) hx hb d_M_value_20 (by decide) ?_
      refine lv_iload_n hx hb d_M_value_21 rfl (lv_at hl 1 rfl) ?_
      refine lv_imul hx hb d_M_value_22 ?_
      refine lv_iload_n hx hb d_M_value_23 rfl (lv_at hl 2 rfl) ?_
      refine lv_iadd hx hb d_M_value_24 ?_
      refine l_M0 C h (vp4 (four_in hh1) (four_in hh2)) d_M_value_25 ?_
      refine lv_istore_n hx hb d_M_value_26 rfl hl (by decide) rfl (fun ls hl => ?_)
      have hl : lv_has ls 4 [(3, .int (M 0 (Int32.toNatClampNeg ((4 * co) + a)))), (0, .ref (q 37)), (1, .int co), (2, .int a)] := hl
      refine lv_iload_n hx hb d_M_value_27 rfl (lv_at hl 0 rfl) ?_
      refine lv_if_eq (tgt := 47) hx hb d_M_value_28 (by decide) (fun hh3 => ?_) (fun hh3 => ?_)
      · skip
        refine lv_iconst (v := 0) hx hb d_M_value_47 (by decide) ?_
        refine lv_goto (tgt := 61) hx hb d_M_value_48 (by decide) ?_
        exact z_retE C h hr hk (by first | rfl | (simp only [r_M_value, eq_false hh1, eq_false hh2, eq_true hh3, ↓reduceIte]; done) | (simp [r_M_value, eq_false hh1, eq_false hh2, eq_true hh3]; done)) (by first | rfl | (simp only [r_M_value, eq_false hh1, eq_false hh2, eq_true hh3, ↓reduceIte]; done) | (simp [r_M_value, eq_false hh1, eq_false hh2, eq_true hh3]; done)) (by first | rfl | (simp only [r_M_value, eq_false hh1, eq_false hh2, eq_true hh3, ↓reduceIte]; done) | (simp [r_M_value, eq_false hh1, eq_false hh2, eq_true hh3]; done)) d_M_value_61
      · skip
        refine lv_iload_n hx hb d_M_value_31 rfl (lv_at hl 0 rfl) ?_
        refine lv_iconst (v := 4) hx hb d_M_value_32 (by decide) ?_
        refine lv_icmp_eq (tgt := 47) hx hb d_M_value_33 (by decide) (fun hh4 => ?_) (fun hh4 => ?_)
        · skip
          refine lv_iconst (v := 0) hx hb d_M_value_47 (by decide) ?_
          refine lv_goto (tgt := 61) hx hb d_M_value_48 (by decide) ?_
          exact z_retE C h hr hk (by first | rfl | (simp only [r_M_value, eq_false hh1, eq_false hh2, eq_false hh3, eq_true hh4, ↓reduceIte]; done) | (simp [r_M_value, eq_false hh1, eq_false hh2, eq_false hh3, eq_true hh4]; done)) (by first | rfl | (simp only [r_M_value, eq_false hh1, eq_false hh2, eq_false hh3, eq_true hh4, ↓reduceIte]; done) | (simp [r_M_value, eq_false hh1, eq_false hh2, eq_false hh3, eq_true hh4]; done)) (by first | rfl | (simp only [r_M_value, eq_false hh1, eq_false hh2, eq_false hh3, eq_true hh4, ↓reduceIte]; done) | (simp [r_M_value, eq_false hh1, eq_false hh2, eq_false hh3, eq_true hh4]; done)) d_M_value_61
        · skip
          refine lv_iload_n hx hb d_M_value_36 rfl (lv_at hl 0 rfl) ?_
          refine lv_iconst (v := 5) hx hb d_M_value_37 (by decide) ?_
          refine lv_icmp_eq (tgt := 47) hx hb d_M_value_38 (by decide) (fun hh5 => ?_) (fun hh5 => ?_)
          · skip
            refine lv_iconst (v := 0) hx hb d_M_value_47 (by decide) ?_
            refine lv_goto (tgt := 61) hx hb d_M_value_48 (by decide) ?_
            exact z_retE C h hr hk (by first | rfl | (simp only [r_M_value, eq_false hh1, eq_false hh2, eq_false hh3, eq_false hh4, eq_true hh5, ↓reduceIte]; done) | (simp [r_M_value, eq_false hh1, eq_false hh2, eq_false hh3, eq_false hh4, eq_true hh5]; done)) (by first | rfl | (simp only [r_M_value, eq_false hh1, eq_false hh2, eq_false hh3, eq_false hh4, eq_true hh5, ↓reduceIte]; done) | (simp [r_M_value, eq_false hh1, eq_false hh2, eq_false hh3, eq_false hh4, eq_true hh5]; done)) (by first | rfl | (simp only [r_M_value, eq_false hh1, eq_false hh2, eq_false hh3, eq_false hh4, eq_true hh5, ↓reduceIte]; done) | (simp [r_M_value, eq_false hh1, eq_false hh2, eq_false hh3, eq_false hh4, eq_true hh5]; done)) d_M_value_61
          · skip
            refine lv_iload_n hx hb d_M_value_41 rfl (lv_at hl 0 rfl) ?_
            refine lv_bipush (v := 12) hx hb d_M_value_42 (by decide) ?_
            refine lv_icmp_ne (tgt := 51) hx hb d_M_value_44 (by decide) (fun hh6 => ?_) (fun hh6 => ?_)
            · skip
              refine lv_aload_n hx hb d_M_value_51 rfl (lv_at hl 1 rfl) ?_
              refine g_M_13 C h d_M_value_52 ?_
              refine lv_iconst (v := 4) hx hb d_M_value_55 (by decide) ?_
              refine lv_iload_n hx hb d_M_value_56 rfl (lv_at hl 2 rfl) ?_
              refine lv_imul hx hb d_M_value_57 ?_
              refine lv_iload_n hx hb d_M_value_58 rfl (lv_at hl 3 rfl) ?_
              refine lv_iadd hx hb d_M_value_59 ?_
              refine l_M1 C h (vp4 (four_in hh1) (four_in hh2)) d_M_value_60 ?_
              exact z_retE C h hr hk (by first | rfl | (simp only [r_M_value, eq_false hh1, eq_false hh2, eq_false hh3, eq_false hh4, eq_false hh5, eq_false hh6, ↓reduceIte]; done) | (simp [r_M_value, eq_false hh1, eq_false hh2, eq_false hh3, eq_false hh4, eq_false hh5, eq_false hh6]; done)) (by first | rfl | (simp only [r_M_value, eq_false hh1, eq_false hh2, eq_false hh3, eq_false hh4, eq_false hh5, eq_false hh6, ↓reduceIte]; done) | (simp [r_M_value, eq_false hh1, eq_false hh2, eq_false hh3, eq_false hh4, eq_false hh5, eq_false hh6]; done)) (by first | rfl | (simp only [r_M_value, eq_false hh1, eq_false hh2, eq_false hh3, eq_false hh4, eq_false hh5, eq_false hh6, ↓reduceIte]; done) | (simp [r_M_value, eq_false hh1, eq_false hh2, eq_false hh3, eq_false hh4, eq_false hh5, eq_false hh6]; done)) d_M_value_61
            · skip
              refine lv_iconst (v := 0) hx hb d_M_value_47 (by decide) ?_
              refine lv_goto (tgt := 61) hx hb d_M_value_48 (by decide) ?_
              exact z_retE C h hr hk (by first | rfl | (simp only [r_M_value, eq_false hh1, eq_false hh2, eq_false hh3, eq_false hh4, eq_false hh5, eq_true hh6, ↓reduceIte]; done) | (simp [r_M_value, eq_false hh1, eq_false hh2, eq_false hh3, eq_false hh4, eq_false hh5, eq_true hh6]; done)) (by first | rfl | (simp only [r_M_value, eq_false hh1, eq_false hh2, eq_false hh3, eq_false hh4, eq_false hh5, eq_true hh6, ↓reduceIte]; done) | (simp [r_M_value, eq_false hh1, eq_false hh2, eq_false hh3, eq_false hh4, eq_false hh5, eq_true hh6]; done)) (by first | rfl | (simp only [r_M_value, eq_false hh1, eq_false hh2, eq_false hh3, eq_false hh4, eq_false hh5, eq_true hh6, ↓reduceIte]; done) | (simp [r_M_value, eq_false hh1, eq_false hh2, eq_false hh3, eq_false hh4, eq_false hh5, eq_true hh6]; done)) d_M_value_61
    · skip
      refine lv_iconst (v := 0) hx hb d_M_value_14 (by decide) ?_
      exact z_retE C h hr hk (by first | rfl | (simp only [r_M_value, eq_false hh1, eq_true hh2, ↓reduceIte]; done) | (simp [r_M_value, eq_false hh1, eq_true hh2]; done)) (by first | rfl | (simp only [r_M_value, eq_false hh1, eq_true hh2, ↓reduceIte]; done) | (simp [r_M_value, eq_false hh1, eq_true hh2]; done)) (by first | rfl | (simp only [r_M_value, eq_false hh1, eq_true hh2, ↓reduceIte]; done) | (simp [r_M_value, eq_false hh1, eq_true hh2]; done)) d_M_value_15
theorem hd_M_due : y_M_due.cls ≠ "java/lang/invoke/MethodHandle" ∧ y_M_due.cls ≠ "java/lang/invoke/VarHandle" ∧ (parseMethodDescriptor y_M_due.desc).map (fun d => d.parameters.length) = some 2 := by decide +kernel
def r_M_due (X : zXS) (M : zMS) (co : Int32) (a : Int32) : Int32 := (if (m_four co) = 0 then (-1) else (if (m_four a) = 0 then (-1) else (if (M 0 (Int32.toNatClampNeg ((4 * co) + a))) = 6 then ((M 2 (Int32.toNatClampNeg ((4 * co) + a))) - (M 3 (Int32.toNatClampNeg ((4 * co) + a)))) else (if (M 0 (Int32.toNatClampNeg ((4 * co) + a))) = 8 then ((M 2 (Int32.toNatClampNeg ((4 * co) + a))) - (M 3 (Int32.toNatClampNeg ((4 * co) + a)))) else (if (M 0 (Int32.toNatClampNeg ((4 * co) + a))) = 5 then (-(M 3 (Int32.toNatClampNeg ((4 * co) + a)))) else (if (M 0 (Int32.toNatClampNeg ((4 * co) + a))) = 7 then (-(M 3 (Int32.toNatClampNeg ((4 * co) + a)))) else 0))))))
set_option maxHeartbeats 1000000 in
set_option maxRecDepth 100000 in
theorem k_M_due (l : Launch) (dC : Nat → ClassId) (dI : Nat → Nat → Nat) (k : Nat → ClassId) (q : Nat → Nat) (X : zXS) (M : zMS) (co : Int32) (a : Int32)   : zMet l dC dI k q y_M_due c_M_due 5 (some .int) 1 20 [.ref (q 37), .int co, .int a] (some (.int (r_M_due X M co a))) X M X M := by
  refine zMet.of (by decide) (Nat.le_of_ble_eq_true rfl) ?_
  intro p e s m args below meth c ls C hr hk hl h
  have hx := C.1
  have hb := C.2.1
  have hl : lv_has ls 5 [(0, .ref (q 37)), (1, .int co), (2, .int a)] := hl
  refine lv_iload_n hx hb d_M_due_0 rfl (lv_at hl 1 rfl) ?_
  refine z_callS C h (k_M_isFour l dC dI k q X M co) co_M_isFour ml_M_139 sc_M_isFour in_M hd_M_isFour ⟨by decide, by decide⟩ ⟨Nat.zero_le _, Nat.zero_le _⟩ hl.1 (Nat.le_of_ble_eq_true rfl) d_M_due_1 rfl (fun H locs h => ?_)
  refine W.eq (g2 := F0 m 4 ls [.int (m_four co)]) rfl ?_
  have h : zH dC dI k q X M (zA q) s.heap H locs := h
  refine lv_if_eq (tgt := 14) hx hb d_M_due_4 (by decide) (fun hh1 => ?_) (fun hh1 => ?_)
  · skip
    refine lv_iconst (v := -1) hx hb d_M_due_14 (by decide) ?_
    exact z_retE C h hr hk (by first | rfl | (simp only [r_M_due, eq_true hh1, ↓reduceIte]; done) | (simp [r_M_due, eq_true hh1]; done)) (by first | rfl | (simp only [r_M_due, eq_true hh1, ↓reduceIte]; done) | (simp [r_M_due, eq_true hh1]; done)) (by first | rfl | (simp only [r_M_due, eq_true hh1, ↓reduceIte]; done) | (simp [r_M_due, eq_true hh1]; done)) d_M_due_15
  · skip
    refine lv_iload_n hx hb d_M_due_7 rfl (lv_at hl 2 rfl) ?_
    refine z_callS C h (k_M_isFour l dC dI k q X M a) co_M_isFour ml_M_139 sc_M_isFour in_M hd_M_isFour ⟨by decide, by decide⟩ ⟨Nat.zero_le _, Nat.zero_le _⟩ hl.1 (Nat.le_of_ble_eq_true rfl) d_M_due_8 rfl (fun H locs h => ?_)
    refine W.eq (g2 := F0 m 11 ls [.int (m_four a)]) rfl ?_
    have h : zH dC dI k q X M (zA q) s.heap H locs := h
    refine lv_if_ne (tgt := 16) hx hb d_M_due_11 (by decide) (fun hh2 => ?_) (fun hh2 => ?_)
    · skip
      refine lv_iconst (v := 4) hx hb d_M_due_16 (by decide) ?_
      refine lv_iload_n hx hb d_M_due_17 rfl (lv_at hl 1 rfl) ?_
      refine lv_imul hx hb d_M_due_18 ?_
      refine lv_iload_n hx hb d_M_due_19 rfl (lv_at hl 2 rfl) ?_
      refine lv_iadd hx hb d_M_due_20 ?_
      refine lv_istore_n hx hb d_M_due_21 rfl hl (by decide) rfl (fun ls hl => ?_)
      have hl : lv_has ls 5 [(3, .int ((4 * co) + a)), (0, .ref (q 37)), (1, .int co), (2, .int a)] := hl
      refine lv_aload_n hx hb d_M_due_22 rfl (lv_at hl 1 rfl) ?_
      refine g_M_7 C h d_M_due_23 ?_
      refine lv_iload_n hx hb d_M_due_26 rfl (lv_at hl 0 rfl) ?_
      refine l_M0 C h (vp4 (four_in hh1) (four_in hh2)) d_M_due_27 ?_
      refine lv_istore hx hb d_M_due_28 hl (by decide) rfl (fun ls hl => ?_)
      have hl : lv_has ls 5 [(4, .int (M 0 (Int32.toNatClampNeg ((4 * co) + a)))), (3, .int ((4 * co) + a)), (0, .ref (q 37)), (1, .int co), (2, .int a)] := hl
      refine lv_iload hx hb d_M_due_30 (lv_at hl 0 rfl) ?_
      refine lv_bipush (v := 6) hx hb d_M_due_32 (by decide) ?_
      refine lv_icmp_eq (tgt := 44) hx hb d_M_due_34 (by decide) (fun hh3 => ?_) (fun hh3 => ?_)
      · skip
        refine lv_aload_n hx hb d_M_due_44 rfl (lv_at hl 2 rfl) ?_
        refine g_M_16 C h d_M_due_45 ?_
        refine lv_iload_n hx hb d_M_due_48 rfl (lv_at hl 1 rfl) ?_
        refine l_M2 C h (vp4 (four_in hh1) (four_in hh2)) d_M_due_49 ?_
        refine lv_aload_n hx hb d_M_due_50 rfl (lv_at hl 2 rfl) ?_
        refine g_M_19 C h d_M_due_51 ?_
        refine lv_iload_n hx hb d_M_due_54 rfl (lv_at hl 1 rfl) ?_
        refine l_M3 C h (vp4 (four_in hh1) (four_in hh2)) d_M_due_55 ?_
        refine lv_isub hx hb d_M_due_56 ?_
        refine lv_goto (tgt := 84) hx hb d_M_due_57 (by decide) ?_
        exact z_retE C h hr hk (by first | rfl | (simp only [r_M_due, eq_false hh1, eq_false hh2, eq_true hh3, ↓reduceIte]; done) | (simp [r_M_due, eq_false hh1, eq_false hh2, eq_true hh3]; done)) (by first | rfl | (simp only [r_M_due, eq_false hh1, eq_false hh2, eq_true hh3, ↓reduceIte]; done) | (simp [r_M_due, eq_false hh1, eq_false hh2, eq_true hh3]; done)) (by first | rfl | (simp only [r_M_due, eq_false hh1, eq_false hh2, eq_true hh3, ↓reduceIte]; done) | (simp [r_M_due, eq_false hh1, eq_false hh2, eq_true hh3]; done)) d_M_due_84
      · skip
        refine lv_iload hx hb d_M_due_37 (lv_at hl 0 rfl) ?_
        refine lv_bipush (v := 8) hx hb d_M_due_39 (by decide) ?_
        refine lv_icmp_ne (tgt := 60) hx hb d_M_due_41 (by decide) (fun hh4 => ?_) (fun hh4 => ?_)
        · skip
          refine lv_iload hx hb d_M_due_60 (lv_at hl 0 rfl) ?_
          refine lv_iconst (v := 5) hx hb d_M_due_62 (by decide) ?_
          refine lv_icmp_eq (tgt := 73) hx hb d_M_due_63 (by decide) (fun hh5 => ?_) (fun hh5 => ?_)
          · skip
            refine lv_aload_n hx hb d_M_due_73 rfl (lv_at hl 2 rfl) ?_
            refine g_M_19 C h d_M_due_74 ?_
            refine lv_iload_n hx hb d_M_due_77 rfl (lv_at hl 1 rfl) ?_
            refine l_M3 C h (vp4 (four_in hh1) (four_in hh2)) d_M_due_78 ?_
            refine lv_ineg hx hb d_M_due_79 ?_
            refine lv_goto (tgt := 84) hx hb d_M_due_80 (by decide) ?_
            exact z_retE C h hr hk (by first | rfl | (simp only [r_M_due, eq_false hh1, eq_false hh2, eq_false hh3, eq_false hh4, eq_true hh5, ↓reduceIte]; done) | (simp [r_M_due, eq_false hh1, eq_false hh2, eq_false hh3, eq_false hh4, eq_true hh5]; done)) (by first | rfl | (simp only [r_M_due, eq_false hh1, eq_false hh2, eq_false hh3, eq_false hh4, eq_true hh5, ↓reduceIte]; done) | (simp [r_M_due, eq_false hh1, eq_false hh2, eq_false hh3, eq_false hh4, eq_true hh5]; done)) (by first | rfl | (simp only [r_M_due, eq_false hh1, eq_false hh2, eq_false hh3, eq_false hh4, eq_true hh5, ↓reduceIte]; done) | (simp [r_M_due, eq_false hh1, eq_false hh2, eq_false hh3, eq_false hh4, eq_true hh5]; done)) d_M_due_84
          · skip
            refine lv_iload hx hb d_M_due_66 (lv_at hl 0 rfl) ?_
            refine lv_bipush (v := 7) hx hb d_M_due_68 (by decide) ?_
            refine lv_icmp_ne (tgt := 83) hx hb d_M_due_70 (by decide) (fun hh6 => ?_) (fun hh6 => ?_)
            · skip
              refine lv_iconst (v := 0) hx hb d_M_due_83 (by decide) ?_
              exact z_retE C h hr hk (by first | rfl | (simp only [r_M_due, eq_false hh1, eq_false hh2, eq_false hh3, eq_false hh4, eq_false hh5, eq_false hh6, ↓reduceIte]; done) | (simp [r_M_due, eq_false hh1, eq_false hh2, eq_false hh3, eq_false hh4, eq_false hh5, eq_false hh6]; done)) (by first | rfl | (simp only [r_M_due, eq_false hh1, eq_false hh2, eq_false hh3, eq_false hh4, eq_false hh5, eq_false hh6, ↓reduceIte]; done) | (simp [r_M_due, eq_false hh1, eq_false hh2, eq_false hh3, eq_false hh4, eq_false hh5, eq_false hh6]; done)) (by first | rfl | (simp only [r_M_due, eq_false hh1, eq_false hh2, eq_false hh3, eq_false hh4, eq_false hh5, eq_false hh6, ↓reduceIte]; done) | (simp [r_M_due, eq_false hh1, eq_false hh2, eq_false hh3, eq_false hh4, eq_false hh5, eq_false hh6]; done)) d_M_due_84
            · skip
              refine lv_aload_n hx hb d_M_due_73 rfl (lv_at hl 2 rfl) ?_
              refine g_M_19 C h d_M_due_74 ?_
              refine lv_iload_n hx hb d_M_due_77 rfl (lv_at hl 1 rfl) ?_
              refine l_M3 C h (vp4 (four_in hh1) (four_in hh2)) d_M_due_78 ?_
              refine lv_ineg hx hb d_M_due_79 ?_
              refine lv_goto (tgt := 84) hx hb d_M_due_80 (by decide) ?_
              exact z_retE C h hr hk (by first | rfl | (simp only [r_M_due, eq_false hh1, eq_false hh2, eq_false hh3, eq_false hh4, eq_false hh5, eq_true hh6, ↓reduceIte]; done) | (simp [r_M_due, eq_false hh1, eq_false hh2, eq_false hh3, eq_false hh4, eq_false hh5, eq_true hh6]; done)) (by first | rfl | (simp only [r_M_due, eq_false hh1, eq_false hh2, eq_false hh3, eq_false hh4, eq_false hh5, eq_true hh6, ↓reduceIte]; done) | (simp [r_M_due, eq_false hh1, eq_false hh2, eq_false hh3, eq_false hh4, eq_false hh5, eq_true hh6]; done)) (by first | rfl | (simp only [r_M_due, eq_false hh1, eq_false hh2, eq_false hh3, eq_false hh4, eq_false hh5, eq_true hh6, ↓reduceIte]; done) | (simp [r_M_due, eq_false hh1, eq_false hh2, eq_false hh3, eq_false hh4, eq_false hh5, eq_true hh6]; done)) d_M_due_84
        · skip
          refine lv_aload_n hx hb d_M_due_44 rfl (lv_at hl 2 rfl) ?_
          refine g_M_16 C h d_M_due_45 ?_
          refine lv_iload_n hx hb d_M_due_48 rfl (lv_at hl 1 rfl) ?_
          refine l_M2 C h (vp4 (four_in hh1) (four_in hh2)) d_M_due_49 ?_
          refine lv_aload_n hx hb d_M_due_50 rfl (lv_at hl 2 rfl) ?_
          refine g_M_19 C h d_M_due_51 ?_
          refine lv_iload_n hx hb d_M_due_54 rfl (lv_at hl 1 rfl) ?_
          refine l_M3 C h (vp4 (four_in hh1) (four_in hh2)) d_M_due_55 ?_
          refine lv_isub hx hb d_M_due_56 ?_
          refine lv_goto (tgt := 84) hx hb d_M_due_57 (by decide) ?_
          exact z_retE C h hr hk (by first | rfl | (simp only [r_M_due, eq_false hh1, eq_false hh2, eq_false hh3, eq_true hh4, ↓reduceIte]; done) | (simp [r_M_due, eq_false hh1, eq_false hh2, eq_false hh3, eq_true hh4]; done)) (by first | rfl | (simp only [r_M_due, eq_false hh1, eq_false hh2, eq_false hh3, eq_true hh4, ↓reduceIte]; done) | (simp [r_M_due, eq_false hh1, eq_false hh2, eq_false hh3, eq_true hh4]; done)) (by first | rfl | (simp only [r_M_due, eq_false hh1, eq_false hh2, eq_false hh3, eq_true hh4, ↓reduceIte]; done) | (simp [r_M_due, eq_false hh1, eq_false hh2, eq_false hh3, eq_true hh4]; done)) d_M_due_84
    · skip
      refine lv_iconst (v := -1) hx hb d_M_due_14 (by decide) ?_
      exact z_retE C h hr hk (by first | rfl | (simp only [r_M_due, eq_false hh1, eq_true hh2, ↓reduceIte]; done) | (simp [r_M_due, eq_false hh1, eq_true hh2]; done)) (by first | rfl | (simp only [r_M_due, eq_false hh1, eq_true hh2, ↓reduceIte]; done) | (simp [r_M_due, eq_false hh1, eq_true hh2]; done)) (by first | rfl | (simp only [r_M_due, eq_false hh1, eq_true hh2, ↓reduceIte]; done) | (simp [r_M_due, eq_false hh1, eq_true hh2]; done)) d_M_due_15
theorem hd_M_home : y_M_home.cls ≠ "java/lang/invoke/MethodHandle" ∧ y_M_home.cls ≠ "java/lang/invoke/VarHandle" ∧ (parseMethodDescriptor y_M_home.desc).map (fun d => d.parameters.length) = some 1 := by decide +kernel
def jS0_M_home_31_1 (X : zXS) (M : zMS) (a : Int32) : Int32 := (if (M 11 (Int32.toNatClampNeg a)) = 2 then ((M 12 (Int32.toNatClampNeg a)) + 1) else 0)
def r_M_home (X : zXS) (M : zMS) (a : Int32) : Int32 := (if (m_four a) = 0 then (-1) else (((M 11 (Int32.toNatClampNeg a)) + (4 * (jS0_M_home_31_1 X M a))) + (32 * (M 13 (Int32.toNatClampNeg a)))))
set_option maxHeartbeats 1000000 in
set_option maxRecDepth 100000 in
theorem k_M_home (l : Launch) (dC : Nat → ClassId) (dI : Nat → Nat → Nat) (k : Nat → ClassId) (q : Nat → Nat) (X : zXS) (M : zMS) (a : Int32)   : zMet l dC dI k q y_M_home c_M_home 3 (some .int) 1 20 [.ref (q 37), .int a] (some (.int (r_M_home X M a))) X M X M := by
  refine zMet.of (by decide) (Nat.le_of_ble_eq_true rfl) ?_
  intro p e s m args below meth c ls C hr hk hl h
  have hx := C.1
  have hb := C.2.1
  have hl : lv_has ls 3 [(0, .ref (q 37)), (1, .int a)] := hl
  refine lv_iload_n hx hb d_M_home_0 rfl (lv_at hl 1 rfl) ?_
  refine z_callS C h (k_M_isFour l dC dI k q X M a) co_M_isFour ml_M_139 sc_M_isFour in_M hd_M_isFour ⟨by decide, by decide⟩ ⟨Nat.zero_le _, Nat.zero_le _⟩ hl.1 (Nat.le_of_ble_eq_true rfl) d_M_home_1 rfl (fun H locs h => ?_)
  refine W.eq (g2 := F0 m 4 ls [.int (m_four a)]) rfl ?_
  have h : zH dC dI k q X M (zA q) s.heap H locs := h
  refine lv_if_ne (tgt := 9) hx hb d_M_home_4 (by decide) (fun hh1 => ?_) (fun hh1 => ?_)
  · skip
    have J31_1 : ∀ (ls : Array Slot) (H : Heap) (locs : List Loc), lv_has ls 3 [(0, .ref (q 37)), (1, .int a)] → zH dC dI k q X M (zA q) s.heap H locs → W p l e { frames := 1, cells := 0, slots := 0, locals := 20 } s m args below meth c H locs 0 0 (MQ below (zQc dC dI k q X M (some (.int (r_M_home X M a)))) args s 0 0 (zA q)) (F0 m 31 ls [.int (jS0_M_home_31_1 X M a)]) := by
      intro ls H locs hl h
      refine lv_istore_n hx hb d_M_home_31 rfl hl (by decide) rfl (fun ls hl => ?_)
      have hl : lv_has ls 3 [(2, .int (jS0_M_home_31_1 X M a)), (0, .ref (q 37)), (1, .int a)] := hl
      refine lv_aload_n hx hb d_M_home_32 rfl (lv_at hl 1 rfl) ?_
      refine g_M_44 C h d_M_home_33 ?_
      refine lv_iload_n hx hb d_M_home_36 rfl (lv_at hl 2 rfl) ?_
      refine l_M11 C h (four_in hh1) d_M_home_37 ?_
      refine lv_iconst (v := 4) hx hb d_M_home_38 (by decide) ?_
      refine lv_iload_n hx hb d_M_home_39 rfl (lv_at hl 0 rfl) ?_
      refine lv_imul hx hb d_M_home_40 ?_
      refine lv_iadd hx hb d_M_home_41 ?_
      refine lv_bipush (v := 32) hx hb d_M_home_42 (by decide) ?_
      refine lv_aload_n hx hb d_M_home_44 rfl (lv_at hl 1 rfl) ?_
      refine g_M_50 C h d_M_home_45 ?_
      refine lv_iload_n hx hb d_M_home_48 rfl (lv_at hl 2 rfl) ?_
      refine l_M13 C h (four_in hh1) d_M_home_49 ?_
      refine lv_imul hx hb d_M_home_50 ?_
      refine lv_iadd hx hb d_M_home_51 ?_
      exact z_retE C h hr hk (by first | rfl | (simp only [r_M_home, eq_false hh1, ↓reduceIte]; done) | (simp [r_M_home, eq_false hh1]; done)) (by first | rfl | (simp only [r_M_home, eq_false hh1, ↓reduceIte]; done) | (simp [r_M_home, eq_false hh1]; done)) (by first | rfl | (simp only [r_M_home, eq_false hh1, ↓reduceIte]; done) | (simp [r_M_home, eq_false hh1]; done)) d_M_home_52
    refine lv_aload_n hx hb d_M_home_9 rfl (lv_at hl 0 rfl) ?_
    refine g_M_44 C h d_M_home_10 ?_
    refine lv_iload_n hx hb d_M_home_13 rfl (lv_at hl 1 rfl) ?_
    refine l_M11 C h (four_in hh1) d_M_home_14 ?_
    refine lv_iconst (v := 2) hx hb d_M_home_15 (by decide) ?_
    refine lv_icmp_ne (tgt := 30) hx hb d_M_home_16 (by decide) (fun hh2 => ?_) (fun hh2 => ?_)
    · skip
      refine lv_iconst (v := 0) hx hb d_M_home_30 (by decide) ?_
      have J := J31_1 _ _ _ (lv_sub hl [0, 1] rfl) h
      rw [show (jS0_M_home_31_1 X M a) = 0 from (by first | (simp only [jS0_M_home_31_1, eq_false hh1, eq_false hh2, ↓reduceIte]; done) | (simp [jS0_M_home_31_1, eq_false hh1, eq_false hh2]; done))] at J
      exact J
    · skip
      refine lv_aload_n hx hb d_M_home_19 rfl (lv_at hl 0 rfl) ?_
      refine g_M_47 C h d_M_home_20 ?_
      refine lv_iload_n hx hb d_M_home_23 rfl (lv_at hl 1 rfl) ?_
      refine l_M12 C h (four_in hh1) d_M_home_24 ?_
      refine lv_iconst (v := 1) hx hb d_M_home_25 (by decide) ?_
      refine lv_iadd hx hb d_M_home_26 ?_
      refine lv_goto (tgt := 31) hx hb d_M_home_27 (by decide) ?_
      have J := J31_1 _ _ _ (lv_sub hl [0, 1] rfl) h
      rw [show (jS0_M_home_31_1 X M a) = ((M 12 (Int32.toNatClampNeg a)) + 1) from (by first | (simp only [jS0_M_home_31_1, eq_false hh1, eq_true hh2, ↓reduceIte]; done) | (simp [jS0_M_home_31_1, eq_false hh1, eq_true hh2]; done))] at J
      exact J
  · skip
    refine lv_iconst (v := -1) hx hb d_M_home_7 (by decide) ?_
    exact z_retE C h hr hk (by first | rfl | (simp only [r_M_home, eq_true hh1, ↓reduceIte]; done) | (simp [r_M_home, eq_true hh1]; done)) (by first | rfl | (simp only [r_M_home, eq_true hh1, ↓reduceIte]; done) | (simp [r_M_home, eq_true hh1]; done)) (by first | rfl | (simp only [r_M_home, eq_true hh1, ↓reduceIte]; done) | (simp [r_M_home, eq_true hh1]; done)) d_M_home_8
theorem hd_M_memory : y_M_memory.cls ≠ "java/lang/invoke/MethodHandle" ∧ y_M_memory.cls ≠ "java/lang/invoke/VarHandle" ∧ (parseMethodDescriptor y_M_memory.desc).map (fun d => d.parameters.length) = some 1 := by decide +kernel
def r_M_memory (X : zXS) (M : zMS) (a : Int32) : Int32 := (if (m_four a) = 0 then 0 else (M 14 (Int32.toNatClampNeg a)))
set_option maxHeartbeats 1000000 in
set_option maxRecDepth 100000 in
theorem k_M_memory (l : Launch) (dC : Nat → ClassId) (dI : Nat → Nat → Nat) (k : Nat → ClassId) (q : Nat → Nat) (X : zXS) (M : zMS) (a : Int32)   : zMet l dC dI k q y_M_memory c_M_memory 2 (some .int) 1 20 [.ref (q 37), .int a] (some (.int (r_M_memory X M a))) X M X M := by
  refine zMet.of (by decide) (Nat.le_of_ble_eq_true rfl) ?_
  intro p e s m args below meth c ls C hr hk hl h
  have hx := C.1
  have hb := C.2.1
  have hl : lv_has ls 2 [(0, .ref (q 37)), (1, .int a)] := hl
  refine lv_iload_n hx hb d_M_memory_0 rfl (lv_at hl 1 rfl) ?_
  refine z_callS C h (k_M_isFour l dC dI k q X M a) co_M_isFour ml_M_139 sc_M_isFour in_M hd_M_isFour ⟨by decide, by decide⟩ ⟨Nat.zero_le _, Nat.zero_le _⟩ hl.1 (Nat.le_of_ble_eq_true rfl) d_M_memory_1 rfl (fun H locs h => ?_)
  refine W.eq (g2 := F0 m 4 ls [.int (m_four a)]) rfl ?_
  have h : zH dC dI k q X M (zA q) s.heap H locs := h
  refine lv_if_eq (tgt := 16) hx hb d_M_memory_4 (by decide) (fun hh1 => ?_) (fun hh1 => ?_)
  · skip
    refine lv_iconst (v := 0) hx hb d_M_memory_16 (by decide) ?_
    exact z_retE C h hr hk (by first | rfl | (simp only [r_M_memory, eq_true hh1, ↓reduceIte]; done) | (simp [r_M_memory, eq_true hh1]; done)) (by first | rfl | (simp only [r_M_memory, eq_true hh1, ↓reduceIte]; done) | (simp [r_M_memory, eq_true hh1]; done)) (by first | rfl | (simp only [r_M_memory, eq_true hh1, ↓reduceIte]; done) | (simp [r_M_memory, eq_true hh1]; done)) d_M_memory_17
  · skip
    refine lv_aload_n hx hb d_M_memory_7 rfl (lv_at hl 0 rfl) ?_
    refine g_M_53 C h d_M_memory_8 ?_
    refine lv_iload_n hx hb d_M_memory_11 rfl (lv_at hl 1 rfl) ?_
    refine l_M14 C h (four_in hh1) d_M_memory_12 ?_
    refine lv_goto (tgt := 17) hx hb d_M_memory_13 (by decide) ?_
    exact z_retE C h hr hk (by first | rfl | (simp only [r_M_memory, eq_false hh1, ↓reduceIte]; done) | (simp [r_M_memory, eq_false hh1]; done)) (by first | rfl | (simp only [r_M_memory, eq_false hh1, ↓reduceIte]; done) | (simp [r_M_memory, eq_false hh1]; done)) (by first | rfl | (simp only [r_M_memory, eq_false hh1, ↓reduceIte]; done) | (simp [r_M_memory, eq_false hh1]; done)) d_M_memory_17
theorem hd_M_waits : y_M_waits.cls ≠ "java/lang/invoke/MethodHandle" ∧ y_M_waits.cls ≠ "java/lang/invoke/VarHandle" ∧ (parseMethodDescriptor y_M_waits.desc).map (fun d => d.parameters.length) = some 1 := by decide +kernel
def r_M_waits (X : zXS) (M : zMS) (a : Int32) : Int32 := (if (m_four a) = 0 then 0 else (if (M 5 (Int32.toNatClampNeg a)) = 0 then 0 else 1))
set_option maxHeartbeats 1000000 in
set_option maxRecDepth 100000 in
theorem k_M_waits (l : Launch) (dC : Nat → ClassId) (dI : Nat → Nat → Nat) (k : Nat → ClassId) (q : Nat → Nat) (X : zXS) (M : zMS) (a : Int32)   : zMet l dC dI k q y_M_waits c_M_waits 2 (some .boolean) 1 20 [.ref (q 37), .int a] (some (.int (r_M_waits X M a))) X M X M := by
  refine zMet.of (by decide) (Nat.le_of_ble_eq_true rfl) ?_
  intro p e s m args below meth c ls C hr hk hl h
  have hx := C.1
  have hb := C.2.1
  have hl : lv_has ls 2 [(0, .ref (q 37)), (1, .int a)] := hl
  refine lv_iload_n hx hb d_M_waits_0 rfl (lv_at hl 1 rfl) ?_
  refine z_callS C h (k_M_isFour l dC dI k q X M a) co_M_isFour ml_M_139 sc_M_isFour in_M hd_M_isFour ⟨by decide, by decide⟩ ⟨Nat.zero_le _, Nat.zero_le _⟩ hl.1 (Nat.le_of_ble_eq_true rfl) d_M_waits_1 rfl (fun H locs h => ?_)
  refine W.eq (g2 := F0 m 4 ls [.int (m_four a)]) rfl ?_
  have h : zH dC dI k q X M (zA q) s.heap H locs := h
  refine lv_if_eq (tgt := 20) hx hb d_M_waits_4 (by decide) (fun hh1 => ?_) (fun hh1 => ?_)
  · skip
    refine lv_iconst (v := 0) hx hb d_M_waits_20 (by decide) ?_
    exact z_retzE C h hr hk (by first | exact Or.inl rfl | exact Or.inr rfl) (by first | rfl | (simp only [r_M_waits, eq_true hh1, ↓reduceIte]; done) | (simp [r_M_waits, eq_true hh1]; done)) (by first | rfl | (simp only [r_M_waits, eq_true hh1, ↓reduceIte]; done) | (simp [r_M_waits, eq_true hh1]; done)) (by first | rfl | (simp only [r_M_waits, eq_true hh1, ↓reduceIte]; done) | (simp [r_M_waits, eq_true hh1]; done)) d_M_waits_21
  · skip
    refine lv_aload_n hx hb d_M_waits_7 rfl (lv_at hl 0 rfl) ?_
    refine g_M_25 C h d_M_waits_8 ?_
    refine lv_iload_n hx hb d_M_waits_11 rfl (lv_at hl 1 rfl) ?_
    refine l_M5 C h (four_in hh1) d_M_waits_12 ?_
    refine lv_if_eq (tgt := 20) hx hb d_M_waits_13 (by decide) (fun hh2 => ?_) (fun hh2 => ?_)
    · skip
      refine lv_iconst (v := 0) hx hb d_M_waits_20 (by decide) ?_
      exact z_retzE C h hr hk (by first | exact Or.inl rfl | exact Or.inr rfl) (by first | rfl | (simp only [r_M_waits, eq_false hh1, eq_true hh2, ↓reduceIte]; done) | (simp [r_M_waits, eq_false hh1, eq_true hh2]; done)) (by first | rfl | (simp only [r_M_waits, eq_false hh1, eq_true hh2, ↓reduceIte]; done) | (simp [r_M_waits, eq_false hh1, eq_true hh2]; done)) (by first | rfl | (simp only [r_M_waits, eq_false hh1, eq_true hh2, ↓reduceIte]; done) | (simp [r_M_waits, eq_false hh1, eq_true hh2]; done)) d_M_waits_21
    · skip
      refine lv_iconst (v := 1) hx hb d_M_waits_16 (by decide) ?_
      refine lv_goto (tgt := 21) hx hb d_M_waits_17 (by decide) ?_
      exact z_retzE C h hr hk (by first | exact Or.inl rfl | exact Or.inr rfl) (by first | rfl | (simp only [r_M_waits, eq_false hh1, eq_false hh2, ↓reduceIte]; done) | (simp [r_M_waits, eq_false hh1, eq_false hh2]; done)) (by first | rfl | (simp only [r_M_waits, eq_false hh1, eq_false hh2, ↓reduceIte]; done) | (simp [r_M_waits, eq_false hh1, eq_false hh2]; done)) (by first | rfl | (simp only [r_M_waits, eq_false hh1, eq_false hh2, ↓reduceIte]; done) | (simp [r_M_waits, eq_false hh1, eq_false hh2]; done)) d_M_waits_21
theorem hd_M_done : y_M_done.cls ≠ "java/lang/invoke/MethodHandle" ∧ y_M_done.cls ≠ "java/lang/invoke/VarHandle" ∧ (parseMethodDescriptor y_M_done.desc).map (fun d => d.parameters.length) = some 1 := by decide +kernel
def r_M_done (X : zXS) (M : zMS) (a : Int32) : Int32 := (if (m_four a) = 0 then (-1) else (M 9 (Int32.toNatClampNeg a)))
set_option maxHeartbeats 1000000 in
set_option maxRecDepth 100000 in
theorem k_M_done (l : Launch) (dC : Nat → ClassId) (dI : Nat → Nat → Nat) (k : Nat → ClassId) (q : Nat → Nat) (X : zXS) (M : zMS) (a : Int32)   : zMet l dC dI k q y_M_done c_M_done 2 (some .int) 1 20 [.ref (q 37), .int a] (some (.int (r_M_done X M a))) X M X M := by
  refine zMet.of (by decide) (Nat.le_of_ble_eq_true rfl) ?_
  intro p e s m args below meth c ls C hr hk hl h
  have hx := C.1
  have hb := C.2.1
  have hl : lv_has ls 2 [(0, .ref (q 37)), (1, .int a)] := hl
  refine lv_iload_n hx hb d_M_done_0 rfl (lv_at hl 1 rfl) ?_
  refine z_callS C h (k_M_isFour l dC dI k q X M a) co_M_isFour ml_M_139 sc_M_isFour in_M hd_M_isFour ⟨by decide, by decide⟩ ⟨Nat.zero_le _, Nat.zero_le _⟩ hl.1 (Nat.le_of_ble_eq_true rfl) d_M_done_1 rfl (fun H locs h => ?_)
  refine W.eq (g2 := F0 m 4 ls [.int (m_four a)]) rfl ?_
  have h : zH dC dI k q X M (zA q) s.heap H locs := h
  refine lv_if_eq (tgt := 16) hx hb d_M_done_4 (by decide) (fun hh1 => ?_) (fun hh1 => ?_)
  · skip
    refine lv_iconst (v := -1) hx hb d_M_done_16 (by decide) ?_
    exact z_retE C h hr hk (by first | rfl | (simp only [r_M_done, eq_true hh1, ↓reduceIte]; done) | (simp [r_M_done, eq_true hh1]; done)) (by first | rfl | (simp only [r_M_done, eq_true hh1, ↓reduceIte]; done) | (simp [r_M_done, eq_true hh1]; done)) (by first | rfl | (simp only [r_M_done, eq_true hh1, ↓reduceIte]; done) | (simp [r_M_done, eq_true hh1]; done)) d_M_done_17
  · skip
    refine lv_aload_n hx hb d_M_done_7 rfl (lv_at hl 0 rfl) ?_
    refine g_M_38 C h d_M_done_8 ?_
    refine lv_iload_n hx hb d_M_done_11 rfl (lv_at hl 1 rfl) ?_
    refine l_M9 C h (four_in hh1) d_M_done_12 ?_
    refine lv_goto (tgt := 17) hx hb d_M_done_13 (by decide) ?_
    exact z_retE C h hr hk (by first | rfl | (simp only [r_M_done, eq_false hh1, ↓reduceIte]; done) | (simp [r_M_done, eq_false hh1]; done)) (by first | rfl | (simp only [r_M_done, eq_false hh1, ↓reduceIte]; done) | (simp [r_M_done, eq_false hh1]; done)) (by first | rfl | (simp only [r_M_done, eq_false hh1, ↓reduceIte]; done) | (simp [r_M_done, eq_false hh1]; done)) d_M_done_17
theorem hd_M_result : y_M_result.cls ≠ "java/lang/invoke/MethodHandle" ∧ y_M_result.cls ≠ "java/lang/invoke/VarHandle" ∧ (parseMethodDescriptor y_M_result.desc).map (fun d => d.parameters.length) = some 1 := by decide +kernel
def r_M_result (X : zXS) (M : zMS) (a : Int32) : Int32 := (if (m_four a) = 0 then 0 else (M 10 (Int32.toNatClampNeg a)))
set_option maxHeartbeats 1000000 in
set_option maxRecDepth 100000 in
theorem k_M_result (l : Launch) (dC : Nat → ClassId) (dI : Nat → Nat → Nat) (k : Nat → ClassId) (q : Nat → Nat) (X : zXS) (M : zMS) (a : Int32)   : zMet l dC dI k q y_M_result c_M_result 2 (some .int) 1 20 [.ref (q 37), .int a] (some (.int (r_M_result X M a))) X M X M := by
  refine zMet.of (by decide) (Nat.le_of_ble_eq_true rfl) ?_
  intro p e s m args below meth c ls C hr hk hl h
  have hx := C.1
  have hb := C.2.1
  have hl : lv_has ls 2 [(0, .ref (q 37)), (1, .int a)] := hl
  refine lv_iload_n hx hb d_M_result_0 rfl (lv_at hl 1 rfl) ?_
  refine z_callS C h (k_M_isFour l dC dI k q X M a) co_M_isFour ml_M_139 sc_M_isFour in_M hd_M_isFour ⟨by decide, by decide⟩ ⟨Nat.zero_le _, Nat.zero_le _⟩ hl.1 (Nat.le_of_ble_eq_true rfl) d_M_result_1 rfl (fun H locs h => ?_)
  refine W.eq (g2 := F0 m 4 ls [.int (m_four a)]) rfl ?_
  have h : zH dC dI k q X M (zA q) s.heap H locs := h
  refine lv_if_eq (tgt := 16) hx hb d_M_result_4 (by decide) (fun hh1 => ?_) (fun hh1 => ?_)
  · skip
    refine lv_iconst (v := 0) hx hb d_M_result_16 (by decide) ?_
    exact z_retE C h hr hk (by first | rfl | (simp only [r_M_result, eq_true hh1, ↓reduceIte]; done) | (simp [r_M_result, eq_true hh1]; done)) (by first | rfl | (simp only [r_M_result, eq_true hh1, ↓reduceIte]; done) | (simp [r_M_result, eq_true hh1]; done)) (by first | rfl | (simp only [r_M_result, eq_true hh1, ↓reduceIte]; done) | (simp [r_M_result, eq_true hh1]; done)) d_M_result_17
  · skip
    refine lv_aload_n hx hb d_M_result_7 rfl (lv_at hl 0 rfl) ?_
    refine g_M_41 C h d_M_result_8 ?_
    refine lv_iload_n hx hb d_M_result_11 rfl (lv_at hl 1 rfl) ?_
    refine l_M10 C h (four_in hh1) d_M_result_12 ?_
    refine lv_goto (tgt := 17) hx hb d_M_result_13 (by decide) ?_
    exact z_retE C h hr hk (by first | rfl | (simp only [r_M_result, eq_false hh1, ↓reduceIte]; done) | (simp [r_M_result, eq_false hh1]; done)) (by first | rfl | (simp only [r_M_result, eq_false hh1, ↓reduceIte]; done) | (simp [r_M_result, eq_false hh1]; done)) (by first | rfl | (simp only [r_M_result, eq_false hh1, ↓reduceIte]; done) | (simp [r_M_result, eq_false hh1]; done)) d_M_result_17
theorem hd_M_tally : y_M_tally.cls ≠ "java/lang/invoke/MethodHandle" ∧ y_M_tally.cls ≠ "java/lang/invoke/VarHandle" ∧ (parseMethodDescriptor y_M_tally.desc).map (fun d => d.parameters.length) = some 2 := by decide +kernel
def r_M_tally (X : zXS) (M : zMS) (co : Int32) (a : Int32) : Int32 := (if (m_four co) = 0 then (-1) else (if (m_four a) = 0 then (-1) else (M 4 (Int32.toNatClampNeg ((4 * co) + a)))))
set_option maxHeartbeats 1000000 in
set_option maxRecDepth 100000 in
theorem k_M_tally (l : Launch) (dC : Nat → ClassId) (dI : Nat → Nat → Nat) (k : Nat → ClassId) (q : Nat → Nat) (X : zXS) (M : zMS) (co : Int32) (a : Int32)   : zMet l dC dI k q y_M_tally c_M_tally 3 (some .int) 1 20 [.ref (q 37), .int co, .int a] (some (.int (r_M_tally X M co a))) X M X M := by
  refine zMet.of (by decide) (Nat.le_of_ble_eq_true rfl) ?_
  intro p e s m args below meth c ls C hr hk hl h
  have hx := C.1
  have hb := C.2.1
  have hl : lv_has ls 3 [(0, .ref (q 37)), (1, .int co), (2, .int a)] := hl
  refine lv_iload_n hx hb d_M_tally_0 rfl (lv_at hl 1 rfl) ?_
  refine z_callS C h (k_M_isFour l dC dI k q X M co) co_M_isFour ml_M_139 sc_M_isFour in_M hd_M_isFour ⟨by decide, by decide⟩ ⟨Nat.zero_le _, Nat.zero_le _⟩ hl.1 (Nat.le_of_ble_eq_true rfl) d_M_tally_1 rfl (fun H locs h => ?_)
  refine W.eq (g2 := F0 m 4 ls [.int (m_four co)]) rfl ?_
  have h : zH dC dI k q X M (zA q) s.heap H locs := h
  refine lv_if_eq (tgt := 27) hx hb d_M_tally_4 (by decide) (fun hh1 => ?_) (fun hh1 => ?_)
  · skip
    refine lv_iconst (v := -1) hx hb d_M_tally_27 (by decide) ?_
    exact z_retE C h hr hk (by first | rfl | (simp only [r_M_tally, eq_true hh1, ↓reduceIte]; done) | (simp [r_M_tally, eq_true hh1]; done)) (by first | rfl | (simp only [r_M_tally, eq_true hh1, ↓reduceIte]; done) | (simp [r_M_tally, eq_true hh1]; done)) (by first | rfl | (simp only [r_M_tally, eq_true hh1, ↓reduceIte]; done) | (simp [r_M_tally, eq_true hh1]; done)) d_M_tally_28
  · skip
    refine lv_iload_n hx hb d_M_tally_7 rfl (lv_at hl 2 rfl) ?_
    refine z_callS C h (k_M_isFour l dC dI k q X M a) co_M_isFour ml_M_139 sc_M_isFour in_M hd_M_isFour ⟨by decide, by decide⟩ ⟨Nat.zero_le _, Nat.zero_le _⟩ hl.1 (Nat.le_of_ble_eq_true rfl) d_M_tally_8 rfl (fun H locs h => ?_)
    refine W.eq (g2 := F0 m 11 ls [.int (m_four a)]) rfl ?_
    have h : zH dC dI k q X M (zA q) s.heap H locs := h
    refine lv_if_eq (tgt := 27) hx hb d_M_tally_11 (by decide) (fun hh2 => ?_) (fun hh2 => ?_)
    · skip
      refine lv_iconst (v := -1) hx hb d_M_tally_27 (by decide) ?_
      exact z_retE C h hr hk (by first | rfl | (simp only [r_M_tally, eq_false hh1, eq_true hh2, ↓reduceIte]; done) | (simp [r_M_tally, eq_false hh1, eq_true hh2]; done)) (by first | rfl | (simp only [r_M_tally, eq_false hh1, eq_true hh2, ↓reduceIte]; done) | (simp [r_M_tally, eq_false hh1, eq_true hh2]; done)) (by first | rfl | (simp only [r_M_tally, eq_false hh1, eq_true hh2, ↓reduceIte]; done) | (simp [r_M_tally, eq_false hh1, eq_true hh2]; done)) d_M_tally_28
    · skip
      refine lv_aload_n hx hb d_M_tally_14 rfl (lv_at hl 0 rfl) ?_
      refine g_M_22 C h d_M_tally_15 ?_
      refine lv_iconst (v := 4) hx hb d_M_tally_18 (by decide) ?_
      refine lv_iload_n hx hb d_M_tally_19 rfl (lv_at hl 1 rfl) ?_
      refine lv_imul hx hb d_M_tally_20 ?_
      refine lv_iload_n hx hb d_M_tally_21 rfl (lv_at hl 2 rfl) ?_
      refine lv_iadd hx hb d_M_tally_22 ?_
      refine l_M4 C h (vp4 (four_in hh1) (four_in hh2)) d_M_tally_23 ?_
      refine lv_goto (tgt := 28) hx hb d_M_tally_24 (by decide) ?_
      exact z_retE C h hr hk (by first | rfl | (simp only [r_M_tally, eq_false hh1, eq_false hh2, ↓reduceIte]; done) | (simp [r_M_tally, eq_false hh1, eq_false hh2]; done)) (by first | rfl | (simp only [r_M_tally, eq_false hh1, eq_false hh2, ↓reduceIte]; done) | (simp [r_M_tally, eq_false hh1, eq_false hh2]; done)) (by first | rfl | (simp only [r_M_tally, eq_false hh1, eq_false hh2, ↓reduceIte]; done) | (simp [r_M_tally, eq_false hh1, eq_false hh2]; done)) d_M_tally_28
