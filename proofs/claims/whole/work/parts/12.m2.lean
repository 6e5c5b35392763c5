def m_stp (M : zMS) (i : Nat) : zMS := (u2 (u2 (u2 (u2 (u2 (u2 (u2 M 16 (nI i).toNatClampNeg (M 16 (nI i + 1).toNatClampNeg)) 17 (nI i).toNatClampNeg (M 17 (nI i + 1).toNatClampNeg)) 18 (nI i).toNatClampNeg (M 18 (nI i + 1).toNatClampNeg)) 19 (nI i).toNatClampNeg (M 19 (nI i + 1).toNatClampNeg)) 20 (nI i).toNatClampNeg (M 20 (nI i + 1).toNatClampNeg)) 21 (nI i).toNatClampNeg (M 21 (nI i + 1).toNatClampNeg)) 22 (nI i).toNatClampNeg (M 22 (nI i + 1).toNatClampNeg))
def m_shift : Nat → Nat → zMS → zMS
  | 0, _, M => M
  | c + 1, i, M => m_shift c (i + 1) (m_stp M i)
def m_strike (M : zMS) (kk n : Nat) : zMS := m_shift (n - kk) kk (u2 M 15 0 (M 15 0 - 1))
theorem hd_M_strike : y_M_strike.cls ≠ "java/lang/invoke/MethodHandle" ∧ y_M_strike.cls ≠ "java/lang/invoke/VarHandle" ∧ (parseMethodDescriptor y_M_strike.desc).map (fun d => d.parameters.length) = some 1 := by decide +kernel
set_option maxHeartbeats 4000000 in
set_option maxRecDepth 100000 in
theorem k_M_strike (l : Launch) (dC : Nat → ClassId) (dI : Nat → Nat → Nat) (k : Nat → ClassId) (q : Nat → Nat) (X : zXS) (M : zMS) (kk n : Nat) (h1 : kk ≤ n) (h2 : n < 200) (h0 : M 15 0 = nI (n + 1)) : zMet l dC dI k q y_M_strike c_M_strike 3 none 0 0 [.ref (q 37), .int (nI kk)] none X M X (m_strike M kk n) := by
  refine zMet.of (by decide) (Nat.le_of_ble_eq_true rfl) ?_
  intro p e s m args below meth c ls C hr hk hl h
  have hx := C.1
  have hb := C.2.1
  have hl : lv_has ls 3 [(0, .ref (q 37)), (1, .int (nI kk))] := hl
  have loop : ∀ (c0 i : Nat) (M1 : zMS) (ls : Array Slot) (H : Heap) (locs : List Loc), i + c0 = n → M1 15 0 = nI n → m_strike M kk n = m_shift c0 i M1 → lv_has ls 3 [(2, .int (nI i)), (0, .ref (q 37)), (1, .int (nI kk))] → zH dC dI k q X M1 (zA q) s.heap H locs → W p l e { frames := 0, cells := 0, slots := 0, locals := 0 } s m args below meth c H locs 0 0 (MQ below (zQc dC dI k q X (m_strike M kk n) none) args s 0 0 (zA q)) (F0 m 12 ls []) := by
    intro c0
    induction c0 with
    | zero =>
      intro i M1 ls H locs hi hR hM hl h
      refine lv_iload_n hx hb d_M_strike_12 rfl (lv_at hl 0 rfl) ?_
      refine lv_aload_n hx hb d_M_strike_13 rfl (lv_at hl 1 rfl) ?_
      refine g_M_81 C h d_M_strike_14 ?_
      refine lv_icmp_ge (tgt := 124) hx hb d_M_strike_17 (by decide) (fun hh1 => ?_) (fun hh1 => absurd (by rw [hR]; exact nI_le (by omega) (by omega)) hh1)
      exact z_retvE C h hr hk (by first | rfl | (simp only [hM, m_shift, hh1, ↓reduceIte]; done) | (simp [hM, m_shift, hh1]; done)) (by first | rfl | (simp only [hM, m_shift, hh1, ↓reduceIte]; done) | (simp [hM, m_shift, hh1]; done)) d_M_strike_124
    | succ c0 ih =>
      intro i M1 ls H locs hi hR hM hl h
      have hi0 : vp_in (nI i) 200 := vp_in_nI (by omega) (by omega)
      have hi1 : vp_in (nI i + 1) 200 := by rw [nI_1]; exact vp_in_nI (by omega) (by omega)
      refine lv_iload_n hx hb d_M_strike_12 rfl (lv_at hl 0 rfl) ?_
      refine lv_aload_n hx hb d_M_strike_13 rfl (lv_at hl 1 rfl) ?_
      refine g_M_81 C h d_M_strike_14 ?_
      refine lv_icmp_ge (tgt := 124) hx hb d_M_strike_17 (by decide) (fun hh2 => absurd hh2 (by rw [hR]; exact nI_ge (by omega) (by omega))) (fun hh2 => ?_)
      refine lv_aload_n hx hb d_M_strike_20 rfl (lv_at hl 1 rfl) ?_
      refine g_M_56 C h d_M_strike_21 ?_
      refine lv_iload_n hx hb d_M_strike_24 rfl (lv_at hl 0 rfl) ?_
      refine lv_aload_n hx hb d_M_strike_25 rfl (lv_at hl 1 rfl) ?_
      refine g_M_56 C h d_M_strike_26 ?_
      refine lv_iload_n hx hb d_M_strike_29 rfl (lv_at hl 0 rfl) ?_
      refine lv_iconst (v := 1) hx hb d_M_strike_30 (by decide) ?_
      refine lv_iadd hx hb d_M_strike_31 ?_
      refine l_M16 C h hi1 d_M_strike_32 ?_
      refine s_M16 C h hi0 d_M_strike_33 (fun H locs h => ?_)
      refine lv_aload_n hx hb d_M_strike_34 rfl (lv_at hl 1 rfl) ?_
      refine g_M_59 C h d_M_strike_35 ?_
      refine lv_iload_n hx hb d_M_strike_38 rfl (lv_at hl 0 rfl) ?_
      refine lv_aload_n hx hb d_M_strike_39 rfl (lv_at hl 1 rfl) ?_
      refine g_M_59 C h d_M_strike_40 ?_
      refine lv_iload_n hx hb d_M_strike_43 rfl (lv_at hl 0 rfl) ?_
      refine lv_iconst (v := 1) hx hb d_M_strike_44 (by decide) ?_
      refine lv_iadd hx hb d_M_strike_45 ?_
      refine l_M17 C h hi1 d_M_strike_46 ?_
      refine z_top (y := M1 17 (Int32.toNatClampNeg ((nI i) + 1))) rfl ?_
      refine s_M17 C h hi0 d_M_strike_47 (fun H locs h => ?_)
      refine lv_aload_n hx hb d_M_strike_48 rfl (lv_at hl 1 rfl) ?_
      refine g_M_62 C h d_M_strike_49 ?_
      refine lv_iload_n hx hb d_M_strike_52 rfl (lv_at hl 0 rfl) ?_
      refine lv_aload_n hx hb d_M_strike_53 rfl (lv_at hl 1 rfl) ?_
      refine g_M_62 C h d_M_strike_54 ?_
      refine lv_iload_n hx hb d_M_strike_57 rfl (lv_at hl 0 rfl) ?_
      refine lv_iconst (v := 1) hx hb d_M_strike_58 (by decide) ?_
      refine lv_iadd hx hb d_M_strike_59 ?_
      refine l_M18 C h hi1 d_M_strike_60 ?_
      refine z_top (y := M1 18 (Int32.toNatClampNeg ((nI i) + 1))) rfl ?_
      refine s_M18 C h hi0 d_M_strike_61 (fun H locs h => ?_)
      refine lv_aload_n hx hb d_M_strike_62 rfl (lv_at hl 1 rfl) ?_
      refine g_M_65 C h d_M_strike_63 ?_
      refine lv_iload_n hx hb d_M_strike_66 rfl (lv_at hl 0 rfl) ?_
      refine lv_aload_n hx hb d_M_strike_67 rfl (lv_at hl 1 rfl) ?_
      refine g_M_65 C h d_M_strike_68 ?_
      refine lv_iload_n hx hb d_M_strike_71 rfl (lv_at hl 0 rfl) ?_
      refine lv_iconst (v := 1) hx hb d_M_strike_72 (by decide) ?_
      refine lv_iadd hx hb d_M_strike_73 ?_
      refine l_M19 C h hi1 d_M_strike_74 ?_
      refine z_top (y := M1 19 (Int32.toNatClampNeg ((nI i) + 1))) rfl ?_
      refine s_M19 C h hi0 d_M_strike_75 (fun H locs h => ?_)
      refine lv_aload_n hx hb d_M_strike_76 rfl (lv_at hl 1 rfl) ?_
      refine g_M_68 C h d_M_strike_77 ?_
      refine lv_iload_n hx hb d_M_strike_80 rfl (lv_at hl 0 rfl) ?_
      refine lv_aload_n hx hb d_M_strike_81 rfl (lv_at hl 1 rfl) ?_
      refine g_M_68 C h d_M_strike_82 ?_
      refine lv_iload_n hx hb d_M_strike_85 rfl (lv_at hl 0 rfl) ?_
      refine lv_iconst (v := 1) hx hb d_M_strike_86 (by decide) ?_
      refine lv_iadd hx hb d_M_strike_87 ?_
      refine l_M20 C h hi1 d_M_strike_88 ?_
      refine z_top (y := M1 20 (Int32.toNatClampNeg ((nI i) + 1))) rfl ?_
      refine s_M20 C h hi0 d_M_strike_89 (fun H locs h => ?_)
      refine lv_aload_n hx hb d_M_strike_90 rfl (lv_at hl 1 rfl) ?_
      refine g_M_71 C h d_M_strike_91 ?_
      refine lv_iload_n hx hb d_M_strike_94 rfl (lv_at hl 0 rfl) ?_
      refine lv_aload_n hx hb d_M_strike_95 rfl (lv_at hl 1 rfl) ?_
      refine g_M_71 C h d_M_strike_96 ?_
      refine lv_iload_n hx hb d_M_strike_99 rfl (lv_at hl 0 rfl) ?_
      refine lv_iconst (v := 1) hx hb d_M_strike_100 (by decide) ?_
      refine lv_iadd hx hb d_M_strike_101 ?_
      refine l_M21 C h hi1 d_M_strike_102 ?_
      refine z_top (y := M1 21 (Int32.toNatClampNeg ((nI i) + 1))) rfl ?_
      refine s_M21 C h hi0 d_M_strike_103 (fun H locs h => ?_)
      refine lv_aload_n hx hb d_M_strike_104 rfl (lv_at hl 1 rfl) ?_
      refine g_M_74 C h d_M_strike_105 ?_
      refine lv_iload_n hx hb d_M_strike_108 rfl (lv_at hl 0 rfl) ?_
      refine lv_aload_n hx hb d_M_strike_109 rfl (lv_at hl 1 rfl) ?_
      refine g_M_74 C h d_M_strike_110 ?_
      refine lv_iload_n hx hb d_M_strike_113 rfl (lv_at hl 0 rfl) ?_
      refine lv_iconst (v := 1) hx hb d_M_strike_114 (by decide) ?_
      refine lv_iadd hx hb d_M_strike_115 ?_
      refine l_M22 C h hi1 d_M_strike_116 ?_
      refine z_top (y := M1 22 (Int32.toNatClampNeg ((nI i) + 1))) rfl ?_
      refine s_M22 C h hi0 d_M_strike_117 (fun H locs h => ?_)
      refine lv_iinc (k := 0) (v := ((nI i) + 1)) hx hb d_M_strike_118 hl rfl rfl (by decide) rfl (fun ls hl => ?_)
      have hl : lv_has ls 3 [(2, .int ((nI i) + 1)), (0, .ref (q 37)), (1, .int (nI kk))] := hl
      refine lv_goto (tgt := 12) hx hb d_M_strike_121 (by decide) ?_
      exact ih (i + 1) (m_stp M1 i) _ _ _ (by omega) hR hM (by rw [← nI_1]; exact hl) h
  refine lv_aload_n hx hb d_M_strike_0 rfl (lv_at hl 0 rfl) ?_
  refine lv_dup hx hb d_M_strike_1 rfl ?_
  refine g_M_81 C h d_M_strike_2 ?_
  refine lv_iconst (v := 1) hx hb d_M_strike_5 (by decide) ?_
  refine lv_isub hx hb d_M_strike_6 ?_
  refine p_M_81 C h d_M_strike_7 (fun H locs h => ?_)
  refine lv_iload_n hx hb d_M_strike_10 rfl (lv_at hl 1 rfl) ?_
  refine lv_istore_n hx hb d_M_strike_11 rfl hl (by decide) rfl (fun ls hl => ?_)
  have hl : lv_has ls 3 [(2, .int (nI kk)), (0, .ref (q 37)), (1, .int (nI kk))] := hl
  exact loop (n - kk) kk (u2 M 15 0 (M 15 0 - 1)) _ _ _ (by omega) (by show M 15 0 - 1 = nI n; rw [h0]; exact nI_pred n) rfl hl h
def m_kb1 (M : zMS) (kk i : Nat) (b : Int32) : Int32 := if b = 0 then (if m_ord (M 16 (nI i).toNatClampNeg) = 0 then 0 else if M 17 (nI i).toNatClampNeg = M 17 (nI kk).toNatClampNeg then (if M 19 (nI i).toNatClampNeg = M 19 (nI kk).toNatClampNeg then 1 else 0) else 0) else 1
def m_kbl (M : zMS) (kk : Nat) : Nat → Nat → Int32 → Int32
  | 0, _, b => b
  | c + 1, i, b => m_kbl M kk c (i + 1) (m_kb1 M kk i b)
def m_kbr (M : zMS) (kk : Nat) (b : Int32) : Int32 := if b = 0 then 0 else if m_ord (M 16 (nI kk).toNatClampNeg) = 0 then 0 else 1
def m_kept (M : zMS) (kk : Nat) : Int32 := m_kbr M kk (m_kbl M kk kk 0 0)
theorem hd_M_keptBack : y_M_keptBack.cls ≠ "java/lang/invoke/MethodHandle" ∧ y_M_keptBack.cls ≠ "java/lang/invoke/VarHandle" ∧ (parseMethodDescriptor y_M_keptBack.desc).map (fun d => d.parameters.length) = some 1 := by decide +kernel
set_option maxHeartbeats 4000000 in
set_option maxRecDepth 100000 in
theorem k_M_keptBack (l : Launch) (dC : Nat → ClassId) (dI : Nat → Nat → Nat) (k : Nat → ClassId) (q : Nat → Nat) (X : zXS) (M : zMS) (kk : Nat) (h1 : kk < 200) : zMet l dC dI k q y_M_keptBack c_M_keptBack 4 (some .boolean) 1 20 [.ref (q 37), .int (nI kk)] (some (.int (m_kept M kk))) X M X M := by
  refine zMet.of (by decide) (Nat.le_of_ble_eq_true rfl) ?_
  intro p e s m args below meth c ls C hr hk hl h
  have hx := C.1
  have hb := C.2.1
  have hl : lv_has ls 4 [(0, .ref (q 37)), (1, .int (nI kk))] := hl
  have loop : ∀ (c0 i : Nat) (b : Int32) (ls : Array Slot) (H : Heap) (locs : List Loc), i + c0 = kk → m_kept M kk = m_kbr M kk (m_kbl M kk c0 i b) → lv_has ls 4 [(3, .int (nI i)), (2, .int b), (0, .ref (q 37)), (1, .int (nI kk))] → zH dC dI k q X M (zA q) s.heap H locs → W p l e { frames := 1, cells := 0, slots := 0, locals := 20 } s m args below meth c H locs 0 0 (MQ below (zQc dC dI k q X M (some (.int (m_kept M kk)))) args s 0 0 (zA q)) (F0 m 4 ls []) := by
    intro c0
    induction c0 with
    | zero =>
      intro i b ls H locs hi hM hl h
      have hk0 : vp_in (nI kk) 200 := vp_in_nI h1 (by omega)
      refine lv_iload_n hx hb d_M_keptBack_4 rfl (lv_at hl 0 rfl) ?_
      refine lv_iload_n hx hb d_M_keptBack_5 rfl (lv_at hl 3 rfl) ?_
      refine lv_icmp_ge (tgt := 67) hx hb d_M_keptBack_6 (by decide) (fun hh1 => ?_) (fun hh1 => absurd (nI_le (by omega) (by omega)) hh1)
      refine lv_iload_n hx hb d_M_keptBack_67 rfl (lv_at hl 1 rfl) ?_
      refine lv_if_eq (tgt := 87) hx hb d_M_keptBack_68 (by decide) (fun hh2 => ?_) (fun hh2 => ?_)
      · skip
        refine lv_iconst (v := 0) hx hb d_M_keptBack_87 (by decide) ?_
        exact z_retzE C h hr hk (by first | exact Or.inl rfl | exact Or.inr rfl) (by first | rfl | (simp only [hM, m_kbl, m_kbr, hh1, eq_true hh2, ↓reduceIte]; done) | (simp [hM, m_kbl, m_kbr, hh1, eq_true hh2]; done)) (by first | rfl | (simp only [hM, m_kbl, m_kbr, hh1, eq_true hh2, ↓reduceIte]; done) | (simp [hM, m_kbl, m_kbr, hh1, eq_true hh2]; done)) (by first | rfl | (simp only [hM, m_kbl, m_kbr, hh1, eq_true hh2, ↓reduceIte]; done) | (simp [hM, m_kbl, m_kbr, hh1, eq_true hh2]; done)) d_M_keptBack_88
      · skip
        refine lv_aload_n hx hb d_M_keptBack_71 rfl (lv_at hl 2 rfl) ?_
        refine g_M_56 C h d_M_keptBack_72 ?_
        refine lv_iload_n hx hb d_M_keptBack_75 rfl (lv_at hl 3 rfl) ?_
        refine l_M16 C h hk0 d_M_keptBack_76 ?_
        refine z_callS C h (k_M_isOrdered l dC dI k q X M (M 16 (Int32.toNatClampNeg (nI kk)))) co_M_isOrdered ml_M_85 sc_M_isOrdered in_M hd_M_isOrdered ⟨by decide, by decide⟩ ⟨Nat.zero_le _, Nat.zero_le _⟩ hl.1 (Nat.le_of_ble_eq_true rfl) d_M_keptBack_77 rfl (fun H locs h => ?_)
        refine W.eq (g2 := F0 m 80 ls [.int (m_ord (M 16 (Int32.toNatClampNeg (nI kk))))]) rfl ?_
        have h : zH dC dI k q X M (zA q) s.heap H locs := h
        refine lv_if_eq (tgt := 87) hx hb d_M_keptBack_80 (by decide) (fun hh3 => ?_) (fun hh3 => ?_)
        · skip
          refine lv_iconst (v := 0) hx hb d_M_keptBack_87 (by decide) ?_
          exact z_retzE C h hr hk (by first | exact Or.inl rfl | exact Or.inr rfl) (by first | rfl | (simp only [hM, m_kbl, m_kbr, hh1, eq_false hh2, eq_true hh3, ↓reduceIte]; done) | (simp [hM, m_kbl, m_kbr, hh1, eq_false hh2, eq_true hh3]; done)) (by first | rfl | (simp only [hM, m_kbl, m_kbr, hh1, eq_false hh2, eq_true hh3, ↓reduceIte]; done) | (simp [hM, m_kbl, m_kbr, hh1, eq_false hh2, eq_true hh3]; done)) (by first | rfl | (simp only [hM, m_kbl, m_kbr, hh1, eq_false hh2, eq_true hh3, ↓reduceIte]; done) | (simp [hM, m_kbl, m_kbr, hh1, eq_false hh2, eq_true hh3]; done)) d_M_keptBack_88
        · skip
          refine lv_iconst (v := 1) hx hb d_M_keptBack_83 (by decide) ?_
          refine lv_goto (tgt := 88) hx hb d_M_keptBack_84 (by decide) ?_
          exact z_retzE C h hr hk (by first | exact Or.inl rfl | exact Or.inr rfl) (by first | rfl | (simp only [hM, m_kbl, m_kbr, hh1, eq_false hh2, eq_false hh3, ↓reduceIte]; done) | (simp [hM, m_kbl, m_kbr, hh1, eq_false hh2, eq_false hh3]; done)) (by first | rfl | (simp only [hM, m_kbl, m_kbr, hh1, eq_false hh2, eq_false hh3, ↓reduceIte]; done) | (simp [hM, m_kbl, m_kbr, hh1, eq_false hh2, eq_false hh3]; done)) (by first | rfl | (simp only [hM, m_kbl, m_kbr, hh1, eq_false hh2, eq_false hh3, ↓reduceIte]; done) | (simp [hM, m_kbl, m_kbr, hh1, eq_false hh2, eq_false hh3]; done)) d_M_keptBack_88
    | succ c0 ih =>
      intro i b ls H locs hi hM hl h
      have hk0 : vp_in (nI kk) 200 := vp_in_nI h1 (by omega)
      have hi0 : vp_in (nI i) 200 := vp_in_nI (by omega) (by omega)
      refine lv_iload_n hx hb d_M_keptBack_4 rfl (lv_at hl 0 rfl) ?_
      refine lv_iload_n hx hb d_M_keptBack_5 rfl (lv_at hl 3 rfl) ?_
      refine lv_icmp_ge (tgt := 67) hx hb d_M_keptBack_6 (by decide) (fun hh4 => absurd hh4 (nI_ge (by omega) (by omega))) (fun hh4 => ?_)
      refine lv_iload_n hx hb d_M_keptBack_9 rfl (lv_at hl 1 rfl) ?_
      refine lv_if_ne (tgt := 55) hx hb d_M_keptBack_10 (by decide) (fun hh5 => ?_) (fun hh5 => ?_)
      · skip
        refine lv_iconst (v := 1) hx hb d_M_keptBack_55 (by decide) ?_
        refine lv_goto (tgt := 60) hx hb d_M_keptBack_56 (by decide) ?_
        refine lv_istore_n hx hb d_M_keptBack_60 rfl hl (by decide) rfl (fun ls hl => ?_)
        have hl : lv_has ls 4 [(2, .int 1), (3, .int (nI i)), (0, .ref (q 37)), (1, .int (nI kk))] := hl
        refine lv_iinc (k := 1) (v := ((nI i) + 1)) hx hb d_M_keptBack_61 hl rfl rfl (by decide) rfl (fun ls hl => ?_)
        have hl : lv_has ls 4 [(3, .int ((nI i) + 1)), (2, .int 1), (0, .ref (q 37)), (1, .int (nI kk))] := hl
        refine lv_goto (tgt := 4) hx hb d_M_keptBack_64 (by decide) ?_
        exact ih (i + 1) 1 _ _ _ (by omega) (by rw [hM, m_kbl, show m_kb1 M kk i b = 1 by simp [m_kb1, hh4, hh5]]) (by rw [← nI_1]; exact hl) h
      · skip
        refine lv_aload_n hx hb d_M_keptBack_13 rfl (lv_at hl 2 rfl) ?_
        refine g_M_56 C h d_M_keptBack_14 ?_
        refine lv_iload_n hx hb d_M_keptBack_17 rfl (lv_at hl 0 rfl) ?_
        refine l_M16 C h hi0 d_M_keptBack_18 ?_
        refine z_callS C h (k_M_isOrdered l dC dI k q X M (M 16 (Int32.toNatClampNeg (nI i)))) co_M_isOrdered ml_M_85 sc_M_isOrdered in_M hd_M_isOrdered ⟨by decide, by decide⟩ ⟨Nat.zero_le _, Nat.zero_le _⟩ hl.1 (Nat.le_of_ble_eq_true rfl) d_M_keptBack_19 rfl (fun H locs h => ?_)
        refine W.eq (g2 := F0 m 22 ls [.int (m_ord (M 16 (Int32.toNatClampNeg (nI i))))]) rfl ?_
        have h : zH dC dI k q X M (zA q) s.heap H locs := h
        refine lv_if_eq (tgt := 59) hx hb d_M_keptBack_22 (by decide) (fun hh6 => ?_) (fun hh6 => ?_)
        · skip
          refine lv_iconst (v := 0) hx hb d_M_keptBack_59 (by decide) ?_
          refine lv_istore_n hx hb d_M_keptBack_60 rfl hl (by decide) rfl (fun ls hl => ?_)
          have hl : lv_has ls 4 [(2, .int 0), (3, .int (nI i)), (0, .ref (q 37)), (1, .int (nI kk))] := hl
          refine lv_iinc (k := 1) (v := ((nI i) + 1)) hx hb d_M_keptBack_61 hl rfl rfl (by decide) rfl (fun ls hl => ?_)
          have hl : lv_has ls 4 [(3, .int ((nI i) + 1)), (2, .int 0), (0, .ref (q 37)), (1, .int (nI kk))] := hl
          refine lv_goto (tgt := 4) hx hb d_M_keptBack_64 (by decide) ?_
          exact ih (i + 1) 0 _ _ _ (by omega) (by rw [hM, m_kbl, show m_kb1 M kk i b = 0 by simp [m_kb1, hh4, hh5, hh6]]) (by rw [← nI_1]; exact hl) h
        · skip
          refine lv_aload_n hx hb d_M_keptBack_25 rfl (lv_at hl 2 rfl) ?_
          refine g_M_59 C h d_M_keptBack_26 ?_
          refine lv_iload_n hx hb d_M_keptBack_29 rfl (lv_at hl 0 rfl) ?_
          refine l_M17 C h hi0 d_M_keptBack_30 ?_
          refine lv_aload_n hx hb d_M_keptBack_31 rfl (lv_at hl 2 rfl) ?_
          refine g_M_59 C h d_M_keptBack_32 ?_
          refine lv_iload_n hx hb d_M_keptBack_35 rfl (lv_at hl 3 rfl) ?_
          refine l_M17 C h hk0 d_M_keptBack_36 ?_
          refine lv_icmp_ne (tgt := 59) hx hb d_M_keptBack_37 (by decide) (fun hh7 => ?_) (fun hh7 => ?_)
          · skip
            refine lv_iconst (v := 0) hx hb d_M_keptBack_59 (by decide) ?_
            refine lv_istore_n hx hb d_M_keptBack_60 rfl hl (by decide) rfl (fun ls hl => ?_)
            have hl : lv_has ls 4 [(2, .int 0), (3, .int (nI i)), (0, .ref (q 37)), (1, .int (nI kk))] := hl
            refine lv_iinc (k := 1) (v := ((nI i) + 1)) hx hb d_M_keptBack_61 hl rfl rfl (by decide) rfl (fun ls hl => ?_)
            have hl : lv_has ls 4 [(3, .int ((nI i) + 1)), (2, .int 0), (0, .ref (q 37)), (1, .int (nI kk))] := hl
            refine lv_goto (tgt := 4) hx hb d_M_keptBack_64 (by decide) ?_
            exact ih (i + 1) 0 _ _ _ (by omega) (by rw [hM, m_kbl, show m_kb1 M kk i b = 0 by simp [m_kb1, hh4, hh5, hh6, hh7]]) (by rw [← nI_1]; exact hl) h
          · skip
            refine lv_aload_n hx hb d_M_keptBack_40 rfl (lv_at hl 2 rfl) ?_
            refine g_M_65 C h d_M_keptBack_41 ?_
            refine lv_iload_n hx hb d_M_keptBack_44 rfl (lv_at hl 0 rfl) ?_
            refine l_M19 C h hi0 d_M_keptBack_45 ?_
            refine lv_aload_n hx hb d_M_keptBack_46 rfl (lv_at hl 2 rfl) ?_
            refine g_M_65 C h d_M_keptBack_47 ?_
            refine lv_iload_n hx hb d_M_keptBack_50 rfl (lv_at hl 3 rfl) ?_
            refine l_M19 C h hk0 d_M_keptBack_51 ?_
            refine lv_icmp_ne (tgt := 59) hx hb d_M_keptBack_52 (by decide) (fun hh8 => ?_) (fun hh8 => ?_)
            · skip
              refine lv_iconst (v := 0) hx hb d_M_keptBack_59 (by decide) ?_
              refine lv_istore_n hx hb d_M_keptBack_60 rfl hl (by decide) rfl (fun ls hl => ?_)
              have hl : lv_has ls 4 [(2, .int 0), (3, .int (nI i)), (0, .ref (q 37)), (1, .int (nI kk))] := hl
              refine lv_iinc (k := 1) (v := ((nI i) + 1)) hx hb d_M_keptBack_61 hl rfl rfl (by decide) rfl (fun ls hl => ?_)
              have hl : lv_has ls 4 [(3, .int ((nI i) + 1)), (2, .int 0), (0, .ref (q 37)), (1, .int (nI kk))] := hl
              refine lv_goto (tgt := 4) hx hb d_M_keptBack_64 (by decide) ?_
              exact ih (i + 1) 0 _ _ _ (by omega) (by rw [hM, m_kbl, show m_kb1 M kk i b = 0 by simp [m_kb1, hh4, hh5, hh6, hh7, hh8]]) (by rw [← nI_1]; exact hl) h
            · skip
              refine lv_iconst (v := 1) hx hb d_M_keptBack_55 (by decide) ?_
              refine lv_goto (tgt := 60) hx hb d_M_keptBack_56 (by decide) ?_
              refine lv_istore_n hx hb d_M_keptBack_60 rfl hl (by decide) rfl (fun ls hl => ?_)
              have hl : lv_has ls 4 [(2, .int 1), (3, .int (nI i)), (0, .ref (q 37)), (1, .int (nI kk))] := hl
              refine lv_iinc (k := 1) (v := ((nI i) + 1)) hx hb d_M_keptBack_61 hl rfl rfl (by decide) rfl (fun ls hl => ?_)
              have hl : lv_has ls 4 [(3, .int ((nI i) + 1)), (2, .int 1), (0, .ref (q 37)), (1, .int (nI kk))] := hl
              refine lv_goto (tgt := 4) hx hb d_M_keptBack_64 (by decide) ?_
              exact ih (i + 1) 1 _ _ _ (by omega) (by rw [hM, m_kbl, show m_kb1 M kk i b = 1 by simp [m_kb1, hh4, hh5, hh6, hh7, hh8]]) (by rw [← nI_1]; exact hl) h
  refine lv_iconst (v := 0) hx hb d_M_keptBack_0 (by decide) ?_
  refine lv_istore_n hx hb d_M_keptBack_1 rfl hl (by decide) rfl (fun ls hl => ?_)
  have hl : lv_has ls 4 [(2, .int 0), (0, .ref (q 37)), (1, .int (nI kk))] := hl
  refine lv_iconst (v := 0) hx hb d_M_keptBack_2 (by decide) ?_
  refine lv_istore_n hx hb d_M_keptBack_3 rfl hl (by decide) rfl (fun ls hl => ?_)
  have hl : lv_has ls 4 [(3, .int 0), (2, .int 0), (0, .ref (q 37)), (1, .int (nI kk))] := hl
  exact loop kk 0 0 _ _ _ (by omega) rfl hl h
