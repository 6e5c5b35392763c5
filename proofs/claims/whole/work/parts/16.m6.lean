theorem m_stp_15 (M : zMS) (i : Nat) : m_stp M i 15 = M 15 := rfl
theorem m_shift_15 : ∀ (c i : Nat) (M : zMS), m_shift c i M 15 = M 15
  | 0, _, _ => rfl
  | c + 1, i, M => by rw [m_shift, m_shift_15 c, m_stp_15]
theorem m_strike_15 {M : zMS} {kk n : Nat} (h : M 15 0 = nI (n + 1)) : m_strike M kk n 15 0 = nI n := by
  unfold m_strike
  rw [m_shift_15]
  show M 15 0 - 1 = nI n
  rw [h]; exact nI_pred n
theorem five_four {x : Int32} (h : vp_in x 5) (h4 : ¬ 4 ≤ x) : vp_in x 4 := by
  rw [vp_in_iff] at h ⊢
  rw [Int32.le_iff_toInt_le] at h4
  have e4 : (4 : Int32).toInt = 4 := rfl
  omega
theorem five_ne {x : Int32} (h : vp_in x 5) (h4 : ¬ x = 4) : vp_in x 4 := by
  rw [vp_in_iff] at h ⊢
  rw [← Int32.toInt_inj] at h4
  have e4 : (4 : Int32).toInt = 4 := rfl
  omega
theorem rows_cl {x : Int32} {n : Nat} (h : x = nI n) (hn : n < 2 ^ 31) : x.toNatClampNeg = n := by rw [h]; exact nI_clamp hn
theorem k_nat {x : Int32} (h : ¬ x < 0) : x = nI x.toNatClampNeg := by
  obtain ⟨j, hj, rfl⟩ := nI_of h
  rw [nI_clamp hj]
theorem k_lt {x y : Int32} {n : Nat} (h0 : ¬ x < 0) (h : x < y) (hy : y = nI n) (hn : n < 2 ^ 31) : x.toNatClampNeg < n := by
  obtain ⟨j, hj, rfl⟩ := nI_of h0
  rw [hy] at h
  rw [nI_clamp hj]
  exact (nI_ltI hj hn).mp h
theorem hd_M_stalls : y_M_stalls.cls ≠ "java/lang/invoke/MethodHandle" ∧ y_M_stalls.cls ≠ "java/lang/invoke/VarHandle" ∧ (parseMethodDescriptor y_M_stalls.desc).map (fun d => d.parameters.length) = some 1 := by decide +kernel
def r_M_stalls (X : zXS) (M : zMS) (kk : Nat) : Int32 := (if (M 19 (Int32.toNatClampNeg (nI kk))) = 4 then (if 2 ≤ (M 16 (Int32.toNatClampNeg (nI kk))) then 0 else (if (M 11 (Int32.toNatClampNeg (M 17 (Int32.toNatClampNeg (nI kk))))) = 3 then 1 else 0)) else (if (M 16 (Int32.toNatClampNeg (nI kk))) < 5 then 0 else (if 7 < (M 16 (Int32.toNatClampNeg (nI kk))) then 0 else (if (m_bec (M 16 (Int32.toNatClampNeg (nI kk))) (M 0 (Int32.toNatClampNeg ((4 * (M 19 (Int32.toNatClampNeg (nI kk)))) + (M 17 (Int32.toNatClampNeg (nI kk))))))) = 15 then 1 else 0))))
set_option maxHeartbeats 1000000 in
set_option maxRecDepth 100000 in
theorem k_M_stalls (l : Launch) (dC : Nat → ClassId) (dI : Nat → Nat → Nat) (k : Nat → ClassId) (q : Nat → Nat) (X : zXS) (M : zMS) (kk : Nat)  (hk0 : vp_in (nI kk) 200) (hA : vp_in (M 17 (Int32.toNatClampNeg (nI kk))) 4) (hT : vp_in (M 19 (Int32.toNatClampNeg (nI kk))) 5) (hR : vp_in (M 20 (Int32.toNatClampNeg (nI kk))) 4) : zMet l dC dI k q y_M_stalls c_M_stalls 2 (some .boolean) 2 43 [.ref (q 37), .int (nI kk)] (some (.int (r_M_stalls X M kk))) X M X M := by
  refine zMet.of (by decide) (Nat.le_of_ble_eq_true rfl) ?_
  intro p e s m args below meth c ls C hr hk hl h
  have hx := C.1
  have hb := C.2.1
  have hl : lv_has ls 2 [(0, .ref (q 37)), (1, .int (nI kk))] := hl
  refine lv_aload_n hx hb d_M_stalls_0 rfl (lv_at hl 0 rfl) ?_
  refine g_M_65 C h d_M_stalls_1 ?_
  refine lv_iload_n hx hb d_M_stalls_4 rfl (lv_at hl 1 rfl) ?_
  refine l_M19 C h hk0 d_M_stalls_5 ?_
  refine lv_iconst (v := 4) hx hb d_M_stalls_6 (by decide) ?_
  refine lv_icmp_ne (tgt := 41) hx hb d_M_stalls_7 (by decide) (fun hh1 => ?_) (fun hh1 => ?_)
  · skip
    refine lv_aload_n hx hb d_M_stalls_41 rfl (lv_at hl 0 rfl) ?_
    refine g_M_56 C h d_M_stalls_42 ?_
    refine lv_iload_n hx hb d_M_stalls_45 rfl (lv_at hl 1 rfl) ?_
    refine l_M16 C h hk0 d_M_stalls_46 ?_
    refine lv_iconst (v := 5) hx hb d_M_stalls_47 (by decide) ?_
    refine lv_icmp_lt (tgt := 100) hx hb d_M_stalls_48 (by decide) (fun hh2 => ?_) (fun hh2 => ?_)
    · skip
      refine lv_iconst (v := 0) hx hb d_M_stalls_100 (by decide) ?_
      exact z_retzE C h hr hk (by first | exact Or.inl rfl | exact Or.inr rfl) (by first | rfl | (simp only [r_M_stalls, eq_false hh1, eq_true hh2, ↓reduceIte]; done) | (simp [r_M_stalls, eq_false hh1, eq_true hh2]; done)) (by first | rfl | (simp only [r_M_stalls, eq_false hh1, eq_true hh2, ↓reduceIte]; done) | (simp [r_M_stalls, eq_false hh1, eq_true hh2]; done)) (by first | rfl | (simp only [r_M_stalls, eq_false hh1, eq_true hh2, ↓reduceIte]; done) | (simp [r_M_stalls, eq_false hh1, eq_true hh2]; done)) d_M_stalls_101
    · skip
      refine lv_aload_n hx hb d_M_stalls_51 rfl (lv_at hl 0 rfl) ?_
      refine g_M_56 C h d_M_stalls_52 ?_
      refine lv_iload_n hx hb d_M_stalls_55 rfl (lv_at hl 1 rfl) ?_
      refine l_M16 C h hk0 d_M_stalls_56 ?_
      refine lv_bipush (v := 7) hx hb d_M_stalls_57 (by decide) ?_
      refine lv_icmp_gt (tgt := 100) hx hb d_M_stalls_59 (by decide) (fun hh3 => ?_) (fun hh3 => ?_)
      · skip
        refine lv_iconst (v := 0) hx hb d_M_stalls_100 (by decide) ?_
        exact z_retzE C h hr hk (by first | exact Or.inl rfl | exact Or.inr rfl) (by first | rfl | (simp only [r_M_stalls, eq_false hh1, eq_false hh2, eq_true hh3, ↓reduceIte]; done) | (simp [r_M_stalls, eq_false hh1, eq_false hh2, eq_true hh3]; done)) (by first | rfl | (simp only [r_M_stalls, eq_false hh1, eq_false hh2, eq_true hh3, ↓reduceIte]; done) | (simp [r_M_stalls, eq_false hh1, eq_false hh2, eq_true hh3]; done)) (by first | rfl | (simp only [r_M_stalls, eq_false hh1, eq_false hh2, eq_true hh3, ↓reduceIte]; done) | (simp [r_M_stalls, eq_false hh1, eq_false hh2, eq_true hh3]; done)) d_M_stalls_101
      · skip
        refine lv_aload_n hx hb d_M_stalls_62 rfl (lv_at hl 0 rfl) ?_
        refine g_M_56 C h d_M_stalls_63 ?_
        refine lv_iload_n hx hb d_M_stalls_66 rfl (lv_at hl 1 rfl) ?_
        refine l_M16 C h hk0 d_M_stalls_67 ?_
        refine lv_aload_n hx hb d_M_stalls_68 rfl (lv_at hl 0 rfl) ?_
        refine g_M_7 C h d_M_stalls_69 ?_
        refine lv_iconst (v := 4) hx hb d_M_stalls_72 (by decide) ?_
        refine lv_aload_n hx hb d_M_stalls_73 rfl (lv_at hl 0 rfl) ?_
        refine g_M_65 C h d_M_stalls_74 ?_
        refine lv_iload_n hx hb d_M_stalls_77 rfl (lv_at hl 1 rfl) ?_
        refine l_M19 C h hk0 d_M_stalls_78 ?_
        refine lv_imul hx hb d_M_stalls_79 ?_
        refine lv_aload_n hx hb d_M_stalls_80 rfl (lv_at hl 0 rfl) ?_
        refine g_M_59 C h d_M_stalls_81 ?_
        refine lv_iload_n hx hb d_M_stalls_84 rfl (lv_at hl 1 rfl) ?_
        refine l_M17 C h hk0 d_M_stalls_85 ?_
        refine lv_iadd hx hb d_M_stalls_86 ?_
        refine l_M0 C h (vp4 (five_ne hT hh1) hA) d_M_stalls_87 ?_
        refine z_callS C h (k_M_becomes l dC dI k q X M (M 16 (Int32.toNatClampNeg (nI kk))) (M 0 (Int32.toNatClampNeg ((4 * (M 19 (Int32.toNatClampNeg (nI kk)))) + (M 17 (Int32.toNatClampNeg (nI kk))))))) co_M_becomes ml_M_101 sc_M_becomes in_M hd_M_becomes ⟨by decide, by decide⟩ ⟨Nat.zero_le _, Nat.zero_le _⟩ hl.1 (Nat.le_of_ble_eq_true rfl) d_M_stalls_88 rfl (fun H locs h => ?_)
        refine W.eq (g2 := F0 m 91 ls [.int (m_bec (M 16 (Int32.toNatClampNeg (nI kk))) (M 0 (Int32.toNatClampNeg ((4 * (M 19 (Int32.toNatClampNeg (nI kk)))) + (M 17 (Int32.toNatClampNeg (nI kk)))))))]) rfl ?_
        have h : zH dC dI k q X M (zA q) s.heap H locs := h
        refine lv_bipush (v := 15) hx hb d_M_stalls_91 (by decide) ?_
        refine lv_icmp_ne (tgt := 100) hx hb d_M_stalls_93 (by decide) (fun hh4 => ?_) (fun hh4 => ?_)
        · skip
          refine lv_iconst (v := 0) hx hb d_M_stalls_100 (by decide) ?_
          exact z_retzE C h hr hk (by first | exact Or.inl rfl | exact Or.inr rfl) (by first | rfl | (simp only [r_M_stalls, eq_false hh1, eq_false hh2, eq_false hh3, eq_false hh4, ↓reduceIte]; done) | (simp [r_M_stalls, eq_false hh1, eq_false hh2, eq_false hh3, eq_false hh4]; done)) (by first | rfl | (simp only [r_M_stalls, eq_false hh1, eq_false hh2, eq_false hh3, eq_false hh4, ↓reduceIte]; done) | (simp [r_M_stalls, eq_false hh1, eq_false hh2, eq_false hh3, eq_false hh4]; done)) (by first | rfl | (simp only [r_M_stalls, eq_false hh1, eq_false hh2, eq_false hh3, eq_false hh4, ↓reduceIte]; done) | (simp [r_M_stalls, eq_false hh1, eq_false hh2, eq_false hh3, eq_false hh4]; done)) d_M_stalls_101
        · skip
          refine lv_iconst (v := 1) hx hb d_M_stalls_96 (by decide) ?_
          refine lv_goto (tgt := 101) hx hb d_M_stalls_97 (by decide) ?_
          exact z_retzE C h hr hk (by first | exact Or.inl rfl | exact Or.inr rfl) (by first | rfl | (simp only [r_M_stalls, eq_false hh1, eq_false hh2, eq_false hh3, eq_true hh4, ↓reduceIte]; done) | (simp [r_M_stalls, eq_false hh1, eq_false hh2, eq_false hh3, eq_true hh4]; done)) (by first | rfl | (simp only [r_M_stalls, eq_false hh1, eq_false hh2, eq_false hh3, eq_true hh4, ↓reduceIte]; done) | (simp [r_M_stalls, eq_false hh1, eq_false hh2, eq_false hh3, eq_true hh4]; done)) (by first | rfl | (simp only [r_M_stalls, eq_false hh1, eq_false hh2, eq_false hh3, eq_true hh4, ↓reduceIte]; done) | (simp [r_M_stalls, eq_false hh1, eq_false hh2, eq_false hh3, eq_true hh4]; done)) d_M_stalls_101
  · skip
    refine lv_aload_n hx hb d_M_stalls_10 rfl (lv_at hl 0 rfl) ?_
    refine g_M_56 C h d_M_stalls_11 ?_
    refine lv_iload_n hx hb d_M_stalls_14 rfl (lv_at hl 1 rfl) ?_
    refine l_M16 C h hk0 d_M_stalls_15 ?_
    refine lv_iconst (v := 2) hx hb d_M_stalls_16 (by decide) ?_
    refine lv_icmp_ge (tgt := 39) hx hb d_M_stalls_17 (by decide) (fun hh5 => ?_) (fun hh5 => ?_)
    · skip
      refine lv_iconst (v := 0) hx hb d_M_stalls_39 (by decide) ?_
      exact z_retzE C h hr hk (by first | exact Or.inl rfl | exact Or.inr rfl) (by first | rfl | (simp only [r_M_stalls, eq_true hh1, eq_true hh5, ↓reduceIte]; done) | (simp [r_M_stalls, eq_true hh1, eq_true hh5]; done)) (by first | rfl | (simp only [r_M_stalls, eq_true hh1, eq_true hh5, ↓reduceIte]; done) | (simp [r_M_stalls, eq_true hh1, eq_true hh5]; done)) (by first | rfl | (simp only [r_M_stalls, eq_true hh1, eq_true hh5, ↓reduceIte]; done) | (simp [r_M_stalls, eq_true hh1, eq_true hh5]; done)) d_M_stalls_40
    · skip
      refine lv_aload_n hx hb d_M_stalls_20 rfl (lv_at hl 0 rfl) ?_
      refine g_M_44 C h d_M_stalls_21 ?_
      refine lv_aload_n hx hb d_M_stalls_24 rfl (lv_at hl 0 rfl) ?_
      refine g_M_59 C h d_M_stalls_25 ?_
      refine lv_iload_n hx hb d_M_stalls_28 rfl (lv_at hl 1 rfl) ?_
      refine l_M17 C h hk0 d_M_stalls_29 ?_
      refine l_M11 C h hA d_M_stalls_30 ?_
      refine lv_iconst (v := 3) hx hb d_M_stalls_31 (by decide) ?_
      refine lv_icmp_ne (tgt := 39) hx hb d_M_stalls_32 (by decide) (fun hh6 => ?_) (fun hh6 => ?_)
      · skip
        refine lv_iconst (v := 0) hx hb d_M_stalls_39 (by decide) ?_
        exact z_retzE C h hr hk (by first | exact Or.inl rfl | exact Or.inr rfl) (by first | rfl | (simp only [r_M_stalls, eq_true hh1, eq_false hh5, eq_false hh6, ↓reduceIte]; done) | (simp [r_M_stalls, eq_true hh1, eq_false hh5, eq_false hh6]; done)) (by first | rfl | (simp only [r_M_stalls, eq_true hh1, eq_false hh5, eq_false hh6, ↓reduceIte]; done) | (simp [r_M_stalls, eq_true hh1, eq_false hh5, eq_false hh6]; done)) (by first | rfl | (simp only [r_M_stalls, eq_true hh1, eq_false hh5, eq_false hh6, ↓reduceIte]; done) | (simp [r_M_stalls, eq_true hh1, eq_false hh5, eq_false hh6]; done)) d_M_stalls_40
      · skip
        refine lv_iconst (v := 1) hx hb d_M_stalls_35 (by decide) ?_
        refine lv_goto (tgt := 40) hx hb d_M_stalls_36 (by decide) ?_
        exact z_retzE C h hr hk (by first | exact Or.inl rfl | exact Or.inr rfl) (by first | rfl | (simp only [r_M_stalls, eq_true hh1, eq_false hh5, eq_true hh6, ↓reduceIte]; done) | (simp [r_M_stalls, eq_true hh1, eq_false hh5, eq_true hh6]; done)) (by first | rfl | (simp only [r_M_stalls, eq_true hh1, eq_false hh5, eq_true hh6, ↓reduceIte]; done) | (simp [r_M_stalls, eq_true hh1, eq_false hh5, eq_true hh6]; done)) (by first | rfl | (simp only [r_M_stalls, eq_true hh1, eq_false hh5, eq_true hh6, ↓reduceIte]; done) | (simp [r_M_stalls, eq_true hh1, eq_false hh5, eq_true hh6]; done)) d_M_stalls_40
theorem hd_M_move : y_M_move.cls ≠ "java/lang/invoke/MethodHandle" ∧ y_M_move.cls ≠ "java/lang/invoke/VarHandle" ∧ (parseMethodDescriptor y_M_move.desc).map (fun d => d.parameters.length) = some 1 := by decide +kernel
def r_M_move (X : zXS) (M : zMS) (kk : Nat) : Int32 := (if (m_kept M kk) = 0 then (if (r_M_stalls X M kk) = 0 then 2 else 1) else 0)
def m_M_move (X : zXS) (M : zMS) (kk : Nat) : zMS := (if (m_kept M kk) = 0 then (if (r_M_stalls X M kk) = 0 then (if 4 ≤ (M 19 (Int32.toNatClampNeg (nI kk))) then (if (M 16 (Int32.toNatClampNeg (nI kk))) = 0 then (m_M_toRead X (m_strike M kk ((Int32.toNatClampNeg (M 15 0)) - 1)) (M 17 (Int32.toNatClampNeg (nI kk))) (M 20 (Int32.toNatClampNeg (nI kk)))) else (if (M 16 (Int32.toNatClampNeg (nI kk))) = 1 then (m_M_toWrite X (m_strike M kk ((Int32.toNatClampNeg (M 15 0)) - 1)) (M 17 (Int32.toNatClampNeg (nI kk))) (M 20 (Int32.toNatClampNeg (nI kk)))) else (if 5 ≤ (M 16 (Int32.toNatClampNeg (nI kk))) then (if ((m_strike M kk ((Int32.toNatClampNeg (M 15 0)) - 1)) 13 (Int32.toNatClampNeg (M 17 (Int32.toNatClampNeg (nI kk))))) = 0 then (u2 (u2 (m_strike M kk ((Int32.toNatClampNeg (M 15 0)) - 1)) 14 (Int32.toNatClampNeg (M 17 (Int32.toNatClampNeg (nI kk)))) (M 22 (Int32.toNatClampNeg (nI kk)))) 11 (Int32.toNatClampNeg (M 17 (Int32.toNatClampNeg (nI kk)))) 0) else (u2 (u2 (m_strike M kk ((Int32.toNatClampNeg (M 15 0)) - 1)) 14 (Int32.toNatClampNeg (M 17 (Int32.toNatClampNeg (nI kk)))) (M 22 (Int32.toNatClampNeg (nI kk)))) 11 (Int32.toNatClampNeg (M 17 (Int32.toNatClampNeg (nI kk)))) 1)) else (m_M_toLeave X (m_strike M kk ((Int32.toNatClampNeg (M 15 0)) - 1)) (M 16 (Int32.toNatClampNeg (nI kk))) (M 17 (Int32.toNatClampNeg (nI kk))) (M 20 (Int32.toNatClampNeg (nI kk))) (M 22 (Int32.toNatClampNeg (nI kk))))))) else (m_M_toCore X (m_strike M kk ((Int32.toNatClampNeg (M 15 0)) - 1)) (M 16 (Int32.toNatClampNeg (nI kk))) (M 17 (Int32.toNatClampNeg (nI kk))) (M 19 (Int32.toNatClampNeg (nI kk))) (M 20 (Int32.toNatClampNeg (nI kk))) (M 21 (Int32.toNatClampNeg (nI kk))) (M 22 (Int32.toNatClampNeg (nI kk))))) else M) else M)
set_option maxHeartbeats 1000000 in
set_option maxRecDepth 100000 in
theorem k_M_move (l : Launch) (dC : Nat → ClassId) (dI : Nat → Nat → Nat) (k : Nat → ClassId) (q : Nat → Nat) (X : zXS) (M : zMS) (kk : Nat)  (n : Nat) (hn : M 15 0 = nI n) (hb9 : n + 8 < 200) (hkk : kk < n) (hA : vp_in (M 17 (Int32.toNatClampNeg (nI kk))) 4) (hT : vp_in (M 19 (Int32.toNatClampNeg (nI kk))) 5) (hR : vp_in (M 20 (Int32.toNatClampNeg (nI kk))) 4) : zMet l dC dI k q y_M_move c_M_move 8 (some .int) 3 83 [.ref (q 37), .int (nI kk)] (some (.int (r_M_move X M kk))) X M X (m_M_move X M kk) := by
  refine zMet.of (by decide) (Nat.le_of_ble_eq_true rfl) ?_
  intro p e s m args below meth c ls C hr hk hl h
  have hx := C.1
  have hb := C.2.1
  have hl : lv_has ls 8 [(0, .ref (q 37)), (1, .int (nI kk))] := hl
  have hk0 : vp_in (nI kk) 200 := vp_in_nI (by omega) (by omega)
  have hcl : (M 15 0).toNatClampNeg = n := rows_cl hn (by omega)
  have hs9 : M 15 0 = nI (((M 15 0).toNatClampNeg - 1) + 1) := by rw [hcl, hn]; congr 1; omega
  have hs8 : (m_strike M kk ((Int32.toNatClampNeg (M 15 0)) - 1)) 15 0 = nI ((M 15 0).toNatClampNeg - 1) := m_strike_15 hs9
  refine lv_aload_n hx hb d_M_move_0 rfl (lv_at hl 0 rfl) ?_
  refine lv_iload_n hx hb d_M_move_1 rfl (lv_at hl 1 rfl) ?_
  refine z_callV (i := 37) C h (k_M_keptBack l dC dI k q X M kk (by omega)) co_M_keptBack ml_M_105 im_M_keptBack se_M_keptBack in_M rfl rfl hd_M_keptBack ⟨by decide, by decide⟩ ⟨Nat.zero_le _, Nat.zero_le _⟩ hl.1 (Nat.le_of_ble_eq_true rfl) d_M_move_2 rfl (fun H locs h => ?_)
  refine W.eq (g2 := F0 m 5 ls [.int (m_kept M kk)]) rfl ?_
  have h : zH dC dI k q X M (zA q) s.heap H locs := h
  refine lv_if_eq (tgt := 10) hx hb d_M_move_5 (by decide) (fun hh1 => ?_) (fun hh1 => ?_)
  · skip
    refine lv_aload_n hx hb d_M_move_10 rfl (lv_at hl 0 rfl) ?_
    refine lv_iload_n hx hb d_M_move_11 rfl (lv_at hl 1 rfl) ?_
    refine z_callV (i := 37) C h (k_M_stalls l dC dI k q X M kk hk0 hA hT hR) co_M_stalls ml_M_108 im_M_stalls se_M_stalls in_M rfl rfl hd_M_stalls ⟨by decide, by decide⟩ ⟨Nat.zero_le _, Nat.zero_le _⟩ hl.1 (Nat.le_of_ble_eq_true rfl) d_M_move_12 rfl (fun H locs h => ?_)
    refine W.eq (g2 := F0 m 15 ls [.int (r_M_stalls X M kk)]) rfl ?_
    have h : zH dC dI k q X M (zA q) s.heap H locs := h
    refine lv_if_eq (tgt := 20) hx hb d_M_move_15 (by decide) (fun hh2 => ?_) (fun hh2 => ?_)
    · skip
      refine lv_aload_n hx hb d_M_move_20 rfl (lv_at hl 0 rfl) ?_
      refine g_M_56 C h d_M_move_21 ?_
      refine lv_iload_n hx hb d_M_move_24 rfl (lv_at hl 1 rfl) ?_
      refine l_M16 C h hk0 d_M_move_25 ?_
      refine lv_istore_n hx hb d_M_move_26 rfl hl (by decide) rfl (fun ls hl => ?_)
      have hl : lv_has ls 8 [(2, .int (M 16 (Int32.toNatClampNeg (nI kk)))), (0, .ref (q 37)), (1, .int (nI kk))] := hl
      refine lv_aload_n hx hb d_M_move_27 rfl (lv_at hl 1 rfl) ?_
      refine g_M_59 C h d_M_move_28 ?_
      refine lv_iload_n hx hb d_M_move_31 rfl (lv_at hl 2 rfl) ?_
      refine l_M17 C h hk0 d_M_move_32 ?_
      refine lv_istore_n hx hb d_M_move_33 rfl hl (by decide) rfl (fun ls hl => ?_)
      have hl : lv_has ls 8 [(3, .int (M 17 (Int32.toNatClampNeg (nI kk)))), (2, .int (M 16 (Int32.toNatClampNeg (nI kk)))), (0, .ref (q 37)), (1, .int (nI kk))] := hl
      refine lv_aload_n hx hb d_M_move_34 rfl (lv_at hl 2 rfl) ?_
      refine g_M_65 C h d_M_move_35 ?_
      refine lv_iload_n hx hb d_M_move_38 rfl (lv_at hl 3 rfl) ?_
      refine l_M19 C h hk0 d_M_move_39 ?_
      refine lv_istore hx hb d_M_move_40 hl (by decide) rfl (fun ls hl => ?_)
      have hl : lv_has ls 8 [(4, .int (M 19 (Int32.toNatClampNeg (nI kk)))), (3, .int (M 17 (Int32.toNatClampNeg (nI kk)))), (2, .int (M 16 (Int32.toNatClampNeg (nI kk)))), (0, .ref (q 37)), (1, .int (nI kk))] := hl
      refine lv_aload_n hx hb d_M_move_42 rfl (lv_at hl 3 rfl) ?_
      refine g_M_68 C h d_M_move_43 ?_
      refine lv_iload_n hx hb d_M_move_46 rfl (lv_at hl 4 rfl) ?_
      refine l_M20 C h hk0 d_M_move_47 ?_
      refine lv_istore hx hb d_M_move_48 hl (by decide) rfl (fun ls hl => ?_)
      have hl : lv_has ls 8 [(5, .int (M 20 (Int32.toNatClampNeg (nI kk)))), (4, .int (M 19 (Int32.toNatClampNeg (nI kk)))), (3, .int (M 17 (Int32.toNatClampNeg (nI kk)))), (2, .int (M 16 (Int32.toNatClampNeg (nI kk)))), (0, .ref (q 37)), (1, .int (nI kk))] := hl
      refine lv_aload_n hx hb d_M_move_50 rfl (lv_at hl 4 rfl) ?_
      refine g_M_71 C h d_M_move_51 ?_
      refine lv_iload_n hx hb d_M_move_54 rfl (lv_at hl 5 rfl) ?_
      refine l_M21 C h hk0 d_M_move_55 ?_
      refine lv_istore hx hb d_M_move_56 hl (by decide) rfl (fun ls hl => ?_)
      have hl : lv_has ls 8 [(6, .int (M 21 (Int32.toNatClampNeg (nI kk)))), (5, .int (M 20 (Int32.toNatClampNeg (nI kk)))), (4, .int (M 19 (Int32.toNatClampNeg (nI kk)))), (3, .int (M 17 (Int32.toNatClampNeg (nI kk)))), (2, .int (M 16 (Int32.toNatClampNeg (nI kk)))), (0, .ref (q 37)), (1, .int (nI kk))] := hl
      refine lv_aload_n hx hb d_M_move_58 rfl (lv_at hl 5 rfl) ?_
      refine g_M_74 C h d_M_move_59 ?_
      refine lv_iload_n hx hb d_M_move_62 rfl (lv_at hl 6 rfl) ?_
      refine l_M22 C h hk0 d_M_move_63 ?_
      refine lv_istore hx hb d_M_move_64 hl (by decide) rfl (fun ls hl => ?_)
      have hl : lv_has ls 8 [(7, .int (M 22 (Int32.toNatClampNeg (nI kk)))), (6, .int (M 21 (Int32.toNatClampNeg (nI kk)))), (5, .int (M 20 (Int32.toNatClampNeg (nI kk)))), (4, .int (M 19 (Int32.toNatClampNeg (nI kk)))), (3, .int (M 17 (Int32.toNatClampNeg (nI kk)))), (2, .int (M 16 (Int32.toNatClampNeg (nI kk)))), (0, .ref (q 37)), (1, .int (nI kk))] := hl
      refine lv_aload_n hx hb d_M_move_66 rfl (lv_at hl 6 rfl) ?_
      refine lv_iload_n hx hb d_M_move_67 rfl (lv_at hl 7 rfl) ?_
      refine z_callV (i := 37) C h (k_M_strike l dC dI k q X M kk ((Int32.toNatClampNeg (M 15 0)) - 1) (by omega) (by omega) hs9) co_M_strike ml_M_111 im_M_strike se_M_strike in_M rfl rfl hd_M_strike ⟨by decide, by decide⟩ ⟨Nat.zero_le _, Nat.zero_le _⟩ hl.1 (Nat.le_of_ble_eq_true rfl) d_M_move_68 rfl (fun H locs h => ?_)
      refine W.eq (g2 := F0 m 71 ls []) rfl ?_
      have h : zH dC dI k q X (m_strike M kk ((Int32.toNatClampNeg (M 15 0)) - 1)) (zA q) s.heap H locs := h
      refine lv_iload hx hb d_M_move_71 (lv_at hl 3 rfl) ?_
      refine lv_iconst (v := 4) hx hb d_M_move_73 (by decide) ?_
      refine lv_icmp_ge (tgt := 94) hx hb d_M_move_74 (by decide) (fun hh3 => ?_) (fun hh3 => ?_)
      · skip
        refine lv_iload_n hx hb d_M_move_94 rfl (lv_at hl 5 rfl) ?_
        refine lv_if_ne (tgt := 108) hx hb d_M_move_95 (by decide) (fun hh4 => ?_) (fun hh4 => ?_)
        · skip
          refine lv_iload_n hx hb d_M_move_108 rfl (lv_at hl 5 rfl) ?_
          refine lv_iconst (v := 1) hx hb d_M_move_109 (by decide) ?_
          refine lv_icmp_ne (tgt := 123) hx hb d_M_move_110 (by decide) (fun hh5 => ?_) (fun hh5 => ?_)
          · skip
            refine lv_iload_n hx hb d_M_move_123 rfl (lv_at hl 5 rfl) ?_
            refine lv_iconst (v := 5) hx hb d_M_move_124 (by decide) ?_
            refine lv_icmp_ge (tgt := 141) hx hb d_M_move_125 (by decide) (fun hh6 => ?_) (fun hh6 => ?_)
            · skip
              refine lv_aload_n hx hb d_M_move_141 rfl (lv_at hl 6 rfl) ?_
              refine g_M_53 C h d_M_move_142 ?_
              refine lv_iload_n hx hb d_M_move_145 rfl (lv_at hl 4 rfl) ?_
              refine lv_iload hx hb d_M_move_146 (lv_at hl 0 rfl) ?_
              refine s_M14 C h hA d_M_move_148 (fun H locs h => ?_)
              refine lv_aload_n hx hb d_M_move_149 rfl (lv_at hl 6 rfl) ?_
              refine g_M_44 C h d_M_move_150 ?_
              refine lv_iload_n hx hb d_M_move_153 rfl (lv_at hl 4 rfl) ?_
              refine lv_aload_n hx hb d_M_move_154 rfl (lv_at hl 6 rfl) ?_
              refine g_M_50 C h d_M_move_155 ?_
              refine lv_iload_n hx hb d_M_move_158 rfl (lv_at hl 4 rfl) ?_
              refine l_M13 C h hA d_M_move_159 ?_
              refine z_top (y := (m_strike M kk ((Int32.toNatClampNeg (M 15 0)) - 1)) 13 (Int32.toNatClampNeg (M 17 (Int32.toNatClampNeg (nI kk))))) rfl ?_
              refine lv_if_ne (tgt := 167) hx hb d_M_move_160 (by decide) (fun hh7 => ?_) (fun hh7 => ?_)
              · skip
                refine lv_iconst (v := 1) hx hb d_M_move_167 (by decide) ?_
                refine s_M11 C h hA d_M_move_168 (fun H locs h => ?_)
                refine lv_iconst (v := 2) hx hb d_M_move_169 (by decide) ?_
                exact z_retE C h hr hk (by first | rfl | (simp only [r_M_move, m_M_move, eq_true hh1, eq_true hh2, eq_true hh3, eq_false hh4, eq_false hh5, eq_true hh6, eq_false hh7, ↓reduceIte]; done) | (simp [r_M_move, m_M_move, eq_true hh1, eq_true hh2, eq_true hh3, eq_false hh4, eq_false hh5, eq_true hh6, eq_false hh7]; done)) (by first | rfl | (simp only [r_M_move, m_M_move, eq_true hh1, eq_true hh2, eq_true hh3, eq_false hh4, eq_false hh5, eq_true hh6, eq_false hh7, ↓reduceIte]; done) | (simp [r_M_move, m_M_move, eq_true hh1, eq_true hh2, eq_true hh3, eq_false hh4, eq_false hh5, eq_true hh6, eq_false hh7]; done)) (by first | rfl | (simp only [r_M_move, m_M_move, eq_true hh1, eq_true hh2, eq_true hh3, eq_false hh4, eq_false hh5, eq_true hh6, eq_false hh7, ↓reduceIte]; done) | (simp [r_M_move, m_M_move, eq_true hh1, eq_true hh2, eq_true hh3, eq_false hh4, eq_false hh5, eq_true hh6, eq_false hh7]; done)) d_M_move_170
              · skip
                refine lv_iconst (v := 0) hx hb d_M_move_163 (by decide) ?_
                refine lv_goto (tgt := 168) hx hb d_M_move_164 (by decide) ?_
                refine s_M11 C h hA d_M_move_168 (fun H locs h => ?_)
                refine lv_iconst (v := 2) hx hb d_M_move_169 (by decide) ?_
                exact z_retE C h hr hk (by first | rfl | (simp only [r_M_move, m_M_move, eq_true hh1, eq_true hh2, eq_true hh3, eq_false hh4, eq_false hh5, eq_true hh6, eq_true hh7, ↓reduceIte]; done) | (simp [r_M_move, m_M_move, eq_true hh1, eq_true hh2, eq_true hh3, eq_false hh4, eq_false hh5, eq_true hh6, eq_true hh7]; done)) (by first | rfl | (simp only [r_M_move, m_M_move, eq_true hh1, eq_true hh2, eq_true hh3, eq_false hh4, eq_false hh5, eq_true hh6, eq_true hh7, ↓reduceIte]; done) | (simp [r_M_move, m_M_move, eq_true hh1, eq_true hh2, eq_true hh3, eq_false hh4, eq_false hh5, eq_true hh6, eq_true hh7]; done)) (by first | rfl | (simp only [r_M_move, m_M_move, eq_true hh1, eq_true hh2, eq_true hh3, eq_false hh4, eq_false hh5, eq_true hh6, eq_true hh7, ↓reduceIte]; done) | (simp [r_M_move, m_M_move, eq_true hh1, eq_true hh2, eq_true hh3, eq_false hh4, eq_false hh5, eq_true hh6, eq_true hh7]; done)) d_M_move_170
            · skip
              refine lv_aload_n hx hb d_M_move_128 rfl (lv_at hl 6 rfl) ?_
              refine lv_iload_n hx hb d_M_move_129 rfl (lv_at hl 5 rfl) ?_
              refine lv_iload_n hx hb d_M_move_130 rfl (lv_at hl 4 rfl) ?_
              refine lv_iload hx hb d_M_move_131 (lv_at hl 2 rfl) ?_
              refine lv_iload hx hb d_M_move_133 (lv_at hl 0 rfl) ?_
              refine z_callV (i := 37) C h (k_M_toLeave l dC dI k q X (m_strike M kk ((Int32.toNatClampNeg (M 15 0)) - 1)) (M 16 (Int32.toNatClampNeg (nI kk))) (M 17 (Int32.toNatClampNeg (nI kk))) (M 20 (Int32.toNatClampNeg (nI kk))) (M 22 (Int32.toNatClampNeg (nI kk))) ((M 15 0).toNatClampNeg - 1) hs8 (by omega) hA hR) co_M_toLeave ml_M_126 im_M_toLeave se_M_toLeave in_M rfl rfl hd_M_toLeave ⟨by decide, by decide⟩ ⟨Nat.zero_le _, Nat.zero_le _⟩ hl.1 (Nat.le_of_ble_eq_true rfl) d_M_move_135 rfl (fun H locs h => ?_)
              refine W.eq (g2 := F0 m 138 ls []) rfl ?_
              have h : zH dC dI k q X (m_M_toLeave X (m_strike M kk ((Int32.toNatClampNeg (M 15 0)) - 1)) (M 16 (Int32.toNatClampNeg (nI kk))) (M 17 (Int32.toNatClampNeg (nI kk))) (M 20 (Int32.toNatClampNeg (nI kk))) (M 22 (Int32.toNatClampNeg (nI kk)))) (zA q) s.heap H locs := h
              refine lv_goto (tgt := 169) hx hb d_M_move_138 (by decide) ?_
              refine lv_iconst (v := 2) hx hb d_M_move_169 (by decide) ?_
              exact z_retE C h hr hk (by first | rfl | (simp only [r_M_move, m_M_move, eq_true hh1, eq_true hh2, eq_true hh3, eq_false hh4, eq_false hh5, eq_false hh6, ↓reduceIte]; done) | (simp [r_M_move, m_M_move, eq_true hh1, eq_true hh2, eq_true hh3, eq_false hh4, eq_false hh5, eq_false hh6]; done)) (by first | rfl | (simp only [r_M_move, m_M_move, eq_true hh1, eq_true hh2, eq_true hh3, eq_false hh4, eq_false hh5, eq_false hh6, ↓reduceIte]; done) | (simp [r_M_move, m_M_move, eq_true hh1, eq_true hh2, eq_true hh3, eq_false hh4, eq_false hh5, eq_false hh6]; done)) (by first | rfl | (simp only [r_M_move, m_M_move, eq_true hh1, eq_true hh2, eq_true hh3, eq_false hh4, eq_false hh5, eq_false hh6, ↓reduceIte]; done) | (simp [r_M_move, m_M_move, eq_true hh1, eq_true hh2, eq_true hh3, eq_false hh4, eq_false hh5, eq_false hh6]; done)) d_M_move_170
          · skip
            refine lv_aload_n hx hb d_M_move_113 rfl (lv_at hl 6 rfl) ?_
            refine lv_iload_n hx hb d_M_move_114 rfl (lv_at hl 4 rfl) ?_
            refine lv_iload hx hb d_M_move_115 (lv_at hl 2 rfl) ?_
            refine z_callV (i := 37) C h (k_M_toWrite l dC dI k q X (m_strike M kk ((Int32.toNatClampNeg (M 15 0)) - 1)) (M 17 (Int32.toNatClampNeg (nI kk))) (M 20 (Int32.toNatClampNeg (nI kk))) ((M 15 0).toNatClampNeg - 1) hs8 (by omega) hA hR) co_M_toWrite ml_M_123 im_M_toWrite se_M_toWrite in_M rfl rfl hd_M_toWrite ⟨by decide, by decide⟩ ⟨Nat.zero_le _, Nat.zero_le _⟩ hl.1 (Nat.le_of_ble_eq_true rfl) d_M_move_117 rfl (fun H locs h => ?_)
            refine W.eq (g2 := F0 m 120 ls []) rfl ?_
            have h : zH dC dI k q X (m_M_toWrite X (m_strike M kk ((Int32.toNatClampNeg (M 15 0)) - 1)) (M 17 (Int32.toNatClampNeg (nI kk))) (M 20 (Int32.toNatClampNeg (nI kk)))) (zA q) s.heap H locs := h
            refine lv_goto (tgt := 169) hx hb d_M_move_120 (by decide) ?_
            refine lv_iconst (v := 2) hx hb d_M_move_169 (by decide) ?_
            exact z_retE C h hr hk (by first | rfl | (simp only [r_M_move, m_M_move, eq_true hh1, eq_true hh2, eq_true hh3, eq_false hh4, eq_true hh5, ↓reduceIte]; done) | (simp [r_M_move, m_M_move, eq_true hh1, eq_true hh2, eq_true hh3, eq_false hh4, eq_true hh5]; done)) (by first | rfl | (simp only [r_M_move, m_M_move, eq_true hh1, eq_true hh2, eq_true hh3, eq_false hh4, eq_true hh5, ↓reduceIte]; done) | (simp [r_M_move, m_M_move, eq_true hh1, eq_true hh2, eq_true hh3, eq_false hh4, eq_true hh5]; done)) (by first | rfl | (simp only [r_M_move, m_M_move, eq_true hh1, eq_true hh2, eq_true hh3, eq_false hh4, eq_true hh5, ↓reduceIte]; done) | (simp [r_M_move, m_M_move, eq_true hh1, eq_true hh2, eq_true hh3, eq_false hh4, eq_true hh5]; done)) d_M_move_170
        · skip
          refine lv_aload_n hx hb d_M_move_98 rfl (lv_at hl 6 rfl) ?_
          refine lv_iload_n hx hb d_M_move_99 rfl (lv_at hl 4 rfl) ?_
          refine lv_iload hx hb d_M_move_100 (lv_at hl 2 rfl) ?_
          refine z_callV (i := 37) C h (k_M_toRead l dC dI k q X (m_strike M kk ((Int32.toNatClampNeg (M 15 0)) - 1)) (M 17 (Int32.toNatClampNeg (nI kk))) (M 20 (Int32.toNatClampNeg (nI kk))) ((M 15 0).toNatClampNeg - 1) hs8 (by omega) hA hR) co_M_toRead ml_M_119 im_M_toRead se_M_toRead in_M rfl rfl hd_M_toRead ⟨by decide, by decide⟩ ⟨Nat.zero_le _, Nat.zero_le _⟩ hl.1 (Nat.le_of_ble_eq_true rfl) d_M_move_102 rfl (fun H locs h => ?_)
          refine W.eq (g2 := F0 m 105 ls []) rfl ?_
          have h : zH dC dI k q X (m_M_toRead X (m_strike M kk ((Int32.toNatClampNeg (M 15 0)) - 1)) (M 17 (Int32.toNatClampNeg (nI kk))) (M 20 (Int32.toNatClampNeg (nI kk)))) (zA q) s.heap H locs := h
          refine lv_goto (tgt := 169) hx hb d_M_move_105 (by decide) ?_
          refine lv_iconst (v := 2) hx hb d_M_move_169 (by decide) ?_
          exact z_retE C h hr hk (by first | rfl | (simp only [r_M_move, m_M_move, eq_true hh1, eq_true hh2, eq_true hh3, eq_true hh4, ↓reduceIte]; done) | (simp [r_M_move, m_M_move, eq_true hh1, eq_true hh2, eq_true hh3, eq_true hh4]; done)) (by first | rfl | (simp only [r_M_move, m_M_move, eq_true hh1, eq_true hh2, eq_true hh3, eq_true hh4, ↓reduceIte]; done) | (simp [r_M_move, m_M_move, eq_true hh1, eq_true hh2, eq_true hh3, eq_true hh4]; done)) (by first | rfl | (simp only [r_M_move, m_M_move, eq_true hh1, eq_true hh2, eq_true hh3, eq_true hh4, ↓reduceIte]; done) | (simp [r_M_move, m_M_move, eq_true hh1, eq_true hh2, eq_true hh3, eq_true hh4]; done)) d_M_move_170
      · skip
        refine lv_aload_n hx hb d_M_move_77 rfl (lv_at hl 6 rfl) ?_
        refine lv_iload_n hx hb d_M_move_78 rfl (lv_at hl 5 rfl) ?_
        refine lv_iload_n hx hb d_M_move_79 rfl (lv_at hl 4 rfl) ?_
        refine lv_iload hx hb d_M_move_80 (lv_at hl 3 rfl) ?_
        refine lv_iload hx hb d_M_move_82 (lv_at hl 2 rfl) ?_
        refine lv_iload hx hb d_M_move_84 (lv_at hl 1 rfl) ?_
        refine lv_iload hx hb d_M_move_86 (lv_at hl 0 rfl) ?_
        refine z_callV (i := 37) C h (k_M_toCore l dC dI k q X (m_strike M kk ((Int32.toNatClampNeg (M 15 0)) - 1)) (M 16 (Int32.toNatClampNeg (nI kk))) (M 17 (Int32.toNatClampNeg (nI kk))) (M 19 (Int32.toNatClampNeg (nI kk))) (M 20 (Int32.toNatClampNeg (nI kk))) (M 21 (Int32.toNatClampNeg (nI kk))) (M 22 (Int32.toNatClampNeg (nI kk))) ((M 15 0).toNatClampNeg - 1) hs8 (by omega) (five_four hT hh3) hA hR) co_M_toCore ml_M_115 im_M_toCore se_M_toCore in_M rfl rfl hd_M_toCore ⟨by decide, by decide⟩ ⟨Nat.zero_le _, Nat.zero_le _⟩ hl.1 (Nat.le_of_ble_eq_true rfl) d_M_move_88 rfl (fun H locs h => ?_)
        refine W.eq (g2 := F0 m 91 ls []) rfl ?_
        have h : zH dC dI k q X (m_M_toCore X (m_strike M kk ((Int32.toNatClampNeg (M 15 0)) - 1)) (M 16 (Int32.toNatClampNeg (nI kk))) (M 17 (Int32.toNatClampNeg (nI kk))) (M 19 (Int32.toNatClampNeg (nI kk))) (M 20 (Int32.toNatClampNeg (nI kk))) (M 21 (Int32.toNatClampNeg (nI kk))) (M 22 (Int32.toNatClampNeg (nI kk)))) (zA q) s.heap H locs := h
        refine lv_goto (tgt := 169) hx hb d_M_move_91 (by decide) ?_
        refine lv_iconst (v := 2) hx hb d_M_move_169 (by decide) ?_
        exact z_retE C h hr hk (by first | rfl | (simp only [r_M_move, m_M_move, eq_true hh1, eq_true hh2, eq_false hh3, ↓reduceIte]; done) | (simp [r_M_move, m_M_move, eq_true hh1, eq_true hh2, eq_false hh3]; done)) (by first | rfl | (simp only [r_M_move, m_M_move, eq_true hh1, eq_true hh2, eq_false hh3, ↓reduceIte]; done) | (simp [r_M_move, m_M_move, eq_true hh1, eq_true hh2, eq_false hh3]; done)) (by first | rfl | (simp only [r_M_move, m_M_move, eq_true hh1, eq_true hh2, eq_false hh3, ↓reduceIte]; done) | (simp [r_M_move, m_M_move, eq_true hh1, eq_true hh2, eq_false hh3]; done)) d_M_move_170
    · skip
      refine lv_iconst (v := 1) hx hb d_M_move_18 (by decide) ?_
      exact z_retE C h hr hk (by first | rfl | (simp only [r_M_move, m_M_move, eq_true hh1, eq_false hh2, ↓reduceIte]; done) | (simp [r_M_move, m_M_move, eq_true hh1, eq_false hh2]; done)) (by first | rfl | (simp only [r_M_move, m_M_move, eq_true hh1, eq_false hh2, ↓reduceIte]; done) | (simp [r_M_move, m_M_move, eq_true hh1, eq_false hh2]; done)) (by first | rfl | (simp only [r_M_move, m_M_move, eq_true hh1, eq_false hh2, ↓reduceIte]; done) | (simp [r_M_move, m_M_move, eq_true hh1, eq_false hh2]; done)) d_M_move_19
  · skip
    refine lv_iconst (v := 0) hx hb d_M_move_8 (by decide) ?_
    exact z_retE C h hr hk (by first | rfl | (simp only [r_M_move, m_M_move, eq_false hh1, ↓reduceIte]; done) | (simp [r_M_move, m_M_move, eq_false hh1]; done)) (by first | rfl | (simp only [r_M_move, m_M_move, eq_false hh1, ↓reduceIte]; done) | (simp [r_M_move, m_M_move, eq_false hh1]; done)) (by first | rfl | (simp only [r_M_move, m_M_move, eq_false hh1, ↓reduceIte]; done) | (simp [r_M_move, m_M_move, eq_false hh1]; done)) d_M_move_9
def zMsg (M : zMS) (n : Nat) : Prop := ∀ kk, kk < n → vp_in (M 17 (Int32.toNatClampNeg (nI kk))) 4 ∧ vp_in (M 19 (Int32.toNatClampNeg (nI kk))) 5 ∧ vp_in (M 20 (Int32.toNatClampNeg (nI kk))) 4
theorem hd_M_deliver : y_M_deliver.cls ≠ "java/lang/invoke/MethodHandle" ∧ y_M_deliver.cls ≠ "java/lang/invoke/VarHandle" ∧ (parseMethodDescriptor y_M_deliver.desc).map (fun d => d.parameters.length) = some 1 := by decide +kernel
def r_M_deliver (X : zXS) (M : zMS) (x : Int32) : Int32 := (if x < 0 then (-1) else (if x < (M 15 0) then (r_M_move X M (Int32.toNatClampNeg x)) else (-1)))
def m_M_deliver (X : zXS) (M : zMS) (x : Int32) : zMS := (if x < 0 then M else (if x < (M 15 0) then (m_M_move X M (Int32.toNatClampNeg x)) else M))
set_option maxHeartbeats 1000000 in
set_option maxRecDepth 100000 in
theorem k_M_deliver (l : Launch) (dC : Nat → ClassId) (dI : Nat → Nat → Nat) (k : Nat → ClassId) (q : Nat → Nat) (X : zXS) (M : zMS) (x : Int32)  (n : Nat) (hn : M 15 0 = nI n) (hb9 : n + 8 < 200) (hW : zMsg M n) : zMet l dC dI k q y_M_deliver c_M_deliver 2 (some .int) 4 110 [.ref (q 37), .int x] (some (.int (r_M_deliver X M x))) X M X (m_M_deliver X M x) := by
  refine zMet.of (by decide) (Nat.le_of_ble_eq_true rfl) ?_
  intro p e s m args below meth c ls C hr hk hl h
  have hx := C.1
  have hb := C.2.1
  have hl : lv_has ls 2 [(0, .ref (q 37)), (1, .int x)] := hl
  refine lv_iload_n hx hb d_M_deliver_0 rfl (lv_at hl 1 rfl) ?_
  refine lv_if_lt (tgt := 12) hx hb d_M_deliver_1 (by decide) (fun hh1 => ?_) (fun hh1 => ?_)
  · skip
    refine lv_iconst (v := -1) hx hb d_M_deliver_12 (by decide) ?_
    refine lv_goto (tgt := 21) hx hb d_M_deliver_13 (by decide) ?_
    exact z_retE C h hr hk (by first | rfl | (simp only [r_M_deliver, m_M_deliver, eq_true hh1, ↓reduceIte]; done) | (simp [r_M_deliver, m_M_deliver, eq_true hh1]; done)) (by first | rfl | (simp only [r_M_deliver, m_M_deliver, eq_true hh1, ↓reduceIte]; done) | (simp [r_M_deliver, m_M_deliver, eq_true hh1]; done)) (by first | rfl | (simp only [r_M_deliver, m_M_deliver, eq_true hh1, ↓reduceIte]; done) | (simp [r_M_deliver, m_M_deliver, eq_true hh1]; done)) d_M_deliver_21
  · skip
    refine lv_iload_n hx hb d_M_deliver_4 rfl (lv_at hl 1 rfl) ?_
    refine lv_aload_n hx hb d_M_deliver_5 rfl (lv_at hl 0 rfl) ?_
    refine g_M_81 C h d_M_deliver_6 ?_
    refine lv_icmp_lt (tgt := 16) hx hb d_M_deliver_9 (by decide) (fun hh2 => ?_) (fun hh2 => ?_)
    · skip
      refine lv_aload_n hx hb d_M_deliver_16 rfl (lv_at hl 0 rfl) ?_
      refine lv_iload_n hx hb d_M_deliver_17 rfl (lv_at hl 1 rfl) ?_
      refine z_callV (i := 37) C h (k_M_move l dC dI k q X M (Int32.toNatClampNeg x) n hn hb9 (k_lt hh1 hh2 hn (by omega)) (hW _ (k_lt hh1 hh2 hn (by omega))).1 (hW _ (k_lt hh1 hh2 hn (by omega))).2.1 (hW _ (k_lt hh1 hh2 hn (by omega))).2.2) co_M_move ml_M_146 im_M_move se_M_move in_M rfl rfl hd_M_move ⟨by decide, by decide⟩ ⟨Nat.zero_le _, Nat.zero_le _⟩ hl.1 (Nat.le_of_ble_eq_true rfl) d_M_deliver_18 (by rw [← k_nat hh1]; rfl) (fun H locs h => ?_)
      refine W.eq (g2 := F0 m 21 ls [.int (r_M_move X M (Int32.toNatClampNeg x))]) rfl ?_
      have h : zH dC dI k q X (m_M_move X M (Int32.toNatClampNeg x)) (zA q) s.heap H locs := h
      exact z_retE C h hr hk (by first | rfl | (simp only [r_M_deliver, m_M_deliver, eq_false hh1, eq_true hh2, ↓reduceIte]; done) | (simp [r_M_deliver, m_M_deliver, eq_false hh1, eq_true hh2]; done)) (by first | rfl | (simp only [r_M_deliver, m_M_deliver, eq_false hh1, eq_true hh2, ↓reduceIte]; done) | (simp [r_M_deliver, m_M_deliver, eq_false hh1, eq_true hh2]; done)) (by first | rfl | (simp only [r_M_deliver, m_M_deliver, eq_false hh1, eq_true hh2, ↓reduceIte]; done) | (simp [r_M_deliver, m_M_deliver, eq_false hh1, eq_true hh2]; done)) d_M_deliver_21
    · skip
      refine lv_iconst (v := -1) hx hb d_M_deliver_12 (by decide) ?_
      refine lv_goto (tgt := 21) hx hb d_M_deliver_13 (by decide) ?_
      exact z_retE C h hr hk (by first | rfl | (simp only [r_M_deliver, m_M_deliver, eq_false hh1, eq_false hh2, ↓reduceIte]; done) | (simp [r_M_deliver, m_M_deliver, eq_false hh1, eq_false hh2]; done)) (by first | rfl | (simp only [r_M_deliver, m_M_deliver, eq_false hh1, eq_false hh2, ↓reduceIte]; done) | (simp [r_M_deliver, m_M_deliver, eq_false hh1, eq_false hh2]; done)) (by first | rfl | (simp only [r_M_deliver, m_M_deliver, eq_false hh1, eq_false hh2, ↓reduceIte]; done) | (simp [r_M_deliver, m_M_deliver, eq_false hh1, eq_false hh2]; done)) d_M_deliver_21
