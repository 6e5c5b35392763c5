theorem vp4 {r a : Int32} (hr : vp_in r 4) (ha : vp_in a 4) : vp_in (4 * r + a) 16 := by
  obtain ⟨i, hi, rfl⟩ := vp_in_of hr (by omega)
  obtain ⟨j, hj, rfl⟩ := vp_in_of ha (by omega)
  rw [show (4 : Int32) = nI 4 from rfl, pk_mul, nI_add]
  exact vp_in_nI (by omega) (by omega)
theorem nI_next {M : zMS} {n : Nat} {w a f t r k v : Int32} (h : M 15 0 = nI n) : (m_send M w a f t r k v) 15 0 = nI (n + 1) := by
  show M 15 0 + 1 = nI (n + 1)
  rw [h, nI_1]
theorem z_room {x : Int32} {n : Nat} (h : x = nI n) (hn : n < 200) : vp_in x 200 := by
  rw [h]; exact vp_in_nI hn (by omega)
theorem hd_M_toRead : y_M_toRead.cls ≠ "java/lang/invoke/MethodHandle" ∧ y_M_toRead.cls ≠ "java/lang/invoke/VarHandle" ∧ (parseMethodDescriptor y_M_toRead.desc).map (fun d => d.parameters.length) = some 2 := by decide +kernel
def m_M_toRead (X : zXS) (M : zMS) (a : Int32) (r : Int32) : zMS := (if (M 11 (Int32.toNatClampNeg a)) = 0 then (u2 (u2 (m_send M 10 a 4 r r 0 (M 14 (Int32.toNatClampNeg a))) 12 (Int32.toNatClampNeg a) r) 11 (Int32.toNatClampNeg a) 2) else (if (M 11 (Int32.toNatClampNeg a)) = 1 then (u2 (m_send M 9 a 4 r r 0 (M 14 (Int32.toNatClampNeg a))) 13 (Int32.toNatClampNeg a) (((m_send M 9 a 4 r r 0 (M 14 (Int32.toNatClampNeg a))) 13 (Int32.toNatClampNeg a)) ||| (1 <<< (r &&& 31)))) else (u2 (u2 (m_send M 5 a 4 (M 12 (Int32.toNatClampNeg a)) r 0 0) 13 (Int32.toNatClampNeg a) ((1 <<< (((m_send M 5 a 4 (M 12 (Int32.toNatClampNeg a)) r 0 0) 12 (Int32.toNatClampNeg a)) &&& 31)) ||| (1 <<< (r &&& 31)))) 11 (Int32.toNatClampNeg a) 3)))
set_option maxHeartbeats 4000000 in
set_option maxRecDepth 100000 in
theorem k_M_toRead (l : Launch) (dC : Nat → ClassId) (dI : Nat → Nat → Nat) (k : Nat → ClassId) (q : Nat → Nat) (X : zXS) (M : zMS) (a : Int32) (r : Int32)  (n : Nat) (hn : M 15 0 = nI n) (hb9 : n + 4 < 200) (ha : vp_in a 4) (hr4 : vp_in r 4) : zMet l dC dI k q y_M_toRead c_M_toRead 3 none 2 53 [.ref (q 37), .int a, .int r] none X M X (m_M_toRead X M a r) := by
  refine zMet.of (by decide) (Nat.le_of_ble_eq_true rfl) ?_
  intro p e s m args below meth c ls C hr hk hl h
  have hx := C.1
  have hb := C.2.1
  have hl : lv_has ls 3 [(0, .ref (q 37)), (1, .int a), (2, .int r)] := hl
  refine lv_aload_n hx hb d_M_toRead_0 rfl (lv_at hl 0 rfl) ?_
  refine g_M_44 C h d_M_toRead_1 ?_
  refine lv_iload_n hx hb d_M_toRead_4 rfl (lv_at hl 1 rfl) ?_
  refine l_M11 C h ha d_M_toRead_5 ?_
  refine lv_if_ne (tgt := 43) hx hb d_M_toRead_6 (by decide) (fun hh1 => ?_) (fun hh1 => ?_)
  · skip
    refine lv_aload_n hx hb d_M_toRead_43 rfl (lv_at hl 0 rfl) ?_
    refine g_M_44 C h d_M_toRead_44 ?_
    refine lv_iload_n hx hb d_M_toRead_47 rfl (lv_at hl 1 rfl) ?_
    refine l_M11 C h ha d_M_toRead_48 ?_
    refine lv_iconst (v := 1) hx hb d_M_toRead_49 (by decide) ?_
    refine lv_icmp_ne (tgt := 89) hx hb d_M_toRead_50 (by decide) (fun hh2 => ?_) (fun hh2 => ?_)
    · skip
      refine lv_aload_n hx hb d_M_toRead_89 rfl (lv_at hl 0 rfl) ?_
      refine lv_iconst (v := 5) hx hb d_M_toRead_90 (by decide) ?_
      refine lv_iload_n hx hb d_M_toRead_91 rfl (lv_at hl 1 rfl) ?_
      refine lv_iconst (v := 4) hx hb d_M_toRead_92 (by decide) ?_
      refine lv_aload_n hx hb d_M_toRead_93 rfl (lv_at hl 0 rfl) ?_
      refine g_M_47 C h d_M_toRead_94 ?_
      refine lv_iload_n hx hb d_M_toRead_97 rfl (lv_at hl 1 rfl) ?_
      refine l_M12 C h ha d_M_toRead_98 ?_
      refine lv_iload_n hx hb d_M_toRead_99 rfl (lv_at hl 2 rfl) ?_
      refine lv_iconst (v := 0) hx hb d_M_toRead_100 (by decide) ?_
      refine z_callV (i := 37) C h (k_M_send l dC dI k q X M 5 a 4 (M 12 (Int32.toNatClampNeg a)) r 0 (z_room hn (by omega)) (vp4 hr4 ha)) co_M_send ml_M_130 im_M_send se_M_send in_M rfl rfl hd_M_send ⟨by decide, by decide⟩ ⟨Nat.zero_le _, Nat.zero_le _⟩ hl.1 (Nat.le_of_ble_eq_true rfl) d_M_toRead_101 rfl (fun H locs h => ?_)
      refine W.eq (g2 := F0 m 104 ls []) rfl ?_
      have h : zH dC dI k q X (m_send M 5 a 4 (M 12 (Int32.toNatClampNeg a)) r 0 0) (zA q) s.heap H locs := h
      refine lv_aload_n hx hb d_M_toRead_104 rfl (lv_at hl 0 rfl) ?_
      refine g_M_50 C h d_M_toRead_105 ?_
      refine lv_iload_n hx hb d_M_toRead_108 rfl (lv_at hl 1 rfl) ?_
      refine lv_iconst (v := 1) hx hb d_M_toRead_109 (by decide) ?_
      refine lv_aload_n hx hb d_M_toRead_110 rfl (lv_at hl 0 rfl) ?_
      refine g_M_47 C h d_M_toRead_111 ?_
      refine lv_iload_n hx hb d_M_toRead_114 rfl (lv_at hl 1 rfl) ?_
      refine l_M12 C h ha d_M_toRead_115 ?_
      refine lv_ishl hx hb d_M_toRead_116 ?_
      refine lv_iconst (v := 1) hx hb d_M_toRead_117 (by decide) ?_
      refine lv_iload_n hx hb d_M_toRead_118 rfl (lv_at hl 2 rfl) ?_
      refine lv_ishl hx hb d_M_toRead_119 ?_
      refine lv_ior hx hb d_M_toRead_120 ?_
      refine s_M13 C h ha d_M_toRead_121 (fun H locs h => ?_)
      refine lv_aload_n hx hb d_M_toRead_122 rfl (lv_at hl 0 rfl) ?_
      refine g_M_44 C h d_M_toRead_123 ?_
      refine lv_iload_n hx hb d_M_toRead_126 rfl (lv_at hl 1 rfl) ?_
      refine lv_iconst (v := 3) hx hb d_M_toRead_127 (by decide) ?_
      refine s_M11 C h ha d_M_toRead_128 (fun H locs h => ?_)
      exact z_retvE C h hr hk (by first | rfl | (simp only [m_M_toRead, eq_false hh1, eq_false hh2, ↓reduceIte]; done) | (simp [m_M_toRead, eq_false hh1, eq_false hh2]; done)) (by first | rfl | (simp only [m_M_toRead, eq_false hh1, eq_false hh2, ↓reduceIte]; done) | (simp [m_M_toRead, eq_false hh1, eq_false hh2]; done)) d_M_toRead_129
    · skip
      refine lv_aload_n hx hb d_M_toRead_53 rfl (lv_at hl 0 rfl) ?_
      refine lv_bipush (v := 9) hx hb d_M_toRead_54 (by decide) ?_
      refine lv_iload_n hx hb d_M_toRead_56 rfl (lv_at hl 1 rfl) ?_
      refine lv_iconst (v := 4) hx hb d_M_toRead_57 (by decide) ?_
      refine lv_iload_n hx hb d_M_toRead_58 rfl (lv_at hl 2 rfl) ?_
      refine lv_iload_n hx hb d_M_toRead_59 rfl (lv_at hl 2 rfl) ?_
      refine lv_iconst (v := 0) hx hb d_M_toRead_60 (by decide) ?_
      refine lv_aload_n hx hb d_M_toRead_61 rfl (lv_at hl 0 rfl) ?_
      refine g_M_53 C h d_M_toRead_62 ?_
      refine lv_iload_n hx hb d_M_toRead_65 rfl (lv_at hl 1 rfl) ?_
      refine l_M14 C h ha d_M_toRead_66 ?_
      refine z_callV (i := 37) C h (k_M_sendWith l dC dI k q X M 9 a 4 r r 0 (M 14 (Int32.toNatClampNeg a)) (z_room hn (by omega)) (vp4 hr4 ha)) co_M_sendWith ml_M_77 im_M_sendWith se_M_sendWith in_M rfl rfl hd_M_sendWith ⟨by decide, by decide⟩ ⟨Nat.zero_le _, Nat.zero_le _⟩ hl.1 (Nat.le_of_ble_eq_true rfl) d_M_toRead_67 rfl (fun H locs h => ?_)
      refine W.eq (g2 := F0 m 70 ls []) rfl ?_
      have h : zH dC dI k q X (m_send M 9 a 4 r r 0 (M 14 (Int32.toNatClampNeg a))) (zA q) s.heap H locs := h
      refine lv_aload_n hx hb d_M_toRead_70 rfl (lv_at hl 0 rfl) ?_
      refine g_M_50 C h d_M_toRead_71 ?_
      refine lv_iload_n hx hb d_M_toRead_74 rfl (lv_at hl 1 rfl) ?_
      refine lv_aload_n hx hb d_M_toRead_75 rfl (lv_at hl 0 rfl) ?_
      refine g_M_50 C h d_M_toRead_76 ?_
      refine lv_iload_n hx hb d_M_toRead_79 rfl (lv_at hl 1 rfl) ?_
      refine l_M13 C h ha d_M_toRead_80 ?_
      refine lv_iconst (v := 1) hx hb d_M_toRead_81 (by decide) ?_
      refine lv_iload_n hx hb d_M_toRead_82 rfl (lv_at hl 2 rfl) ?_
      refine lv_ishl hx hb d_M_toRead_83 ?_
      refine lv_ior hx hb d_M_toRead_84 ?_
      refine s_M13 C h ha d_M_toRead_85 (fun H locs h => ?_)
      refine lv_goto (tgt := 129) hx hb d_M_toRead_86 (by decide) ?_
      exact z_retvE C h hr hk (by first | rfl | (simp only [m_M_toRead, eq_false hh1, eq_true hh2, ↓reduceIte]; done) | (simp [m_M_toRead, eq_false hh1, eq_true hh2]; done)) (by first | rfl | (simp only [m_M_toRead, eq_false hh1, eq_true hh2, ↓reduceIte]; done) | (simp [m_M_toRead, eq_false hh1, eq_true hh2]; done)) d_M_toRead_129
  · skip
    refine lv_aload_n hx hb d_M_toRead_9 rfl (lv_at hl 0 rfl) ?_
    refine lv_bipush (v := 10) hx hb d_M_toRead_10 (by decide) ?_
    refine lv_iload_n hx hb d_M_toRead_12 rfl (lv_at hl 1 rfl) ?_
    refine lv_iconst (v := 4) hx hb d_M_toRead_13 (by decide) ?_
    refine lv_iload_n hx hb d_M_toRead_14 rfl (lv_at hl 2 rfl) ?_
    refine lv_iload_n hx hb d_M_toRead_15 rfl (lv_at hl 2 rfl) ?_
    refine lv_iconst (v := 0) hx hb d_M_toRead_16 (by decide) ?_
    refine lv_aload_n hx hb d_M_toRead_17 rfl (lv_at hl 0 rfl) ?_
    refine g_M_53 C h d_M_toRead_18 ?_
    refine lv_iload_n hx hb d_M_toRead_21 rfl (lv_at hl 1 rfl) ?_
    refine l_M14 C h ha d_M_toRead_22 ?_
    refine z_callV (i := 37) C h (k_M_sendWith l dC dI k q X M 10 a 4 r r 0 (M 14 (Int32.toNatClampNeg a)) (z_room hn (by omega)) (vp4 hr4 ha)) co_M_sendWith ml_M_77 im_M_sendWith se_M_sendWith in_M rfl rfl hd_M_sendWith ⟨by decide, by decide⟩ ⟨Nat.zero_le _, Nat.zero_le _⟩ hl.1 (Nat.le_of_ble_eq_true rfl) d_M_toRead_23 rfl (fun H locs h => ?_)
    refine W.eq (g2 := F0 m 26 ls []) rfl ?_
    have h : zH dC dI k q X (m_send M 10 a 4 r r 0 (M 14 (Int32.toNatClampNeg a))) (zA q) s.heap H locs := h
    refine lv_aload_n hx hb d_M_toRead_26 rfl (lv_at hl 0 rfl) ?_
    refine g_M_47 C h d_M_toRead_27 ?_
    refine lv_iload_n hx hb d_M_toRead_30 rfl (lv_at hl 1 rfl) ?_
    refine lv_iload_n hx hb d_M_toRead_31 rfl (lv_at hl 2 rfl) ?_
    refine s_M12 C h ha d_M_toRead_32 (fun H locs h => ?_)
    refine lv_aload_n hx hb d_M_toRead_33 rfl (lv_at hl 0 rfl) ?_
    refine g_M_44 C h d_M_toRead_34 ?_
    refine lv_iload_n hx hb d_M_toRead_37 rfl (lv_at hl 1 rfl) ?_
    refine lv_iconst (v := 2) hx hb d_M_toRead_38 (by decide) ?_
    refine s_M11 C h ha d_M_toRead_39 (fun H locs h => ?_)
    refine lv_goto (tgt := 129) hx hb d_M_toRead_40 (by decide) ?_
    exact z_retvE C h hr hk (by first | rfl | (simp only [m_M_toRead, eq_true hh1, ↓reduceIte]; done) | (simp [m_M_toRead, eq_true hh1]; done)) (by first | rfl | (simp only [m_M_toRead, eq_true hh1, ↓reduceIte]; done) | (simp [m_M_toRead, eq_true hh1]; done)) d_M_toRead_129
theorem hd_M_toLeave : y_M_toLeave.cls ≠ "java/lang/invoke/MethodHandle" ∧ y_M_toLeave.cls ≠ "java/lang/invoke/VarHandle" ∧ (parseMethodDescriptor y_M_toLeave.desc).map (fun d => d.parameters.length) = some 4 := by decide +kernel
def m_M_toLeave (X : zXS) (M : zMS) (w : Int32) (a : Int32) (r : Int32) (v : Int32) : zMS := (if (M 11 (Int32.toNatClampNeg a)) = 2 then (if (M 12 (Int32.toNatClampNeg a)) = r then (if w = 4 then (m_send (u2 (u2 M 14 (Int32.toNatClampNeg a) v) 11 (Int32.toNatClampNeg a) 0) 8 a 4 r r 0 0) else (m_send (u2 M 11 (Int32.toNatClampNeg a) 0) 8 a 4 r r 0 0)) else (if (M 11 (Int32.toNatClampNeg a)) = 1 then (if ((u2 M 13 (Int32.toNatClampNeg a) ((M 13 (Int32.toNatClampNeg a)) &&& ((1 <<< (r &&& 31)) ^^^ (-1)))) 13 (Int32.toNatClampNeg a)) = 0 then (m_send (u2 (u2 M 13 (Int32.toNatClampNeg a) ((M 13 (Int32.toNatClampNeg a)) &&& ((1 <<< (r &&& 31)) ^^^ (-1)))) 11 (Int32.toNatClampNeg a) 0) 8 a 4 r r 0 0) else (m_send (u2 M 13 (Int32.toNatClampNeg a) ((M 13 (Int32.toNatClampNeg a)) &&& ((1 <<< (r &&& 31)) ^^^ (-1)))) 8 a 4 r r 0 0)) else (m_send (u2 M 13 (Int32.toNatClampNeg a) ((M 13 (Int32.toNatClampNeg a)) &&& ((1 <<< (r &&& 31)) ^^^ (-1)))) 8 a 4 r r 0 0))) else (if (M 11 (Int32.toNatClampNeg a)) = 1 then (if ((u2 M 13 (Int32.toNatClampNeg a) ((M 13 (Int32.toNatClampNeg a)) &&& ((1 <<< (r &&& 31)) ^^^ (-1)))) 13 (Int32.toNatClampNeg a)) = 0 then (m_send (u2 (u2 M 13 (Int32.toNatClampNeg a) ((M 13 (Int32.toNatClampNeg a)) &&& ((1 <<< (r &&& 31)) ^^^ (-1)))) 11 (Int32.toNatClampNeg a) 0) 8 a 4 r r 0 0) else (m_send (u2 M 13 (Int32.toNatClampNeg a) ((M 13 (Int32.toNatClampNeg a)) &&& ((1 <<< (r &&& 31)) ^^^ (-1)))) 8 a 4 r r 0 0)) else (m_send (u2 M 13 (Int32.toNatClampNeg a) ((M 13 (Int32.toNatClampNeg a)) &&& ((1 <<< (r &&& 31)) ^^^ (-1)))) 8 a 4 r r 0 0)))
set_option maxHeartbeats 4000000 in
set_option maxRecDepth 100000 in
theorem k_M_toLeave (l : Launch) (dC : Nat → ClassId) (dI : Nat → Nat → Nat) (k : Nat → ClassId) (q : Nat → Nat) (X : zXS) (M : zMS) (w : Int32) (a : Int32) (r : Int32) (v : Int32)  (n : Nat) (hn : M 15 0 = nI n) (hb9 : n + 4 < 200) (ha : vp_in a 4) (hr4 : vp_in r 4) : zMet l dC dI k q y_M_toLeave c_M_toLeave 5 none 2 53 [.ref (q 37), .int w, .int a, .int r, .int v] none X M X (m_M_toLeave X M w a r v) := by
  refine zMet.of (by decide) (Nat.le_of_ble_eq_true rfl) ?_
  intro p e s m args below meth c ls C hr hk hl h
  have hx := C.1
  have hb := C.2.1
  have hl : lv_has ls 5 [(0, .ref (q 37)), (1, .int w), (2, .int a), (3, .int r), (4, .int v)] := hl
  refine lv_aload_n hx hb d_M_toLeave_0 rfl (lv_at hl 0 rfl) ?_
  refine g_M_44 C h d_M_toLeave_1 ?_
  refine lv_iload_n hx hb d_M_toLeave_4 rfl (lv_at hl 2 rfl) ?_
  refine l_M11 C h ha d_M_toLeave_5 ?_
  refine lv_iconst (v := 2) hx hb d_M_toLeave_6 (by decide) ?_
  refine lv_icmp_ne (tgt := 43) hx hb d_M_toLeave_7 (by decide) (fun hh1 => ?_) (fun hh1 => ?_)
  · skip
    refine lv_aload_n hx hb d_M_toLeave_43 rfl (lv_at hl 0 rfl) ?_
    refine g_M_50 C h d_M_toLeave_44 ?_
    refine lv_iload_n hx hb d_M_toLeave_47 rfl (lv_at hl 2 rfl) ?_
    refine lv_aload_n hx hb d_M_toLeave_48 rfl (lv_at hl 0 rfl) ?_
    refine g_M_50 C h d_M_toLeave_49 ?_
    refine lv_iload_n hx hb d_M_toLeave_52 rfl (lv_at hl 2 rfl) ?_
    refine l_M13 C h ha d_M_toLeave_53 ?_
    refine lv_iconst (v := 1) hx hb d_M_toLeave_54 (by decide) ?_
    refine lv_iload_n hx hb d_M_toLeave_55 rfl (lv_at hl 3 rfl) ?_
    refine lv_ishl hx hb d_M_toLeave_56 ?_
    refine lv_iconst (v := -1) hx hb d_M_toLeave_57 (by decide) ?_
    refine lv_ixor hx hb d_M_toLeave_58 ?_
    refine lv_iand hx hb d_M_toLeave_59 ?_
    refine s_M13 C h ha d_M_toLeave_60 (fun H locs h => ?_)
    refine lv_aload_n hx hb d_M_toLeave_61 rfl (lv_at hl 0 rfl) ?_
    refine g_M_44 C h d_M_toLeave_62 ?_
    refine lv_iload_n hx hb d_M_toLeave_65 rfl (lv_at hl 2 rfl) ?_
    refine l_M11 C h ha d_M_toLeave_66 ?_
    refine z_top (y := M 11 (Int32.toNatClampNeg a)) rfl ?_
    refine lv_iconst (v := 1) hx hb d_M_toLeave_67 (by decide) ?_
    refine lv_icmp_ne (tgt := 87) hx hb d_M_toLeave_68 (by decide) (fun hh2 => ?_) (fun hh2 => ?_)
    · skip
      refine lv_aload_n hx hb d_M_toLeave_87 rfl (lv_at hl 0 rfl) ?_
      refine lv_bipush (v := 8) hx hb d_M_toLeave_88 (by decide) ?_
      refine lv_iload_n hx hb d_M_toLeave_90 rfl (lv_at hl 2 rfl) ?_
      refine lv_iconst (v := 4) hx hb d_M_toLeave_91 (by decide) ?_
      refine lv_iload_n hx hb d_M_toLeave_92 rfl (lv_at hl 3 rfl) ?_
      refine lv_iload_n hx hb d_M_toLeave_93 rfl (lv_at hl 3 rfl) ?_
      refine lv_iconst (v := 0) hx hb d_M_toLeave_94 (by decide) ?_
      refine z_callV (i := 37) C h (k_M_send l dC dI k q X (u2 M 13 (Int32.toNatClampNeg a) ((M 13 (Int32.toNatClampNeg a)) &&& ((1 <<< (r &&& 31)) ^^^ (-1)))) 8 a 4 r r 0 (z_room hn (by omega)) (vp4 hr4 ha)) co_M_send ml_M_130 im_M_send se_M_send in_M rfl rfl hd_M_send ⟨by decide, by decide⟩ ⟨Nat.zero_le _, Nat.zero_le _⟩ hl.1 (Nat.le_of_ble_eq_true rfl) d_M_toLeave_95 rfl (fun H locs h => ?_)
      refine W.eq (g2 := F0 m 98 ls []) rfl ?_
      have h : zH dC dI k q X (m_send (u2 M 13 (Int32.toNatClampNeg a) ((M 13 (Int32.toNatClampNeg a)) &&& ((1 <<< (r &&& 31)) ^^^ (-1)))) 8 a 4 r r 0 0) (zA q) s.heap H locs := h
      exact z_retvE C h hr hk (by first | rfl | (simp only [m_M_toLeave, eq_false hh1, eq_false hh2, ↓reduceIte]; done) | (simp [m_M_toLeave, eq_false hh1, eq_false hh2]; done)) (by first | rfl | (simp only [m_M_toLeave, eq_false hh1, eq_false hh2, ↓reduceIte]; done) | (simp [m_M_toLeave, eq_false hh1, eq_false hh2]; done)) d_M_toLeave_98
    · skip
      refine lv_aload_n hx hb d_M_toLeave_71 rfl (lv_at hl 0 rfl) ?_
      refine g_M_50 C h d_M_toLeave_72 ?_
      refine lv_iload_n hx hb d_M_toLeave_75 rfl (lv_at hl 2 rfl) ?_
      refine l_M13 C h ha d_M_toLeave_76 ?_
      refine lv_if_ne (tgt := 87) hx hb d_M_toLeave_77 (by decide) (fun hh3 => ?_) (fun hh3 => ?_)
      · skip
        refine lv_aload_n hx hb d_M_toLeave_87 rfl (lv_at hl 0 rfl) ?_
        refine lv_bipush (v := 8) hx hb d_M_toLeave_88 (by decide) ?_
        refine lv_iload_n hx hb d_M_toLeave_90 rfl (lv_at hl 2 rfl) ?_
        refine lv_iconst (v := 4) hx hb d_M_toLeave_91 (by decide) ?_
        refine lv_iload_n hx hb d_M_toLeave_92 rfl (lv_at hl 3 rfl) ?_
        refine lv_iload_n hx hb d_M_toLeave_93 rfl (lv_at hl 3 rfl) ?_
        refine lv_iconst (v := 0) hx hb d_M_toLeave_94 (by decide) ?_
        refine z_callV (i := 37) C h (k_M_send l dC dI k q X (u2 M 13 (Int32.toNatClampNeg a) ((M 13 (Int32.toNatClampNeg a)) &&& ((1 <<< (r &&& 31)) ^^^ (-1)))) 8 a 4 r r 0 (z_room hn (by omega)) (vp4 hr4 ha)) co_M_send ml_M_130 im_M_send se_M_send in_M rfl rfl hd_M_send ⟨by decide, by decide⟩ ⟨Nat.zero_le _, Nat.zero_le _⟩ hl.1 (Nat.le_of_ble_eq_true rfl) d_M_toLeave_95 rfl (fun H locs h => ?_)
        refine W.eq (g2 := F0 m 98 ls []) rfl ?_
        have h : zH dC dI k q X (m_send (u2 M 13 (Int32.toNatClampNeg a) ((M 13 (Int32.toNatClampNeg a)) &&& ((1 <<< (r &&& 31)) ^^^ (-1)))) 8 a 4 r r 0 0) (zA q) s.heap H locs := h
        exact z_retvE C h hr hk (by first | rfl | (simp only [m_M_toLeave, eq_false hh1, eq_true hh2, eq_false hh3, ↓reduceIte]; done) | (simp [m_M_toLeave, eq_false hh1, eq_true hh2, eq_false hh3]; done)) (by first | rfl | (simp only [m_M_toLeave, eq_false hh1, eq_true hh2, eq_false hh3, ↓reduceIte]; done) | (simp [m_M_toLeave, eq_false hh1, eq_true hh2, eq_false hh3]; done)) d_M_toLeave_98
      · skip
        refine lv_aload_n hx hb d_M_toLeave_80 rfl (lv_at hl 0 rfl) ?_
        refine g_M_44 C h d_M_toLeave_81 ?_
        refine lv_iload_n hx hb d_M_toLeave_84 rfl (lv_at hl 2 rfl) ?_
        refine lv_iconst (v := 0) hx hb d_M_toLeave_85 (by decide) ?_
        refine s_M11 C h ha d_M_toLeave_86 (fun H locs h => ?_)
        refine lv_aload_n hx hb d_M_toLeave_87 rfl (lv_at hl 0 rfl) ?_
        refine lv_bipush (v := 8) hx hb d_M_toLeave_88 (by decide) ?_
        refine lv_iload_n hx hb d_M_toLeave_90 rfl (lv_at hl 2 rfl) ?_
        refine lv_iconst (v := 4) hx hb d_M_toLeave_91 (by decide) ?_
        refine lv_iload_n hx hb d_M_toLeave_92 rfl (lv_at hl 3 rfl) ?_
        refine lv_iload_n hx hb d_M_toLeave_93 rfl (lv_at hl 3 rfl) ?_
        refine lv_iconst (v := 0) hx hb d_M_toLeave_94 (by decide) ?_
        refine z_callV (i := 37) C h (k_M_send l dC dI k q X (u2 (u2 M 13 (Int32.toNatClampNeg a) ((M 13 (Int32.toNatClampNeg a)) &&& ((1 <<< (r &&& 31)) ^^^ (-1)))) 11 (Int32.toNatClampNeg a) 0) 8 a 4 r r 0 (z_room hn (by omega)) (vp4 hr4 ha)) co_M_send ml_M_130 im_M_send se_M_send in_M rfl rfl hd_M_send ⟨by decide, by decide⟩ ⟨Nat.zero_le _, Nat.zero_le _⟩ hl.1 (Nat.le_of_ble_eq_true rfl) d_M_toLeave_95 rfl (fun H locs h => ?_)
        refine W.eq (g2 := F0 m 98 ls []) rfl ?_
        have h : zH dC dI k q X (m_send (u2 (u2 M 13 (Int32.toNatClampNeg a) ((M 13 (Int32.toNatClampNeg a)) &&& ((1 <<< (r &&& 31)) ^^^ (-1)))) 11 (Int32.toNatClampNeg a) 0) 8 a 4 r r 0 0) (zA q) s.heap H locs := h
        exact z_retvE C h hr hk (by first | rfl | (simp only [m_M_toLeave, eq_false hh1, eq_true hh2, eq_true hh3, ↓reduceIte]; done) | (simp [m_M_toLeave, eq_false hh1, eq_true hh2, eq_true hh3]; done)) (by first | rfl | (simp only [m_M_toLeave, eq_false hh1, eq_true hh2, eq_true hh3, ↓reduceIte]; done) | (simp [m_M_toLeave, eq_false hh1, eq_true hh2, eq_true hh3]; done)) d_M_toLeave_98
  · skip
    refine lv_aload_n hx hb d_M_toLeave_10 rfl (lv_at hl 0 rfl) ?_
    refine g_M_47 C h d_M_toLeave_11 ?_
    refine lv_iload_n hx hb d_M_toLeave_14 rfl (lv_at hl 2 rfl) ?_
    refine l_M12 C h ha d_M_toLeave_15 ?_
    refine lv_iload_n hx hb d_M_toLeave_16 rfl (lv_at hl 3 rfl) ?_
    refine lv_icmp_ne (tgt := 43) hx hb d_M_toLeave_17 (by decide) (fun hh4 => ?_) (fun hh4 => ?_)
    · skip
      refine lv_aload_n hx hb d_M_toLeave_43 rfl (lv_at hl 0 rfl) ?_
      refine g_M_50 C h d_M_toLeave_44 ?_
      refine lv_iload_n hx hb d_M_toLeave_47 rfl (lv_at hl 2 rfl) ?_
      refine lv_aload_n hx hb d_M_toLeave_48 rfl (lv_at hl 0 rfl) ?_
      refine g_M_50 C h d_M_toLeave_49 ?_
      refine lv_iload_n hx hb d_M_toLeave_52 rfl (lv_at hl 2 rfl) ?_
      refine l_M13 C h ha d_M_toLeave_53 ?_
      refine lv_iconst (v := 1) hx hb d_M_toLeave_54 (by decide) ?_
      refine lv_iload_n hx hb d_M_toLeave_55 rfl (lv_at hl 3 rfl) ?_
      refine lv_ishl hx hb d_M_toLeave_56 ?_
      refine lv_iconst (v := -1) hx hb d_M_toLeave_57 (by decide) ?_
      refine lv_ixor hx hb d_M_toLeave_58 ?_
      refine lv_iand hx hb d_M_toLeave_59 ?_
      refine s_M13 C h ha d_M_toLeave_60 (fun H locs h => ?_)
      refine lv_aload_n hx hb d_M_toLeave_61 rfl (lv_at hl 0 rfl) ?_
      refine g_M_44 C h d_M_toLeave_62 ?_
      refine lv_iload_n hx hb d_M_toLeave_65 rfl (lv_at hl 2 rfl) ?_
      refine l_M11 C h ha d_M_toLeave_66 ?_
      refine z_top (y := M 11 (Int32.toNatClampNeg a)) rfl ?_
      refine lv_iconst (v := 1) hx hb d_M_toLeave_67 (by decide) ?_
      refine lv_icmp_ne (tgt := 87) hx hb d_M_toLeave_68 (by decide) (fun hh5 => ?_) (fun hh5 => ?_)
      · skip
        refine lv_aload_n hx hb d_M_toLeave_87 rfl (lv_at hl 0 rfl) ?_
        refine lv_bipush (v := 8) hx hb d_M_toLeave_88 (by decide) ?_
        refine lv_iload_n hx hb d_M_toLeave_90 rfl (lv_at hl 2 rfl) ?_
        refine lv_iconst (v := 4) hx hb d_M_toLeave_91 (by decide) ?_
        refine lv_iload_n hx hb d_M_toLeave_92 rfl (lv_at hl 3 rfl) ?_
        refine lv_iload_n hx hb d_M_toLeave_93 rfl (lv_at hl 3 rfl) ?_
        refine lv_iconst (v := 0) hx hb d_M_toLeave_94 (by decide) ?_
        refine z_callV (i := 37) C h (k_M_send l dC dI k q X (u2 M 13 (Int32.toNatClampNeg a) ((M 13 (Int32.toNatClampNeg a)) &&& ((1 <<< (r &&& 31)) ^^^ (-1)))) 8 a 4 r r 0 (z_room hn (by omega)) (vp4 hr4 ha)) co_M_send ml_M_130 im_M_send se_M_send in_M rfl rfl hd_M_send ⟨by decide, by decide⟩ ⟨Nat.zero_le _, Nat.zero_le _⟩ hl.1 (Nat.le_of_ble_eq_true rfl) d_M_toLeave_95 rfl (fun H locs h => ?_)
        refine W.eq (g2 := F0 m 98 ls []) rfl ?_
        have h : zH dC dI k q X (m_send (u2 M 13 (Int32.toNatClampNeg a) ((M 13 (Int32.toNatClampNeg a)) &&& ((1 <<< (r &&& 31)) ^^^ (-1)))) 8 a 4 r r 0 0) (zA q) s.heap H locs := h
        exact z_retvE C h hr hk (by first | rfl | (simp only [m_M_toLeave, eq_true hh1, eq_false hh4, eq_false hh5, ↓reduceIte]; done) | (simp [m_M_toLeave, eq_true hh1, eq_false hh4, eq_false hh5]; done)) (by first | rfl | (simp only [m_M_toLeave, eq_true hh1, eq_false hh4, eq_false hh5, ↓reduceIte]; done) | (simp [m_M_toLeave, eq_true hh1, eq_false hh4, eq_false hh5]; done)) d_M_toLeave_98
      · skip
        refine lv_aload_n hx hb d_M_toLeave_71 rfl (lv_at hl 0 rfl) ?_
        refine g_M_50 C h d_M_toLeave_72 ?_
        refine lv_iload_n hx hb d_M_toLeave_75 rfl (lv_at hl 2 rfl) ?_
        refine l_M13 C h ha d_M_toLeave_76 ?_
        refine lv_if_ne (tgt := 87) hx hb d_M_toLeave_77 (by decide) (fun hh6 => ?_) (fun hh6 => ?_)
        · skip
          refine lv_aload_n hx hb d_M_toLeave_87 rfl (lv_at hl 0 rfl) ?_
          refine lv_bipush (v := 8) hx hb d_M_toLeave_88 (by decide) ?_
          refine lv_iload_n hx hb d_M_toLeave_90 rfl (lv_at hl 2 rfl) ?_
          refine lv_iconst (v := 4) hx hb d_M_toLeave_91 (by decide) ?_
          refine lv_iload_n hx hb d_M_toLeave_92 rfl (lv_at hl 3 rfl) ?_
          refine lv_iload_n hx hb d_M_toLeave_93 rfl (lv_at hl 3 rfl) ?_
          refine lv_iconst (v := 0) hx hb d_M_toLeave_94 (by decide) ?_
          refine z_callV (i := 37) C h (k_M_send l dC dI k q X (u2 M 13 (Int32.toNatClampNeg a) ((M 13 (Int32.toNatClampNeg a)) &&& ((1 <<< (r &&& 31)) ^^^ (-1)))) 8 a 4 r r 0 (z_room hn (by omega)) (vp4 hr4 ha)) co_M_send ml_M_130 im_M_send se_M_send in_M rfl rfl hd_M_send ⟨by decide, by decide⟩ ⟨Nat.zero_le _, Nat.zero_le _⟩ hl.1 (Nat.le_of_ble_eq_true rfl) d_M_toLeave_95 rfl (fun H locs h => ?_)
          refine W.eq (g2 := F0 m 98 ls []) rfl ?_
          have h : zH dC dI k q X (m_send (u2 M 13 (Int32.toNatClampNeg a) ((M 13 (Int32.toNatClampNeg a)) &&& ((1 <<< (r &&& 31)) ^^^ (-1)))) 8 a 4 r r 0 0) (zA q) s.heap H locs := h
          exact z_retvE C h hr hk (by first | rfl | (simp only [m_M_toLeave, eq_true hh1, eq_false hh4, eq_true hh5, eq_false hh6, ↓reduceIte]; done) | (simp [m_M_toLeave, eq_true hh1, eq_false hh4, eq_true hh5, eq_false hh6]; done)) (by first | rfl | (simp only [m_M_toLeave, eq_true hh1, eq_false hh4, eq_true hh5, eq_false hh6, ↓reduceIte]; done) | (simp [m_M_toLeave, eq_true hh1, eq_false hh4, eq_true hh5, eq_false hh6]; done)) d_M_toLeave_98
        · skip
          refine lv_aload_n hx hb d_M_toLeave_80 rfl (lv_at hl 0 rfl) ?_
          refine g_M_44 C h d_M_toLeave_81 ?_
          refine lv_iload_n hx hb d_M_toLeave_84 rfl (lv_at hl 2 rfl) ?_
          refine lv_iconst (v := 0) hx hb d_M_toLeave_85 (by decide) ?_
          refine s_M11 C h ha d_M_toLeave_86 (fun H locs h => ?_)
          refine lv_aload_n hx hb d_M_toLeave_87 rfl (lv_at hl 0 rfl) ?_
          refine lv_bipush (v := 8) hx hb d_M_toLeave_88 (by decide) ?_
          refine lv_iload_n hx hb d_M_toLeave_90 rfl (lv_at hl 2 rfl) ?_
          refine lv_iconst (v := 4) hx hb d_M_toLeave_91 (by decide) ?_
          refine lv_iload_n hx hb d_M_toLeave_92 rfl (lv_at hl 3 rfl) ?_
          refine lv_iload_n hx hb d_M_toLeave_93 rfl (lv_at hl 3 rfl) ?_
          refine lv_iconst (v := 0) hx hb d_M_toLeave_94 (by decide) ?_
          refine z_callV (i := 37) C h (k_M_send l dC dI k q X (u2 (u2 M 13 (Int32.toNatClampNeg a) ((M 13 (Int32.toNatClampNeg a)) &&& ((1 <<< (r &&& 31)) ^^^ (-1)))) 11 (Int32.toNatClampNeg a) 0) 8 a 4 r r 0 (z_room hn (by omega)) (vp4 hr4 ha)) co_M_send ml_M_130 im_M_send se_M_send in_M rfl rfl hd_M_send ⟨by decide, by decide⟩ ⟨Nat.zero_le _, Nat.zero_le _⟩ hl.1 (Nat.le_of_ble_eq_true rfl) d_M_toLeave_95 rfl (fun H locs h => ?_)
          refine W.eq (g2 := F0 m 98 ls []) rfl ?_
          have h : zH dC dI k q X (m_send (u2 (u2 M 13 (Int32.toNatClampNeg a) ((M 13 (Int32.toNatClampNeg a)) &&& ((1 <<< (r &&& 31)) ^^^ (-1)))) 11 (Int32.toNatClampNeg a) 0) 8 a 4 r r 0 0) (zA q) s.heap H locs := h
          exact z_retvE C h hr hk (by first | rfl | (simp only [m_M_toLeave, eq_true hh1, eq_false hh4, eq_true hh5, eq_true hh6, ↓reduceIte]; done) | (simp [m_M_toLeave, eq_true hh1, eq_false hh4, eq_true hh5, eq_true hh6]; done)) (by first | rfl | (simp only [m_M_toLeave, eq_true hh1, eq_false hh4, eq_true hh5, eq_true hh6, ↓reduceIte]; done) | (simp [m_M_toLeave, eq_true hh1, eq_false hh4, eq_true hh5, eq_true hh6]; done)) d_M_toLeave_98
    · skip
      refine lv_iload_n hx hb d_M_toLeave_20 rfl (lv_at hl 1 rfl) ?_
      refine lv_iconst (v := 4) hx hb d_M_toLeave_21 (by decide) ?_
      refine lv_icmp_ne (tgt := 33) hx hb d_M_toLeave_22 (by decide) (fun hh7 => ?_) (fun hh7 => ?_)
      · skip
        refine lv_aload_n hx hb d_M_toLeave_33 rfl (lv_at hl 0 rfl) ?_
        refine g_M_44 C h d_M_toLeave_34 ?_
        refine lv_iload_n hx hb d_M_toLeave_37 rfl (lv_at hl 2 rfl) ?_
        refine lv_iconst (v := 0) hx hb d_M_toLeave_38 (by decide) ?_
        refine s_M11 C h ha d_M_toLeave_39 (fun H locs h => ?_)
        refine lv_goto (tgt := 87) hx hb d_M_toLeave_40 (by decide) ?_
        refine lv_aload_n hx hb d_M_toLeave_87 rfl (lv_at hl 0 rfl) ?_
        refine lv_bipush (v := 8) hx hb d_M_toLeave_88 (by decide) ?_
        refine lv_iload_n hx hb d_M_toLeave_90 rfl (lv_at hl 2 rfl) ?_
        refine lv_iconst (v := 4) hx hb d_M_toLeave_91 (by decide) ?_
        refine lv_iload_n hx hb d_M_toLeave_92 rfl (lv_at hl 3 rfl) ?_
        refine lv_iload_n hx hb d_M_toLeave_93 rfl (lv_at hl 3 rfl) ?_
        refine lv_iconst (v := 0) hx hb d_M_toLeave_94 (by decide) ?_
        refine z_callV (i := 37) C h (k_M_send l dC dI k q X (u2 M 11 (Int32.toNatClampNeg a) 0) 8 a 4 r r 0 (z_room hn (by omega)) (vp4 hr4 ha)) co_M_send ml_M_130 im_M_send se_M_send in_M rfl rfl hd_M_send ⟨by decide, by decide⟩ ⟨Nat.zero_le _, Nat.zero_le _⟩ hl.1 (Nat.le_of_ble_eq_true rfl) d_M_toLeave_95 rfl (fun H locs h => ?_)
        refine W.eq (g2 := F0 m 98 ls []) rfl ?_
        have h : zH dC dI k q X (m_send (u2 M 11 (Int32.toNatClampNeg a) 0) 8 a 4 r r 0 0) (zA q) s.heap H locs := h
        exact z_retvE C h hr hk (by first | rfl | (simp only [m_M_toLeave, eq_true hh1, eq_true hh4, eq_false hh7, ↓reduceIte]; done) | (simp [m_M_toLeave, eq_true hh1, eq_true hh4, eq_false hh7]; done)) (by first | rfl | (simp only [m_M_toLeave, eq_true hh1, eq_true hh4, eq_false hh7, ↓reduceIte]; done) | (simp [m_M_toLeave, eq_true hh1, eq_true hh4, eq_false hh7]; done)) d_M_toLeave_98
      · skip
        refine lv_aload_n hx hb d_M_toLeave_25 rfl (lv_at hl 0 rfl) ?_
        refine g_M_53 C h d_M_toLeave_26 ?_
        refine lv_iload_n hx hb d_M_toLeave_29 rfl (lv_at hl 2 rfl) ?_
        refine lv_iload hx hb d_M_toLeave_30 (lv_at hl 4 rfl) ?_
        refine s_M14 C h ha d_M_toLeave_32 (fun H locs h => ?_)
        refine lv_aload_n hx hb d_M_toLeave_33 rfl (lv_at hl 0 rfl) ?_
        refine g_M_44 C h d_M_toLeave_34 ?_
        refine lv_iload_n hx hb d_M_toLeave_37 rfl (lv_at hl 2 rfl) ?_
        refine lv_iconst (v := 0) hx hb d_M_toLeave_38 (by decide) ?_
        refine s_M11 C h ha d_M_toLeave_39 (fun H locs h => ?_)
        refine lv_goto (tgt := 87) hx hb d_M_toLeave_40 (by decide) ?_
        refine lv_aload_n hx hb d_M_toLeave_87 rfl (lv_at hl 0 rfl) ?_
        refine lv_bipush (v := 8) hx hb d_M_toLeave_88 (by decide) ?_
        refine lv_iload_n hx hb d_M_toLeave_90 rfl (lv_at hl 2 rfl) ?_
        refine lv_iconst (v := 4) hx hb d_M_toLeave_91 (by decide) ?_
        refine lv_iload_n hx hb d_M_toLeave_92 rfl (lv_at hl 3 rfl) ?_
        refine lv_iload_n hx hb d_M_toLeave_93 rfl (lv_at hl 3 rfl) ?_
        refine lv_iconst (v := 0) hx hb d_M_toLeave_94 (by decide) ?_
        refine z_callV (i := 37) C h (k_M_send l dC dI k q X (u2 (u2 M 14 (Int32.toNatClampNeg a) v) 11 (Int32.toNatClampNeg a) 0) 8 a 4 r r 0 (z_room hn (by omega)) (vp4 hr4 ha)) co_M_send ml_M_130 im_M_send se_M_send in_M rfl rfl hd_M_send ⟨by decide, by decide⟩ ⟨Nat.zero_le _, Nat.zero_le _⟩ hl.1 (Nat.le_of_ble_eq_true rfl) d_M_toLeave_95 rfl (fun H locs h => ?_)
        refine W.eq (g2 := F0 m 98 ls []) rfl ?_
        have h : zH dC dI k q X (m_send (u2 (u2 M 14 (Int32.toNatClampNeg a) v) 11 (Int32.toNatClampNeg a) 0) 8 a 4 r r 0 0) (zA q) s.heap H locs := h
        exact z_retvE C h hr hk (by first | rfl | (simp only [m_M_toLeave, eq_true hh1, eq_true hh4, eq_true hh7, ↓reduceIte]; done) | (simp [m_M_toLeave, eq_true hh1, eq_true hh4, eq_true hh7]; done)) (by first | rfl | (simp only [m_M_toLeave, eq_true hh1, eq_true hh4, eq_true hh7, ↓reduceIte]; done) | (simp [m_M_toLeave, eq_true hh1, eq_true hh4, eq_true hh7]; done)) d_M_toLeave_98
