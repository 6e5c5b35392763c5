section ZE
variable {p : Program} {l : Launch} {e : Env} {R : Room} {s : State} {m : MethodId} {args : Array Value} {below : List Frame} {meth : Method} {c : Code} {H : Heap} {locs : List Loc} {cells slots : Nat} {Q : State → Prop}
variable {cc : ByteArray} {nL pc : Nat} {ls : Array Slot} {rest : List Value} {own : String} {dC : Nat → ClassId} {dI : Nat → Nat → Nat} {k : Nat → ClassId} {q : Nat → Nat} {X X' : zXS} {M M' : zMS} {A : Nat → Prop} {H0 : Heap}
theorem z_retE {v v' : Int32} (C : zCx p s m args c cc nL own dC dI k) (h : zH dC dI k q X M (zA q) s.heap H locs) (hr : meth.sig.returnType = some .int) (hlocks : meth.locks = false) (hv : v' = v) (hX : X' = X) (hM : M' = M) (hdg : decode cc pc = .ok (.ireturn, 1)) : W p l e R s m args below meth c H locs 0 0 (MQ below (zQc dC dI k q X' M' (some (.int v'))) args s 0 0 (zA q)) (F0 m pc ls [.int v]) := by
  subst hv; subst hX; subst hM
  exact z_ret C h hr hlocks hdg
theorem z_retzE {v v' : Int32} (C : zCx p s m args c cc nL own dC dI k) (h : zH dC dI k q X M (zA q) s.heap H locs) (hr : meth.sig.returnType = some .boolean) (hlocks : meth.locks = false) (h01 : v = 0 ∨ v = 1) (hv : v' = v) (hX : X' = X) (hM : M' = M) (hdg : decode cc pc = .ok (.ireturn, 1)) : W p l e R s m args below meth c H locs 0 0 (MQ below (zQc dC dI k q X' M' (some (.int v'))) args s 0 0 (zA q)) (F0 m pc ls [.int v]) := by
  subst hv; subst hX; subst hM
  exact z_retz C h hr hlocks h01 hdg
theorem z_retvE (C : zCx p s m args c cc nL own dC dI k) (h : zH dC dI k q X M (zA q) s.heap H locs) (hr : meth.sig.returnType = none) (hlocks : meth.locks = false) (hX : X' = X) (hM : M' = M) (hdg : decode cc pc = .ok (.return_, 1)) : W p l e R s m args below meth c H locs 0 0 (MQ below (zQc dC dI k q X' M' none) args s 0 0 (zA q)) (F0 m pc ls []) := by
  subst hX; subst hM
  exact z_retv C h hr hlocks hdg
end ZE
def m_four (x : Int32) : Int32 := if x < 0 then 0 else if 3 < x then 0 else 1
def m_ord (w : Int32) : Int32 := if w ≤ 4 then 0 else if 9 ≤ w then 0 else 1
def m_digit (r : Int64) (s : Int32) : Int32 := ((r >>> ((4 * s).toInt64 &&& 63)) &&& 15).toInt32
def m_bec (w st : Int32) : Int32 := if w = 5 then m_digit 3584133028581648 st else if w = 6 then m_digit 3585301259681808 st else m_digit 3600455353446912 st
def m_send (M : zMS) (w a f t r n v : Int32) : zMS :=
  u2 (u2 (u2 (u2 (u2 (u2 (u2 (u2 (u2 M 16 (M 15 0).toNatClampNeg w) 17 (M 15 0).toNatClampNeg a) 18 (M 15 0).toNatClampNeg f) 19 (M 15 0).toNatClampNeg t) 20 (M 15 0).toNatClampNeg r) 21 (M 15 0).toNatClampNeg n) 22 (M 15 0).toNatClampNeg v) 15 0 (M 15 0 + 1)) 4 (4 * r + a).toNatClampNeg (if 5 ≤ w then M 4 (4 * r + a).toNatClampNeg + 1 else 1)
theorem hd_M_isFour : y_M_isFour.cls ≠ "java/lang/invoke/MethodHandle" ∧ y_M_isFour.cls ≠ "java/lang/invoke/VarHandle" ∧ (parseMethodDescriptor y_M_isFour.desc).map (fun d => d.parameters.length) = some 1 := by decide +kernel
set_option maxHeartbeats 4000000 in
set_option maxRecDepth 100000 in
theorem k_M_isFour (l : Launch) (dC : Nat → ClassId) (dI : Nat → Nat → Nat) (k : Nat → ClassId) (q : Nat → Nat) (X : zXS) (M : zMS) (x : Int32) : zMet l dC dI k q y_M_isFour c_M_isFour 1 (some .boolean) 0 0 [.int x] (some (.int (m_four x))) X M X M := by
  refine zMet.of (by decide) (Nat.le_of_ble_eq_true rfl) ?_
  intro p e s m args below meth c ls C hr hk hl h
  have hx := C.1
  have hb := C.2.1
  have hl : lv_has ls 1 [(0, .int x)] := hl
  refine lv_iload_n hx hb d_M_isFour_0 rfl (lv_at hl 0 rfl) ?_
  refine lv_if_lt (tgt := 13) hx hb d_M_isFour_1 (by decide) (fun hh1 => ?_) (fun hh1 => ?_)
  · skip
    refine lv_iconst (v := 0) hx hb d_M_isFour_13 (by decide) ?_
    exact z_retzE C h hr hk (by first | exact Or.inl rfl | exact Or.inr rfl) (by first | rfl | (simp only [m_four, eq_true hh1, ↓reduceIte]; done) | (simp [m_four, eq_true hh1]; done)) (by first | rfl | (simp only [m_four, eq_true hh1, ↓reduceIte]; done) | (simp [m_four, eq_true hh1]; done)) (by first | rfl | (simp only [m_four, eq_true hh1, ↓reduceIte]; done) | (simp [m_four, eq_true hh1]; done)) d_M_isFour_14
  · skip
    refine lv_iload_n hx hb d_M_isFour_4 rfl (lv_at hl 0 rfl) ?_
    refine lv_iconst (v := 3) hx hb d_M_isFour_5 (by decide) ?_
    refine lv_icmp_gt (tgt := 13) hx hb d_M_isFour_6 (by decide) (fun hh2 => ?_) (fun hh2 => ?_)
    · skip
      refine lv_iconst (v := 0) hx hb d_M_isFour_13 (by decide) ?_
      exact z_retzE C h hr hk (by first | exact Or.inl rfl | exact Or.inr rfl) (by first | rfl | (simp only [m_four, eq_false hh1, eq_true hh2, ↓reduceIte]; done) | (simp [m_four, eq_false hh1, eq_true hh2]; done)) (by first | rfl | (simp only [m_four, eq_false hh1, eq_true hh2, ↓reduceIte]; done) | (simp [m_four, eq_false hh1, eq_true hh2]; done)) (by first | rfl | (simp only [m_four, eq_false hh1, eq_true hh2, ↓reduceIte]; done) | (simp [m_four, eq_false hh1, eq_true hh2]; done)) d_M_isFour_14
    · skip
      refine lv_iconst (v := 1) hx hb d_M_isFour_9 (by decide) ?_
      refine lv_goto (tgt := 14) hx hb d_M_isFour_10 (by decide) ?_
      exact z_retzE C h hr hk (by first | exact Or.inl rfl | exact Or.inr rfl) (by first | rfl | (simp only [m_four, eq_false hh1, eq_false hh2, ↓reduceIte]; done) | (simp [m_four, eq_false hh1, eq_false hh2]; done)) (by first | rfl | (simp only [m_four, eq_false hh1, eq_false hh2, ↓reduceIte]; done) | (simp [m_four, eq_false hh1, eq_false hh2]; done)) (by first | rfl | (simp only [m_four, eq_false hh1, eq_false hh2, ↓reduceIte]; done) | (simp [m_four, eq_false hh1, eq_false hh2]; done)) d_M_isFour_14
theorem hd_M_isOrdered : y_M_isOrdered.cls ≠ "java/lang/invoke/MethodHandle" ∧ y_M_isOrdered.cls ≠ "java/lang/invoke/VarHandle" ∧ (parseMethodDescriptor y_M_isOrdered.desc).map (fun d => d.parameters.length) = some 1 := by decide +kernel
set_option maxHeartbeats 4000000 in
set_option maxRecDepth 100000 in
theorem k_M_isOrdered (l : Launch) (dC : Nat → ClassId) (dI : Nat → Nat → Nat) (k : Nat → ClassId) (q : Nat → Nat) (X : zXS) (M : zMS) (x : Int32) : zMet l dC dI k q y_M_isOrdered c_M_isOrdered 1 (some .boolean) 0 0 [.int x] (some (.int (m_ord x))) X M X M := by
  refine zMet.of (by decide) (Nat.le_of_ble_eq_true rfl) ?_
  intro p e s m args below meth c ls C hr hk hl h
  have hx := C.1
  have hb := C.2.1
  have hl : lv_has ls 1 [(0, .int x)] := hl
  refine lv_iload_n hx hb d_M_isOrdered_0 rfl (lv_at hl 0 rfl) ?_
  refine lv_iconst (v := 4) hx hb d_M_isOrdered_1 (by decide) ?_
  refine lv_icmp_le (tgt := 15) hx hb d_M_isOrdered_2 (by decide) (fun hh1 => ?_) (fun hh1 => ?_)
  · skip
    refine lv_iconst (v := 0) hx hb d_M_isOrdered_15 (by decide) ?_
    exact z_retzE C h hr hk (by first | exact Or.inl rfl | exact Or.inr rfl) (by first | rfl | (simp only [m_ord, eq_true hh1, ↓reduceIte]; done) | (simp [m_ord, eq_true hh1]; done)) (by first | rfl | (simp only [m_ord, eq_true hh1, ↓reduceIte]; done) | (simp [m_ord, eq_true hh1]; done)) (by first | rfl | (simp only [m_ord, eq_true hh1, ↓reduceIte]; done) | (simp [m_ord, eq_true hh1]; done)) d_M_isOrdered_16
  · skip
    refine lv_iload_n hx hb d_M_isOrdered_5 rfl (lv_at hl 0 rfl) ?_
    refine lv_bipush (v := 9) hx hb d_M_isOrdered_6 (by decide) ?_
    refine lv_icmp_ge (tgt := 15) hx hb d_M_isOrdered_8 (by decide) (fun hh2 => ?_) (fun hh2 => ?_)
    · skip
      refine lv_iconst (v := 0) hx hb d_M_isOrdered_15 (by decide) ?_
      exact z_retzE C h hr hk (by first | exact Or.inl rfl | exact Or.inr rfl) (by first | rfl | (simp only [m_ord, eq_false hh1, eq_true hh2, ↓reduceIte]; done) | (simp [m_ord, eq_false hh1, eq_true hh2]; done)) (by first | rfl | (simp only [m_ord, eq_false hh1, eq_true hh2, ↓reduceIte]; done) | (simp [m_ord, eq_false hh1, eq_true hh2]; done)) (by first | rfl | (simp only [m_ord, eq_false hh1, eq_true hh2, ↓reduceIte]; done) | (simp [m_ord, eq_false hh1, eq_true hh2]; done)) d_M_isOrdered_16
    · skip
      refine lv_iconst (v := 1) hx hb d_M_isOrdered_11 (by decide) ?_
      refine lv_goto (tgt := 16) hx hb d_M_isOrdered_12 (by decide) ?_
      exact z_retzE C h hr hk (by first | exact Or.inl rfl | exact Or.inr rfl) (by first | rfl | (simp only [m_ord, eq_false hh1, eq_false hh2, ↓reduceIte]; done) | (simp [m_ord, eq_false hh1, eq_false hh2]; done)) (by first | rfl | (simp only [m_ord, eq_false hh1, eq_false hh2, ↓reduceIte]; done) | (simp [m_ord, eq_false hh1, eq_false hh2]; done)) (by first | rfl | (simp only [m_ord, eq_false hh1, eq_false hh2, ↓reduceIte]; done) | (simp [m_ord, eq_false hh1, eq_false hh2]; done)) d_M_isOrdered_16
theorem hd_M_digit : y_M_digit.cls ≠ "java/lang/invoke/MethodHandle" ∧ y_M_digit.cls ≠ "java/lang/invoke/VarHandle" ∧ (parseMethodDescriptor y_M_digit.desc).map (fun d => d.parameters.length) = some 2 := by decide +kernel
set_option maxHeartbeats 4000000 in
set_option maxRecDepth 100000 in
theorem k_M_digit (l : Launch) (dC : Nat → ClassId) (dI : Nat → Nat → Nat) (k : Nat → ClassId) (q : Nat → Nat) (X : zXS) (M : zMS) (r : Int64) (x : Int32) : zMet l dC dI k q y_M_digit c_M_digit 3 (some .int) 0 0 [.long r, .int x] (some (.int (m_digit r x))) X M X M := by
  refine zMet.of (by decide) (Nat.le_of_ble_eq_true rfl) ?_
  intro p e s m args below meth c ls C hr hk hl h
  have hx := C.1
  have hb := C.2.1
  have hl : lv_has ls 3 [(0, .long r), (2, .int x)] := hl
  refine lv_lload_n hx hb d_M_digit_0 rfl (lv_at hl 0 rfl) ?_
  refine lv_iconst (v := 4) hx hb d_M_digit_1 (by decide) ?_
  refine lv_iload_n hx hb d_M_digit_2 rfl (lv_at hl 1 rfl) ?_
  refine lv_imul hx hb d_M_digit_3 ?_
  refine lv_lshr hx hb d_M_digit_4 rfl ?_
  refine lv_ldc2 (v := 15) hx hb C.2.2.2.1 (C.2.2.2.2.1 _ kl_M_89) d_M_digit_5 ?_
  refine lv_land hx hb d_M_digit_8 ?_
  refine lv_l2i hx hb d_M_digit_9 rfl ?_
  exact z_retE C h hr hk (by first | rfl | (simp only [m_digit, ↓reduceIte]; done) | (simp [m_digit]; done)) (by first | rfl | (simp only [m_digit, ↓reduceIte]; done) | (simp [m_digit]; done)) (by first | rfl | (simp only [m_digit, ↓reduceIte]; done) | (simp [m_digit]; done)) d_M_digit_10
theorem hd_M_becomes : y_M_becomes.cls ≠ "java/lang/invoke/MethodHandle" ∧ y_M_becomes.cls ≠ "java/lang/invoke/VarHandle" ∧ (parseMethodDescriptor y_M_becomes.desc).map (fun d => d.parameters.length) = some 2 := by decide +kernel
set_option maxHeartbeats 4000000 in
set_option maxRecDepth 100000 in
theorem k_M_becomes (l : Launch) (dC : Nat → ClassId) (dI : Nat → Nat → Nat) (k : Nat → ClassId) (q : Nat → Nat) (X : zXS) (M : zMS) (w x : Int32) : zMet l dC dI k q y_M_becomes c_M_becomes 2 (some .int) 1 22 [.int w, .int x] (some (.int (m_bec w x))) X M X M := by
  refine zMet.of (by decide) (Nat.le_of_ble_eq_true rfl) ?_
  intro p e s m args below meth c ls C hr hk hl h
  have hx := C.1
  have hb := C.2.1
  have hl : lv_has ls 2 [(0, .int w), (1, .int x)] := hl
  refine lv_iload_n hx hb d_M_becomes_0 rfl (lv_at hl 0 rfl) ?_
  refine lv_iconst (v := 5) hx hb d_M_becomes_1 (by decide) ?_
  refine lv_icmp_ne (tgt := 13) hx hb d_M_becomes_2 (by decide) (fun hh1 => ?_) (fun hh1 => ?_)
  · skip
    refine lv_iload_n hx hb d_M_becomes_13 rfl (lv_at hl 0 rfl) ?_
    refine lv_bipush (v := 6) hx hb d_M_becomes_14 (by decide) ?_
    refine lv_icmp_ne (tgt := 27) hx hb d_M_becomes_16 (by decide) (fun hh2 => ?_) (fun hh2 => ?_)
    · skip
      refine lv_ldc2 (v := 3600455353446912) hx hb C.2.2.2.1 (C.2.2.2.2.1 _ kl_M_99) d_M_becomes_27 ?_
      refine lv_iload_n hx hb d_M_becomes_30 rfl (lv_at hl 1 rfl) ?_
      refine z_callS C h (k_M_digit l dC dI k q X M 3600455353446912 x) co_M_digit ml_M_93 sc_M_digit in_M hd_M_digit ⟨by decide, by decide⟩ ⟨Nat.zero_le _, Nat.zero_le _⟩ hl.1 (Nat.le_of_ble_eq_true rfl) d_M_becomes_31 rfl (fun H locs h => ?_)
      refine W.eq (g2 := F0 m 34 ls [.int (m_digit 3600455353446912 x)]) rfl ?_
      have h : zH dC dI k q X M (zA q) s.heap H locs := h
      exact z_retE C h hr hk (by first | rfl | (simp only [m_bec, eq_false hh1, eq_false hh2, ↓reduceIte]; done) | (simp [m_bec, eq_false hh1, eq_false hh2]; done)) (by first | rfl | (simp only [m_bec, eq_false hh1, eq_false hh2, ↓reduceIte]; done) | (simp [m_bec, eq_false hh1, eq_false hh2]; done)) (by first | rfl | (simp only [m_bec, eq_false hh1, eq_false hh2, ↓reduceIte]; done) | (simp [m_bec, eq_false hh1, eq_false hh2]; done)) d_M_becomes_34
    · skip
      refine lv_ldc2 (v := 3585301259681808) hx hb C.2.2.2.1 (C.2.2.2.2.1 _ kl_M_97) d_M_becomes_19 ?_
      refine lv_iload_n hx hb d_M_becomes_22 rfl (lv_at hl 1 rfl) ?_
      refine z_callS C h (k_M_digit l dC dI k q X M 3585301259681808 x) co_M_digit ml_M_93 sc_M_digit in_M hd_M_digit ⟨by decide, by decide⟩ ⟨Nat.zero_le _, Nat.zero_le _⟩ hl.1 (Nat.le_of_ble_eq_true rfl) d_M_becomes_23 rfl (fun H locs h => ?_)
      refine W.eq (g2 := F0 m 26 ls [.int (m_digit 3585301259681808 x)]) rfl ?_
      have h : zH dC dI k q X M (zA q) s.heap H locs := h
      exact z_retE C h hr hk (by first | rfl | (simp only [m_bec, eq_false hh1, eq_true hh2, ↓reduceIte]; done) | (simp [m_bec, eq_false hh1, eq_true hh2]; done)) (by first | rfl | (simp only [m_bec, eq_false hh1, eq_true hh2, ↓reduceIte]; done) | (simp [m_bec, eq_false hh1, eq_true hh2]; done)) (by first | rfl | (simp only [m_bec, eq_false hh1, eq_true hh2, ↓reduceIte]; done) | (simp [m_bec, eq_false hh1, eq_true hh2]; done)) d_M_becomes_26
  · skip
    refine lv_ldc2 (v := 3584133028581648) hx hb C.2.2.2.1 (C.2.2.2.2.1 _ kl_M_91) d_M_becomes_5 ?_
    refine lv_iload_n hx hb d_M_becomes_8 rfl (lv_at hl 1 rfl) ?_
    refine z_callS C h (k_M_digit l dC dI k q X M 3584133028581648 x) co_M_digit ml_M_93 sc_M_digit in_M hd_M_digit ⟨by decide, by decide⟩ ⟨Nat.zero_le _, Nat.zero_le _⟩ hl.1 (Nat.le_of_ble_eq_true rfl) d_M_becomes_9 rfl (fun H locs h => ?_)
    refine W.eq (g2 := F0 m 12 ls [.int (m_digit 3584133028581648 x)]) rfl ?_
    have h : zH dC dI k q X M (zA q) s.heap H locs := h
    exact z_retE C h hr hk (by first | rfl | (simp only [m_bec, eq_true hh1, ↓reduceIte]; done) | (simp [m_bec, eq_true hh1]; done)) (by first | rfl | (simp only [m_bec, eq_true hh1, ↓reduceIte]; done) | (simp [m_bec, eq_true hh1]; done)) (by first | rfl | (simp only [m_bec, eq_true hh1, ↓reduceIte]; done) | (simp [m_bec, eq_true hh1]; done)) d_M_becomes_12
theorem hd_M_sendWith : y_M_sendWith.cls ≠ "java/lang/invoke/MethodHandle" ∧ y_M_sendWith.cls ≠ "java/lang/invoke/VarHandle" ∧ (parseMethodDescriptor y_M_sendWith.desc).map (fun d => d.parameters.length) = some 7 := by decide +kernel
set_option maxHeartbeats 4000000 in
set_option maxRecDepth 100000 in
theorem k_M_sendWith (l : Launch) (dC : Nat → ClassId) (dI : Nat → Nat → Nat) (k : Nat → ClassId) (q : Nat → Nat) (X : zXS) (M : zMS) (w a f t r n v : Int32) (h0 : vp_in (M 15 0) 200) (h1 : vp_in (4 * r + a) 16) : zMet l dC dI k q y_M_sendWith c_M_sendWith 8 none 0 0 [.ref (q 37), .int w, .int a, .int f, .int t, .int r, .int n, .int v] none X M X (m_send M w a f t r n v) := by
  refine zMet.of (by decide) (Nat.le_of_ble_eq_true rfl) ?_
  intro p e s m args below meth c ls C hr hk hl h
  have hx := C.1
  have hb := C.2.1
  have hl : lv_has ls 8 [(0, .ref (q 37)), (1, .int w), (2, .int a), (3, .int f), (4, .int t), (5, .int r), (6, .int n), (7, .int v)] := hl
  refine lv_aload_n hx hb d_M_sendWith_0 rfl (lv_at hl 0 rfl) ?_
  refine g_M_56 C h d_M_sendWith_1 ?_
  refine lv_aload_n hx hb d_M_sendWith_4 rfl (lv_at hl 0 rfl) ?_
  refine g_M_81 C h d_M_sendWith_5 ?_
  refine lv_iload_n hx hb d_M_sendWith_8 rfl (lv_at hl 1 rfl) ?_
  refine s_M16 C h h0 d_M_sendWith_9 (fun H locs h => ?_)
  refine lv_aload_n hx hb d_M_sendWith_10 rfl (lv_at hl 0 rfl) ?_
  refine g_M_59 C h d_M_sendWith_11 ?_
  refine lv_aload_n hx hb d_M_sendWith_14 rfl (lv_at hl 0 rfl) ?_
  refine g_M_81 C h d_M_sendWith_15 ?_
  refine z_top (y := M 15 0) rfl ?_
  refine lv_iload_n hx hb d_M_sendWith_18 rfl (lv_at hl 2 rfl) ?_
  refine s_M17 C h h0 d_M_sendWith_19 (fun H locs h => ?_)
  refine lv_aload_n hx hb d_M_sendWith_20 rfl (lv_at hl 0 rfl) ?_
  refine g_M_62 C h d_M_sendWith_21 ?_
  refine lv_aload_n hx hb d_M_sendWith_24 rfl (lv_at hl 0 rfl) ?_
  refine g_M_81 C h d_M_sendWith_25 ?_
  refine z_top (y := M 15 0) rfl ?_
  refine lv_iload_n hx hb d_M_sendWith_28 rfl (lv_at hl 3 rfl) ?_
  refine s_M18 C h h0 d_M_sendWith_29 (fun H locs h => ?_)
  refine lv_aload_n hx hb d_M_sendWith_30 rfl (lv_at hl 0 rfl) ?_
  refine g_M_65 C h d_M_sendWith_31 ?_
  refine lv_aload_n hx hb d_M_sendWith_34 rfl (lv_at hl 0 rfl) ?_
  refine g_M_81 C h d_M_sendWith_35 ?_
  refine z_top (y := M 15 0) rfl ?_
  refine lv_iload hx hb d_M_sendWith_38 (lv_at hl 4 rfl) ?_
  refine s_M19 C h h0 d_M_sendWith_40 (fun H locs h => ?_)
  refine lv_aload_n hx hb d_M_sendWith_41 rfl (lv_at hl 0 rfl) ?_
  refine g_M_68 C h d_M_sendWith_42 ?_
  refine lv_aload_n hx hb d_M_sendWith_45 rfl (lv_at hl 0 rfl) ?_
  refine g_M_81 C h d_M_sendWith_46 ?_
  refine z_top (y := M 15 0) rfl ?_
  refine lv_iload hx hb d_M_sendWith_49 (lv_at hl 5 rfl) ?_
  refine s_M20 C h h0 d_M_sendWith_51 (fun H locs h => ?_)
  refine lv_aload_n hx hb d_M_sendWith_52 rfl (lv_at hl 0 rfl) ?_
  refine g_M_71 C h d_M_sendWith_53 ?_
  refine lv_aload_n hx hb d_M_sendWith_56 rfl (lv_at hl 0 rfl) ?_
  refine g_M_81 C h d_M_sendWith_57 ?_
  refine z_top (y := M 15 0) rfl ?_
  refine lv_iload hx hb d_M_sendWith_60 (lv_at hl 6 rfl) ?_
  refine s_M21 C h h0 d_M_sendWith_62 (fun H locs h => ?_)
  refine lv_aload_n hx hb d_M_sendWith_63 rfl (lv_at hl 0 rfl) ?_
  refine g_M_74 C h d_M_sendWith_64 ?_
  refine lv_aload_n hx hb d_M_sendWith_67 rfl (lv_at hl 0 rfl) ?_
  refine g_M_81 C h d_M_sendWith_68 ?_
  refine z_top (y := M 15 0) rfl ?_
  refine lv_iload hx hb d_M_sendWith_71 (lv_at hl 7 rfl) ?_
  refine s_M22 C h h0 d_M_sendWith_73 (fun H locs h => ?_)
  refine lv_aload_n hx hb d_M_sendWith_74 rfl (lv_at hl 0 rfl) ?_
  refine lv_dup hx hb d_M_sendWith_75 rfl ?_
  refine g_M_81 C h d_M_sendWith_76 ?_
  refine z_top (y := M 15 0) rfl ?_
  refine lv_iconst (v := 1) hx hb d_M_sendWith_79 (by decide) ?_
  refine lv_iadd hx hb d_M_sendWith_80 ?_
  refine p_M_81 C h d_M_sendWith_81 (fun H locs h => ?_)
  refine lv_aload_n hx hb d_M_sendWith_84 rfl (lv_at hl 0 rfl) ?_
  refine g_M_22 C h d_M_sendWith_85 ?_
  refine lv_iconst (v := 4) hx hb d_M_sendWith_88 (by decide) ?_
  refine lv_iload hx hb d_M_sendWith_89 (lv_at hl 5 rfl) ?_
  refine lv_imul hx hb d_M_sendWith_91 ?_
  refine lv_iload_n hx hb d_M_sendWith_92 rfl (lv_at hl 2 rfl) ?_
  refine lv_iadd hx hb d_M_sendWith_93 ?_
  refine lv_iload_n hx hb d_M_sendWith_94 rfl (lv_at hl 1 rfl) ?_
  refine lv_iconst (v := 5) hx hb d_M_sendWith_95 (by decide) ?_
  refine lv_icmp_ge (tgt := 103) hx hb d_M_sendWith_96 (by decide) (fun hh1 => ?_) (fun hh1 => ?_)
  · skip
    refine lv_aload_n hx hb d_M_sendWith_103 rfl (lv_at hl 0 rfl) ?_
    refine g_M_22 C h d_M_sendWith_104 ?_
    refine lv_iconst (v := 4) hx hb d_M_sendWith_107 (by decide) ?_
    refine lv_iload hx hb d_M_sendWith_108 (lv_at hl 5 rfl) ?_
    refine lv_imul hx hb d_M_sendWith_110 ?_
    refine lv_iload_n hx hb d_M_sendWith_111 rfl (lv_at hl 2 rfl) ?_
    refine lv_iadd hx hb d_M_sendWith_112 ?_
    refine l_M4 C h h1 d_M_sendWith_113 ?_
    refine z_top (y := M 4 (Int32.toNatClampNeg ((4 * r) + a))) rfl ?_
    refine lv_iconst (v := 1) hx hb d_M_sendWith_114 (by decide) ?_
    refine lv_iadd hx hb d_M_sendWith_115 ?_
    refine s_M4 C h h1 d_M_sendWith_116 (fun H locs h => ?_)
    exact z_retvE C h hr hk (by first | rfl | (simp only [m_send, eq_true hh1, ↓reduceIte]; done) | (simp [m_send, eq_true hh1]; done)) (by first | rfl | (simp only [m_send, eq_true hh1, ↓reduceIte]; done) | (simp [m_send, eq_true hh1]; done)) d_M_sendWith_117
  · skip
    refine lv_iconst (v := 1) hx hb d_M_sendWith_99 (by decide) ?_
    refine lv_goto (tgt := 116) hx hb d_M_sendWith_100 (by decide) ?_
    refine s_M4 C h h1 d_M_sendWith_116 (fun H locs h => ?_)
    exact z_retvE C h hr hk (by first | rfl | (simp only [m_send, eq_false hh1, ↓reduceIte]; done) | (simp [m_send, eq_false hh1]; done)) (by first | rfl | (simp only [m_send, eq_false hh1, ↓reduceIte]; done) | (simp [m_send, eq_false hh1]; done)) d_M_sendWith_117
theorem hd_M_send : y_M_send.cls ≠ "java/lang/invoke/MethodHandle" ∧ y_M_send.cls ≠ "java/lang/invoke/VarHandle" ∧ (parseMethodDescriptor y_M_send.desc).map (fun d => d.parameters.length) = some 6 := by decide +kernel
set_option maxHeartbeats 4000000 in
set_option maxRecDepth 100000 in
theorem k_M_send (l : Launch) (dC : Nat → ClassId) (dI : Nat → Nat → Nat) (k : Nat → ClassId) (q : Nat → Nat) (X : zXS) (M : zMS) (w a f t r n : Int32) (h0 : vp_in (M 15 0) 200) (h1 : vp_in (4 * r + a) 16) : zMet l dC dI k q y_M_send c_M_send 7 none 1 27 [.ref (q 37), .int w, .int a, .int f, .int t, .int r, .int n] none X M X (m_send M w a f t r n 0) := by
  refine zMet.of (by decide) (Nat.le_of_ble_eq_true rfl) ?_
  intro p e s m args below meth c ls C hr hk hl h
  have hx := C.1
  have hb := C.2.1
  have hl : lv_has ls 7 [(0, .ref (q 37)), (1, .int w), (2, .int a), (3, .int f), (4, .int t), (5, .int r), (6, .int n)] := hl
  refine lv_aload_n hx hb d_M_send_0 rfl (lv_at hl 0 rfl) ?_
  refine lv_iload_n hx hb d_M_send_1 rfl (lv_at hl 1 rfl) ?_
  refine lv_iload_n hx hb d_M_send_2 rfl (lv_at hl 2 rfl) ?_
  refine lv_iload_n hx hb d_M_send_3 rfl (lv_at hl 3 rfl) ?_
  refine lv_iload hx hb d_M_send_4 (lv_at hl 4 rfl) ?_
  refine lv_iload hx hb d_M_send_6 (lv_at hl 5 rfl) ?_
  refine lv_iload hx hb d_M_send_8 (lv_at hl 6 rfl) ?_
  refine lv_iconst (v := 0) hx hb d_M_send_10 (by decide) ?_
  refine z_callV (i := 37) C h (k_M_sendWith l dC dI k q X M w a f t r n 0 h0 h1) co_M_sendWith ml_M_77 im_M_sendWith se_M_sendWith in_M rfl rfl hd_M_sendWith ⟨by decide, by decide⟩ ⟨Nat.zero_le _, Nat.zero_le _⟩ hl.1 (Nat.le_of_ble_eq_true rfl) d_M_send_11 rfl (fun H locs h => ?_)
  refine W.eq (g2 := F0 m 14 ls []) rfl ?_
  have h : zH dC dI k q X (m_send M w a f t r n 0) (zA q) s.heap H locs := h
  exact z_retvE C h hr hk (by first | rfl | (simp only [↓reduceIte]; done) | (simp []; done)) (by first | rfl | (simp only [↓reduceIte]; done) | (simp []; done)) d_M_send_14
