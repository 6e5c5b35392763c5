theorem hd_S_isCore : y_S_isCore.cls ≠ "java/lang/invoke/MethodHandle" ∧ y_S_isCore.cls ≠ "java/lang/invoke/VarHandle" ∧ (parseMethodDescriptor y_S_isCore.desc).map (fun d => d.parameters.length) = some 1 := by decide +kernel
def r_S_isCore (X : zXS) (M : zMS) (x : Int32) : Int32 := (if x < 0 then 0 else (if 4 ≤ x then 0 else 1))
set_option maxHeartbeats 1000000 in
set_option maxRecDepth 100000 in
theorem k_S_isCore (l : Launch) (dC : Nat → ClassId) (dI : Nat → Nat → Nat) (k : Nat → ClassId) (q : Nat → Nat) (X : zXS) (M : zMS) (x : Int32)   : zMet l dC dI k q y_S_isCore c_S_isCore 1 (some .boolean) 0 0 [.int x] (some (.int (r_S_isCore X M x))) X M X M := by
  refine zMet.of (by decide) (Nat.le_of_ble_eq_true rfl) ?_
  intro p e s m args below meth c ls C hr hk hl h
  have hx := C.1
  have hb := C.2.1
  have hl : lv_has ls 1 [(0, .int x)] := hl
  refine lv_iload_n hx hb d_S_isCore_0 rfl (lv_at hl 0 rfl) ?_
  refine lv_if_lt (tgt := 13) hx hb d_S_isCore_1 (by decide) (fun hh1 => ?_) (fun hh1 => ?_)
  · skip
    refine lv_iconst (v := 0) hx hb d_S_isCore_13 (by decide) ?_
    exact z_retzE C h hr hk (by first | exact Or.inl rfl | exact Or.inr rfl) (by first | rfl | (simp only [r_S_isCore, eq_true hh1, ↓reduceIte]; done) | (simp [r_S_isCore, eq_true hh1]; done)) (by first | rfl | (simp only [r_S_isCore, eq_true hh1, ↓reduceIte]; done) | (simp [r_S_isCore, eq_true hh1]; done)) (by first | rfl | (simp only [r_S_isCore, eq_true hh1, ↓reduceIte]; done) | (simp [r_S_isCore, eq_true hh1]; done)) d_S_isCore_14
  · skip
    refine lv_iload_n hx hb d_S_isCore_4 rfl (lv_at hl 0 rfl) ?_
    refine lv_iconst (v := 4) hx hb d_S_isCore_5 (by decide) ?_
    refine lv_icmp_ge (tgt := 13) hx hb d_S_isCore_6 (by decide) (fun hh2 => ?_) (fun hh2 => ?_)
    · skip
      refine lv_iconst (v := 0) hx hb d_S_isCore_13 (by decide) ?_
      exact z_retzE C h hr hk (by first | exact Or.inl rfl | exact Or.inr rfl) (by first | rfl | (simp only [r_S_isCore, eq_false hh1, eq_true hh2, ↓reduceIte]; done) | (simp [r_S_isCore, eq_false hh1, eq_true hh2]; done)) (by first | rfl | (simp only [r_S_isCore, eq_false hh1, eq_true hh2, ↓reduceIte]; done) | (simp [r_S_isCore, eq_false hh1, eq_true hh2]; done)) (by first | rfl | (simp only [r_S_isCore, eq_false hh1, eq_true hh2, ↓reduceIte]; done) | (simp [r_S_isCore, eq_false hh1, eq_true hh2]; done)) d_S_isCore_14
    · skip
      refine lv_iconst (v := 1) hx hb d_S_isCore_9 (by decide) ?_
      refine lv_goto (tgt := 14) hx hb d_S_isCore_10 (by decide) ?_
      exact z_retzE C h hr hk (by first | exact Or.inl rfl | exact Or.inr rfl) (by first | rfl | (simp only [r_S_isCore, eq_false hh1, eq_false hh2, ↓reduceIte]; done) | (simp [r_S_isCore, eq_false hh1, eq_false hh2]; done)) (by first | rfl | (simp only [r_S_isCore, eq_false hh1, eq_false hh2, ↓reduceIte]; done) | (simp [r_S_isCore, eq_false hh1, eq_false hh2]; done)) (by first | rfl | (simp only [r_S_isCore, eq_false hh1, eq_false hh2, ↓reduceIte]; done) | (simp [r_S_isCore, eq_false hh1, eq_false hh2]; done)) d_S_isCore_14
theorem hd_S_isLine : y_S_isLine.cls ≠ "java/lang/invoke/MethodHandle" ∧ y_S_isLine.cls ≠ "java/lang/invoke/VarHandle" ∧ (parseMethodDescriptor y_S_isLine.desc).map (fun d => d.parameters.length) = some 1 := by decide +kernel
def r_S_isLine (X : zXS) (M : zMS) (x : Int32) : Int32 := (if x < 0 then 0 else (if 4 ≤ x then 0 else 1))
set_option maxHeartbeats 1000000 in
set_option maxRecDepth 100000 in
theorem k_S_isLine (l : Launch) (dC : Nat → ClassId) (dI : Nat → Nat → Nat) (k : Nat → ClassId) (q : Nat → Nat) (X : zXS) (M : zMS) (x : Int32)   : zMet l dC dI k q y_S_isLine c_S_isLine 1 (some .boolean) 0 0 [.int x] (some (.int (r_S_isLine X M x))) X M X M := by
  refine zMet.of (by decide) (Nat.le_of_ble_eq_true rfl) ?_
  intro p e s m args below meth c ls C hr hk hl h
  have hx := C.1
  have hb := C.2.1
  have hl : lv_has ls 1 [(0, .int x)] := hl
  refine lv_iload_n hx hb d_S_isLine_0 rfl (lv_at hl 0 rfl) ?_
  refine lv_if_lt (tgt := 13) hx hb d_S_isLine_1 (by decide) (fun hh1 => ?_) (fun hh1 => ?_)
  · skip
    refine lv_iconst (v := 0) hx hb d_S_isLine_13 (by decide) ?_
    exact z_retzE C h hr hk (by first | exact Or.inl rfl | exact Or.inr rfl) (by first | rfl | (simp only [r_S_isLine, eq_true hh1, ↓reduceIte]; done) | (simp [r_S_isLine, eq_true hh1]; done)) (by first | rfl | (simp only [r_S_isLine, eq_true hh1, ↓reduceIte]; done) | (simp [r_S_isLine, eq_true hh1]; done)) (by first | rfl | (simp only [r_S_isLine, eq_true hh1, ↓reduceIte]; done) | (simp [r_S_isLine, eq_true hh1]; done)) d_S_isLine_14
  · skip
    refine lv_iload_n hx hb d_S_isLine_4 rfl (lv_at hl 0 rfl) ?_
    refine lv_iconst (v := 4) hx hb d_S_isLine_5 (by decide) ?_
    refine lv_icmp_ge (tgt := 13) hx hb d_S_isLine_6 (by decide) (fun hh2 => ?_) (fun hh2 => ?_)
    · skip
      refine lv_iconst (v := 0) hx hb d_S_isLine_13 (by decide) ?_
      exact z_retzE C h hr hk (by first | exact Or.inl rfl | exact Or.inr rfl) (by first | rfl | (simp only [r_S_isLine, eq_false hh1, eq_true hh2, ↓reduceIte]; done) | (simp [r_S_isLine, eq_false hh1, eq_true hh2]; done)) (by first | rfl | (simp only [r_S_isLine, eq_false hh1, eq_true hh2, ↓reduceIte]; done) | (simp [r_S_isLine, eq_false hh1, eq_true hh2]; done)) (by first | rfl | (simp only [r_S_isLine, eq_false hh1, eq_true hh2, ↓reduceIte]; done) | (simp [r_S_isLine, eq_false hh1, eq_true hh2]; done)) d_S_isLine_14
    · skip
      refine lv_iconst (v := 1) hx hb d_S_isLine_9 (by decide) ?_
      refine lv_goto (tgt := 14) hx hb d_S_isLine_10 (by decide) ?_
      exact z_retzE C h hr hk (by first | exact Or.inl rfl | exact Or.inr rfl) (by first | rfl | (simp only [r_S_isLine, eq_false hh1, eq_false hh2, ↓reduceIte]; done) | (simp [r_S_isLine, eq_false hh1, eq_false hh2]; done)) (by first | rfl | (simp only [r_S_isLine, eq_false hh1, eq_false hh2, ↓reduceIte]; done) | (simp [r_S_isLine, eq_false hh1, eq_false hh2]; done)) (by first | rfl | (simp only [r_S_isLine, eq_false hh1, eq_false hh2, ↓reduceIte]; done) | (simp [r_S_isLine, eq_false hh1, eq_false hh2]; done)) d_S_isLine_14
theorem hd_S_isCopy : y_S_isCopy.cls ≠ "java/lang/invoke/MethodHandle" ∧ y_S_isCopy.cls ≠ "java/lang/invoke/VarHandle" ∧ (parseMethodDescriptor y_S_isCopy.desc).map (fun d => d.parameters.length) = some 2 := by decide +kernel
def r_S_isCopy (X : zXS) (M : zMS) (co : Int32) (a : Int32) : Int32 := (if (r_S_isCore X M co) = 0 then 0 else (if (r_S_isLine X M a) = 0 then 0 else 1))
set_option maxHeartbeats 1000000 in
set_option maxRecDepth 100000 in
theorem k_S_isCopy (l : Launch) (dC : Nat → ClassId) (dI : Nat → Nat → Nat) (k : Nat → ClassId) (q : Nat → Nat) (X : zXS) (M : zMS) (co : Int32) (a : Int32)   : zMet l dC dI k q y_S_isCopy c_S_isCopy 2 (some .boolean) 1 20 [.int co, .int a] (some (.int (r_S_isCopy X M co a))) X M X M := by
  refine zMet.of (by decide) (Nat.le_of_ble_eq_true rfl) ?_
  intro p e s m args below meth c ls C hr hk hl h
  have hx := C.1
  have hb := C.2.1
  have hl : lv_has ls 2 [(0, .int co), (1, .int a)] := hl
  refine lv_iload_n hx hb d_S_isCopy_0 rfl (lv_at hl 0 rfl) ?_
  refine z_callS C h (k_S_isCore l dC dI k q X M co ) co_S_isCore ml_S_84 sc_S_isCore in_S hd_S_isCore ⟨by decide, by decide⟩ ⟨Nat.zero_le _, Nat.zero_le _⟩ hl.1 (Nat.le_of_ble_eq_true rfl) d_S_isCopy_1 rfl (fun H locs h => ?_)
  refine W.eq (g2 := F0 m 4 ls [.int (r_S_isCore X M co)]) rfl ?_
  have h : zH dC dI k q X M (zA q) s.heap H locs := h
  refine lv_if_eq (tgt := 18) hx hb d_S_isCopy_4 (by decide) (fun hh1 => ?_) (fun hh1 => ?_)
  · skip
    refine lv_iconst (v := 0) hx hb d_S_isCopy_18 (by decide) ?_
    exact z_retzE C h hr hk (by first | exact Or.inl rfl | exact Or.inr rfl) (by first | rfl | (simp only [r_S_isCopy, eq_true hh1, ↓reduceIte]; done) | (simp [r_S_isCopy, eq_true hh1]; done)) (by first | rfl | (simp only [r_S_isCopy, eq_true hh1, ↓reduceIte]; done) | (simp [r_S_isCopy, eq_true hh1]; done)) (by first | rfl | (simp only [r_S_isCopy, eq_true hh1, ↓reduceIte]; done) | (simp [r_S_isCopy, eq_true hh1]; done)) d_S_isCopy_19
  · skip
    refine lv_iload_n hx hb d_S_isCopy_7 rfl (lv_at hl 1 rfl) ?_
    refine z_callS C h (k_S_isLine l dC dI k q X M a ) co_S_isLine ml_S_75 sc_S_isLine in_S hd_S_isLine ⟨by decide, by decide⟩ ⟨Nat.zero_le _, Nat.zero_le _⟩ hl.1 (Nat.le_of_ble_eq_true rfl) d_S_isCopy_8 rfl (fun H locs h => ?_)
    refine W.eq (g2 := F0 m 11 ls [.int (r_S_isLine X M a)]) rfl ?_
    have h : zH dC dI k q X M (zA q) s.heap H locs := h
    refine lv_if_eq (tgt := 18) hx hb d_S_isCopy_11 (by decide) (fun hh2 => ?_) (fun hh2 => ?_)
    · skip
      refine lv_iconst (v := 0) hx hb d_S_isCopy_18 (by decide) ?_
      exact z_retzE C h hr hk (by first | exact Or.inl rfl | exact Or.inr rfl) (by first | rfl | (simp only [r_S_isCopy, eq_false hh1, eq_true hh2, ↓reduceIte]; done) | (simp [r_S_isCopy, eq_false hh1, eq_true hh2]; done)) (by first | rfl | (simp only [r_S_isCopy, eq_false hh1, eq_true hh2, ↓reduceIte]; done) | (simp [r_S_isCopy, eq_false hh1, eq_true hh2]; done)) (by first | rfl | (simp only [r_S_isCopy, eq_false hh1, eq_true hh2, ↓reduceIte]; done) | (simp [r_S_isCopy, eq_false hh1, eq_true hh2]; done)) d_S_isCopy_19
    · skip
      refine lv_iconst (v := 1) hx hb d_S_isCopy_14 (by decide) ?_
      refine lv_goto (tgt := 19) hx hb d_S_isCopy_15 (by decide) ?_
      exact z_retzE C h hr hk (by first | exact Or.inl rfl | exact Or.inr rfl) (by first | rfl | (simp only [r_S_isCopy, eq_false hh1, eq_false hh2, ↓reduceIte]; done) | (simp [r_S_isCopy, eq_false hh1, eq_false hh2]; done)) (by first | rfl | (simp only [r_S_isCopy, eq_false hh1, eq_false hh2, ↓reduceIte]; done) | (simp [r_S_isCopy, eq_false hh1, eq_false hh2]; done)) (by first | rfl | (simp only [r_S_isCopy, eq_false hh1, eq_false hh2, ↓reduceIte]; done) | (simp [r_S_isCopy, eq_false hh1, eq_false hh2]; done)) d_S_isCopy_19
theorem core_in {X : zXS} {M : zMS} {x : Int32} (h : ¬ r_S_isCore X M x = 0) : vp_in x 4 := by
  unfold r_S_isCore at h
  split at h
  · exact absurd rfl h
  · next h1 =>
    split at h
    · exact absurd rfl h
    · next h2 =>
      rw [vp_in_iff]
      rw [Int32.lt_iff_toInt_lt] at h1
      rw [Int32.le_iff_toInt_le] at h2
      have e4 : (4 : Int32).toInt = 4 := rfl
      have e0 : (0 : Int32).toInt = 0 := rfl
      omega
theorem line_in {X : zXS} {M : zMS} {x : Int32} (h : ¬ r_S_isLine X M x = 0) : vp_in x 4 := core_in (X := X) (M := M) h
theorem copy_in {X : zXS} {M : zMS} {co a : Int32} (h : ¬ r_S_isCopy X M co a = 0) : vp_in co 4 ∧ vp_in a 4 := by
  unfold r_S_isCopy at h
  split at h
  · exact absurd rfl h
  · next h1 =>
    split at h
    · exact absurd rfl h
    · next h2 => exact ⟨core_in h1, line_in h2⟩
theorem has_in {X : zXS} {M : zMS} {x : Int32} (h : ¬ r_A_has X M x = 0) : ¬ x < 0 ∧ x < X 2 0 0 := by
  unfold r_A_has at h
  split at h
  · exact absurd rfl h
  · next h1 =>
    split at h
    · exact absurd rfl h
    · next h2 => exact ⟨h1, Int32.not_le.mp h2⟩
theorem le5_in {x : Int32} (h0 : ¬ x < 0) (h : x ≤ 5) : vp_in x 7 := by
  rw [vp_in_iff]
  rw [Int32.lt_iff_toInt_lt] at h0
  rw [Int32.le_iff_toInt_le] at h
  have e5 : (5 : Int32).toInt = 5 := rfl
  have e0 : (0 : Int32).toInt = 0 := rfl
  omega
theorem rm_ok {X : zXS} {n lo hi kk : Nat} (h : zCR X n lo hi) (hk : kk < n) (hb : n + hi ≤ 64) : kk ≤ (Int32.toNatClampNeg (X 2 0 0)) - 1 ∧ (Int32.toNatClampNeg (X 2 0 0)) - 1 < 64 ∧ X 2 0 0 = nI (((Int32.toNatClampNeg (X 2 0 0)) - 1) + 1) := by
  obtain ⟨j, h1, h2, h3⟩ := h
  have e : Int32.toNatClampNeg (X 2 0 0) = n + j := rows_cl h3 (by omega)
  rw [e]
  exact ⟨by omega, by omega, by rw [h3]; congr 1; omega⟩
theorem hd_S_load : y_S_load.cls ≠ "java/lang/invoke/MethodHandle" ∧ y_S_load.cls ≠ "java/lang/invoke/VarHandle" ∧ (parseMethodDescriptor y_S_load.desc).map (fun d => d.parameters.length) = some 2 := by decide +kernel
def r_S_load (X : zXS) (M : zMS) (co : Int32) (a : Int32) : Int32 := (if (r_S_isCopy X M co a) = 0 then (-1) else (r_C_start X M (Int32.toNatClampNeg co) 0 a 0))
def x_S_load (X : zXS) (M : zMS) (co : Int32) (a : Int32) : zXS := (if (r_S_isCopy X M co a) = 0 then X else (x_C_start X M (Int32.toNatClampNeg co) 0 a 0))
set_option maxHeartbeats 1000000 in
set_option maxRecDepth 100000 in
theorem k_S_load (l : Launch) (dC : Nat → ClassId) (dI : Nat → Nat → Nat) (k : Nat → ClassId) (q : Nat → Nat) (X : zXS) (M : zMS) (co : Int32) (a : Int32)  (n : Nat) (hn : X 2 0 0 = nI n) (hb9 : n + 6 ≤ 64) : zMet l dC dI k q y_S_load c_S_load 3 (some .int) 3 71 [.ref (q 0), .int co, .int a] (some (.int (r_S_load X M co a))) X M (x_S_load X M co a) M := by
  refine zMet.of (by decide) (Nat.le_of_ble_eq_true rfl) ?_
  intro p e s m args below meth c ls C hr hk hl h
  have hx := C.1
  have hb := C.2.1
  have hl : lv_has ls 3 [(0, .ref (q 0)), (1, .int co), (2, .int a)] := hl
  refine lv_iload_n hx hb d_S_load_0 rfl (lv_at hl 1 rfl) ?_
  refine lv_iload_n hx hb d_S_load_1 rfl (lv_at hl 2 rfl) ?_
  refine z_callS C h (k_S_isCopy l dC dI k q X M co a ) co_S_isCopy ml_S_34 sc_S_isCopy in_S hd_S_isCopy ⟨by decide, by decide⟩ ⟨Nat.zero_le _, Nat.zero_le _⟩ hl.1 (Nat.le_of_ble_eq_true rfl) d_S_load_2 rfl (fun H locs h => ?_)
  refine W.eq (g2 := F0 m 5 ls [.int (r_S_isCopy X M co a)]) rfl ?_
  have h : zH dC dI k q X M (zA q) s.heap H locs := h
  refine lv_if_eq (tgt := 23) hx hb d_S_load_5 (by decide) (fun hh1 => ?_) (fun hh1 => ?_)
  · skip
    refine lv_iconst (v := -1) hx hb d_S_load_23 (by decide) ?_
    exact z_retE C h hr hk (by first | rfl | (simp only [r_S_load, x_S_load, eq_true hh1, ↓reduceIte]; done) | (simp [r_S_load, x_S_load, eq_true hh1]; done)) (by first | rfl | (simp only [r_S_load, x_S_load, eq_true hh1, ↓reduceIte]; done) | (simp [r_S_load, x_S_load, eq_true hh1]; done)) (by first | rfl | (simp only [r_S_load, x_S_load, eq_true hh1, ↓reduceIte]; done) | (simp [r_S_load, x_S_load, eq_true hh1]; done)) d_S_load_24
  · skip
    refine lv_aload_n hx hb d_S_load_8 rfl (lv_at hl 0 rfl) ?_
    refine g_S_27 C h d_S_load_9 ?_
    refine lv_iload_n hx hb d_S_load_12 rfl (lv_at hl 1 rfl) ?_
    refine z_lc C h (copy_in hh1).1 d_S_load_13 ?_
    refine lv_iconst (v := 0) hx hb d_S_load_14 (by decide) ?_
    refine lv_iload_n hx hb d_S_load_15 rfl (lv_at hl 2 rfl) ?_
    refine lv_iconst (v := 0) hx hb d_S_load_16 (by decide) ?_
    refine z_callV (i := 16 + 4 * (Int32.toNatClampNeg co)) C h (k_C_start l dC dI k q X M (Int32.toNatClampNeg co) 0 a 0 (vp_lt (copy_in hh1).1) (copy_in hh1).2 n hn (by omega)) co_C_start ml_S_38 im_C_start se_C_start in_C (zW_core (vp_lt (copy_in hh1).1)) rfl hd_C_start ⟨by decide, by decide⟩ ⟨Nat.zero_le _, Nat.zero_le _⟩ hl.1 (Nat.le_of_ble_eq_true rfl) d_S_load_17 rfl (fun H locs h => ?_)
    refine W.eq (g2 := F0 m 20 ls [.int (r_C_start X M (Int32.toNatClampNeg co) 0 a 0)]) rfl ?_
    have h : zH dC dI k q (x_C_start X M (Int32.toNatClampNeg co) 0 a 0) M (zA q) s.heap H locs := h
    refine lv_goto (tgt := 24) hx hb d_S_load_20 (by decide) ?_
    exact z_retE C h hr hk (by first | rfl | (simp only [r_S_load, x_S_load, eq_false hh1, ↓reduceIte]; done) | (simp [r_S_load, x_S_load, eq_false hh1]; done)) (by first | rfl | (simp only [r_S_load, x_S_load, eq_false hh1, ↓reduceIte]; done) | (simp [r_S_load, x_S_load, eq_false hh1]; done)) (by first | rfl | (simp only [r_S_load, x_S_load, eq_false hh1, ↓reduceIte]; done) | (simp [r_S_load, x_S_load, eq_false hh1]; done)) d_S_load_24
theorem hd_S_store : y_S_store.cls ≠ "java/lang/invoke/MethodHandle" ∧ y_S_store.cls ≠ "java/lang/invoke/VarHandle" ∧ (parseMethodDescriptor y_S_store.desc).map (fun d => d.parameters.length) = some 3 := by decide +kernel
def r_S_store (X : zXS) (M : zMS) (co : Int32) (a : Int32) (v : Int32) : Int32 := (if (r_S_isCopy X M co a) = 0 then (-1) else (r_C_start X M (Int32.toNatClampNeg co) 1 a v))
def x_S_store (X : zXS) (M : zMS) (co : Int32) (a : Int32) (v : Int32) : zXS := (if (r_S_isCopy X M co a) = 0 then X else (x_C_start X M (Int32.toNatClampNeg co) 1 a v))
set_option maxHeartbeats 1000000 in
set_option maxRecDepth 100000 in
theorem k_S_store (l : Launch) (dC : Nat → ClassId) (dI : Nat → Nat → Nat) (k : Nat → ClassId) (q : Nat → Nat) (X : zXS) (M : zMS) (co : Int32) (a : Int32) (v : Int32)  (n : Nat) (hn : X 2 0 0 = nI n) (hb9 : n + 6 ≤ 64) : zMet l dC dI k q y_S_store c_S_store 4 (some .int) 3 71 [.ref (q 0), .int co, .int a, .int v] (some (.int (r_S_store X M co a v))) X M (x_S_store X M co a v) M := by
  refine zMet.of (by decide) (Nat.le_of_ble_eq_true rfl) ?_
  intro p e s m args below meth c ls C hr hk hl h
  have hx := C.1
  have hb := C.2.1
  have hl : lv_has ls 4 [(0, .ref (q 0)), (1, .int co), (2, .int a), (3, .int v)] := hl
  refine lv_iload_n hx hb d_S_store_0 rfl (lv_at hl 1 rfl) ?_
  refine lv_iload_n hx hb d_S_store_1 rfl (lv_at hl 2 rfl) ?_
  refine z_callS C h (k_S_isCopy l dC dI k q X M co a ) co_S_isCopy ml_S_34 sc_S_isCopy in_S hd_S_isCopy ⟨by decide, by decide⟩ ⟨Nat.zero_le _, Nat.zero_le _⟩ hl.1 (Nat.le_of_ble_eq_true rfl) d_S_store_2 rfl (fun H locs h => ?_)
  refine W.eq (g2 := F0 m 5 ls [.int (r_S_isCopy X M co a)]) rfl ?_
  have h : zH dC dI k q X M (zA q) s.heap H locs := h
  refine lv_if_eq (tgt := 23) hx hb d_S_store_5 (by decide) (fun hh1 => ?_) (fun hh1 => ?_)
  · skip
    refine lv_iconst (v := -1) hx hb d_S_store_23 (by decide) ?_
    exact z_retE C h hr hk (by first | rfl | (simp only [r_S_store, x_S_store, eq_true hh1, ↓reduceIte]; done) | (simp [r_S_store, x_S_store, eq_true hh1]; done)) (by first | rfl | (simp only [r_S_store, x_S_store, eq_true hh1, ↓reduceIte]; done) | (simp [r_S_store, x_S_store, eq_true hh1]; done)) (by first | rfl | (simp only [r_S_store, x_S_store, eq_true hh1, ↓reduceIte]; done) | (simp [r_S_store, x_S_store, eq_true hh1]; done)) d_S_store_24
  · skip
    refine lv_aload_n hx hb d_S_store_8 rfl (lv_at hl 0 rfl) ?_
    refine g_S_27 C h d_S_store_9 ?_
    refine lv_iload_n hx hb d_S_store_12 rfl (lv_at hl 1 rfl) ?_
    refine z_lc C h (copy_in hh1).1 d_S_store_13 ?_
    refine lv_iconst (v := 1) hx hb d_S_store_14 (by decide) ?_
    refine lv_iload_n hx hb d_S_store_15 rfl (lv_at hl 2 rfl) ?_
    refine lv_iload_n hx hb d_S_store_16 rfl (lv_at hl 3 rfl) ?_
    refine z_callV (i := 16 + 4 * (Int32.toNatClampNeg co)) C h (k_C_start l dC dI k q X M (Int32.toNatClampNeg co) 1 a v (vp_lt (copy_in hh1).1) (copy_in hh1).2 n hn (by omega)) co_C_start ml_S_38 im_C_start se_C_start in_C (zW_core (vp_lt (copy_in hh1).1)) rfl hd_C_start ⟨by decide, by decide⟩ ⟨Nat.zero_le _, Nat.zero_le _⟩ hl.1 (Nat.le_of_ble_eq_true rfl) d_S_store_17 rfl (fun H locs h => ?_)
    refine W.eq (g2 := F0 m 20 ls [.int (r_C_start X M (Int32.toNatClampNeg co) 1 a v)]) rfl ?_
    have h : zH dC dI k q (x_C_start X M (Int32.toNatClampNeg co) 1 a v) M (zA q) s.heap H locs := h
    refine lv_goto (tgt := 24) hx hb d_S_store_20 (by decide) ?_
    exact z_retE C h hr hk (by first | rfl | (simp only [r_S_store, x_S_store, eq_false hh1, ↓reduceIte]; done) | (simp [r_S_store, x_S_store, eq_false hh1]; done)) (by first | rfl | (simp only [r_S_store, x_S_store, eq_false hh1, ↓reduceIte]; done) | (simp [r_S_store, x_S_store, eq_false hh1]; done)) (by first | rfl | (simp only [r_S_store, x_S_store, eq_false hh1, ↓reduceIte]; done) | (simp [r_S_store, x_S_store, eq_false hh1]; done)) d_S_store_24
theorem hd_S_add : y_S_add.cls ≠ "java/lang/invoke/MethodHandle" ∧ y_S_add.cls ≠ "java/lang/invoke/VarHandle" ∧ (parseMethodDescriptor y_S_add.desc).map (fun d => d.parameters.length) = some 3 := by decide +kernel
def r_S_add (X : zXS) (M : zMS) (co : Int32) (a : Int32) (v : Int32) : Int32 := (if (r_S_isCopy X M co a) = 0 then (-1) else (r_C_start X M (Int32.toNatClampNeg co) 2 a v))
def x_S_add (X : zXS) (M : zMS) (co : Int32) (a : Int32) (v : Int32) : zXS := (if (r_S_isCopy X M co a) = 0 then X else (x_C_start X M (Int32.toNatClampNeg co) 2 a v))
set_option maxHeartbeats 1000000 in
set_option maxRecDepth 100000 in
theorem k_S_add (l : Launch) (dC : Nat → ClassId) (dI : Nat → Nat → Nat) (k : Nat → ClassId) (q : Nat → Nat) (X : zXS) (M : zMS) (co : Int32) (a : Int32) (v : Int32)  (n : Nat) (hn : X 2 0 0 = nI n) (hb9 : n + 6 ≤ 64) : zMet l dC dI k q y_S_add c_S_add 4 (some .int) 3 71 [.ref (q 0), .int co, .int a, .int v] (some (.int (r_S_add X M co a v))) X M (x_S_add X M co a v) M := by
  refine zMet.of (by decide) (Nat.le_of_ble_eq_true rfl) ?_
  intro p e s m args below meth c ls C hr hk hl h
  have hx := C.1
  have hb := C.2.1
  have hl : lv_has ls 4 [(0, .ref (q 0)), (1, .int co), (2, .int a), (3, .int v)] := hl
  refine lv_iload_n hx hb d_S_add_0 rfl (lv_at hl 1 rfl) ?_
  refine lv_iload_n hx hb d_S_add_1 rfl (lv_at hl 2 rfl) ?_
  refine z_callS C h (k_S_isCopy l dC dI k q X M co a ) co_S_isCopy ml_S_34 sc_S_isCopy in_S hd_S_isCopy ⟨by decide, by decide⟩ ⟨Nat.zero_le _, Nat.zero_le _⟩ hl.1 (Nat.le_of_ble_eq_true rfl) d_S_add_2 rfl (fun H locs h => ?_)
  refine W.eq (g2 := F0 m 5 ls [.int (r_S_isCopy X M co a)]) rfl ?_
  have h : zH dC dI k q X M (zA q) s.heap H locs := h
  refine lv_if_eq (tgt := 23) hx hb d_S_add_5 (by decide) (fun hh1 => ?_) (fun hh1 => ?_)
  · skip
    refine lv_iconst (v := -1) hx hb d_S_add_23 (by decide) ?_
    exact z_retE C h hr hk (by first | rfl | (simp only [r_S_add, x_S_add, eq_true hh1, ↓reduceIte]; done) | (simp [r_S_add, x_S_add, eq_true hh1]; done)) (by first | rfl | (simp only [r_S_add, x_S_add, eq_true hh1, ↓reduceIte]; done) | (simp [r_S_add, x_S_add, eq_true hh1]; done)) (by first | rfl | (simp only [r_S_add, x_S_add, eq_true hh1, ↓reduceIte]; done) | (simp [r_S_add, x_S_add, eq_true hh1]; done)) d_S_add_24
  · skip
    refine lv_aload_n hx hb d_S_add_8 rfl (lv_at hl 0 rfl) ?_
    refine g_S_27 C h d_S_add_9 ?_
    refine lv_iload_n hx hb d_S_add_12 rfl (lv_at hl 1 rfl) ?_
    refine z_lc C h (copy_in hh1).1 d_S_add_13 ?_
    refine lv_iconst (v := 2) hx hb d_S_add_14 (by decide) ?_
    refine lv_iload_n hx hb d_S_add_15 rfl (lv_at hl 2 rfl) ?_
    refine lv_iload_n hx hb d_S_add_16 rfl (lv_at hl 3 rfl) ?_
    refine z_callV (i := 16 + 4 * (Int32.toNatClampNeg co)) C h (k_C_start l dC dI k q X M (Int32.toNatClampNeg co) 2 a v (vp_lt (copy_in hh1).1) (copy_in hh1).2 n hn (by omega)) co_C_start ml_S_38 im_C_start se_C_start in_C (zW_core (vp_lt (copy_in hh1).1)) rfl hd_C_start ⟨by decide, by decide⟩ ⟨Nat.zero_le _, Nat.zero_le _⟩ hl.1 (Nat.le_of_ble_eq_true rfl) d_S_add_17 rfl (fun H locs h => ?_)
    refine W.eq (g2 := F0 m 20 ls [.int (r_C_start X M (Int32.toNatClampNeg co) 2 a v)]) rfl ?_
    have h : zH dC dI k q (x_C_start X M (Int32.toNatClampNeg co) 2 a v) M (zA q) s.heap H locs := h
    refine lv_goto (tgt := 24) hx hb d_S_add_20 (by decide) ?_
    exact z_retE C h hr hk (by first | rfl | (simp only [r_S_add, x_S_add, eq_false hh1, ↓reduceIte]; done) | (simp [r_S_add, x_S_add, eq_false hh1]; done)) (by first | rfl | (simp only [r_S_add, x_S_add, eq_false hh1, ↓reduceIte]; done) | (simp [r_S_add, x_S_add, eq_false hh1]; done)) (by first | rfl | (simp only [r_S_add, x_S_add, eq_false hh1, ↓reduceIte]; done) | (simp [r_S_add, x_S_add, eq_false hh1]; done)) d_S_add_24
theorem hd_S_leave : y_S_leave.cls ≠ "java/lang/invoke/MethodHandle" ∧ y_S_leave.cls ≠ "java/lang/invoke/VarHandle" ∧ (parseMethodDescriptor y_S_leave.desc).map (fun d => d.parameters.length) = some 2 := by decide +kernel
def r_S_leave (X : zXS) (M : zMS) (co : Int32) (a : Int32) : Int32 := (if (r_S_isCopy X M co a) = 0 then (-1) else (r_C_giveUp X M (Int32.toNatClampNeg co) a))
def x_S_leave (X : zXS) (M : zMS) (co : Int32) (a : Int32) : zXS := (if (r_S_isCopy X M co a) = 0 then X else (x_C_giveUp X M (Int32.toNatClampNeg co) a))
set_option maxHeartbeats 1000000 in
set_option maxRecDepth 100000 in
theorem k_S_leave (l : Launch) (dC : Nat → ClassId) (dI : Nat → Nat → Nat) (k : Nat → ClassId) (q : Nat → Nat) (X : zXS) (M : zMS) (co : Int32) (a : Int32)  (n : Nat) (hn : X 2 0 0 = nI n) (hb9 : n + 6 ≤ 64) : zMet l dC dI k q y_S_leave c_S_leave 3 (some .int) 3 72 [.ref (q 0), .int co, .int a] (some (.int (r_S_leave X M co a))) X M (x_S_leave X M co a) M := by
  refine zMet.of (by decide) (Nat.le_of_ble_eq_true rfl) ?_
  intro p e s m args below meth c ls C hr hk hl h
  have hx := C.1
  have hb := C.2.1
  have hl : lv_has ls 3 [(0, .ref (q 0)), (1, .int co), (2, .int a)] := hl
  refine lv_iload_n hx hb d_S_leave_0 rfl (lv_at hl 1 rfl) ?_
  refine lv_iload_n hx hb d_S_leave_1 rfl (lv_at hl 2 rfl) ?_
  refine z_callS C h (k_S_isCopy l dC dI k q X M co a ) co_S_isCopy ml_S_34 sc_S_isCopy in_S hd_S_isCopy ⟨by decide, by decide⟩ ⟨Nat.zero_le _, Nat.zero_le _⟩ hl.1 (Nat.le_of_ble_eq_true rfl) d_S_leave_2 rfl (fun H locs h => ?_)
  refine W.eq (g2 := F0 m 5 ls [.int (r_S_isCopy X M co a)]) rfl ?_
  have h : zH dC dI k q X M (zA q) s.heap H locs := h
  refine lv_if_eq (tgt := 21) hx hb d_S_leave_5 (by decide) (fun hh1 => ?_) (fun hh1 => ?_)
  · skip
    refine lv_iconst (v := -1) hx hb d_S_leave_21 (by decide) ?_
    exact z_retE C h hr hk (by first | rfl | (simp only [r_S_leave, x_S_leave, eq_true hh1, ↓reduceIte]; done) | (simp [r_S_leave, x_S_leave, eq_true hh1]; done)) (by first | rfl | (simp only [r_S_leave, x_S_leave, eq_true hh1, ↓reduceIte]; done) | (simp [r_S_leave, x_S_leave, eq_true hh1]; done)) (by first | rfl | (simp only [r_S_leave, x_S_leave, eq_true hh1, ↓reduceIte]; done) | (simp [r_S_leave, x_S_leave, eq_true hh1]; done)) d_S_leave_22
  · skip
    refine lv_aload_n hx hb d_S_leave_8 rfl (lv_at hl 0 rfl) ?_
    refine g_S_27 C h d_S_leave_9 ?_
    refine lv_iload_n hx hb d_S_leave_12 rfl (lv_at hl 1 rfl) ?_
    refine z_lc C h (copy_in hh1).1 d_S_leave_13 ?_
    refine lv_iload_n hx hb d_S_leave_14 rfl (lv_at hl 2 rfl) ?_
    refine z_callV (i := 16 + 4 * (Int32.toNatClampNeg co)) C h (k_C_giveUp l dC dI k q X M (Int32.toNatClampNeg co) a (vp_lt (copy_in hh1).1) (copy_in hh1).2 n hn (by omega)) co_C_giveUp ml_S_42 im_C_giveUp se_C_giveUp in_C (zW_core (vp_lt (copy_in hh1).1)) rfl hd_C_giveUp ⟨by decide, by decide⟩ ⟨Nat.zero_le _, Nat.zero_le _⟩ hl.1 (Nat.le_of_ble_eq_true rfl) d_S_leave_15 rfl (fun H locs h => ?_)
    refine W.eq (g2 := F0 m 18 ls [.int (r_C_giveUp X M (Int32.toNatClampNeg co) a)]) rfl ?_
    have h : zH dC dI k q (x_C_giveUp X M (Int32.toNatClampNeg co) a) M (zA q) s.heap H locs := h
    refine lv_goto (tgt := 22) hx hb d_S_leave_18 (by decide) ?_
    exact z_retE C h hr hk (by first | rfl | (simp only [r_S_leave, x_S_leave, eq_false hh1, ↓reduceIte]; done) | (simp [r_S_leave, x_S_leave, eq_false hh1]; done)) (by first | rfl | (simp only [r_S_leave, x_S_leave, eq_false hh1, ↓reduceIte]; done) | (simp [r_S_leave, x_S_leave, eq_false hh1]; done)) (by first | rfl | (simp only [r_S_leave, x_S_leave, eq_false hh1, ↓reduceIte]; done) | (simp [r_S_leave, x_S_leave, eq_false hh1]; done)) d_S_leave_22
theorem hd_S_state : y_S_state.cls ≠ "java/lang/invoke/MethodHandle" ∧ y_S_state.cls ≠ "java/lang/invoke/VarHandle" ∧ (parseMethodDescriptor y_S_state.desc).map (fun d => d.parameters.length) = some 2 := by decide +kernel
def r_S_state (X : zXS) (M : zMS) (co : Int32) (a : Int32) : Int32 := (if (r_S_isCopy X M co a) = 0 then (-1) else (X 3 (Int32.toNatClampNeg co) (Int32.toNatClampNeg a)))
set_option maxHeartbeats 1000000 in
set_option maxRecDepth 100000 in
theorem k_S_state (l : Launch) (dC : Nat → ClassId) (dI : Nat → Nat → Nat) (k : Nat → ClassId) (q : Nat → Nat) (X : zXS) (M : zMS) (co : Int32) (a : Int32)   : zMet l dC dI k q y_S_state c_S_state 3 (some .int) 2 41 [.ref (q 0), .int co, .int a] (some (.int (r_S_state X M co a))) X M X M := by
  refine zMet.of (by decide) (Nat.le_of_ble_eq_true rfl) ?_
  intro p e s m args below meth c ls C hr hk hl h
  have hx := C.1
  have hb := C.2.1
  have hl : lv_has ls 3 [(0, .ref (q 0)), (1, .int co), (2, .int a)] := hl
  refine lv_iload_n hx hb d_S_state_0 rfl (lv_at hl 1 rfl) ?_
  refine lv_iload_n hx hb d_S_state_1 rfl (lv_at hl 2 rfl) ?_
  refine z_callS C h (k_S_isCopy l dC dI k q X M co a ) co_S_isCopy ml_S_34 sc_S_isCopy in_S hd_S_isCopy ⟨by decide, by decide⟩ ⟨Nat.zero_le _, Nat.zero_le _⟩ hl.1 (Nat.le_of_ble_eq_true rfl) d_S_state_2 rfl (fun H locs h => ?_)
  refine W.eq (g2 := F0 m 5 ls [.int (r_S_isCopy X M co a)]) rfl ?_
  have h : zH dC dI k q X M (zA q) s.heap H locs := h
  refine lv_if_eq (tgt := 22) hx hb d_S_state_5 (by decide) (fun hh1 => ?_) (fun hh1 => ?_)
  · skip
    refine lv_iconst (v := -1) hx hb d_S_state_22 (by decide) ?_
    exact z_retE C h hr hk (by first | rfl | (simp only [r_S_state, eq_true hh1, ↓reduceIte]; done) | (simp [r_S_state, eq_true hh1]; done)) (by first | rfl | (simp only [r_S_state, eq_true hh1, ↓reduceIte]; done) | (simp [r_S_state, eq_true hh1]; done)) (by first | rfl | (simp only [r_S_state, eq_true hh1, ↓reduceIte]; done) | (simp [r_S_state, eq_true hh1]; done)) d_S_state_23
  · skip
    refine lv_aload_n hx hb d_S_state_8 rfl (lv_at hl 0 rfl) ?_
    refine g_S_27 C h d_S_state_9 ?_
    refine lv_iload_n hx hb d_S_state_12 rfl (lv_at hl 1 rfl) ?_
    refine z_lc C h (copy_in hh1).1 d_S_state_13 ?_
    refine g_S_65 C h (j0 := (Int32.toNatClampNeg co)) (vp_lt (copy_in hh1).1) d_S_state_14 ?_
    refine lv_iload_n hx hb d_S_state_17 rfl (lv_at hl 2 rfl) ?_
    refine l_st C h (j0 := (Int32.toNatClampNeg co)) (vp_lt (copy_in hh1).1) (copy_in hh1).2 d_S_state_18 ?_
    refine lv_goto (tgt := 23) hx hb d_S_state_19 (by decide) ?_
    exact z_retE C h hr hk (by first | rfl | (simp only [r_S_state, eq_false hh1, ↓reduceIte]; done) | (simp [r_S_state, eq_false hh1]; done)) (by first | rfl | (simp only [r_S_state, eq_false hh1, ↓reduceIte]; done) | (simp [r_S_state, eq_false hh1]; done)) (by first | rfl | (simp only [r_S_state, eq_false hh1, ↓reduceIte]; done) | (simp [r_S_state, eq_false hh1]; done)) d_S_state_23
theorem hd_S_value : y_S_value.cls ≠ "java/lang/invoke/MethodHandle" ∧ y_S_value.cls ≠ "java/lang/invoke/VarHandle" ∧ (parseMethodDescriptor y_S_value.desc).map (fun d => d.parameters.length) = some 2 := by decide +kernel
def r_S_value (X : zXS) (M : zMS) (co : Int32) (a : Int32) : Int32 := (if (r_S_isCopy X M co a) = 0 then 0 else (r_C_shownValue X M (Int32.toNatClampNeg co) a))
set_option maxHeartbeats 1000000 in
set_option maxRecDepth 100000 in
theorem k_S_value (l : Launch) (dC : Nat → ClassId) (dI : Nat → Nat → Nat) (k : Nat → ClassId) (q : Nat → Nat) (X : zXS) (M : zMS) (co : Int32) (a : Int32)   : zMet l dC dI k q y_S_value c_S_value 3 (some .int) 2 41 [.ref (q 0), .int co, .int a] (some (.int (r_S_value X M co a))) X M X M := by
  refine zMet.of (by decide) (Nat.le_of_ble_eq_true rfl) ?_
  intro p e s m args below meth c ls C hr hk hl h
  have hx := C.1
  have hb := C.2.1
  have hl : lv_has ls 3 [(0, .ref (q 0)), (1, .int co), (2, .int a)] := hl
  refine lv_iload_n hx hb d_S_value_0 rfl (lv_at hl 1 rfl) ?_
  refine lv_iload_n hx hb d_S_value_1 rfl (lv_at hl 2 rfl) ?_
  refine z_callS C h (k_S_isCopy l dC dI k q X M co a ) co_S_isCopy ml_S_34 sc_S_isCopy in_S hd_S_isCopy ⟨by decide, by decide⟩ ⟨Nat.zero_le _, Nat.zero_le _⟩ hl.1 (Nat.le_of_ble_eq_true rfl) d_S_value_2 rfl (fun H locs h => ?_)
  refine W.eq (g2 := F0 m 5 ls [.int (r_S_isCopy X M co a)]) rfl ?_
  have h : zH dC dI k q X M (zA q) s.heap H locs := h
  refine lv_if_eq (tgt := 21) hx hb d_S_value_5 (by decide) (fun hh1 => ?_) (fun hh1 => ?_)
  · skip
    refine lv_iconst (v := 0) hx hb d_S_value_21 (by decide) ?_
    exact z_retE C h hr hk (by first | rfl | (simp only [r_S_value, eq_true hh1, ↓reduceIte]; done) | (simp [r_S_value, eq_true hh1]; done)) (by first | rfl | (simp only [r_S_value, eq_true hh1, ↓reduceIte]; done) | (simp [r_S_value, eq_true hh1]; done)) (by first | rfl | (simp only [r_S_value, eq_true hh1, ↓reduceIte]; done) | (simp [r_S_value, eq_true hh1]; done)) d_S_value_22
  · skip
    refine lv_aload_n hx hb d_S_value_8 rfl (lv_at hl 0 rfl) ?_
    refine g_S_27 C h d_S_value_9 ?_
    refine lv_iload_n hx hb d_S_value_12 rfl (lv_at hl 1 rfl) ?_
    refine z_lc C h (copy_in hh1).1 d_S_value_13 ?_
    refine lv_iload_n hx hb d_S_value_14 rfl (lv_at hl 2 rfl) ?_
    refine z_callV (i := 16 + 4 * (Int32.toNatClampNeg co)) C h (k_C_shownValue l dC dI k q X M (Int32.toNatClampNeg co) a (vp_lt (copy_in hh1).1) (copy_in hh1).2) co_C_shownValue ml_S_69 im_C_shownValue se_C_shownValue in_C (zW_core (vp_lt (copy_in hh1).1)) rfl hd_C_shownValue ⟨by decide, by decide⟩ ⟨Nat.zero_le _, Nat.zero_le _⟩ hl.1 (Nat.le_of_ble_eq_true rfl) d_S_value_15 rfl (fun H locs h => ?_)
    refine W.eq (g2 := F0 m 18 ls [.int (r_C_shownValue X M (Int32.toNatClampNeg co) a)]) rfl ?_
    have h : zH dC dI k q X M (zA q) s.heap H locs := h
    refine lv_goto (tgt := 22) hx hb d_S_value_18 (by decide) ?_
    exact z_retE C h hr hk (by first | rfl | (simp only [r_S_value, eq_false hh1, ↓reduceIte]; done) | (simp [r_S_value, eq_false hh1]; done)) (by first | rfl | (simp only [r_S_value, eq_false hh1, ↓reduceIte]; done) | (simp [r_S_value, eq_false hh1]; done)) (by first | rfl | (simp only [r_S_value, eq_false hh1, ↓reduceIte]; done) | (simp [r_S_value, eq_false hh1]; done)) d_S_value_22
theorem hd_S_due : y_S_due.cls ≠ "java/lang/invoke/MethodHandle" ∧ y_S_due.cls ≠ "java/lang/invoke/VarHandle" ∧ (parseMethodDescriptor y_S_due.desc).map (fun d => d.parameters.length) = some 2 := by decide +kernel
def r_S_due (X : zXS) (M : zMS) (co : Int32) (a : Int32) : Int32 := (if (r_S_isCopy X M co a) = 0 then (-1) else (r_C_shownOwed X M (Int32.toNatClampNeg co) a))
set_option maxHeartbeats 1000000 in
set_option maxRecDepth 100000 in
theorem k_S_due (l : Launch) (dC : Nat → ClassId) (dI : Nat → Nat → Nat) (k : Nat → ClassId) (q : Nat → Nat) (X : zXS) (M : zMS) (co : Int32) (a : Int32)   : zMet l dC dI k q y_S_due c_S_due 3 (some .int) 2 41 [.ref (q 0), .int co, .int a] (some (.int (r_S_due X M co a))) X M X M := by
  refine zMet.of (by decide) (Nat.le_of_ble_eq_true rfl) ?_
  intro p e s m args below meth c ls C hr hk hl h
  have hx := C.1
  have hb := C.2.1
  have hl : lv_has ls 3 [(0, .ref (q 0)), (1, .int co), (2, .int a)] := hl
  refine lv_iload_n hx hb d_S_due_0 rfl (lv_at hl 1 rfl) ?_
  refine lv_iload_n hx hb d_S_due_1 rfl (lv_at hl 2 rfl) ?_
  refine z_callS C h (k_S_isCopy l dC dI k q X M co a ) co_S_isCopy ml_S_34 sc_S_isCopy in_S hd_S_isCopy ⟨by decide, by decide⟩ ⟨Nat.zero_le _, Nat.zero_le _⟩ hl.1 (Nat.le_of_ble_eq_true rfl) d_S_due_2 rfl (fun H locs h => ?_)
  refine W.eq (g2 := F0 m 5 ls [.int (r_S_isCopy X M co a)]) rfl ?_
  have h : zH dC dI k q X M (zA q) s.heap H locs := h
  refine lv_if_eq (tgt := 21) hx hb d_S_due_5 (by decide) (fun hh1 => ?_) (fun hh1 => ?_)
  · skip
    refine lv_iconst (v := -1) hx hb d_S_due_21 (by decide) ?_
    exact z_retE C h hr hk (by first | rfl | (simp only [r_S_due, eq_true hh1, ↓reduceIte]; done) | (simp [r_S_due, eq_true hh1]; done)) (by first | rfl | (simp only [r_S_due, eq_true hh1, ↓reduceIte]; done) | (simp [r_S_due, eq_true hh1]; done)) (by first | rfl | (simp only [r_S_due, eq_true hh1, ↓reduceIte]; done) | (simp [r_S_due, eq_true hh1]; done)) d_S_due_22
  · skip
    refine lv_aload_n hx hb d_S_due_8 rfl (lv_at hl 0 rfl) ?_
    refine g_S_27 C h d_S_due_9 ?_
    refine lv_iload_n hx hb d_S_due_12 rfl (lv_at hl 1 rfl) ?_
    refine z_lc C h (copy_in hh1).1 d_S_due_13 ?_
    refine lv_iload_n hx hb d_S_due_14 rfl (lv_at hl 2 rfl) ?_
    refine z_callV (i := 16 + 4 * (Int32.toNatClampNeg co)) C h (k_C_shownOwed l dC dI k q X M (Int32.toNatClampNeg co) a (vp_lt (copy_in hh1).1) (copy_in hh1).2) co_C_shownOwed ml_S_72 im_C_shownOwed se_C_shownOwed in_C (zW_core (vp_lt (copy_in hh1).1)) rfl hd_C_shownOwed ⟨by decide, by decide⟩ ⟨Nat.zero_le _, Nat.zero_le _⟩ hl.1 (Nat.le_of_ble_eq_true rfl) d_S_due_15 rfl (fun H locs h => ?_)
    refine W.eq (g2 := F0 m 18 ls [.int (r_C_shownOwed X M (Int32.toNatClampNeg co) a)]) rfl ?_
    have h : zH dC dI k q X M (zA q) s.heap H locs := h
    refine lv_goto (tgt := 22) hx hb d_S_due_18 (by decide) ?_
    exact z_retE C h hr hk (by first | rfl | (simp only [r_S_due, eq_false hh1, ↓reduceIte]; done) | (simp [r_S_due, eq_false hh1]; done)) (by first | rfl | (simp only [r_S_due, eq_false hh1, ↓reduceIte]; done) | (simp [r_S_due, eq_false hh1]; done)) (by first | rfl | (simp only [r_S_due, eq_false hh1, ↓reduceIte]; done) | (simp [r_S_due, eq_false hh1]; done)) d_S_due_22
theorem hd_S_home : y_S_home.cls ≠ "java/lang/invoke/MethodHandle" ∧ y_S_home.cls ≠ "java/lang/invoke/VarHandle" ∧ (parseMethodDescriptor y_S_home.desc).map (fun d => d.parameters.length) = some 1 := by decide +kernel
def r_S_home (X : zXS) (M : zMS) (a : Int32) : Int32 := (if (r_S_isLine X M a) = 0 then (-1) else (r_H_summary X M a))
set_option maxHeartbeats 1000000 in
set_option maxRecDepth 100000 in
theorem k_S_home (l : Launch) (dC : Nat → ClassId) (dI : Nat → Nat → Nat) (k : Nat → ClassId) (q : Nat → Nat) (X : zXS) (M : zMS) (a : Int32)   : zMet l dC dI k q y_S_home c_S_home 2 (some .int) 1 22 [.ref (q 0), .int a] (some (.int (r_S_home X M a))) X M X M := by
  refine zMet.of (by decide) (Nat.le_of_ble_eq_true rfl) ?_
  intro p e s m args below meth c ls C hr hk hl h
  have hx := C.1
  have hb := C.2.1
  have hl : lv_has ls 2 [(0, .ref (q 0)), (1, .int a)] := hl
  refine lv_iload_n hx hb d_S_home_0 rfl (lv_at hl 1 rfl) ?_
  refine z_callS C h (k_S_isLine l dC dI k q X M a ) co_S_isLine ml_S_75 sc_S_isLine in_S hd_S_isLine ⟨by decide, by decide⟩ ⟨Nat.zero_le _, Nat.zero_le _⟩ hl.1 (Nat.le_of_ble_eq_true rfl) d_S_home_1 rfl (fun H locs h => ?_)
  refine W.eq (g2 := F0 m 4 ls [.int (r_S_isLine X M a)]) rfl ?_
  have h : zH dC dI k q X M (zA q) s.heap H locs := h
  refine lv_if_eq (tgt := 18) hx hb d_S_home_4 (by decide) (fun hh1 => ?_) (fun hh1 => ?_)
  · skip
    refine lv_iconst (v := -1) hx hb d_S_home_18 (by decide) ?_
    exact z_retE C h hr hk (by first | rfl | (simp only [r_S_home, eq_true hh1, ↓reduceIte]; done) | (simp [r_S_home, eq_true hh1]; done)) (by first | rfl | (simp only [r_S_home, eq_true hh1, ↓reduceIte]; done) | (simp [r_S_home, eq_true hh1]; done)) (by first | rfl | (simp only [r_S_home, eq_true hh1, ↓reduceIte]; done) | (simp [r_S_home, eq_true hh1]; done)) d_S_home_19
  · skip
    refine lv_aload_n hx hb d_S_home_7 rfl (lv_at hl 0 rfl) ?_
    refine g_S_21 C h d_S_home_8 ?_
    refine lv_iload_n hx hb d_S_home_11 rfl (lv_at hl 1 rfl) ?_
    refine z_callV (i := 32) C h (k_H_summary l dC dI k q X M a (line_in hh1)) co_H_summary ml_S_78 im_H_summary se_H_summary in_H rfl rfl hd_H_summary ⟨by decide, by decide⟩ ⟨Nat.zero_le _, Nat.zero_le _⟩ hl.1 (Nat.le_of_ble_eq_true rfl) d_S_home_12 rfl (fun H locs h => ?_)
    refine W.eq (g2 := F0 m 15 ls [.int (r_H_summary X M a)]) rfl ?_
    have h : zH dC dI k q X M (zA q) s.heap H locs := h
    refine lv_goto (tgt := 19) hx hb d_S_home_15 (by decide) ?_
    exact z_retE C h hr hk (by first | rfl | (simp only [r_S_home, eq_false hh1, ↓reduceIte]; done) | (simp [r_S_home, eq_false hh1]; done)) (by first | rfl | (simp only [r_S_home, eq_false hh1, ↓reduceIte]; done) | (simp [r_S_home, eq_false hh1]; done)) (by first | rfl | (simp only [r_S_home, eq_false hh1, ↓reduceIte]; done) | (simp [r_S_home, eq_false hh1]; done)) d_S_home_19
theorem hd_S_memory : y_S_memory.cls ≠ "java/lang/invoke/MethodHandle" ∧ y_S_memory.cls ≠ "java/lang/invoke/VarHandle" ∧ (parseMethodDescriptor y_S_memory.desc).map (fun d => d.parameters.length) = some 1 := by decide +kernel
def r_S_memory (X : zXS) (M : zMS) (a : Int32) : Int32 := (if (r_S_isLine X M a) = 0 then 0 else (X 11 0 (Int32.toNatClampNeg a)))
set_option maxHeartbeats 1000000 in
set_option maxRecDepth 100000 in
theorem k_S_memory (l : Launch) (dC : Nat → ClassId) (dI : Nat → Nat → Nat) (k : Nat → ClassId) (q : Nat → Nat) (X : zXS) (M : zMS) (a : Int32)   : zMet l dC dI k q y_S_memory c_S_memory 2 (some .int) 1 20 [.ref (q 0), .int a] (some (.int (r_S_memory X M a))) X M X M := by
  refine zMet.of (by decide) (Nat.le_of_ble_eq_true rfl) ?_
  intro p e s m args below meth c ls C hr hk hl h
  have hx := C.1
  have hb := C.2.1
  have hl : lv_has ls 2 [(0, .ref (q 0)), (1, .int a)] := hl
  refine lv_iload_n hx hb d_S_memory_0 rfl (lv_at hl 1 rfl) ?_
  refine z_callS C h (k_S_isLine l dC dI k q X M a ) co_S_isLine ml_S_75 sc_S_isLine in_S hd_S_isLine ⟨by decide, by decide⟩ ⟨Nat.zero_le _, Nat.zero_le _⟩ hl.1 (Nat.le_of_ble_eq_true rfl) d_S_memory_1 rfl (fun H locs h => ?_)
  refine W.eq (g2 := F0 m 4 ls [.int (r_S_isLine X M a)]) rfl ?_
  have h : zH dC dI k q X M (zA q) s.heap H locs := h
  refine lv_if_eq (tgt := 19) hx hb d_S_memory_4 (by decide) (fun hh1 => ?_) (fun hh1 => ?_)
  · skip
    refine lv_iconst (v := 0) hx hb d_S_memory_19 (by decide) ?_
    exact z_retE C h hr hk (by first | rfl | (simp only [r_S_memory, eq_true hh1, ↓reduceIte]; done) | (simp [r_S_memory, eq_true hh1]; done)) (by first | rfl | (simp only [r_S_memory, eq_true hh1, ↓reduceIte]; done) | (simp [r_S_memory, eq_true hh1]; done)) (by first | rfl | (simp only [r_S_memory, eq_true hh1, ↓reduceIte]; done) | (simp [r_S_memory, eq_true hh1]; done)) d_S_memory_20
  · skip
    refine lv_aload_n hx hb d_S_memory_7 rfl (lv_at hl 0 rfl) ?_
    refine g_S_21 C h d_S_memory_8 ?_
    refine g_S_81 C h d_S_memory_11 ?_
    refine lv_iload_n hx hb d_S_memory_14 rfl (lv_at hl 1 rfl) ?_
    refine l_mem C h (line_in hh1) d_S_memory_15 ?_
    refine lv_goto (tgt := 20) hx hb d_S_memory_16 (by decide) ?_
    exact z_retE C h hr hk (by first | rfl | (simp only [r_S_memory, eq_false hh1, ↓reduceIte]; done) | (simp [r_S_memory, eq_false hh1]; done)) (by first | rfl | (simp only [r_S_memory, eq_false hh1, ↓reduceIte]; done) | (simp [r_S_memory, eq_false hh1]; done)) (by first | rfl | (simp only [r_S_memory, eq_false hh1, ↓reduceIte]; done) | (simp [r_S_memory, eq_false hh1]; done)) d_S_memory_20
theorem hd_S_waits : y_S_waits.cls ≠ "java/lang/invoke/MethodHandle" ∧ y_S_waits.cls ≠ "java/lang/invoke/VarHandle" ∧ (parseMethodDescriptor y_S_waits.desc).map (fun d => d.parameters.length) = some 1 := by decide +kernel
def r_S_waits (X : zXS) (M : zMS) (co : Int32) : Int32 := (if (r_S_isCore X M co) = 0 then 0 else (if (X 6 (Int32.toNatClampNeg co) 0) = 0 then 0 else 1))
set_option maxHeartbeats 1000000 in
set_option maxRecDepth 100000 in
theorem k_S_waits (l : Launch) (dC : Nat → ClassId) (dI : Nat → Nat → Nat) (k : Nat → ClassId) (q : Nat → Nat) (X : zXS) (M : zMS) (co : Int32)   : zMet l dC dI k q y_S_waits c_S_waits 2 (some .boolean) 1 20 [.ref (q 0), .int co] (some (.int (r_S_waits X M co))) X M X M := by
  refine zMet.of (by decide) (Nat.le_of_ble_eq_true rfl) ?_
  intro p e s m args below meth c ls C hr hk hl h
  have hx := C.1
  have hb := C.2.1
  have hl : lv_has ls 2 [(0, .ref (q 0)), (1, .int co)] := hl
  refine lv_iload_n hx hb d_S_waits_0 rfl (lv_at hl 1 rfl) ?_
  refine z_callS C h (k_S_isCore l dC dI k q X M co ) co_S_isCore ml_S_84 sc_S_isCore in_S hd_S_isCore ⟨by decide, by decide⟩ ⟨Nat.zero_le _, Nat.zero_le _⟩ hl.1 (Nat.le_of_ble_eq_true rfl) d_S_waits_1 rfl (fun H locs h => ?_)
  refine W.eq (g2 := F0 m 4 ls [.int (r_S_isCore X M co)]) rfl ?_
  have h : zH dC dI k q X M (zA q) s.heap H locs := h
  refine lv_if_eq (tgt := 23) hx hb d_S_waits_4 (by decide) (fun hh1 => ?_) (fun hh1 => ?_)
  · skip
    refine lv_iconst (v := 0) hx hb d_S_waits_23 (by decide) ?_
    exact z_retzE C h hr hk (by first | exact Or.inl rfl | exact Or.inr rfl) (by first | rfl | (simp only [r_S_waits, eq_true hh1, ↓reduceIte]; done) | (simp [r_S_waits, eq_true hh1]; done)) (by first | rfl | (simp only [r_S_waits, eq_true hh1, ↓reduceIte]; done) | (simp [r_S_waits, eq_true hh1]; done)) (by first | rfl | (simp only [r_S_waits, eq_true hh1, ↓reduceIte]; done) | (simp [r_S_waits, eq_true hh1]; done)) d_S_waits_24
  · skip
    refine lv_aload_n hx hb d_S_waits_7 rfl (lv_at hl 0 rfl) ?_
    refine g_S_27 C h d_S_waits_8 ?_
    refine lv_iload_n hx hb d_S_waits_11 rfl (lv_at hl 1 rfl) ?_
    refine z_lc C h (core_in hh1) d_S_waits_12 ?_
    refine g_S_87 C h (j0 := (Int32.toNatClampNeg co)) (vp_lt (core_in hh1)) d_S_waits_13 ?_
    refine lv_if_eq (tgt := 23) hx hb d_S_waits_16 (by decide) (fun hh2 => ?_) (fun hh2 => ?_)
    · skip
      refine lv_iconst (v := 0) hx hb d_S_waits_23 (by decide) ?_
      exact z_retzE C h hr hk (by first | exact Or.inl rfl | exact Or.inr rfl) (by first | rfl | (simp only [r_S_waits, eq_false hh1, eq_true hh2, ↓reduceIte]; done) | (simp [r_S_waits, eq_false hh1, eq_true hh2]; done)) (by first | rfl | (simp only [r_S_waits, eq_false hh1, eq_true hh2, ↓reduceIte]; done) | (simp [r_S_waits, eq_false hh1, eq_true hh2]; done)) (by first | rfl | (simp only [r_S_waits, eq_false hh1, eq_true hh2, ↓reduceIte]; done) | (simp [r_S_waits, eq_false hh1, eq_true hh2]; done)) d_S_waits_24
    · skip
      refine lv_iconst (v := 1) hx hb d_S_waits_19 (by decide) ?_
      refine lv_goto (tgt := 24) hx hb d_S_waits_20 (by decide) ?_
      exact z_retzE C h hr hk (by first | exact Or.inl rfl | exact Or.inr rfl) (by first | rfl | (simp only [r_S_waits, eq_false hh1, eq_false hh2, ↓reduceIte]; done) | (simp [r_S_waits, eq_false hh1, eq_false hh2]; done)) (by first | rfl | (simp only [r_S_waits, eq_false hh1, eq_false hh2, ↓reduceIte]; done) | (simp [r_S_waits, eq_false hh1, eq_false hh2]; done)) (by first | rfl | (simp only [r_S_waits, eq_false hh1, eq_false hh2, ↓reduceIte]; done) | (simp [r_S_waits, eq_false hh1, eq_false hh2]; done)) d_S_waits_24
theorem hd_S_done : y_S_done.cls ≠ "java/lang/invoke/MethodHandle" ∧ y_S_done.cls ≠ "java/lang/invoke/VarHandle" ∧ (parseMethodDescriptor y_S_done.desc).map (fun d => d.parameters.length) = some 1 := by decide +kernel
def r_S_done (X : zXS) (M : zMS) (co : Int32) : Int32 := (if (r_S_isCore X M co) = 0 then (-1) else (X 9 (Int32.toNatClampNeg co) 0))
set_option maxHeartbeats 1000000 in
set_option maxRecDepth 100000 in
theorem k_S_done (l : Launch) (dC : Nat → ClassId) (dI : Nat → Nat → Nat) (k : Nat → ClassId) (q : Nat → Nat) (X : zXS) (M : zMS) (co : Int32)   : zMet l dC dI k q y_S_done c_S_done 2 (some .int) 1 20 [.ref (q 0), .int co] (some (.int (r_S_done X M co))) X M X M := by
  refine zMet.of (by decide) (Nat.le_of_ble_eq_true rfl) ?_
  intro p e s m args below meth c ls C hr hk hl h
  have hx := C.1
  have hb := C.2.1
  have hl : lv_has ls 2 [(0, .ref (q 0)), (1, .int co)] := hl
  refine lv_iload_n hx hb d_S_done_0 rfl (lv_at hl 1 rfl) ?_
  refine z_callS C h (k_S_isCore l dC dI k q X M co ) co_S_isCore ml_S_84 sc_S_isCore in_S hd_S_isCore ⟨by decide, by decide⟩ ⟨Nat.zero_le _, Nat.zero_le _⟩ hl.1 (Nat.le_of_ble_eq_true rfl) d_S_done_1 rfl (fun H locs h => ?_)
  refine W.eq (g2 := F0 m 4 ls [.int (r_S_isCore X M co)]) rfl ?_
  have h : zH dC dI k q X M (zA q) s.heap H locs := h
  refine lv_if_eq (tgt := 19) hx hb d_S_done_4 (by decide) (fun hh1 => ?_) (fun hh1 => ?_)
  · skip
    refine lv_iconst (v := -1) hx hb d_S_done_19 (by decide) ?_
    exact z_retE C h hr hk (by first | rfl | (simp only [r_S_done, eq_true hh1, ↓reduceIte]; done) | (simp [r_S_done, eq_true hh1]; done)) (by first | rfl | (simp only [r_S_done, eq_true hh1, ↓reduceIte]; done) | (simp [r_S_done, eq_true hh1]; done)) (by first | rfl | (simp only [r_S_done, eq_true hh1, ↓reduceIte]; done) | (simp [r_S_done, eq_true hh1]; done)) d_S_done_20
  · skip
    refine lv_aload_n hx hb d_S_done_7 rfl (lv_at hl 0 rfl) ?_
    refine g_S_27 C h d_S_done_8 ?_
    refine lv_iload_n hx hb d_S_done_11 rfl (lv_at hl 1 rfl) ?_
    refine z_lc C h (core_in hh1) d_S_done_12 ?_
    refine g_S_91 C h (j0 := (Int32.toNatClampNeg co)) (vp_lt (core_in hh1)) d_S_done_13 ?_
    refine lv_goto (tgt := 20) hx hb d_S_done_16 (by decide) ?_
    exact z_retE C h hr hk (by first | rfl | (simp only [r_S_done, eq_false hh1, ↓reduceIte]; done) | (simp [r_S_done, eq_false hh1]; done)) (by first | rfl | (simp only [r_S_done, eq_false hh1, ↓reduceIte]; done) | (simp [r_S_done, eq_false hh1]; done)) (by first | rfl | (simp only [r_S_done, eq_false hh1, ↓reduceIte]; done) | (simp [r_S_done, eq_false hh1]; done)) d_S_done_20
theorem hd_S_result : y_S_result.cls ≠ "java/lang/invoke/MethodHandle" ∧ y_S_result.cls ≠ "java/lang/invoke/VarHandle" ∧ (parseMethodDescriptor y_S_result.desc).map (fun d => d.parameters.length) = some 1 := by decide +kernel
def r_S_result (X : zXS) (M : zMS) (co : Int32) : Int32 := (if (r_S_isCore X M co) = 0 then 0 else (X 10 (Int32.toNatClampNeg co) 0))
set_option maxHeartbeats 1000000 in
set_option maxRecDepth 100000 in
theorem k_S_result (l : Launch) (dC : Nat → ClassId) (dI : Nat → Nat → Nat) (k : Nat → ClassId) (q : Nat → Nat) (X : zXS) (M : zMS) (co : Int32)   : zMet l dC dI k q y_S_result c_S_result 2 (some .int) 1 20 [.ref (q 0), .int co] (some (.int (r_S_result X M co))) X M X M := by
  refine zMet.of (by decide) (Nat.le_of_ble_eq_true rfl) ?_
  intro p e s m args below meth c ls C hr hk hl h
  have hx := C.1
  have hb := C.2.1
  have hl : lv_has ls 2 [(0, .ref (q 0)), (1, .int co)] := hl
  refine lv_iload_n hx hb d_S_result_0 rfl (lv_at hl 1 rfl) ?_
  refine z_callS C h (k_S_isCore l dC dI k q X M co ) co_S_isCore ml_S_84 sc_S_isCore in_S hd_S_isCore ⟨by decide, by decide⟩ ⟨Nat.zero_le _, Nat.zero_le _⟩ hl.1 (Nat.le_of_ble_eq_true rfl) d_S_result_1 rfl (fun H locs h => ?_)
  refine W.eq (g2 := F0 m 4 ls [.int (r_S_isCore X M co)]) rfl ?_
  have h : zH dC dI k q X M (zA q) s.heap H locs := h
  refine lv_if_eq (tgt := 19) hx hb d_S_result_4 (by decide) (fun hh1 => ?_) (fun hh1 => ?_)
  · skip
    refine lv_iconst (v := 0) hx hb d_S_result_19 (by decide) ?_
    exact z_retE C h hr hk (by first | rfl | (simp only [r_S_result, eq_true hh1, ↓reduceIte]; done) | (simp [r_S_result, eq_true hh1]; done)) (by first | rfl | (simp only [r_S_result, eq_true hh1, ↓reduceIte]; done) | (simp [r_S_result, eq_true hh1]; done)) (by first | rfl | (simp only [r_S_result, eq_true hh1, ↓reduceIte]; done) | (simp [r_S_result, eq_true hh1]; done)) d_S_result_20
  · skip
    refine lv_aload_n hx hb d_S_result_7 rfl (lv_at hl 0 rfl) ?_
    refine g_S_27 C h d_S_result_8 ?_
    refine lv_iload_n hx hb d_S_result_11 rfl (lv_at hl 1 rfl) ?_
    refine z_lc C h (core_in hh1) d_S_result_12 ?_
    refine g_S_94 C h (j0 := (Int32.toNatClampNeg co)) (vp_lt (core_in hh1)) d_S_result_13 ?_
    refine lv_goto (tgt := 20) hx hb d_S_result_16 (by decide) ?_
    exact z_retE C h hr hk (by first | rfl | (simp only [r_S_result, eq_false hh1, ↓reduceIte]; done) | (simp [r_S_result, eq_false hh1]; done)) (by first | rfl | (simp only [r_S_result, eq_false hh1, ↓reduceIte]; done) | (simp [r_S_result, eq_false hh1]; done)) (by first | rfl | (simp only [r_S_result, eq_false hh1, ↓reduceIte]; done) | (simp [r_S_result, eq_false hh1]; done)) d_S_result_20
theorem hd_S_tally : y_S_tally.cls ≠ "java/lang/invoke/MethodHandle" ∧ y_S_tally.cls ≠ "java/lang/invoke/VarHandle" ∧ (parseMethodDescriptor y_S_tally.desc).map (fun d => d.parameters.length) = some 2 := by decide +kernel
def r_S_tally (X : zXS) (M : zMS) (co : Int32) (a : Int32) : Int32 := (if (r_S_isCopy X M co a) = 0 then (-1) else (X 1 (Int32.toNatClampNeg co) (Int32.toNatClampNeg a)))
set_option maxHeartbeats 1000000 in
set_option maxRecDepth 100000 in
theorem k_S_tally (l : Launch) (dC : Nat → ClassId) (dI : Nat → Nat → Nat) (k : Nat → ClassId) (q : Nat → Nat) (X : zXS) (M : zMS) (co : Int32) (a : Int32)   : zMet l dC dI k q y_S_tally c_S_tally 3 (some .int) 2 41 [.ref (q 0), .int co, .int a] (some (.int (r_S_tally X M co a))) X M X M := by
  refine zMet.of (by decide) (Nat.le_of_ble_eq_true rfl) ?_
  intro p e s m args below meth c ls C hr hk hl h
  have hx := C.1
  have hb := C.2.1
  have hl : lv_has ls 3 [(0, .ref (q 0)), (1, .int co), (2, .int a)] := hl
  refine lv_iload_n hx hb d_S_tally_0 rfl (lv_at hl 1 rfl) ?_
  refine lv_iload_n hx hb d_S_tally_1 rfl (lv_at hl 2 rfl) ?_
  refine z_callS C h (k_S_isCopy l dC dI k q X M co a ) co_S_isCopy ml_S_34 sc_S_isCopy in_S hd_S_isCopy ⟨by decide, by decide⟩ ⟨Nat.zero_le _, Nat.zero_le _⟩ hl.1 (Nat.le_of_ble_eq_true rfl) d_S_tally_2 rfl (fun H locs h => ?_)
  refine W.eq (g2 := F0 m 5 ls [.int (r_S_isCopy X M co a)]) rfl ?_
  have h : zH dC dI k q X M (zA q) s.heap H locs := h
  refine lv_if_eq (tgt := 22) hx hb d_S_tally_5 (by decide) (fun hh1 => ?_) (fun hh1 => ?_)
  · skip
    refine lv_iconst (v := -1) hx hb d_S_tally_22 (by decide) ?_
    exact z_retE C h hr hk (by first | rfl | (simp only [r_S_tally, eq_true hh1, ↓reduceIte]; done) | (simp [r_S_tally, eq_true hh1]; done)) (by first | rfl | (simp only [r_S_tally, eq_true hh1, ↓reduceIte]; done) | (simp [r_S_tally, eq_true hh1]; done)) (by first | rfl | (simp only [r_S_tally, eq_true hh1, ↓reduceIte]; done) | (simp [r_S_tally, eq_true hh1]; done)) d_S_tally_23
  · skip
    refine lv_aload_n hx hb d_S_tally_8 rfl (lv_at hl 0 rfl) ?_
    refine g_S_10 C h d_S_tally_9 ?_
    refine g_S_97 C h d_S_tally_12 ?_
    refine lv_iload_n hx hb d_S_tally_15 rfl (lv_at hl 1 rfl) ?_
    refine la_tal C h (copy_in hh1).1 d_S_tally_16 ?_
    refine lv_iload_n hx hb d_S_tally_17 rfl (lv_at hl 2 rfl) ?_
    refine l_tal C h (w := (Int32.toNatClampNeg co)) (vp_lt (copy_in hh1).1) (copy_in hh1).2 d_S_tally_18 ?_
    refine lv_goto (tgt := 23) hx hb d_S_tally_19 (by decide) ?_
    exact z_retE C h hr hk (by first | rfl | (simp only [r_S_tally, eq_false hh1, ↓reduceIte]; done) | (simp [r_S_tally, eq_false hh1]; done)) (by first | rfl | (simp only [r_S_tally, eq_false hh1, ↓reduceIte]; done) | (simp [r_S_tally, eq_false hh1]; done)) (by first | rfl | (simp only [r_S_tally, eq_false hh1, ↓reduceIte]; done) | (simp [r_S_tally, eq_false hh1]; done)) d_S_tally_23
theorem hd_S_message : y_S_message.cls ≠ "java/lang/invoke/MethodHandle" ∧ y_S_message.cls ≠ "java/lang/invoke/VarHandle" ∧ (parseMethodDescriptor y_S_message.desc).map (fun d => d.parameters.length) = some 2 := by decide +kernel
def r_S_message (X : zXS) (M : zMS) (x : Int32) (w : Int32) : Int32 := (if x = (-1) then (X 2 0 0) else (if (r_A_has X M x) = 0 then (-1) else (if w < 0 then (-1) else (if w ≤ 5 then (r_A_part X M x w) else (-1)))))
set_option maxHeartbeats 1000000 in
set_option maxRecDepth 100000 in
theorem k_S_message (l : Launch) (dC : Nat → ClassId) (dI : Nat → Nat → Nat) (k : Nat → ClassId) (q : Nat → Nat) (X : zXS) (M : zMS) (x : Int32) (w : Int32)  (n : Nat) (hn : X 2 0 0 = nI n) (hb9 : n + 6 ≤ 64) : zMet l dC dI k q y_S_message c_S_message 3 (some .int) 1 22 [.ref (q 0), .int x, .int w] (some (.int (r_S_message X M x w))) X M X M := by
  refine zMet.of (by decide) (Nat.le_of_ble_eq_true rfl) ?_
  intro p e s m args below meth c ls C hr hk hl h
  have hx := C.1
  have hb := C.2.1
  have hl : lv_has ls 3 [(0, .ref (q 0)), (1, .int x), (2, .int w)] := hl
  refine lv_iload_n hx hb d_S_message_0 rfl (lv_at hl 1 rfl) ?_
  refine lv_iconst (v := -1) hx hb d_S_message_1 (by decide) ?_
  refine lv_icmp_ne (tgt := 13) hx hb d_S_message_2 (by decide) (fun hh1 => ?_) (fun hh1 => ?_)
  · skip
    refine lv_aload_n hx hb d_S_message_13 rfl (lv_at hl 0 rfl) ?_
    refine g_S_10 C h d_S_message_14 ?_
    refine lv_iload_n hx hb d_S_message_17 rfl (lv_at hl 1 rfl) ?_
    refine z_callV (i := 1) C h (k_A_has l dC dI k q X M x ) co_A_has ml_S_46 im_A_has se_A_has in_A rfl rfl hd_A_has ⟨by decide, by decide⟩ ⟨Nat.zero_le _, Nat.zero_le _⟩ hl.1 (Nat.le_of_ble_eq_true rfl) d_S_message_18 rfl (fun H locs h => ?_)
    refine W.eq (g2 := F0 m 21 ls [.int (r_A_has X M x)]) rfl ?_
    have h : zH dC dI k q X M (zA q) s.heap H locs := h
    refine lv_if_eq (tgt := 33) hx hb d_S_message_21 (by decide) (fun hh2 => ?_) (fun hh2 => ?_)
    · skip
      refine lv_iconst (v := -1) hx hb d_S_message_33 (by decide) ?_
      exact z_retE C h hr hk (by first | rfl | (simp only [r_S_message, eq_false hh1, eq_true hh2, ↓reduceIte]; done) | (simp [r_S_message, eq_false hh1, eq_true hh2]; done)) (by first | rfl | (simp only [r_S_message, eq_false hh1, eq_true hh2, ↓reduceIte]; done) | (simp [r_S_message, eq_false hh1, eq_true hh2]; done)) (by first | rfl | (simp only [r_S_message, eq_false hh1, eq_true hh2, ↓reduceIte]; done) | (simp [r_S_message, eq_false hh1, eq_true hh2]; done)) d_S_message_34
    · skip
      refine lv_iload_n hx hb d_S_message_24 rfl (lv_at hl 2 rfl) ?_
      refine lv_if_lt (tgt := 33) hx hb d_S_message_25 (by decide) (fun hh3 => ?_) (fun hh3 => ?_)
      · skip
        refine lv_iconst (v := -1) hx hb d_S_message_33 (by decide) ?_
        exact z_retE C h hr hk (by first | rfl | (simp only [r_S_message, eq_false hh1, eq_false hh2, eq_true hh3, ↓reduceIte]; done) | (simp [r_S_message, eq_false hh1, eq_false hh2, eq_true hh3]; done)) (by first | rfl | (simp only [r_S_message, eq_false hh1, eq_false hh2, eq_true hh3, ↓reduceIte]; done) | (simp [r_S_message, eq_false hh1, eq_false hh2, eq_true hh3]; done)) (by first | rfl | (simp only [r_S_message, eq_false hh1, eq_false hh2, eq_true hh3, ↓reduceIte]; done) | (simp [r_S_message, eq_false hh1, eq_false hh2, eq_true hh3]; done)) d_S_message_34
      · skip
        refine lv_iload_n hx hb d_S_message_28 rfl (lv_at hl 2 rfl) ?_
        refine lv_iconst (v := 5) hx hb d_S_message_29 (by decide) ?_
        refine lv_icmp_le (tgt := 35) hx hb d_S_message_30 (by decide) (fun hh4 => ?_) (fun hh4 => ?_)
        · skip
          refine lv_aload_n hx hb d_S_message_35 rfl (lv_at hl 0 rfl) ?_
          refine g_S_10 C h d_S_message_36 ?_
          refine lv_iload_n hx hb d_S_message_39 rfl (lv_at hl 1 rfl) ?_
          refine lv_iload_n hx hb d_S_message_40 rfl (lv_at hl 2 rfl) ?_
          refine z_callV (i := 1) C h (k_A_part l dC dI k q X M x w (rows_in (has_in hh2).1 (has_in hh2).2 hn (by omega) (by omega)) (le5_in hh3 hh4)) co_A_part ml_S_61 im_A_part se_A_part in_A rfl rfl hd_A_part ⟨by decide, by decide⟩ ⟨Nat.zero_le _, Nat.zero_le _⟩ hl.1 (Nat.le_of_ble_eq_true rfl) d_S_message_41 rfl (fun H locs h => ?_)
          refine W.eq (g2 := F0 m 44 ls [.int (r_A_part X M x w)]) rfl ?_
          have h : zH dC dI k q X M (zA q) s.heap H locs := h
          exact z_retE C h hr hk (by first | rfl | (simp only [r_S_message, eq_false hh1, eq_false hh2, eq_false hh3, eq_true hh4, ↓reduceIte]; done) | (simp [r_S_message, eq_false hh1, eq_false hh2, eq_false hh3, eq_true hh4]; done)) (by first | rfl | (simp only [r_S_message, eq_false hh1, eq_false hh2, eq_false hh3, eq_true hh4, ↓reduceIte]; done) | (simp [r_S_message, eq_false hh1, eq_false hh2, eq_false hh3, eq_true hh4]; done)) (by first | rfl | (simp only [r_S_message, eq_false hh1, eq_false hh2, eq_false hh3, eq_true hh4, ↓reduceIte]; done) | (simp [r_S_message, eq_false hh1, eq_false hh2, eq_false hh3, eq_true hh4]; done)) d_S_message_44
        · skip
          refine lv_iconst (v := -1) hx hb d_S_message_33 (by decide) ?_
          exact z_retE C h hr hk (by first | rfl | (simp only [r_S_message, eq_false hh1, eq_false hh2, eq_false hh3, eq_false hh4, ↓reduceIte]; done) | (simp [r_S_message, eq_false hh1, eq_false hh2, eq_false hh3, eq_false hh4]; done)) (by first | rfl | (simp only [r_S_message, eq_false hh1, eq_false hh2, eq_false hh3, eq_false hh4, ↓reduceIte]; done) | (simp [r_S_message, eq_false hh1, eq_false hh2, eq_false hh3, eq_false hh4]; done)) (by first | rfl | (simp only [r_S_message, eq_false hh1, eq_false hh2, eq_false hh3, eq_false hh4, ↓reduceIte]; done) | (simp [r_S_message, eq_false hh1, eq_false hh2, eq_false hh3, eq_false hh4]; done)) d_S_message_34
  · skip
    refine lv_aload_n hx hb d_S_message_5 rfl (lv_at hl 0 rfl) ?_
    refine g_S_10 C h d_S_message_6 ?_
    refine g_S_57 C h d_S_message_9 ?_
    exact z_retE C h hr hk (by first | rfl | (simp only [r_S_message, eq_true hh1, ↓reduceIte]; done) | (simp [r_S_message, eq_true hh1]; done)) (by first | rfl | (simp only [r_S_message, eq_true hh1, ↓reduceIte]; done) | (simp [r_S_message, eq_true hh1]; done)) (by first | rfl | (simp only [r_S_message, eq_true hh1, ↓reduceIte]; done) | (simp [r_S_message, eq_true hh1]; done)) d_S_message_12
theorem hd_S_carried : y_S_carried.cls ≠ "java/lang/invoke/MethodHandle" ∧ y_S_carried.cls ≠ "java/lang/invoke/VarHandle" ∧ (parseMethodDescriptor y_S_carried.desc).map (fun d => d.parameters.length) = some 1 := by decide +kernel
def r_S_carried (X : zXS) (M : zMS) (x : Int32) : Int32 := (if (r_A_has X M x) = 0 then 0 else (r_A_part X M x 6))
set_option maxHeartbeats 1000000 in
set_option maxRecDepth 100000 in
theorem k_S_carried (l : Launch) (dC : Nat → ClassId) (dI : Nat → Nat → Nat) (k : Nat → ClassId) (q : Nat → Nat) (X : zXS) (M : zMS) (x : Int32)  (n : Nat) (hn : X 2 0 0 = nI n) (hb9 : n + 6 ≤ 64) : zMet l dC dI k q y_S_carried c_S_carried 2 (some .int) 1 22 [.ref (q 0), .int x] (some (.int (r_S_carried X M x))) X M X M := by
  refine zMet.of (by decide) (Nat.le_of_ble_eq_true rfl) ?_
  intro p e s m args below meth c ls C hr hk hl h
  have hx := C.1
  have hb := C.2.1
  have hl : lv_has ls 2 [(0, .ref (q 0)), (1, .int x)] := hl
  refine lv_aload_n hx hb d_S_carried_0 rfl (lv_at hl 0 rfl) ?_
  refine g_S_10 C h d_S_carried_1 ?_
  refine lv_iload_n hx hb d_S_carried_4 rfl (lv_at hl 1 rfl) ?_
  refine z_callV (i := 1) C h (k_A_has l dC dI k q X M x ) co_A_has ml_S_46 im_A_has se_A_has in_A rfl rfl hd_A_has ⟨by decide, by decide⟩ ⟨Nat.zero_le _, Nat.zero_le _⟩ hl.1 (Nat.le_of_ble_eq_true rfl) d_S_carried_5 rfl (fun H locs h => ?_)
  refine W.eq (g2 := F0 m 8 ls [.int (r_A_has X M x)]) rfl ?_
  have h : zH dC dI k q X M (zA q) s.heap H locs := h
  refine lv_if_eq (tgt := 24) hx hb d_S_carried_8 (by decide) (fun hh1 => ?_) (fun hh1 => ?_)
  · skip
    refine lv_iconst (v := 0) hx hb d_S_carried_24 (by decide) ?_
    exact z_retE C h hr hk (by first | rfl | (simp only [r_S_carried, eq_true hh1, ↓reduceIte]; done) | (simp [r_S_carried, eq_true hh1]; done)) (by first | rfl | (simp only [r_S_carried, eq_true hh1, ↓reduceIte]; done) | (simp [r_S_carried, eq_true hh1]; done)) (by first | rfl | (simp only [r_S_carried, eq_true hh1, ↓reduceIte]; done) | (simp [r_S_carried, eq_true hh1]; done)) d_S_carried_25
  · skip
    refine lv_aload_n hx hb d_S_carried_11 rfl (lv_at hl 0 rfl) ?_
    refine g_S_10 C h d_S_carried_12 ?_
    refine lv_iload_n hx hb d_S_carried_15 rfl (lv_at hl 1 rfl) ?_
    refine lv_bipush (v := 6) hx hb d_S_carried_16 (by decide) ?_
    refine z_callV (i := 1) C h (k_A_part l dC dI k q X M x 6 (rows_in (has_in hh1).1 (has_in hh1).2 hn (by omega) (by omega)) (by unfold vp_in; decide)) co_A_part ml_S_61 im_A_part se_A_part in_A rfl rfl hd_A_part ⟨by decide, by decide⟩ ⟨Nat.zero_le _, Nat.zero_le _⟩ hl.1 (Nat.le_of_ble_eq_true rfl) d_S_carried_18 rfl (fun H locs h => ?_)
    refine W.eq (g2 := F0 m 21 ls [.int (r_A_part X M x 6)]) rfl ?_
    have h : zH dC dI k q X M (zA q) s.heap H locs := h
    refine lv_goto (tgt := 25) hx hb d_S_carried_21 (by decide) ?_
    exact z_retE C h hr hk (by first | rfl | (simp only [r_S_carried, eq_false hh1, ↓reduceIte]; done) | (simp [r_S_carried, eq_false hh1]; done)) (by first | rfl | (simp only [r_S_carried, eq_false hh1, ↓reduceIte]; done) | (simp [r_S_carried, eq_false hh1]; done)) (by first | rfl | (simp only [r_S_carried, eq_false hh1, ↓reduceIte]; done) | (simp [r_S_carried, eq_false hh1]; done)) d_S_carried_25
theorem hd_S_isStalled : y_S_isStalled.cls ≠ "java/lang/invoke/MethodHandle" ∧ y_S_isStalled.cls ≠ "java/lang/invoke/VarHandle" ∧ (parseMethodDescriptor y_S_isStalled.desc).map (fun d => d.parameters.length) = some 1 := by decide +kernel
def r_S_isStalled (X : zXS) (M : zMS) (kk : Nat) : Int32 := (if (r_A_part X M (nI kk) 3) = 4 then (r_H_stalls X M (r_A_part X M (nI kk) 0) (r_A_part X M (nI kk) 1)) else (r_C_stalls X M (Int32.toNatClampNeg (r_A_part X M (nI kk) 3)) (r_A_part X M (nI kk) 0) (r_A_part X M (nI kk) 1)))
set_option maxHeartbeats 1000000 in
set_option maxRecDepth 100000 in
theorem k_S_isStalled (l : Launch) (dC : Nat → ClassId) (dI : Nat → Nat → Nat) (k : Nat → ClassId) (q : Nat → Nat) (X : zXS) (M : zMS) (kk : Nat)  (hk6 : vp_in (nI kk) 64) (hL : vp_in (r_A_part X M (nI kk) 1) 4) (hT : vp_in (r_A_part X M (nI kk) 3) 5) (hR : vp_in (r_A_part X M (nI kk) 4) 4) : zMet l dC dI k q y_S_isStalled c_S_isStalled 5 (some .boolean) 1 22 [.ref (q 0), .int (nI kk)] (some (.int (r_S_isStalled X M kk))) X M X M := by
  refine zMet.of (by decide) (Nat.le_of_ble_eq_true rfl) ?_
  intro p e s m args below meth c ls C hr hk hl h
  have hx := C.1
  have hb := C.2.1
  have hl : lv_has ls 5 [(0, .ref (q 0)), (1, .int (nI kk))] := hl
  refine lv_aload_n hx hb d_S_isStalled_0 rfl (lv_at hl 0 rfl) ?_
  refine g_S_10 C h d_S_isStalled_1 ?_
  refine lv_iload_n hx hb d_S_isStalled_4 rfl (lv_at hl 1 rfl) ?_
  refine lv_iconst (v := 3) hx hb d_S_isStalled_5 (by decide) ?_
  refine z_callV (i := 1) C h (k_A_part l dC dI k q X M (nI kk) 3 hk6 (by unfold vp_in; decide)) co_A_part ml_S_61 im_A_part se_A_part in_A rfl rfl hd_A_part ⟨by decide, by decide⟩ ⟨Nat.zero_le _, Nat.zero_le _⟩ hl.1 (Nat.le_of_ble_eq_true rfl) d_S_isStalled_6 rfl (fun H locs h => ?_)
  refine W.eq (g2 := F0 m 9 ls [.int (r_A_part X M (nI kk) 3)]) rfl ?_
  have h : zH dC dI k q X M (zA q) s.heap H locs := h
  refine lv_istore_n hx hb d_S_isStalled_9 rfl hl (by decide) rfl (fun ls hl => ?_)
  have hl : lv_has ls 5 [(2, .int (r_A_part X M (nI kk) 3)), (0, .ref (q 0)), (1, .int (nI kk))] := hl
  refine lv_aload_n hx hb d_S_isStalled_10 rfl (lv_at hl 1 rfl) ?_
  refine g_S_10 C h d_S_isStalled_11 ?_
  refine lv_iload_n hx hb d_S_isStalled_14 rfl (lv_at hl 2 rfl) ?_
  refine lv_iconst (v := 0) hx hb d_S_isStalled_15 (by decide) ?_
  refine z_callV (i := 1) C h (k_A_part l dC dI k q X M (nI kk) 0 hk6 (by unfold vp_in; decide)) co_A_part ml_S_61 im_A_part se_A_part in_A rfl rfl hd_A_part ⟨by decide, by decide⟩ ⟨Nat.zero_le _, Nat.zero_le _⟩ hl.1 (Nat.le_of_ble_eq_true rfl) d_S_isStalled_16 rfl (fun H locs h => ?_)
  refine W.eq (g2 := F0 m 19 ls [.int (r_A_part X M (nI kk) 0)]) rfl ?_
  have h : zH dC dI k q X M (zA q) s.heap H locs := h
  refine lv_istore_n hx hb d_S_isStalled_19 rfl hl (by decide) rfl (fun ls hl => ?_)
  have hl : lv_has ls 5 [(3, .int (r_A_part X M (nI kk) 0)), (2, .int (r_A_part X M (nI kk) 3)), (0, .ref (q 0)), (1, .int (nI kk))] := hl
  refine lv_aload_n hx hb d_S_isStalled_20 rfl (lv_at hl 2 rfl) ?_
  refine g_S_10 C h d_S_isStalled_21 ?_
  refine lv_iload_n hx hb d_S_isStalled_24 rfl (lv_at hl 3 rfl) ?_
  refine lv_iconst (v := 1) hx hb d_S_isStalled_25 (by decide) ?_
  refine z_callV (i := 1) C h (k_A_part l dC dI k q X M (nI kk) 1 hk6 (by unfold vp_in; decide)) co_A_part ml_S_61 im_A_part se_A_part in_A rfl rfl hd_A_part ⟨by decide, by decide⟩ ⟨Nat.zero_le _, Nat.zero_le _⟩ hl.1 (Nat.le_of_ble_eq_true rfl) d_S_isStalled_26 rfl (fun H locs h => ?_)
  refine W.eq (g2 := F0 m 29 ls [.int (r_A_part X M (nI kk) 1)]) rfl ?_
  have h : zH dC dI k q X M (zA q) s.heap H locs := h
  refine lv_istore hx hb d_S_isStalled_29 hl (by decide) rfl (fun ls hl => ?_)
  have hl : lv_has ls 5 [(4, .int (r_A_part X M (nI kk) 1)), (3, .int (r_A_part X M (nI kk) 0)), (2, .int (r_A_part X M (nI kk) 3)), (0, .ref (q 0)), (1, .int (nI kk))] := hl
  refine lv_iload_n hx hb d_S_isStalled_31 rfl (lv_at hl 2 rfl) ?_
  refine lv_iconst (v := 4) hx hb d_S_isStalled_32 (by decide) ?_
  refine lv_icmp_ne (tgt := 49) hx hb d_S_isStalled_33 (by decide) (fun hh1 => ?_) (fun hh1 => ?_)
  · skip
    refine lv_aload_n hx hb d_S_isStalled_49 rfl (lv_at hl 3 rfl) ?_
    refine g_S_27 C h d_S_isStalled_50 ?_
    refine lv_iload_n hx hb d_S_isStalled_53 rfl (lv_at hl 2 rfl) ?_
    refine z_lc C h (five_ne hT hh1) d_S_isStalled_54 ?_
    refine lv_iload_n hx hb d_S_isStalled_55 rfl (lv_at hl 1 rfl) ?_
    refine lv_iload hx hb d_S_isStalled_56 (lv_at hl 0 rfl) ?_
    refine z_callV (i := 16 + 4 * (Int32.toNatClampNeg (r_A_part X M (nI kk) 3))) C h (k_C_stalls l dC dI k q X M (Int32.toNatClampNeg (r_A_part X M (nI kk) 3)) (r_A_part X M (nI kk) 0) (r_A_part X M (nI kk) 1) (vp_lt (five_ne hT hh1)) hL) co_C_stalls ml_S_114 im_C_stalls se_C_stalls in_C (zW_core (vp_lt (five_ne hT hh1))) rfl hd_C_stalls ⟨by decide, by decide⟩ ⟨Nat.zero_le _, Nat.zero_le _⟩ hl.1 (Nat.le_of_ble_eq_true rfl) d_S_isStalled_58 rfl (fun H locs h => ?_)
    refine W.eq (g2 := F0 m 61 ls [.int (r_C_stalls X M (Int32.toNatClampNeg (r_A_part X M (nI kk) 3)) (r_A_part X M (nI kk) 0) (r_A_part X M (nI kk) 1))]) rfl ?_
    have h : zH dC dI k q X M (zA q) s.heap H locs := h
    exact z_retzE C h hr hk (by first | exact Or.inl rfl | exact Or.inr rfl | (simp only [r_H_stalls]; repeat' split) <;> simp | (simp only [r_C_stalls]; repeat' split) <;> simp) (by first | rfl | (simp only [r_S_isStalled, eq_false hh1, ↓reduceIte]; done) | (simp [r_S_isStalled, eq_false hh1]; done)) (by first | rfl | (simp only [r_S_isStalled, eq_false hh1, ↓reduceIte]; done) | (simp [r_S_isStalled, eq_false hh1]; done)) (by first | rfl | (simp only [r_S_isStalled, eq_false hh1, ↓reduceIte]; done) | (simp [r_S_isStalled, eq_false hh1]; done)) d_S_isStalled_61
  · skip
    refine lv_aload_n hx hb d_S_isStalled_36 rfl (lv_at hl 3 rfl) ?_
    refine g_S_21 C h d_S_isStalled_37 ?_
    refine lv_iload_n hx hb d_S_isStalled_40 rfl (lv_at hl 1 rfl) ?_
    refine lv_iload hx hb d_S_isStalled_41 (lv_at hl 0 rfl) ?_
    refine z_callV (i := 32) C h (k_H_stalls l dC dI k q X M (r_A_part X M (nI kk) 0) (r_A_part X M (nI kk) 1) hL) co_H_stalls ml_S_111 im_H_stalls se_H_stalls in_H rfl rfl hd_H_stalls ⟨by decide, by decide⟩ ⟨Nat.zero_le _, Nat.zero_le _⟩ hl.1 (Nat.le_of_ble_eq_true rfl) d_S_isStalled_43 rfl (fun H locs h => ?_)
    refine W.eq (g2 := F0 m 46 ls [.int (r_H_stalls X M (r_A_part X M (nI kk) 0) (r_A_part X M (nI kk) 1))]) rfl ?_
    have h : zH dC dI k q X M (zA q) s.heap H locs := h
    refine lv_goto (tgt := 61) hx hb d_S_isStalled_46 (by decide) ?_
    exact z_retzE C h hr hk (by first | exact Or.inl rfl | exact Or.inr rfl | (simp only [r_H_stalls]; repeat' split) <;> simp | (simp only [r_C_stalls]; repeat' split) <;> simp) (by first | rfl | (simp only [r_S_isStalled, eq_true hh1, ↓reduceIte]; done) | (simp [r_S_isStalled, eq_true hh1]; done)) (by first | rfl | (simp only [r_S_isStalled, eq_true hh1, ↓reduceIte]; done) | (simp [r_S_isStalled, eq_true hh1]; done)) (by first | rfl | (simp only [r_S_isStalled, eq_true hh1, ↓reduceIte]; done) | (simp [r_S_isStalled, eq_true hh1]; done)) d_S_isStalled_61
theorem hd_S_fateOf : y_S_fateOf.cls ≠ "java/lang/invoke/MethodHandle" ∧ y_S_fateOf.cls ≠ "java/lang/invoke/VarHandle" ∧ (parseMethodDescriptor y_S_fateOf.desc).map (fun d => d.parameters.length) = some 1 := by decide +kernel
def r_S_fateOf (X : zXS) (M : zMS) (kk : Nat) : Int32 := (if (r_A_keepsBack X M kk) = 0 then (if (r_S_isStalled X M kk) = 0 then 2 else 1) else 0)
set_option maxHeartbeats 1000000 in
set_option maxRecDepth 100000 in
theorem k_S_fateOf (l : Launch) (dC : Nat → ClassId) (dI : Nat → Nat → Nat) (k : Nat → ClassId) (q : Nat → Nat) (X : zXS) (M : zMS) (kk : Nat)  (hk5 : kk < 64) (hk6 : vp_in (nI kk) 64) (hL : vp_in (r_A_part X M (nI kk) 1) 4) (hT : vp_in (r_A_part X M (nI kk) 3) 5) (hR : vp_in (r_A_part X M (nI kk) 4) 4) : zMet l dC dI k q y_S_fateOf c_S_fateOf 2 (some .int) 2 46 [.ref (q 0), .int (nI kk)] (some (.int (r_S_fateOf X M kk))) X M X M := by
  refine zMet.of (by decide) (Nat.le_of_ble_eq_true rfl) ?_
  intro p e s m args below meth c ls C hr hk hl h
  have hx := C.1
  have hb := C.2.1
  have hl : lv_has ls 2 [(0, .ref (q 0)), (1, .int (nI kk))] := hl
  refine lv_aload_n hx hb d_S_fateOf_0 rfl (lv_at hl 0 rfl) ?_
  refine g_S_10 C h d_S_fateOf_1 ?_
  refine lv_iload_n hx hb d_S_fateOf_4 rfl (lv_at hl 1 rfl) ?_
  refine z_callV (i := 1) C h (k_A_keepsBack l dC dI k q X M kk hk5) co_A_keepsBack ml_S_105 im_A_keepsBack se_A_keepsBack in_A rfl rfl hd_A_keepsBack ⟨by decide, by decide⟩ ⟨Nat.zero_le _, Nat.zero_le _⟩ hl.1 (Nat.le_of_ble_eq_true rfl) d_S_fateOf_5 rfl (fun H locs h => ?_)
  refine W.eq (g2 := F0 m 8 ls [.int (r_A_keepsBack X M kk)]) rfl ?_
  have h : zH dC dI k q X M (zA q) s.heap H locs := h
  refine lv_if_eq (tgt := 13) hx hb d_S_fateOf_8 (by decide) (fun hh1 => ?_) (fun hh1 => ?_)
  · skip
    refine lv_aload_n hx hb d_S_fateOf_13 rfl (lv_at hl 0 rfl) ?_
    refine lv_iload_n hx hb d_S_fateOf_14 rfl (lv_at hl 1 rfl) ?_
    refine z_callV (i := 0) C h (k_S_isStalled l dC dI k q X M kk hk6 hL hT hR) co_S_isStalled ml_S_108 im_S_isStalled se_S_isStalled in_S rfl rfl hd_S_isStalled ⟨by decide, by decide⟩ ⟨Nat.zero_le _, Nat.zero_le _⟩ hl.1 (Nat.le_of_ble_eq_true rfl) d_S_fateOf_15 rfl (fun H locs h => ?_)
    refine W.eq (g2 := F0 m 18 ls [.int (r_S_isStalled X M kk)]) rfl ?_
    have h : zH dC dI k q X M (zA q) s.heap H locs := h
    refine lv_if_eq (tgt := 25) hx hb d_S_fateOf_18 (by decide) (fun hh2 => ?_) (fun hh2 => ?_)
    · skip
      refine lv_iconst (v := 2) hx hb d_S_fateOf_25 (by decide) ?_
      exact z_retE C h hr hk (by first | rfl | (simp only [r_S_fateOf, eq_true hh1, eq_true hh2, ↓reduceIte]; done) | (simp [r_S_fateOf, eq_true hh1, eq_true hh2]; done)) (by first | rfl | (simp only [r_S_fateOf, eq_true hh1, eq_true hh2, ↓reduceIte]; done) | (simp [r_S_fateOf, eq_true hh1, eq_true hh2]; done)) (by first | rfl | (simp only [r_S_fateOf, eq_true hh1, eq_true hh2, ↓reduceIte]; done) | (simp [r_S_fateOf, eq_true hh1, eq_true hh2]; done)) d_S_fateOf_26
    · skip
      refine lv_iconst (v := 1) hx hb d_S_fateOf_21 (by decide) ?_
      refine lv_goto (tgt := 26) hx hb d_S_fateOf_22 (by decide) ?_
      exact z_retE C h hr hk (by first | rfl | (simp only [r_S_fateOf, eq_true hh1, eq_false hh2, ↓reduceIte]; done) | (simp [r_S_fateOf, eq_true hh1, eq_false hh2]; done)) (by first | rfl | (simp only [r_S_fateOf, eq_true hh1, eq_false hh2, ↓reduceIte]; done) | (simp [r_S_fateOf, eq_true hh1, eq_false hh2]; done)) (by first | rfl | (simp only [r_S_fateOf, eq_true hh1, eq_false hh2, ↓reduceIte]; done) | (simp [r_S_fateOf, eq_true hh1, eq_false hh2]; done)) d_S_fateOf_26
  · skip
    refine lv_iconst (v := 0) hx hb d_S_fateOf_11 (by decide) ?_
    exact z_retE C h hr hk (by first | rfl | (simp only [r_S_fateOf, eq_false hh1, ↓reduceIte]; done) | (simp [r_S_fateOf, eq_false hh1]; done)) (by first | rfl | (simp only [r_S_fateOf, eq_false hh1, ↓reduceIte]; done) | (simp [r_S_fateOf, eq_false hh1]; done)) (by first | rfl | (simp only [r_S_fateOf, eq_false hh1, ↓reduceIte]; done) | (simp [r_S_fateOf, eq_false hh1]; done)) d_S_fateOf_12
theorem hd_S_handOver : y_S_handOver.cls ≠ "java/lang/invoke/MethodHandle" ∧ y_S_handOver.cls ≠ "java/lang/invoke/VarHandle" ∧ (parseMethodDescriptor y_S_handOver.desc).map (fun d => d.parameters.length) = some 1 := by decide +kernel
def x_S_handOver (X : zXS) (M : zMS) (kk : Nat) : zXS := (if (r_A_part X M (nI kk) 3) = 4 then (x_A_remove (x_H_take X M kk) M kk ((Int32.toNatClampNeg ((x_H_take X M kk) 2 0 0)) - 1)) else (x_A_remove (x_C_take X M (Int32.toNatClampNeg (r_A_part X M (nI kk) 3)) kk) M kk ((Int32.toNatClampNeg ((x_C_take X M (Int32.toNatClampNeg (r_A_part X M (nI kk) 3)) kk) 2 0 0)) - 1)))
set_option maxHeartbeats 1000000 in
set_option maxRecDepth 100000 in
theorem k_S_handOver (l : Launch) (dC : Nat → ClassId) (dI : Nat → Nat → Nat) (k : Nat → ClassId) (q : Nat → Nat) (X : zXS) (M : zMS) (kk : Nat)  (n : Nat) (hn : X 2 0 0 = nI n) (hb9 : n + 6 ≤ 64) (hkk : kk < n) (hk6 : vp_in (nI kk) 64) (hL : vp_in (r_A_part X M (nI kk) 1) 4) (hT : vp_in (r_A_part X M (nI kk) 3) 5) (hR : vp_in (r_A_part X M (nI kk) 4) 4) : zMet l dC dI k q y_S_handOver c_S_handOver 3 none 5 111 [.ref (q 0), .int (nI kk)] none X M (x_S_handOver X M kk) M := by
  refine zMet.of (by decide) (Nat.le_of_ble_eq_true rfl) ?_
  intro p e s m args below meth c ls C hr hk hl h
  have hx := C.1
  have hb := C.2.1
  have hl : lv_has ls 3 [(0, .ref (q 0)), (1, .int (nI kk))] := hl
  refine lv_aload_n hx hb d_S_handOver_0 rfl (lv_at hl 0 rfl) ?_
  refine g_S_10 C h d_S_handOver_1 ?_
  refine lv_iload_n hx hb d_S_handOver_4 rfl (lv_at hl 1 rfl) ?_
  refine lv_iconst (v := 3) hx hb d_S_handOver_5 (by decide) ?_
  refine z_callV (i := 1) C h (k_A_part l dC dI k q X M (nI kk) 3 hk6 (by unfold vp_in; decide)) co_A_part ml_S_61 im_A_part se_A_part in_A rfl rfl hd_A_part ⟨by decide, by decide⟩ ⟨Nat.zero_le _, Nat.zero_le _⟩ hl.1 (Nat.le_of_ble_eq_true rfl) d_S_handOver_6 rfl (fun H locs h => ?_)
  refine W.eq (g2 := F0 m 9 ls [.int (r_A_part X M (nI kk) 3)]) rfl ?_
  have h : zH dC dI k q X M (zA q) s.heap H locs := h
  refine lv_istore_n hx hb d_S_handOver_9 rfl hl (by decide) rfl (fun ls hl => ?_)
  have hl : lv_has ls 3 [(2, .int (r_A_part X M (nI kk) 3)), (0, .ref (q 0)), (1, .int (nI kk))] := hl
  refine lv_iload_n hx hb d_S_handOver_10 rfl (lv_at hl 0 rfl) ?_
  refine lv_iconst (v := 4) hx hb d_S_handOver_11 (by decide) ?_
  refine lv_icmp_ne (tgt := 26) hx hb d_S_handOver_12 (by decide) (fun hh1 => ?_) (fun hh1 => ?_)
  · skip
    refine lv_aload_n hx hb d_S_handOver_26 rfl (lv_at hl 1 rfl) ?_
    refine g_S_27 C h d_S_handOver_27 ?_
    refine lv_iload_n hx hb d_S_handOver_30 rfl (lv_at hl 0 rfl) ?_
    refine z_lc C h (five_ne hT hh1) d_S_handOver_31 ?_
    refine lv_iload_n hx hb d_S_handOver_32 rfl (lv_at hl 2 rfl) ?_
    refine z_callV (i := 16 + 4 * (Int32.toNatClampNeg (r_A_part X M (nI kk) 3))) C h (k_C_take l dC dI k q X M (Int32.toNatClampNeg (r_A_part X M (nI kk) 3)) kk (vp_lt (five_ne hT hh1)) n hn hb9 hk6 hL hR) co_C_take ml_S_118 im_C_take se_C_take in_C (zW_core (vp_lt (five_ne hT hh1))) rfl hd_C_take ⟨by decide, by decide⟩ ⟨Nat.zero_le _, Nat.zero_le _⟩ hl.1 (Nat.le_of_ble_eq_true rfl) d_S_handOver_33 rfl (fun H locs h => ?_)
    refine W.eq (g2 := F0 m 36 ls []) rfl ?_
    have h : zH dC dI k q (x_C_take X M (Int32.toNatClampNeg (r_A_part X M (nI kk) 3)) kk) M (zA q) s.heap H locs := h
    refine lv_aload_n hx hb d_S_handOver_36 rfl (lv_at hl 1 rfl) ?_
    refine g_S_10 C h d_S_handOver_37 ?_
    refine lv_iload_n hx hb d_S_handOver_40 rfl (lv_at hl 2 rfl) ?_
    refine z_callV (i := 1) C h (k_A_remove l dC dI k q (x_C_take X M (Int32.toNatClampNeg (r_A_part X M (nI kk) 3)) kk) M kk ((Int32.toNatClampNeg ((x_C_take X M (Int32.toNatClampNeg (r_A_part X M (nI kk) 3)) kk) 2 0 0)) - 1) (rm_ok (cr_x_C_take hn) hkk (by omega)).1 (rm_ok (cr_x_C_take hn) hkk (by omega)).2.1 (rm_ok (cr_x_C_take hn) hkk (by omega)).2.2) co_A_remove ml_S_119 im_A_remove se_A_remove in_A rfl rfl hd_A_remove ⟨by decide, by decide⟩ ⟨Nat.zero_le _, Nat.zero_le _⟩ hl.1 (Nat.le_of_ble_eq_true rfl) d_S_handOver_41 rfl (fun H locs h => ?_)
    refine W.eq (g2 := F0 m 44 ls []) rfl ?_
    have h : zH dC dI k q (x_A_remove (x_C_take X M (Int32.toNatClampNeg (r_A_part X M (nI kk) 3)) kk) M kk ((Int32.toNatClampNeg ((x_C_take X M (Int32.toNatClampNeg (r_A_part X M (nI kk) 3)) kk) 2 0 0)) - 1)) M (zA q) s.heap H locs := h
    exact z_retvE C h hr hk (by first | rfl | (simp only [x_S_handOver, eq_false hh1, ↓reduceIte]; done) | (simp [x_S_handOver, eq_false hh1]; done)) (by first | rfl | (simp only [x_S_handOver, eq_false hh1, ↓reduceIte]; done) | (simp [x_S_handOver, eq_false hh1]; done)) d_S_handOver_44
  · skip
    refine lv_aload_n hx hb d_S_handOver_15 rfl (lv_at hl 1 rfl) ?_
    refine g_S_21 C h d_S_handOver_16 ?_
    refine lv_iload_n hx hb d_S_handOver_19 rfl (lv_at hl 2 rfl) ?_
    refine z_callV (i := 32) C h (k_H_take l dC dI k q X M kk n hn hb9 hk6 hL hR) co_H_take ml_S_115 im_H_take se_H_take in_H rfl rfl hd_H_take ⟨by decide, by decide⟩ ⟨Nat.zero_le _, Nat.zero_le _⟩ hl.1 (Nat.le_of_ble_eq_true rfl) d_S_handOver_20 rfl (fun H locs h => ?_)
    refine W.eq (g2 := F0 m 23 ls []) rfl ?_
    have h : zH dC dI k q (x_H_take X M kk) M (zA q) s.heap H locs := h
    refine lv_goto (tgt := 36) hx hb d_S_handOver_23 (by decide) ?_
    refine lv_aload_n hx hb d_S_handOver_36 rfl (lv_at hl 1 rfl) ?_
    refine g_S_10 C h d_S_handOver_37 ?_
    refine lv_iload_n hx hb d_S_handOver_40 rfl (lv_at hl 2 rfl) ?_
    refine z_callV (i := 1) C h (k_A_remove l dC dI k q (x_H_take X M kk) M kk ((Int32.toNatClampNeg ((x_H_take X M kk) 2 0 0)) - 1) (rm_ok (cr_x_H_take hn) hkk (by omega)).1 (rm_ok (cr_x_H_take hn) hkk (by omega)).2.1 (rm_ok (cr_x_H_take hn) hkk (by omega)).2.2) co_A_remove ml_S_119 im_A_remove se_A_remove in_A rfl rfl hd_A_remove ⟨by decide, by decide⟩ ⟨Nat.zero_le _, Nat.zero_le _⟩ hl.1 (Nat.le_of_ble_eq_true rfl) d_S_handOver_41 rfl (fun H locs h => ?_)
    refine W.eq (g2 := F0 m 44 ls []) rfl ?_
    have h : zH dC dI k q (x_A_remove (x_H_take X M kk) M kk ((Int32.toNatClampNeg ((x_H_take X M kk) 2 0 0)) - 1)) M (zA q) s.heap H locs := h
    exact z_retvE C h hr hk (by first | rfl | (simp only [x_S_handOver, eq_true hh1, ↓reduceIte]; done) | (simp [x_S_handOver, eq_true hh1]; done)) (by first | rfl | (simp only [x_S_handOver, eq_true hh1, ↓reduceIte]; done) | (simp [x_S_handOver, eq_true hh1]; done)) d_S_handOver_44
def zMsgX (X : zXS) (M : zMS) (n : Nat) : Prop := ∀ kk, kk < n → vp_in (r_A_part X M (nI kk) 1) 4 ∧ vp_in (r_A_part X M (nI kk) 3) 5 ∧ vp_in (r_A_part X M (nI kk) 4) 4
theorem hd_S_deliver : y_S_deliver.cls ≠ "java/lang/invoke/MethodHandle" ∧ y_S_deliver.cls ≠ "java/lang/invoke/VarHandle" ∧ (parseMethodDescriptor y_S_deliver.desc).map (fun d => d.parameters.length) = some 1 := by decide +kernel
def r_S_deliver (X : zXS) (M : zMS) (x : Int32) : Int32 := (if (r_A_has X M x) = 0 then (-1) else (r_S_fateOf X M (Int32.toNatClampNeg x)))
def x_S_deliver (X : zXS) (M : zMS) (x : Int32) : zXS := (if (r_A_has X M x) = 0 then X else (if (r_S_fateOf X M (Int32.toNatClampNeg x)) = 2 then (x_S_handOver X M (Int32.toNatClampNeg x)) else X))
set_option maxHeartbeats 1000000 in
set_option maxRecDepth 100000 in
theorem k_S_deliver (l : Launch) (dC : Nat → ClassId) (dI : Nat → Nat → Nat) (k : Nat → ClassId) (q : Nat → Nat) (X : zXS) (M : zMS) (x : Int32)  (n : Nat) (hn : X 2 0 0 = nI n) (hb9 : n + 6 ≤ 64) (hW : zMsgX X M n) : zMet l dC dI k q y_S_deliver c_S_deliver 3 (some .int) 6 133 [.ref (q 0), .int x] (some (.int (r_S_deliver X M x))) X M (x_S_deliver X M x) M := by
  refine zMet.of (by decide) (Nat.le_of_ble_eq_true rfl) ?_
  intro p e s m args below meth c ls C hr hk hl h
  have hx := C.1
  have hb := C.2.1
  have hl : lv_has ls 3 [(0, .ref (q 0)), (1, .int x)] := hl
  refine lv_aload_n hx hb d_S_deliver_0 rfl (lv_at hl 0 rfl) ?_
  refine g_S_10 C h d_S_deliver_1 ?_
  refine lv_iload_n hx hb d_S_deliver_4 rfl (lv_at hl 1 rfl) ?_
  refine z_callV (i := 1) C h (k_A_has l dC dI k q X M x ) co_A_has ml_S_46 im_A_has se_A_has in_A rfl rfl hd_A_has ⟨by decide, by decide⟩ ⟨Nat.zero_le _, Nat.zero_le _⟩ hl.1 (Nat.le_of_ble_eq_true rfl) d_S_deliver_5 rfl (fun H locs h => ?_)
  refine W.eq (g2 := F0 m 8 ls [.int (r_A_has X M x)]) rfl ?_
  have h : zH dC dI k q X M (zA q) s.heap H locs := h
  refine lv_if_ne (tgt := 13) hx hb d_S_deliver_8 (by decide) (fun hh1 => ?_) (fun hh1 => ?_)
  · skip
    refine lv_aload_n hx hb d_S_deliver_13 rfl (lv_at hl 0 rfl) ?_
    refine lv_iload_n hx hb d_S_deliver_14 rfl (lv_at hl 1 rfl) ?_
    refine z_callV (i := 0) C h (k_S_fateOf l dC dI k q X M (Int32.toNatClampNeg x) (by have := (k_lt (has_in hh1).1 (has_in hh1).2 hn (by omega)); omega) (vp_in_nI (by have := (k_lt (has_in hh1).1 (has_in hh1).2 hn (by omega)); omega) (by omega)) (hW _ (k_lt (has_in hh1).1 (has_in hh1).2 hn (by omega))).1 (hW _ (k_lt (has_in hh1).1 (has_in hh1).2 hn (by omega))).2.1 (hW _ (k_lt (has_in hh1).1 (has_in hh1).2 hn (by omega))).2.2) co_S_fateOf ml_S_50 im_S_fateOf se_S_fateOf in_S rfl rfl hd_S_fateOf ⟨by decide, by decide⟩ ⟨Nat.zero_le _, Nat.zero_le _⟩ hl.1 (Nat.le_of_ble_eq_true rfl) d_S_deliver_15 (by rw [← k_nat (has_in hh1).1]; rfl) (fun H locs h => ?_)
    refine W.eq (g2 := F0 m 18 ls [.int (r_S_fateOf X M (Int32.toNatClampNeg x))]) rfl ?_
    have h : zH dC dI k q X M (zA q) s.heap H locs := h
    refine lv_istore_n hx hb d_S_deliver_18 rfl hl (by decide) rfl (fun ls hl => ?_)
    have hl : lv_has ls 3 [(2, .int (r_S_fateOf X M (Int32.toNatClampNeg x))), (0, .ref (q 0)), (1, .int x)] := hl
    refine lv_iload_n hx hb d_S_deliver_19 rfl (lv_at hl 0 rfl) ?_
    refine lv_iconst (v := 2) hx hb d_S_deliver_20 (by decide) ?_
    refine lv_icmp_ne (tgt := 29) hx hb d_S_deliver_21 (by decide) (fun hh2 => ?_) (fun hh2 => ?_)
    · skip
      refine lv_iload_n hx hb d_S_deliver_29 rfl (lv_at hl 0 rfl) ?_
      exact z_retE C h hr hk (by first | rfl | (simp only [r_S_deliver, x_S_deliver, eq_false hh1, eq_false hh2, ↓reduceIte]; done) | (simp [r_S_deliver, x_S_deliver, eq_false hh1, eq_false hh2]; done)) (by first | rfl | (simp only [r_S_deliver, x_S_deliver, eq_false hh1, eq_false hh2, ↓reduceIte]; done) | (simp [r_S_deliver, x_S_deliver, eq_false hh1, eq_false hh2]; done)) (by first | rfl | (simp only [r_S_deliver, x_S_deliver, eq_false hh1, eq_false hh2, ↓reduceIte]; done) | (simp [r_S_deliver, x_S_deliver, eq_false hh1, eq_false hh2]; done)) d_S_deliver_30
    · skip
      refine lv_aload_n hx hb d_S_deliver_24 rfl (lv_at hl 1 rfl) ?_
      refine lv_iload_n hx hb d_S_deliver_25 rfl (lv_at hl 2 rfl) ?_
      refine z_callV (i := 0) C h (k_S_handOver l dC dI k q X M (Int32.toNatClampNeg x) n hn hb9 (k_lt (has_in hh1).1 (has_in hh1).2 hn (by omega)) (vp_in_nI (by have := (k_lt (has_in hh1).1 (has_in hh1).2 hn (by omega)); omega) (by omega)) (hW _ (k_lt (has_in hh1).1 (has_in hh1).2 hn (by omega))).1 (hW _ (k_lt (has_in hh1).1 (has_in hh1).2 hn (by omega))).2.1 (hW _ (k_lt (has_in hh1).1 (has_in hh1).2 hn (by omega))).2.2) co_S_handOver ml_S_53 im_S_handOver se_S_handOver in_S rfl rfl hd_S_handOver ⟨by decide, by decide⟩ ⟨Nat.zero_le _, Nat.zero_le _⟩ hl.1 (Nat.le_of_ble_eq_true rfl) d_S_deliver_26 (by rw [← k_nat (has_in hh1).1]; rfl) (fun H locs h => ?_)
      refine W.eq (g2 := F0 m 29 ls []) rfl ?_
      have h : zH dC dI k q (x_S_handOver X M (Int32.toNatClampNeg x)) M (zA q) s.heap H locs := h
      refine lv_iload_n hx hb d_S_deliver_29 rfl (lv_at hl 0 rfl) ?_
      exact z_retE C h hr hk (by first | rfl | (simp only [r_S_deliver, x_S_deliver, eq_false hh1, eq_true hh2, ↓reduceIte]; done) | (simp [r_S_deliver, x_S_deliver, eq_false hh1, eq_true hh2]; done)) (by first | rfl | (simp only [r_S_deliver, x_S_deliver, eq_false hh1, eq_true hh2, ↓reduceIte]; done) | (simp [r_S_deliver, x_S_deliver, eq_false hh1, eq_true hh2]; done)) (by first | rfl | (simp only [r_S_deliver, x_S_deliver, eq_false hh1, eq_true hh2, ↓reduceIte]; done) | (simp [r_S_deliver, x_S_deliver, eq_false hh1, eq_true hh2]; done)) d_S_deliver_30
  · skip
    refine lv_iconst (v := -1) hx hb d_S_deliver_11 (by decide) ?_
    exact z_retE C h hr hk (by first | rfl | (simp only [r_S_deliver, x_S_deliver, eq_true hh1, ↓reduceIte]; done) | (simp [r_S_deliver, x_S_deliver, eq_true hh1]; done)) (by first | rfl | (simp only [r_S_deliver, x_S_deliver, eq_true hh1, ↓reduceIte]; done) | (simp [r_S_deliver, x_S_deliver, eq_true hh1]; done)) (by first | rfl | (simp only [r_S_deliver, x_S_deliver, eq_true hh1, ↓reduceIte]; done) | (simp [r_S_deliver, x_S_deliver, eq_true hh1]; done)) d_S_deliver_12
