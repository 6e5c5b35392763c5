def x_old (X : zXS) (M : zMS) : Nat → Nat → Int32
  | 0, _ => X 2 0 0
  | c + 1, i => if r_S_fateOf X M i = 2 then nI i else x_old X M c (i + 1)
def r_S_oldestToTake (X : zXS) (M : zMS) : Int32 := x_old X M (Int32.toNatClampNeg (X 2 0 0)) 0
theorem hd_S_oldestToTake : y_S_oldestToTake.cls ≠ "java/lang/invoke/MethodHandle" ∧ y_S_oldestToTake.cls ≠ "java/lang/invoke/VarHandle" ∧ (parseMethodDescriptor y_S_oldestToTake.desc).map (fun d => d.parameters.length) = some 0 := by decide +kernel
set_option maxHeartbeats 4000000 in
set_option maxRecDepth 100000 in
theorem k_S_oldestToTake (l : Launch) (dC : Nat → ClassId) (dI : Nat → Nat → Nat) (k : Nat → ClassId) (q : Nat → Nat) (X : zXS) (M : zMS) (n : Nat) (hn : X 2 0 0 = nI n) (hb9 : n + 6 ≤ 64) (hW : zMsgX X M n) : zMet l dC dI k q y_S_oldestToTake c_S_oldestToTake 2 (some .int) 3 67 [.ref (q 0)] (some (.int (r_S_oldestToTake X M))) X M X M := by
  refine zMet.of (by decide) (Nat.le_of_ble_eq_true rfl) ?_
  intro p e s m args below meth c ls C hr hk hl h
  have hx := C.1
  have hb := C.2.1
  have hl : lv_has ls 2 [(0, .ref (q 0))] := hl
  have loop : ∀ (c0 i : Nat) (ls : Array Slot) (H : Heap) (locs : List Loc), i + c0 = n → r_S_oldestToTake X M = x_old X M c0 i → lv_has ls 2 [(1, .int (nI i)), (0, .ref (q 0))] → zH dC dI k q X M (zA q) s.heap H locs → W p l e { frames := 3, cells := 0, slots := 0, locals := 67 } s m args below meth c H locs 0 0 (MQ below (zQc dC dI k q X M (some (.int (r_S_oldestToTake X M)))) args s 0 0 (zA q)) (F0 m 2 ls []) := by
    intro c0
    induction c0 with
    | zero =>
      intro i ls H locs hi hM hl h
      refine lv_iload_n hx hb d_S_oldestToTake_2 rfl (lv_at hl 0 rfl) ?_
      refine lv_aload_n hx hb d_S_oldestToTake_3 rfl (lv_at hl 1 rfl) ?_
      refine g_S_10 C h d_S_oldestToTake_4 ?_
      refine g_S_57 C h d_S_oldestToTake_7 ?_
      refine lv_icmp_ge (tgt := 30) hx hb d_S_oldestToTake_10 (by decide) (fun hh1 => ?_) (fun hh1 => absurd (by rw [hn]; exact nI_le (by omega) (by omega)) hh1)
      refine lv_aload_n hx hb d_S_oldestToTake_30 rfl (lv_at hl 1 rfl) ?_
      refine g_S_10 C h d_S_oldestToTake_31 ?_
      refine g_S_57 C h d_S_oldestToTake_34 ?_
      exact z_retE C h hr hk (by first | rfl | (rw [hM]; simp only [x_old, ↓reduceIte]; done)) (by first | rfl | (rw [hM]; simp only [x_old, ↓reduceIte]; done)) (by first | rfl | (rw [hM]; simp only [x_old, ↓reduceIte]; done)) d_S_oldestToTake_37
    | succ c0 ih =>
      intro i ls H locs hi hM hl h
      refine lv_iload_n hx hb d_S_oldestToTake_2 rfl (lv_at hl 0 rfl) ?_
      refine lv_aload_n hx hb d_S_oldestToTake_3 rfl (lv_at hl 1 rfl) ?_
      refine g_S_10 C h d_S_oldestToTake_4 ?_
      refine g_S_57 C h d_S_oldestToTake_7 ?_
      refine lv_icmp_ge (tgt := 30) hx hb d_S_oldestToTake_10 (by decide) (fun hh2 => absurd hh2 (by rw [hn]; exact nI_ge (by omega) (by omega))) (fun hh2 => ?_)
      refine lv_aload_n hx hb d_S_oldestToTake_13 rfl (lv_at hl 1 rfl) ?_
      refine lv_iload_n hx hb d_S_oldestToTake_14 rfl (lv_at hl 0 rfl) ?_
      refine z_callV (i := 0) C h (k_S_fateOf l dC dI k q X M i (by omega) (vp_in_nI (by omega) (by omega)) (hW i (by omega)).1 (hW i (by omega)).2.1 (hW i (by omega)).2.2) co_S_fateOf ml_S_50 im_S_fateOf se_S_fateOf in_S rfl rfl hd_S_fateOf ⟨by decide, by decide⟩ ⟨Nat.zero_le _, Nat.zero_le _⟩ hl.1 (Nat.le_of_ble_eq_true rfl) d_S_oldestToTake_15 rfl (fun H locs h => ?_)
      refine W.eq (g2 := F0 m 18 ls [.int (r_S_fateOf X M i)]) rfl ?_
      have h : zH dC dI k q X M (zA q) s.heap H locs := h
      refine lv_iconst (v := 2) hx hb d_S_oldestToTake_18 (by decide) ?_
      refine lv_icmp_ne (tgt := 24) hx hb d_S_oldestToTake_19 (by decide) (fun hh3 => ?_) (fun hh3 => ?_)
      · skip
        refine lv_iinc (k := 0) (v := ((nI i) + 1)) hx hb d_S_oldestToTake_24 hl rfl rfl (by decide) rfl (fun ls hl => ?_)
        have hl : lv_has ls 2 [(1, .int ((nI i) + 1)), (0, .ref (q 0))] := hl
        refine lv_goto (tgt := 2) hx hb d_S_oldestToTake_27 (by decide) ?_
        exact ih (i + 1) _ _ _ (by omega) (by rw [hM, x_old, if_neg hh3]) (by rw [← nI_1]; exact hl) h
      · skip
        refine lv_iload_n hx hb d_S_oldestToTake_22 rfl (lv_at hl 0 rfl) ?_
        exact z_retE C h hr hk (by first | rfl | (rw [hM]; simp only [x_old, eq_true hh3, ↓reduceIte]; done)) (by first | rfl | (rw [hM]; simp only [x_old, eq_true hh3, ↓reduceIte]; done)) (by first | rfl | (rw [hM]; simp only [x_old, eq_true hh3, ↓reduceIte]; done)) d_S_oldestToTake_23
  refine lv_iconst (v := 0) hx hb d_S_oldestToTake_0 (by decide) ?_
  refine lv_istore_n hx hb d_S_oldestToTake_1 rfl hl (by decide) rfl (fun ls hl => ?_)
  have hl : lv_has ls 2 [(1, .int 0), (0, .ref (q 0))] := hl
  exact loop n 0 _ _ _ (by omega) (by rw [r_S_oldestToTake, rows_cl hn (by omega)]) hl h
theorem old_fate {X : zXS} {M : zMS} {n : Nat} (hn : X 2 0 0 = nI n) (hb : n < 2 ^ 31) (h : ¬ r_A_has X M (r_S_oldestToTake X M) = 0) : Int32.toNatClampNeg (r_S_oldestToTake X M) < n ∧ r_S_fateOf X M (Int32.toNatClampNeg (r_S_oldestToTake X M)) = 2 := by
  have key : ∀ (c i : Nat), i + c = n → ¬ r_A_has X M (x_old X M c i) = 0 → Int32.toNatClampNeg (x_old X M c i) < n ∧ r_S_fateOf X M (Int32.toNatClampNeg (x_old X M c i)) = 2 := by
    intro c
    induction c with
    | zero =>
      intro i _ h9
      exact (Int32.lt_irrefl (has_in h9).2).elim
    | succ c ih =>
      intro i hi h9
      rw [x_old] at h9 ⊢
      split at h9
      · next h8 =>
        rw [if_pos h8, nI_clamp (by omega)]
        exact ⟨by omega, h8⟩
      · next h8 =>
        rw [if_neg h8]
        exact ih (i + 1) (by omega) h9
  have e : Int32.toNatClampNeg (X 2 0 0) = n := rows_cl hn hb
  unfold r_S_oldestToTake at h ⊢
  rw [e] at h ⊢
  exact key n 0 (by omega) h
def x_run (M : zMS) (x : Int32) : Nat → Nat → zXS → Int32 × zXS
  | 0, _, X => (x, X)
  | c + 1, t, X => if r_A_has X M (r_S_oldestToTake X M) = 0 then (nI t, X) else x_run M x c (t + 1) (x_S_handOver X M (Int32.toNatClampNeg (r_S_oldestToTake X M)))
def r_S_run (X : zXS) (M : zMS) (x : Int32) : Int32 := if x < 1 then 0 else if x ≤ 64 then (x_run M x (Int32.toNatClampNeg x) 0 X).1 else 0
def x_S_run (X : zXS) (M : zMS) (x : Int32) : zXS := if x < 1 then X else if x ≤ 64 then (x_run M x (Int32.toNatClampNeg x) 0 X).2 else X
theorem hd_S_run : y_S_run.cls ≠ "java/lang/invoke/MethodHandle" ∧ y_S_run.cls ≠ "java/lang/invoke/VarHandle" ∧ (parseMethodDescriptor y_S_run.desc).map (fun d => d.parameters.length) = some 1 := by decide +kernel
set_option maxHeartbeats 4000000 in
set_option maxRecDepth 100000 in
theorem k_S_run (l : Launch) (dC : Nat → ClassId) (dI : Nat → Nat → Nat) (k : Nat → ClassId) (q : Nat → Nat) (X : zXS) (M : zMS) (x : Int32) (G : zXS → Prop) (hG : ∀ X1, G X1 → ∃ n1, X1 2 0 0 = nI n1 ∧ n1 + 6 ≤ 64 ∧ zMsgX X1 M n1 ∧ ∀ kk, kk < n1 → r_S_fateOf X1 M kk = 2 → G (x_S_handOver X1 M kk)) (hg0 : G X) : zMet l dC dI k q y_S_run c_S_run 4 (some .int) 6 133 [.ref (q 0), .int x] (some (.int (r_S_run X M x))) X M (x_S_run X M x) M := by
  refine zMet.of (by decide) (Nat.le_of_ble_eq_true rfl) ?_
  intro p e s m args below meth c ls C hr hk hl h
  have hx := C.1
  have hb := C.2.1
  have hl : lv_has ls 4 [(0, .ref (q 0)), (1, .int x)] := hl
  have outer : ∀ (mo : Nat), mo ≤ 64 → x = nI mo → r_S_run X M x = (x_run M x mo 0 X).1 → x_S_run X M x = (x_run M x mo 0 X).2 → ∀ (c0 t : Nat) (X1 : zXS) (ls : Array Slot) (H : Heap) (locs : List Loc), t + c0 = mo → G X1 → x_run M x mo 0 X = x_run M x c0 t X1 → lv_has ls 4 [(2, .int (nI t)), (0, .ref (q 0)), (1, .int x)] → zH dC dI k q X1 M (zA q) s.heap H locs → W p l e { frames := 6, cells := 0, slots := 0, locals := 133 } s m args below meth c H locs 0 0 (MQ below (zQc dC dI k q (x_S_run X M x) M (some (.int (r_S_run X M x)))) args s 0 0 (zA q)) (F0 m 15 ls []) := by
    intro mo hmo emo e1 e2 c0
    induction c0 with
    | zero =>
      intro t X1 ls H locs ht hg hres hl h
      refine lv_iload_n hx hb d_S_run_15 rfl (lv_at hl 0 rfl) ?_
      refine lv_iload_n hx hb d_S_run_16 rfl (lv_at hl 2 rfl) ?_
      refine lv_icmp_ge (tgt := 49) hx hb d_S_run_17 (by decide) (fun hh1 => ?_) (fun hh1 => absurd (by rw [emo]; exact nI_le (by omega) (by omega)) hh1)
      refine lv_iload_n hx hb d_S_run_49 rfl (lv_at hl 2 rfl) ?_
      exact z_retE C h hr hk (by rw [e1, hres, x_run]) (by rw [e2, hres, x_run]) rfl d_S_run_50
    | succ c0 ih =>
      intro t X1 ls H locs ht hg hres hl h
      obtain ⟨n1, hn1, hb1, hW1, hG1⟩ := hG X1 hg
      rw [x_run] at hres
      refine lv_iload_n hx hb d_S_run_15 rfl (lv_at hl 0 rfl) ?_
      refine lv_iload_n hx hb d_S_run_16 rfl (lv_at hl 2 rfl) ?_
      refine lv_icmp_ge (tgt := 49) hx hb d_S_run_17 (by decide) (fun hh2 => absurd hh2 (by rw [emo]; exact nI_ge (by omega) (by omega))) (fun hh2 => ?_)
      refine lv_aload_n hx hb d_S_run_20 rfl (lv_at hl 1 rfl) ?_
      refine z_callV (i := 0) C h (k_S_oldestToTake l dC dI k q X1 M n1 hn1 hb1 hW1) co_S_oldestToTake ml_S_101 im_S_oldestToTake se_S_oldestToTake in_S rfl rfl hd_S_oldestToTake ⟨by decide, by decide⟩ ⟨Nat.zero_le _, Nat.zero_le _⟩ hl.1 (Nat.le_of_ble_eq_true rfl) d_S_run_21 rfl (fun H locs h => ?_)
      refine W.eq (g2 := F0 m 24 ls [.int (r_S_oldestToTake X1 M)]) rfl ?_
      have h : zH dC dI k q X1 M (zA q) s.heap H locs := h
      refine lv_istore_n hx hb d_S_run_24 rfl hl (by decide) rfl (fun ls hl => ?_)
      have hl : lv_has ls 4 [(3, .int (r_S_oldestToTake X1 M)), (2, .int (nI t)), (0, .ref (q 0)), (1, .int x)] := hl
      refine lv_aload_n hx hb d_S_run_25 rfl (lv_at hl 2 rfl) ?_
      refine g_S_10 C h d_S_run_26 ?_
      refine lv_iload_n hx hb d_S_run_29 rfl (lv_at hl 0 rfl) ?_
      refine z_callV (i := 1) C h (k_A_has l dC dI k q X1 M (r_S_oldestToTake X1 M) ) co_A_has ml_S_46 im_A_has se_A_has in_A rfl rfl hd_A_has ⟨by decide, by decide⟩ ⟨Nat.zero_le _, Nat.zero_le _⟩ hl.1 (Nat.le_of_ble_eq_true rfl) d_S_run_30 rfl (fun H locs h => ?_)
      refine W.eq (g2 := F0 m 33 ls [.int (r_A_has X1 M (r_S_oldestToTake X1 M))]) rfl ?_
      have h : zH dC dI k q X1 M (zA q) s.heap H locs := h
      refine lv_if_ne (tgt := 38) hx hb d_S_run_33 (by decide) (fun hh3 => ?_) (fun hh3 => ?_)
      · skip
        refine lv_aload_n hx hb d_S_run_38 rfl (lv_at hl 2 rfl) ?_
        refine lv_iload_n hx hb d_S_run_39 rfl (lv_at hl 0 rfl) ?_
        refine z_callV (i := 0) C h (k_S_handOver l dC dI k q X1 M (Int32.toNatClampNeg (r_S_oldestToTake X1 M)) n1 hn1 hb1 (old_fate hn1 (by omega) hh3).1 (vp_in_nI (by have := (old_fate hn1 (by omega) hh3).1; omega) (by omega)) (hW1 _ (old_fate hn1 (by omega) hh3).1).1 (hW1 _ (old_fate hn1 (by omega) hh3).1).2.1 (hW1 _ (old_fate hn1 (by omega) hh3).1).2.2) co_S_handOver ml_S_53 im_S_handOver se_S_handOver in_S rfl rfl hd_S_handOver ⟨by decide, by decide⟩ ⟨Nat.zero_le _, Nat.zero_le _⟩ hl.1 (Nat.le_of_ble_eq_true rfl) d_S_run_40 (by rw [← k_nat (has_in hh3).1]; rfl) (fun H locs h => ?_)
        refine W.eq (g2 := F0 m 43 ls []) rfl ?_
        have h : zH dC dI k q (x_S_handOver X1 M (Int32.toNatClampNeg (r_S_oldestToTake X1 M))) M (zA q) s.heap H locs := h
        refine lv_iinc (k := 1) (v := ((nI t) + 1)) hx hb d_S_run_43 hl rfl rfl (by decide) rfl (fun ls hl => ?_)
        have hl : lv_has ls 4 [(2, .int ((nI t) + 1)), (3, .int (r_S_oldestToTake X1 M)), (0, .ref (q 0)), (1, .int x)] := hl
        refine lv_goto (tgt := 15) hx hb d_S_run_46 (by decide) ?_
        exact ih (t + 1) _ _ _ _ (by omega) (hG1 _ (old_fate hn1 (by omega) hh3).1 (old_fate hn1 (by omega) hh3).2) (by rw [hres, if_neg hh3]) (by rw [← nI_1]; exact lv_sub hl [0, 2, 3] rfl) h
      · skip
        refine lv_iload_n hx hb d_S_run_36 rfl (lv_at hl 1 rfl) ?_
        exact z_retE C h hr hk (by rw [e1, hres, if_pos hh3]) (by rw [e2, hres, if_pos hh3]) rfl d_S_run_37
  refine lv_iload_n hx hb d_S_run_0 rfl (lv_at hl 1 rfl) ?_
  refine lv_iconst (v := 1) hx hb d_S_run_1 (by decide) ?_
  refine lv_icmp_lt (tgt := 11) hx hb d_S_run_2 (by decide) (fun hh4 => ?_) (fun hh4 => ?_)
  · skip
    refine lv_iconst (v := 0) hx hb d_S_run_11 (by decide) ?_
    exact z_retE C h hr hk (by simp only [r_S_run, eq_true hh4, ↓reduceIte]) (by simp only [x_S_run, eq_true hh4, ↓reduceIte]) rfl d_S_run_12
  · skip
    refine lv_iload_n hx hb d_S_run_5 rfl (lv_at hl 1 rfl) ?_
    refine lv_bipush (v := 64) hx hb d_S_run_6 (by decide) ?_
    refine lv_icmp_le (tgt := 13) hx hb d_S_run_8 (by decide) (fun hh5 => ?_) (fun hh5 => ?_)
    · skip
      refine lv_iconst (v := 0) hx hb d_S_run_13 (by decide) ?_
      refine lv_istore_n hx hb d_S_run_14 rfl hl (by decide) rfl (fun ls hl => ?_)
      have hl : lv_has ls 4 [(2, .int 0), (0, .ref (q 0)), (1, .int x)] := hl
      obtain ⟨mo, hmo, emo⟩ := nI_of2 (M := 64) (n := 64) rfl (x := x) (by rw [Int32.lt_iff_toInt_lt] at hh4 ⊢; have q1 : (1 : Int32).toInt = 1 := rfl; have q0 : (0 : Int32).toInt = 0 := rfl; omega) hh5
      have em : Int32.toNatClampNeg x = mo := rows_cl emo (by omega)
      exact outer mo hmo emo (by simp only [r_S_run, eq_false hh4, eq_true hh5, ↓reduceIte, em]) (by simp only [x_S_run, eq_false hh4, eq_true hh5, ↓reduceIte, em]) mo 0 X _ _ _ (by omega) hg0 rfl hl h
    · skip
      refine lv_iconst (v := 0) hx hb d_S_run_11 (by decide) ?_
      exact z_retE C h hr hk (by simp only [r_S_run, eq_false hh4, eq_false hh5, ↓reduceIte]) (by simp only [x_S_run, eq_false hh4, eq_false hh5, ↓reduceIte]) rfl d_S_run_12
