def zCR (X : zXS) (n lo hi : Nat) : Prop := ∃ j, lo ≤ j ∧ j ≤ hi ∧ X 2 0 0 = nI (n + j)
theorem zCR.of {X : zXS} {n : Nat} (h : X 2 0 0 = nI n) : zCR X n 0 0 := ⟨0, by omega, by omega, h⟩
theorem zCR.next {X : zXS} {M : zMS} {n a b : Nat} {x1 x2 x3 x4 x5 x6 x7 : Int32} (h : zCR X n a b) : zCR (x_A_send X M x1 x2 x3 x4 x5 x6 x7) n (a + 1) (b + 1) := by
  obtain ⟨j, h1, h2, h3⟩ := h
  exact ⟨j + 1, by omega, by omega, by rw [show n + (j + 1) = (n + j) + 1 by omega]; exact cnt_next h3⟩
theorem zCR.wk {X : zXS} {n a b c d : Nat} (h : zCR X n a b) (h1 : c ≤ a) (h2 : b ≤ d) : zCR X n c d := by
  obtain ⟨j, g1, g2, g3⟩ := h
  exact ⟨j, by omega, by omega, g3⟩
theorem zCR.up {X : zXS} {n a b t r i : Nat} {v : Int32} (ht : 2 ≠ t) (h : zCR X n a b) : zCR (u3 X t r i v) n a b := by
  obtain ⟨j, g1, g2, g3⟩ := h
  refine ⟨j, g1, g2, ?_⟩
  show (if 2 = t then _ else X 2) 0 0 = _
  rw [if_neg ht]; exact g3
theorem zCR.ite {c : Prop} [Decidable c] {A B : zXS} {n a b : Nat} (hA : zCR A n a b) (hB : zCR B n a b) : zCR (if c then A else B) n a b := by
  split <;> assumption
theorem zCR.bind {B F : zXS} {n a b c d : Nat} (h : zCR B n a b) (f : ∀ j, B 2 0 0 = nI j → zCR F j c d) : zCR F n (a + c) (b + d) := by
  obtain ⟨j, g1, g2, g3⟩ := h
  obtain ⟨i, e1, e2, e3⟩ := f _ g3
  exact ⟨j + i, by omega, by omega, by rw [e3]; congr 1; omega⟩
theorem z_out10 {x : Int32} (h0 : ¬ x = 0) (h1 : ¬ x = 1) (h2 : ¬ x = 2) (h3 : ¬ x = 3) (h4 : ¬ x = 4) (h5 : ¬ x = 5) (h6 : ¬ x = 6) (h7 : ¬ x = 7) (h8 : ¬ x = 8) (h9 : ¬ x = 9) : x.toInt < 0 ∨ 9 < x.toInt := by
  rw [← Int32.toInt_inj] at h0 h1 h2 h3 h4 h5 h6 h7 h8 h9
  have e0 : (0 : Int32).toInt = 0 := rfl
  have e1 : (1 : Int32).toInt = 1 := rfl
  have e2 : (2 : Int32).toInt = 2 := rfl
  have e3 : (3 : Int32).toInt = 3 := rfl
  have e4 : (4 : Int32).toInt = 4 := rfl
  have e5 : (5 : Int32).toInt = 5 := rfl
  have e6 : (6 : Int32).toInt = 6 := rfl
  have e7 : (7 : Int32).toInt = 7 := rfl
  have e8 : (8 : Int32).toInt = 8 := rfl
  have e9 : (9 : Int32).toInt = 9 := rfl
  omega
theorem hd_C_take : y_C_take.cls ≠ "java/lang/invoke/MethodHandle" ∧ y_C_take.cls ≠ "java/lang/invoke/VarHandle" ∧ (parseMethodDescriptor y_C_take.desc).map (fun d => d.parameters.length) = some 1 := by decide +kernel
def x_C_take (X : zXS) (M : zMS) (j0 : Nat) (kk : Nat) : zXS := (if (r_A_part X M (nI kk) 0) = 5 then (x_C_shareWith X M j0 (r_A_part X M (nI kk) 4) (r_A_part X M (nI kk) 1)) else (if (r_A_part X M (nI kk) 0) = 6 then (x_C_yieldTo X M j0 (r_A_part X M (nI kk) 4) (r_A_part X M (nI kk) 1)) else (if (r_A_part X M (nI kk) 0) = 7 then (x_C_dropFor X M j0 (r_A_part X M (nI kk) 4) (r_A_part X M (nI kk) 1)) else (if (r_A_part X M (nI kk) 0) = 8 then (u3 X 3 j0 (Int32.toNatClampNeg (r_A_part X M (nI kk) 1)) 0) else (if (r_A_part X M (nI kk) 0) = 9 then (x_C_takeData X M j0 (r_A_part X M (nI kk) 1) (r_A_part X M (nI kk) 5) (r_A_part X M (nI kk) 6)) else (if (r_A_part X M (nI kk) 0) = 10 then (x_C_finish (u3 (u3 X 4 j0 (Int32.toNatClampNeg (r_A_part X M (nI kk) 1)) (r_A_part X M (nI kk) 6)) 3 j0 (Int32.toNatClampNeg (r_A_part X M (nI kk) 1)) 2) M j0 (r_A_part X M (nI kk) 1)) else (if (r_A_part X M (nI kk) 0) = 11 then (x_C_takeDropped X M j0 (r_A_part X M (nI kk) 1)) else X)))))))
set_option maxHeartbeats 1000000 in
set_option maxRecDepth 100000 in
theorem k_C_take (l : Launch) (dC : Nat → ClassId) (dI : Nat → Nat → Nat) (k : Nat → ClassId) (q : Nat → Nat) (X : zXS) (M : zMS) (j0 : Nat) (kk : Nat)  (hj : j0 < 4) (n : Nat) (hn : X 2 0 0 = nI n) (hb9 : n + 6 ≤ 64) (hk6 : vp_in (nI kk) 64) (hL : vp_in (r_A_part X M (nI kk) 1) 4) (hR : vp_in (r_A_part X M (nI kk) 4) 4) : zMet l dC dI k q y_C_take c_C_take 4 none 4 88 [.ref (q (16 + 4 * j0)), .int (nI kk)] none X M (x_C_take X M j0 kk) M := by
  refine zMet.of (by decide) (Nat.le_of_ble_eq_true rfl) ?_
  intro p e s m args below meth c ls C hr hk hl h
  have hx := C.1
  have hb := C.2.1
  have hl : lv_has ls 4 [(0, .ref (q (16 + 4 * j0))), (1, .int (nI kk))] := hl
  refine lv_aload_n hx hb d_C_take_0 rfl (lv_at hl 0 rfl) ?_
  refine g_C_41 C h (j0 := j0) hj d_C_take_1 ?_
  refine lv_iload_n hx hb d_C_take_4 rfl (lv_at hl 1 rfl) ?_
  refine lv_iconst (v := 1) hx hb d_C_take_5 (by decide) ?_
  refine z_callV (i := 1) C h (k_A_part l dC dI k q X M (nI kk) 1 hk6 (by unfold vp_in; decide)) co_A_part ml_C_63 im_A_part se_A_part in_A rfl rfl hd_A_part ⟨by decide, by decide⟩ ⟨Nat.zero_le _, Nat.zero_le _⟩ hl.1 (Nat.le_of_ble_eq_true rfl) d_C_take_6 rfl (fun H locs h => ?_)
  refine W.eq (g2 := F0 m 9 ls [.int (r_A_part X M (nI kk) 1)]) rfl ?_
  have h : zH dC dI k q X M (zA q) s.heap H locs := h
  refine lv_istore_n hx hb d_C_take_9 rfl hl (by decide) rfl (fun ls hl => ?_)
  have hl : lv_has ls 4 [(2, .int (r_A_part X M (nI kk) 1)), (0, .ref (q (16 + 4 * j0))), (1, .int (nI kk))] := hl
  refine lv_aload_n hx hb d_C_take_10 rfl (lv_at hl 1 rfl) ?_
  refine g_C_41 C h (j0 := j0) hj d_C_take_11 ?_
  refine lv_iload_n hx hb d_C_take_14 rfl (lv_at hl 2 rfl) ?_
  refine lv_iconst (v := 4) hx hb d_C_take_15 (by decide) ?_
  refine z_callV (i := 1) C h (k_A_part l dC dI k q X M (nI kk) 4 hk6 (by unfold vp_in; decide)) co_A_part ml_C_63 im_A_part se_A_part in_A rfl rfl hd_A_part ⟨by decide, by decide⟩ ⟨Nat.zero_le _, Nat.zero_le _⟩ hl.1 (Nat.le_of_ble_eq_true rfl) d_C_take_16 rfl (fun H locs h => ?_)
  refine W.eq (g2 := F0 m 19 ls [.int (r_A_part X M (nI kk) 4)]) rfl ?_
  have h : zH dC dI k q X M (zA q) s.heap H locs := h
  refine lv_istore_n hx hb d_C_take_19 rfl hl (by decide) rfl (fun ls hl => ?_)
  have hl : lv_has ls 4 [(3, .int (r_A_part X M (nI kk) 4)), (2, .int (r_A_part X M (nI kk) 1)), (0, .ref (q (16 + 4 * j0))), (1, .int (nI kk))] := hl
  refine lv_aload_n hx hb d_C_take_20 rfl (lv_at hl 2 rfl) ?_
  refine g_C_41 C h (j0 := j0) hj d_C_take_21 ?_
  refine lv_iload_n hx hb d_C_take_24 rfl (lv_at hl 3 rfl) ?_
  refine lv_iconst (v := 0) hx hb d_C_take_25 (by decide) ?_
  refine z_callV (i := 1) C h (k_A_part l dC dI k q X M (nI kk) 0 hk6 (by unfold vp_in; decide)) co_A_part ml_C_63 im_A_part se_A_part in_A rfl rfl hd_A_part ⟨by decide, by decide⟩ ⟨Nat.zero_le _, Nat.zero_le _⟩ hl.1 (Nat.le_of_ble_eq_true rfl) d_C_take_26 rfl (fun H locs h => ?_)
  refine W.eq (g2 := F0 m 29 ls [.int (r_A_part X M (nI kk) 0)]) rfl ?_
  have h : zH dC dI k q X M (zA q) s.heap H locs := h
  rcases (Decidable.em ((r_A_part X M (nI kk) 0) = 5)) with hh1 | hh1
  · skip
    refine lv_tableIn (tgt := 72) hx hb d_C_take_29 (by rw [hh1]; decide) (by rw [hh1]; decide) (by rw [hh1]; rfl) (by decide) ?_
    refine lv_aload_n hx hb d_C_take_72 rfl (lv_at hl 2 rfl) ?_
    refine lv_iload_n hx hb d_C_take_73 rfl (lv_at hl 0 rfl) ?_
    refine lv_iload_n hx hb d_C_take_74 rfl (lv_at hl 1 rfl) ?_
    refine z_callV (i := 16 + 4 * j0) C h (k_C_shareWith l dC dI k q X M j0 (r_A_part X M (nI kk) 4) (r_A_part X M (nI kk) 1) hj hL n hn (by omega) hR) co_C_shareWith ml_C_69 im_C_shareWith se_C_shareWith in_C (zW_core hj) rfl hd_C_shareWith ⟨by decide, by decide⟩ ⟨Nat.zero_le _, Nat.zero_le _⟩ hl.1 (Nat.le_of_ble_eq_true rfl) d_C_take_75 rfl (fun H locs h => ?_)
    refine W.eq (g2 := F0 m 78 ls []) rfl ?_
    have h : zH dC dI k q (x_C_shareWith X M j0 (r_A_part X M (nI kk) 4) (r_A_part X M (nI kk) 1)) M (zA q) s.heap H locs := h
    refine lv_goto (tgt := 175) hx hb d_C_take_78 (by decide) ?_
    exact z_retvE C h hr hk (by first | rfl | (simp only [x_C_take, eq_true hh1, ↓reduceIte]; done) | (simp [x_C_take, eq_true hh1]; done)) (by first | rfl | (simp only [x_C_take, eq_true hh1, ↓reduceIte]; done) | (simp [x_C_take, eq_true hh1]; done)) d_C_take_175
  rcases (Decidable.em ((r_A_part X M (nI kk) 0) = 6)) with hh2 | hh2
  · skip
    refine lv_tableIn (tgt := 81) hx hb d_C_take_29 (by rw [hh2]; decide) (by rw [hh2]; decide) (by rw [hh2]; rfl) (by decide) ?_
    refine lv_aload_n hx hb d_C_take_81 rfl (lv_at hl 2 rfl) ?_
    refine lv_iload_n hx hb d_C_take_82 rfl (lv_at hl 0 rfl) ?_
    refine lv_iload_n hx hb d_C_take_83 rfl (lv_at hl 1 rfl) ?_
    refine z_callV (i := 16 + 4 * j0) C h (k_C_yieldTo l dC dI k q X M j0 (r_A_part X M (nI kk) 4) (r_A_part X M (nI kk) 1) hj hL n hn (by omega) hR) co_C_yieldTo ml_C_73 im_C_yieldTo se_C_yieldTo in_C (zW_core hj) rfl hd_C_yieldTo ⟨by decide, by decide⟩ ⟨Nat.zero_le _, Nat.zero_le _⟩ hl.1 (Nat.le_of_ble_eq_true rfl) d_C_take_84 rfl (fun H locs h => ?_)
    refine W.eq (g2 := F0 m 87 ls []) rfl ?_
    have h : zH dC dI k q (x_C_yieldTo X M j0 (r_A_part X M (nI kk) 4) (r_A_part X M (nI kk) 1)) M (zA q) s.heap H locs := h
    refine lv_goto (tgt := 175) hx hb d_C_take_87 (by decide) ?_
    exact z_retvE C h hr hk (by first | rfl | (simp only [x_C_take, eq_false hh1, eq_true hh2, ↓reduceIte]; done) | (simp [x_C_take, eq_false hh1, eq_true hh2]; done)) (by first | rfl | (simp only [x_C_take, eq_false hh1, eq_true hh2, ↓reduceIte]; done) | (simp [x_C_take, eq_false hh1, eq_true hh2]; done)) d_C_take_175
  rcases (Decidable.em ((r_A_part X M (nI kk) 0) = 7)) with hh3 | hh3
  · skip
    refine lv_tableIn (tgt := 90) hx hb d_C_take_29 (by rw [hh3]; decide) (by rw [hh3]; decide) (by rw [hh3]; rfl) (by decide) ?_
    refine lv_aload_n hx hb d_C_take_90 rfl (lv_at hl 2 rfl) ?_
    refine lv_iload_n hx hb d_C_take_91 rfl (lv_at hl 0 rfl) ?_
    refine lv_iload_n hx hb d_C_take_92 rfl (lv_at hl 1 rfl) ?_
    refine z_callV (i := 16 + 4 * j0) C h (k_C_dropFor l dC dI k q X M j0 (r_A_part X M (nI kk) 4) (r_A_part X M (nI kk) 1) hj hL n hn (by omega) hR) co_C_dropFor ml_C_76 im_C_dropFor se_C_dropFor in_C (zW_core hj) rfl hd_C_dropFor ⟨by decide, by decide⟩ ⟨Nat.zero_le _, Nat.zero_le _⟩ hl.1 (Nat.le_of_ble_eq_true rfl) d_C_take_93 rfl (fun H locs h => ?_)
    refine W.eq (g2 := F0 m 96 ls []) rfl ?_
    have h : zH dC dI k q (x_C_dropFor X M j0 (r_A_part X M (nI kk) 4) (r_A_part X M (nI kk) 1)) M (zA q) s.heap H locs := h
    refine lv_goto (tgt := 175) hx hb d_C_take_96 (by decide) ?_
    exact z_retvE C h hr hk (by first | rfl | (simp only [x_C_take, eq_false hh1, eq_false hh2, eq_true hh3, ↓reduceIte]; done) | (simp [x_C_take, eq_false hh1, eq_false hh2, eq_true hh3]; done)) (by first | rfl | (simp only [x_C_take, eq_false hh1, eq_false hh2, eq_true hh3, ↓reduceIte]; done) | (simp [x_C_take, eq_false hh1, eq_false hh2, eq_true hh3]; done)) d_C_take_175
  rcases (Decidable.em ((r_A_part X M (nI kk) 0) = 8)) with hh4 | hh4
  · skip
    refine lv_tableIn (tgt := 99) hx hb d_C_take_29 (by rw [hh4]; decide) (by rw [hh4]; decide) (by rw [hh4]; rfl) (by decide) ?_
    refine lv_aload_n hx hb d_C_take_99 rfl (lv_at hl 2 rfl) ?_
    refine g_C_9 C h (j0 := j0) hj d_C_take_100 ?_
    refine lv_iload_n hx hb d_C_take_103 rfl (lv_at hl 1 rfl) ?_
    refine lv_iconst (v := 0) hx hb d_C_take_104 (by decide) ?_
    refine s_st C h (j0 := j0) hj hL d_C_take_105 (fun H locs h => ?_)
    refine lv_goto (tgt := 175) hx hb d_C_take_106 (by decide) ?_
    exact z_retvE C h hr hk (by first | rfl | (simp only [x_C_take, eq_false hh1, eq_false hh2, eq_false hh3, eq_true hh4, ↓reduceIte]; done) | (simp [x_C_take, eq_false hh1, eq_false hh2, eq_false hh3, eq_true hh4]; done)) (by first | rfl | (simp only [x_C_take, eq_false hh1, eq_false hh2, eq_false hh3, eq_true hh4, ↓reduceIte]; done) | (simp [x_C_take, eq_false hh1, eq_false hh2, eq_false hh3, eq_true hh4]; done)) d_C_take_175
  rcases (Decidable.em ((r_A_part X M (nI kk) 0) = 9)) with hh5 | hh5
  · skip
    refine lv_tableIn (tgt := 109) hx hb d_C_take_29 (by rw [hh5]; decide) (by rw [hh5]; decide) (by rw [hh5]; rfl) (by decide) ?_
    refine lv_aload_n hx hb d_C_take_109 rfl (lv_at hl 2 rfl) ?_
    refine lv_iload_n hx hb d_C_take_110 rfl (lv_at hl 1 rfl) ?_
    refine lv_aload_n hx hb d_C_take_111 rfl (lv_at hl 2 rfl) ?_
    refine g_C_41 C h (j0 := j0) hj d_C_take_112 ?_
    refine lv_iload_n hx hb d_C_take_115 rfl (lv_at hl 3 rfl) ?_
    refine lv_iconst (v := 5) hx hb d_C_take_116 (by decide) ?_
    refine z_callV (i := 1) C h (k_A_part l dC dI k q X M (nI kk) 5 hk6 (by unfold vp_in; decide)) co_A_part ml_C_63 im_A_part se_A_part in_A rfl rfl hd_A_part ⟨by decide, by decide⟩ ⟨Nat.zero_le _, Nat.zero_le _⟩ hl.1 (Nat.le_of_ble_eq_true rfl) d_C_take_117 rfl (fun H locs h => ?_)
    refine W.eq (g2 := F0 m 120 ls [.int (r_A_part X M (nI kk) 5), .int (r_A_part X M (nI kk) 1), .ref (q (16 + 4 * j0))]) rfl ?_
    have h : zH dC dI k q X M (zA q) s.heap H locs := h
    refine lv_aload_n hx hb d_C_take_120 rfl (lv_at hl 2 rfl) ?_
    refine g_C_41 C h (j0 := j0) hj d_C_take_121 ?_
    refine lv_iload_n hx hb d_C_take_124 rfl (lv_at hl 3 rfl) ?_
    refine lv_bipush (v := 6) hx hb d_C_take_125 (by decide) ?_
    refine z_callV (i := 1) C h (k_A_part l dC dI k q X M (nI kk) 6 hk6 (by unfold vp_in; decide)) co_A_part ml_C_63 im_A_part se_A_part in_A rfl rfl hd_A_part ⟨by decide, by decide⟩ ⟨Nat.zero_le _, Nat.zero_le _⟩ hl.1 (Nat.le_of_ble_eq_true rfl) d_C_take_127 rfl (fun H locs h => ?_)
    refine W.eq (g2 := F0 m 130 ls [.int (r_A_part X M (nI kk) 6), .int (r_A_part X M (nI kk) 5), .int (r_A_part X M (nI kk) 1), .ref (q (16 + 4 * j0))]) rfl ?_
    have h : zH dC dI k q X M (zA q) s.heap H locs := h
    refine z_callV (i := 16 + 4 * j0) C h (k_C_takeData l dC dI k q X M j0 (r_A_part X M (nI kk) 1) (r_A_part X M (nI kk) 5) (r_A_part X M (nI kk) 6) hj hL) co_C_takeData ml_C_79 im_C_takeData se_C_takeData in_C (zW_core hj) rfl hd_C_takeData ⟨by decide, by decide⟩ ⟨Nat.zero_le _, Nat.zero_le _⟩ hl.1 (Nat.le_of_ble_eq_true rfl) d_C_take_130 rfl (fun H locs h => ?_)
    refine W.eq (g2 := F0 m 133 ls []) rfl ?_
    have h : zH dC dI k q (x_C_takeData X M j0 (r_A_part X M (nI kk) 1) (r_A_part X M (nI kk) 5) (r_A_part X M (nI kk) 6)) M (zA q) s.heap H locs := h
    refine lv_goto (tgt := 175) hx hb d_C_take_133 (by decide) ?_
    exact z_retvE C h hr hk (by first | rfl | (simp only [x_C_take, eq_false hh1, eq_false hh2, eq_false hh3, eq_false hh4, eq_true hh5, ↓reduceIte]; done) | (simp [x_C_take, eq_false hh1, eq_false hh2, eq_false hh3, eq_false hh4, eq_true hh5]; done)) (by first | rfl | (simp only [x_C_take, eq_false hh1, eq_false hh2, eq_false hh3, eq_false hh4, eq_true hh5, ↓reduceIte]; done) | (simp [x_C_take, eq_false hh1, eq_false hh2, eq_false hh3, eq_false hh4, eq_true hh5]; done)) d_C_take_175
  rcases (Decidable.em ((r_A_part X M (nI kk) 0) = 10)) with hh6 | hh6
  · skip
    refine lv_tableIn (tgt := 136) hx hb d_C_take_29 (by rw [hh6]; decide) (by rw [hh6]; decide) (by rw [hh6]; rfl) (by decide) ?_
    refine lv_aload_n hx hb d_C_take_136 rfl (lv_at hl 2 rfl) ?_
    refine g_C_15 C h (j0 := j0) hj d_C_take_137 ?_
    refine lv_iload_n hx hb d_C_take_140 rfl (lv_at hl 1 rfl) ?_
    refine lv_aload_n hx hb d_C_take_141 rfl (lv_at hl 2 rfl) ?_
    refine g_C_41 C h (j0 := j0) hj d_C_take_142 ?_
    refine lv_iload_n hx hb d_C_take_145 rfl (lv_at hl 3 rfl) ?_
    refine lv_bipush (v := 6) hx hb d_C_take_146 (by decide) ?_
    refine z_callV (i := 1) C h (k_A_part l dC dI k q X M (nI kk) 6 hk6 (by unfold vp_in; decide)) co_A_part ml_C_63 im_A_part se_A_part in_A rfl rfl hd_A_part ⟨by decide, by decide⟩ ⟨Nat.zero_le _, Nat.zero_le _⟩ hl.1 (Nat.le_of_ble_eq_true rfl) d_C_take_148 rfl (fun H locs h => ?_)
    refine W.eq (g2 := F0 m 151 ls [.int (r_A_part X M (nI kk) 6), .int (r_A_part X M (nI kk) 1), .ref (q (18 + 4 * j0))]) rfl ?_
    have h : zH dC dI k q X M (zA q) s.heap H locs := h
    refine s_val C h (j0 := j0) hj hL d_C_take_151 (fun H locs h => ?_)
    refine lv_aload_n hx hb d_C_take_152 rfl (lv_at hl 2 rfl) ?_
    refine g_C_9 C h (j0 := j0) hj d_C_take_153 ?_
    refine lv_iload_n hx hb d_C_take_156 rfl (lv_at hl 1 rfl) ?_
    refine lv_iconst (v := 2) hx hb d_C_take_157 (by decide) ?_
    refine s_st C h (j0 := j0) hj hL d_C_take_158 (fun H locs h => ?_)
    refine lv_aload_n hx hb d_C_take_159 rfl (lv_at hl 2 rfl) ?_
    refine lv_iload_n hx hb d_C_take_160 rfl (lv_at hl 1 rfl) ?_
    refine z_callV (i := 16 + 4 * j0) C h (k_C_finish l dC dI k q (u3 (u3 X 4 j0 (Int32.toNatClampNeg (r_A_part X M (nI kk) 1)) (r_A_part X M (nI kk) 6)) 3 j0 (Int32.toNatClampNeg (r_A_part X M (nI kk) 1)) 2) M j0 (r_A_part X M (nI kk) 1) hj hL) co_C_finish ml_C_52 im_C_finish se_C_finish in_C (zW_core hj) rfl hd_C_finish ⟨by decide, by decide⟩ ⟨Nat.zero_le _, Nat.zero_le _⟩ hl.1 (Nat.le_of_ble_eq_true rfl) d_C_take_161 rfl (fun H locs h => ?_)
    refine W.eq (g2 := F0 m 164 ls []) rfl ?_
    have h : zH dC dI k q (x_C_finish (u3 (u3 X 4 j0 (Int32.toNatClampNeg (r_A_part X M (nI kk) 1)) (r_A_part X M (nI kk) 6)) 3 j0 (Int32.toNatClampNeg (r_A_part X M (nI kk) 1)) 2) M j0 (r_A_part X M (nI kk) 1)) M (zA q) s.heap H locs := h
    refine lv_goto (tgt := 175) hx hb d_C_take_164 (by decide) ?_
    exact z_retvE C h hr hk (by first | rfl | (simp only [x_C_take, eq_false hh1, eq_false hh2, eq_false hh3, eq_false hh4, eq_false hh5, eq_true hh6, ↓reduceIte]; done) | (simp [x_C_take, eq_false hh1, eq_false hh2, eq_false hh3, eq_false hh4, eq_false hh5, eq_true hh6]; done)) (by first | rfl | (simp only [x_C_take, eq_false hh1, eq_false hh2, eq_false hh3, eq_false hh4, eq_false hh5, eq_true hh6, ↓reduceIte]; done) | (simp [x_C_take, eq_false hh1, eq_false hh2, eq_false hh3, eq_false hh4, eq_false hh5, eq_true hh6]; done)) d_C_take_175
  rcases (Decidable.em ((r_A_part X M (nI kk) 0) = 11)) with hh7 | hh7
  · skip
    refine lv_tableIn (tgt := 167) hx hb d_C_take_29 (by rw [hh7]; decide) (by rw [hh7]; decide) (by rw [hh7]; rfl) (by decide) ?_
    refine lv_aload_n hx hb d_C_take_167 rfl (lv_at hl 2 rfl) ?_
    refine lv_iload_n hx hb d_C_take_168 rfl (lv_at hl 1 rfl) ?_
    refine z_callV (i := 16 + 4 * j0) C h (k_C_takeDropped l dC dI k q X M j0 (r_A_part X M (nI kk) 1) hj hL) co_C_takeDropped ml_C_83 im_C_takeDropped se_C_takeDropped in_C (zW_core hj) rfl hd_C_takeDropped ⟨by decide, by decide⟩ ⟨Nat.zero_le _, Nat.zero_le _⟩ hl.1 (Nat.le_of_ble_eq_true rfl) d_C_take_169 rfl (fun H locs h => ?_)
    refine W.eq (g2 := F0 m 172 ls []) rfl ?_
    have h : zH dC dI k q (x_C_takeDropped X M j0 (r_A_part X M (nI kk) 1)) M (zA q) s.heap H locs := h
    refine lv_goto (tgt := 175) hx hb d_C_take_172 (by decide) ?_
    exact z_retvE C h hr hk (by first | rfl | (simp only [x_C_take, eq_false hh1, eq_false hh2, eq_false hh3, eq_false hh4, eq_false hh5, eq_false hh6, eq_true hh7, ↓reduceIte]; done) | (simp [x_C_take, eq_false hh1, eq_false hh2, eq_false hh3, eq_false hh4, eq_false hh5, eq_false hh6, eq_true hh7]; done)) (by first | rfl | (simp only [x_C_take, eq_false hh1, eq_false hh2, eq_false hh3, eq_false hh4, eq_false hh5, eq_false hh6, eq_true hh7, ↓reduceIte]; done) | (simp [x_C_take, eq_false hh1, eq_false hh2, eq_false hh3, eq_false hh4, eq_false hh5, eq_false hh6, eq_true hh7]; done)) d_C_take_175
  refine lv_tableOut (tgt := 175) hx hb d_C_take_29 (z_out7 hh1 hh2 hh3 hh4 hh5 hh6 hh7) (by decide) ?_
  exact z_retvE C h hr hk (by first | rfl | (simp only [x_C_take, eq_false hh1, eq_false hh2, eq_false hh3, eq_false hh4, eq_false hh5, eq_false hh6, eq_false hh7, ↓reduceIte]; done) | (simp [x_C_take, eq_false hh1, eq_false hh2, eq_false hh3, eq_false hh4, eq_false hh5, eq_false hh6, eq_false hh7]; done)) (by first | rfl | (simp only [x_C_take, eq_false hh1, eq_false hh2, eq_false hh3, eq_false hh4, eq_false hh5, eq_false hh6, eq_false hh7, ↓reduceIte]; done) | (simp [x_C_take, eq_false hh1, eq_false hh2, eq_false hh3, eq_false hh4, eq_false hh5, eq_false hh6, eq_false hh7]; done)) d_C_take_175
theorem hd_H_take : y_H_take.cls ≠ "java/lang/invoke/MethodHandle" ∧ y_H_take.cls ≠ "java/lang/invoke/VarHandle" ∧ (parseMethodDescriptor y_H_take.desc).map (fun d => d.parameters.length) = some 1 := by decide +kernel
def jS0_H_take_147_1 (X : zXS) (M : zMS) (kk : Nat) : Int32 := (if (X 14 0 (Int32.toNatClampNeg (r_A_part X M (nI kk) 1))) = 0 then 0 else 1)
def x_H_take (X : zXS) (M : zMS) (kk : Nat) : zXS := (if (r_A_part X M (nI kk) 0) = 0 then (x_H_takeRead X M (r_A_part X M (nI kk) 1) (r_A_part X M (nI kk) 4)) else (if (r_A_part X M (nI kk) 0) = 1 then (x_H_takeWrite X M (r_A_part X M (nI kk) 1) (r_A_part X M (nI kk) 4)) else (if (r_A_part X M (nI kk) 0) = 2 then (x_H_takeLeave X M kk (r_A_part X M (nI kk) 1) (r_A_part X M (nI kk) 4)) else (if (r_A_part X M (nI kk) 0) = 3 then (x_H_takeLeave X M kk (r_A_part X M (nI kk) 1) (r_A_part X M (nI kk) 4)) else (if (r_A_part X M (nI kk) 0) = 4 then (x_H_takeLeave X M kk (r_A_part X M (nI kk) 1) (r_A_part X M (nI kk) 4)) else (if (r_A_part X M (nI kk) 0) = 5 then X else (if (r_A_part X M (nI kk) 0) = 6 then X else (if (r_A_part X M (nI kk) 0) = 7 then X else (if (r_A_part X M (nI kk) 0) = 8 then X else (if (r_A_part X M (nI kk) 0) = 9 then (u3 (u3 X 11 0 (Int32.toNatClampNeg (r_A_part X M (nI kk) 1)) (r_A_part X M (nI kk) 6)) 12 0 (Int32.toNatClampNeg (r_A_part X M (nI kk) 1)) (jS0_H_take_147_1 X M kk)) else X))))))))))
set_option maxHeartbeats 1000000 in
set_option maxRecDepth 100000 in
theorem k_H_take (l : Launch) (dC : Nat → ClassId) (dI : Nat → Nat → Nat) (k : Nat → ClassId) (q : Nat → Nat) (X : zXS) (M : zMS) (kk : Nat)  (n : Nat) (hn : X 2 0 0 = nI n) (hb9 : n + 6 ≤ 64) (hk6 : vp_in (nI kk) 64) (hL : vp_in (r_A_part X M (nI kk) 1) 4) (hR : vp_in (r_A_part X M (nI kk) 4) 4) : zMet l dC dI k q y_H_take c_H_take 4 none 3 73 [.ref (q 32), .int (nI kk)] none X M (x_H_take X M kk) M := by
  refine zMet.of (by decide) (Nat.le_of_ble_eq_true rfl) ?_
  intro p e s m args below meth c ls C hr hk hl h
  have hx := C.1
  have hb := C.2.1
  have hl : lv_has ls 4 [(0, .ref (q 32)), (1, .int (nI kk))] := hl
  refine lv_aload_n hx hb d_H_take_0 rfl (lv_at hl 0 rfl) ?_
  refine g_H_24 C h d_H_take_1 ?_
  refine lv_iload_n hx hb d_H_take_4 rfl (lv_at hl 1 rfl) ?_
  refine lv_iconst (v := 1) hx hb d_H_take_5 (by decide) ?_
  refine z_callV (i := 1) C h (k_A_part l dC dI k q X M (nI kk) 1 hk6 (by unfold vp_in; decide)) co_A_part ml_H_28 im_A_part se_A_part in_A rfl rfl hd_A_part ⟨by decide, by decide⟩ ⟨Nat.zero_le _, Nat.zero_le _⟩ hl.1 (Nat.le_of_ble_eq_true rfl) d_H_take_6 rfl (fun H locs h => ?_)
  refine W.eq (g2 := F0 m 9 ls [.int (r_A_part X M (nI kk) 1)]) rfl ?_
  have h : zH dC dI k q X M (zA q) s.heap H locs := h
  refine lv_istore_n hx hb d_H_take_9 rfl hl (by decide) rfl (fun ls hl => ?_)
  have hl : lv_has ls 4 [(2, .int (r_A_part X M (nI kk) 1)), (0, .ref (q 32)), (1, .int (nI kk))] := hl
  refine lv_aload_n hx hb d_H_take_10 rfl (lv_at hl 1 rfl) ?_
  refine g_H_24 C h d_H_take_11 ?_
  refine lv_iload_n hx hb d_H_take_14 rfl (lv_at hl 2 rfl) ?_
  refine lv_iconst (v := 4) hx hb d_H_take_15 (by decide) ?_
  refine z_callV (i := 1) C h (k_A_part l dC dI k q X M (nI kk) 4 hk6 (by unfold vp_in; decide)) co_A_part ml_H_28 im_A_part se_A_part in_A rfl rfl hd_A_part ⟨by decide, by decide⟩ ⟨Nat.zero_le _, Nat.zero_le _⟩ hl.1 (Nat.le_of_ble_eq_true rfl) d_H_take_16 rfl (fun H locs h => ?_)
  refine W.eq (g2 := F0 m 19 ls [.int (r_A_part X M (nI kk) 4)]) rfl ?_
  have h : zH dC dI k q X M (zA q) s.heap H locs := h
  refine lv_istore_n hx hb d_H_take_19 rfl hl (by decide) rfl (fun ls hl => ?_)
  have hl : lv_has ls 4 [(3, .int (r_A_part X M (nI kk) 4)), (2, .int (r_A_part X M (nI kk) 1)), (0, .ref (q 32)), (1, .int (nI kk))] := hl
  refine lv_aload_n hx hb d_H_take_20 rfl (lv_at hl 2 rfl) ?_
  refine g_H_24 C h d_H_take_21 ?_
  refine lv_iload_n hx hb d_H_take_24 rfl (lv_at hl 3 rfl) ?_
  refine lv_iconst (v := 0) hx hb d_H_take_25 (by decide) ?_
  refine z_callV (i := 1) C h (k_A_part l dC dI k q X M (nI kk) 0 hk6 (by unfold vp_in; decide)) co_A_part ml_H_28 im_A_part se_A_part in_A rfl rfl hd_A_part ⟨by decide, by decide⟩ ⟨Nat.zero_le _, Nat.zero_le _⟩ hl.1 (Nat.le_of_ble_eq_true rfl) d_H_take_26 rfl (fun H locs h => ?_)
  refine W.eq (g2 := F0 m 29 ls [.int (r_A_part X M (nI kk) 0)]) rfl ?_
  have h : zH dC dI k q X M (zA q) s.heap H locs := h
  rcases (Decidable.em ((r_A_part X M (nI kk) 0) = 0)) with hh1 | hh1
  · skip
    refine lv_tableIn (tgt := 84) hx hb d_H_take_29 (by rw [hh1]; decide) (by rw [hh1]; decide) (by rw [hh1]; rfl) (by decide) ?_
    refine lv_aload_n hx hb d_H_take_84 rfl (lv_at hl 2 rfl) ?_
    refine lv_iload_n hx hb d_H_take_85 rfl (lv_at hl 1 rfl) ?_
    refine lv_iload_n hx hb d_H_take_86 rfl (lv_at hl 0 rfl) ?_
    refine z_callV (i := 32) C h (k_H_takeRead l dC dI k q X M (r_A_part X M (nI kk) 1) (r_A_part X M (nI kk) 4) n hn hb9 hL hR) co_H_takeRead ml_H_34 im_H_takeRead se_H_takeRead in_H rfl rfl hd_H_takeRead ⟨by decide, by decide⟩ ⟨Nat.zero_le _, Nat.zero_le _⟩ hl.1 (Nat.le_of_ble_eq_true rfl) d_H_take_87 rfl (fun H locs h => ?_)
    refine W.eq (g2 := F0 m 90 ls []) rfl ?_
    have h : zH dC dI k q (x_H_takeRead X M (r_A_part X M (nI kk) 1) (r_A_part X M (nI kk) 4)) M (zA q) s.heap H locs := h
    refine lv_goto (tgt := 151) hx hb d_H_take_90 (by decide) ?_
    exact z_retvE C h hr hk (by first | rfl | (simp only [x_H_take, eq_true hh1, ↓reduceIte]; done) | (simp [x_H_take, eq_true hh1]; done)) (by first | rfl | (simp only [x_H_take, eq_true hh1, ↓reduceIte]; done) | (simp [x_H_take, eq_true hh1]; done)) d_H_take_151
  rcases (Decidable.em ((r_A_part X M (nI kk) 0) = 1)) with hh2 | hh2
  · skip
    refine lv_tableIn (tgt := 93) hx hb d_H_take_29 (by rw [hh2]; decide) (by rw [hh2]; decide) (by rw [hh2]; rfl) (by decide) ?_
    refine lv_aload_n hx hb d_H_take_93 rfl (lv_at hl 2 rfl) ?_
    refine lv_iload_n hx hb d_H_take_94 rfl (lv_at hl 1 rfl) ?_
    refine lv_iload_n hx hb d_H_take_95 rfl (lv_at hl 0 rfl) ?_
    refine z_callV (i := 32) C h (k_H_takeWrite l dC dI k q X M (r_A_part X M (nI kk) 1) (r_A_part X M (nI kk) 4) n hn hb9 hL hR) co_H_takeWrite ml_H_38 im_H_takeWrite se_H_takeWrite in_H rfl rfl hd_H_takeWrite ⟨by decide, by decide⟩ ⟨Nat.zero_le _, Nat.zero_le _⟩ hl.1 (Nat.le_of_ble_eq_true rfl) d_H_take_96 rfl (fun H locs h => ?_)
    refine W.eq (g2 := F0 m 99 ls []) rfl ?_
    have h : zH dC dI k q (x_H_takeWrite X M (r_A_part X M (nI kk) 1) (r_A_part X M (nI kk) 4)) M (zA q) s.heap H locs := h
    refine lv_goto (tgt := 151) hx hb d_H_take_99 (by decide) ?_
    exact z_retvE C h hr hk (by first | rfl | (simp only [x_H_take, eq_false hh1, eq_true hh2, ↓reduceIte]; done) | (simp [x_H_take, eq_false hh1, eq_true hh2]; done)) (by first | rfl | (simp only [x_H_take, eq_false hh1, eq_true hh2, ↓reduceIte]; done) | (simp [x_H_take, eq_false hh1, eq_true hh2]; done)) d_H_take_151
  rcases (Decidable.em ((r_A_part X M (nI kk) 0) = 2)) with hh3 | hh3
  · skip
    refine lv_tableIn (tgt := 102) hx hb d_H_take_29 (by rw [hh3]; decide) (by rw [hh3]; decide) (by rw [hh3]; rfl) (by decide) ?_
    refine lv_aload_n hx hb d_H_take_102 rfl (lv_at hl 2 rfl) ?_
    refine lv_iload_n hx hb d_H_take_103 rfl (lv_at hl 3 rfl) ?_
    refine lv_iload_n hx hb d_H_take_104 rfl (lv_at hl 1 rfl) ?_
    refine lv_iload_n hx hb d_H_take_105 rfl (lv_at hl 0 rfl) ?_
    refine z_callV (i := 32) C h (k_H_takeLeave l dC dI k q X M kk (r_A_part X M (nI kk) 1) (r_A_part X M (nI kk) 4) n hn hb9 hL hR hk6) co_H_takeLeave ml_H_41 im_H_takeLeave se_H_takeLeave in_H rfl rfl hd_H_takeLeave ⟨by decide, by decide⟩ ⟨Nat.zero_le _, Nat.zero_le _⟩ hl.1 (Nat.le_of_ble_eq_true rfl) d_H_take_106 rfl (fun H locs h => ?_)
    refine W.eq (g2 := F0 m 109 ls []) rfl ?_
    have h : zH dC dI k q (x_H_takeLeave X M kk (r_A_part X M (nI kk) 1) (r_A_part X M (nI kk) 4)) M (zA q) s.heap H locs := h
    refine lv_goto (tgt := 151) hx hb d_H_take_109 (by decide) ?_
    exact z_retvE C h hr hk (by first | rfl | (simp only [x_H_take, eq_false hh1, eq_false hh2, eq_true hh3, ↓reduceIte]; done) | (simp [x_H_take, eq_false hh1, eq_false hh2, eq_true hh3]; done)) (by first | rfl | (simp only [x_H_take, eq_false hh1, eq_false hh2, eq_true hh3, ↓reduceIte]; done) | (simp [x_H_take, eq_false hh1, eq_false hh2, eq_true hh3]; done)) d_H_take_151
  rcases (Decidable.em ((r_A_part X M (nI kk) 0) = 3)) with hh4 | hh4
  · skip
    refine lv_tableIn (tgt := 102) hx hb d_H_take_29 (by rw [hh4]; decide) (by rw [hh4]; decide) (by rw [hh4]; rfl) (by decide) ?_
    refine lv_aload_n hx hb d_H_take_102 rfl (lv_at hl 2 rfl) ?_
    refine lv_iload_n hx hb d_H_take_103 rfl (lv_at hl 3 rfl) ?_
    refine lv_iload_n hx hb d_H_take_104 rfl (lv_at hl 1 rfl) ?_
    refine lv_iload_n hx hb d_H_take_105 rfl (lv_at hl 0 rfl) ?_
    refine z_callV (i := 32) C h (k_H_takeLeave l dC dI k q X M kk (r_A_part X M (nI kk) 1) (r_A_part X M (nI kk) 4) n hn hb9 hL hR hk6) co_H_takeLeave ml_H_41 im_H_takeLeave se_H_takeLeave in_H rfl rfl hd_H_takeLeave ⟨by decide, by decide⟩ ⟨Nat.zero_le _, Nat.zero_le _⟩ hl.1 (Nat.le_of_ble_eq_true rfl) d_H_take_106 rfl (fun H locs h => ?_)
    refine W.eq (g2 := F0 m 109 ls []) rfl ?_
    have h : zH dC dI k q (x_H_takeLeave X M kk (r_A_part X M (nI kk) 1) (r_A_part X M (nI kk) 4)) M (zA q) s.heap H locs := h
    refine lv_goto (tgt := 151) hx hb d_H_take_109 (by decide) ?_
    exact z_retvE C h hr hk (by first | rfl | (simp only [x_H_take, eq_false hh1, eq_false hh2, eq_false hh3, eq_true hh4, ↓reduceIte]; done) | (simp [x_H_take, eq_false hh1, eq_false hh2, eq_false hh3, eq_true hh4]; done)) (by first | rfl | (simp only [x_H_take, eq_false hh1, eq_false hh2, eq_false hh3, eq_true hh4, ↓reduceIte]; done) | (simp [x_H_take, eq_false hh1, eq_false hh2, eq_false hh3, eq_true hh4]; done)) d_H_take_151
  rcases (Decidable.em ((r_A_part X M (nI kk) 0) = 4)) with hh5 | hh5
  · skip
    refine lv_tableIn (tgt := 102) hx hb d_H_take_29 (by rw [hh5]; decide) (by rw [hh5]; decide) (by rw [hh5]; rfl) (by decide) ?_
    refine lv_aload_n hx hb d_H_take_102 rfl (lv_at hl 2 rfl) ?_
    refine lv_iload_n hx hb d_H_take_103 rfl (lv_at hl 3 rfl) ?_
    refine lv_iload_n hx hb d_H_take_104 rfl (lv_at hl 1 rfl) ?_
    refine lv_iload_n hx hb d_H_take_105 rfl (lv_at hl 0 rfl) ?_
    refine z_callV (i := 32) C h (k_H_takeLeave l dC dI k q X M kk (r_A_part X M (nI kk) 1) (r_A_part X M (nI kk) 4) n hn hb9 hL hR hk6) co_H_takeLeave ml_H_41 im_H_takeLeave se_H_takeLeave in_H rfl rfl hd_H_takeLeave ⟨by decide, by decide⟩ ⟨Nat.zero_le _, Nat.zero_le _⟩ hl.1 (Nat.le_of_ble_eq_true rfl) d_H_take_106 rfl (fun H locs h => ?_)
    refine W.eq (g2 := F0 m 109 ls []) rfl ?_
    have h : zH dC dI k q (x_H_takeLeave X M kk (r_A_part X M (nI kk) 1) (r_A_part X M (nI kk) 4)) M (zA q) s.heap H locs := h
    refine lv_goto (tgt := 151) hx hb d_H_take_109 (by decide) ?_
    exact z_retvE C h hr hk (by first | rfl | (simp only [x_H_take, eq_false hh1, eq_false hh2, eq_false hh3, eq_false hh4, eq_true hh5, ↓reduceIte]; done) | (simp [x_H_take, eq_false hh1, eq_false hh2, eq_false hh3, eq_false hh4, eq_true hh5]; done)) (by first | rfl | (simp only [x_H_take, eq_false hh1, eq_false hh2, eq_false hh3, eq_false hh4, eq_true hh5, ↓reduceIte]; done) | (simp [x_H_take, eq_false hh1, eq_false hh2, eq_false hh3, eq_false hh4, eq_true hh5]; done)) d_H_take_151
  rcases (Decidable.em ((r_A_part X M (nI kk) 0) = 5)) with hh6 | hh6
  · skip
    refine lv_tableIn (tgt := 151) hx hb d_H_take_29 (by rw [hh6]; decide) (by rw [hh6]; decide) (by rw [hh6]; rfl) (by decide) ?_
    exact z_retvE C h hr hk (by first | rfl | (simp only [x_H_take, eq_false hh1, eq_false hh2, eq_false hh3, eq_false hh4, eq_false hh5, eq_true hh6, ↓reduceIte]; done) | (simp [x_H_take, eq_false hh1, eq_false hh2, eq_false hh3, eq_false hh4, eq_false hh5, eq_true hh6]; done)) (by first | rfl | (simp only [x_H_take, eq_false hh1, eq_false hh2, eq_false hh3, eq_false hh4, eq_false hh5, eq_true hh6, ↓reduceIte]; done) | (simp [x_H_take, eq_false hh1, eq_false hh2, eq_false hh3, eq_false hh4, eq_false hh5, eq_true hh6]; done)) d_H_take_151
  rcases (Decidable.em ((r_A_part X M (nI kk) 0) = 6)) with hh7 | hh7
  · skip
    refine lv_tableIn (tgt := 151) hx hb d_H_take_29 (by rw [hh7]; decide) (by rw [hh7]; decide) (by rw [hh7]; rfl) (by decide) ?_
    exact z_retvE C h hr hk (by first | rfl | (simp only [x_H_take, eq_false hh1, eq_false hh2, eq_false hh3, eq_false hh4, eq_false hh5, eq_false hh6, eq_true hh7, ↓reduceIte]; done) | (simp [x_H_take, eq_false hh1, eq_false hh2, eq_false hh3, eq_false hh4, eq_false hh5, eq_false hh6, eq_true hh7]; done)) (by first | rfl | (simp only [x_H_take, eq_false hh1, eq_false hh2, eq_false hh3, eq_false hh4, eq_false hh5, eq_false hh6, eq_true hh7, ↓reduceIte]; done) | (simp [x_H_take, eq_false hh1, eq_false hh2, eq_false hh3, eq_false hh4, eq_false hh5, eq_false hh6, eq_true hh7]; done)) d_H_take_151
  rcases (Decidable.em ((r_A_part X M (nI kk) 0) = 7)) with hh8 | hh8
  · skip
    refine lv_tableIn (tgt := 151) hx hb d_H_take_29 (by rw [hh8]; decide) (by rw [hh8]; decide) (by rw [hh8]; rfl) (by decide) ?_
    exact z_retvE C h hr hk (by first | rfl | (simp only [x_H_take, eq_false hh1, eq_false hh2, eq_false hh3, eq_false hh4, eq_false hh5, eq_false hh6, eq_false hh7, eq_true hh8, ↓reduceIte]; done) | (simp [x_H_take, eq_false hh1, eq_false hh2, eq_false hh3, eq_false hh4, eq_false hh5, eq_false hh6, eq_false hh7, eq_true hh8]; done)) (by first | rfl | (simp only [x_H_take, eq_false hh1, eq_false hh2, eq_false hh3, eq_false hh4, eq_false hh5, eq_false hh6, eq_false hh7, eq_true hh8, ↓reduceIte]; done) | (simp [x_H_take, eq_false hh1, eq_false hh2, eq_false hh3, eq_false hh4, eq_false hh5, eq_false hh6, eq_false hh7, eq_true hh8]; done)) d_H_take_151
  rcases (Decidable.em ((r_A_part X M (nI kk) 0) = 8)) with hh9 | hh9
  · skip
    refine lv_tableIn (tgt := 151) hx hb d_H_take_29 (by rw [hh9]; decide) (by rw [hh9]; decide) (by rw [hh9]; rfl) (by decide) ?_
    exact z_retvE C h hr hk (by first | rfl | (simp only [x_H_take, eq_false hh1, eq_false hh2, eq_false hh3, eq_false hh4, eq_false hh5, eq_false hh6, eq_false hh7, eq_false hh8, eq_true hh9, ↓reduceIte]; done) | (simp [x_H_take, eq_false hh1, eq_false hh2, eq_false hh3, eq_false hh4, eq_false hh5, eq_false hh6, eq_false hh7, eq_false hh8, eq_true hh9]; done)) (by first | rfl | (simp only [x_H_take, eq_false hh1, eq_false hh2, eq_false hh3, eq_false hh4, eq_false hh5, eq_false hh6, eq_false hh7, eq_false hh8, eq_true hh9, ↓reduceIte]; done) | (simp [x_H_take, eq_false hh1, eq_false hh2, eq_false hh3, eq_false hh4, eq_false hh5, eq_false hh6, eq_false hh7, eq_false hh8, eq_true hh9]; done)) d_H_take_151
  rcases (Decidable.em ((r_A_part X M (nI kk) 0) = 9)) with hh10 | hh10
  · skip
    refine lv_tableIn (tgt := 112) hx hb d_H_take_29 (by rw [hh10]; decide) (by rw [hh10]; decide) (by rw [hh10]; rfl) (by decide) ?_
    refine lv_aload_n hx hb d_H_take_112 rfl (lv_at hl 2 rfl) ?_
    refine g_H_9 C h d_H_take_113 ?_
    refine lv_iload_n hx hb d_H_take_116 rfl (lv_at hl 1 rfl) ?_
    refine lv_aload_n hx hb d_H_take_117 rfl (lv_at hl 2 rfl) ?_
    refine g_H_24 C h d_H_take_118 ?_
    refine lv_iload_n hx hb d_H_take_121 rfl (lv_at hl 3 rfl) ?_
    refine lv_bipush (v := 6) hx hb d_H_take_122 (by decide) ?_
    refine z_callV (i := 1) C h (k_A_part l dC dI k q X M (nI kk) 6 hk6 (by unfold vp_in; decide)) co_A_part ml_H_28 im_A_part se_A_part in_A rfl rfl hd_A_part ⟨by decide, by decide⟩ ⟨Nat.zero_le _, Nat.zero_le _⟩ hl.1 (Nat.le_of_ble_eq_true rfl) d_H_take_124 rfl (fun H locs h => ?_)
    refine W.eq (g2 := F0 m 127 ls [.int (r_A_part X M (nI kk) 6), .int (r_A_part X M (nI kk) 1), .ref (q 33)]) rfl ?_
    have h : zH dC dI k q X M (zA q) s.heap H locs := h
    refine s_mem C h hL d_H_take_127 (fun H locs h => ?_)
    refine lv_aload_n hx hb d_H_take_128 rfl (lv_at hl 2 rfl) ?_
    refine g_H_15 C h d_H_take_129 ?_
    refine lv_iload_n hx hb d_H_take_132 rfl (lv_at hl 1 rfl) ?_
    refine lv_aload_n hx hb d_H_take_133 rfl (lv_at hl 2 rfl) ?_
    refine g_H_21 C h d_H_take_134 ?_
    refine lv_iload_n hx hb d_H_take_137 rfl (lv_at hl 1 rfl) ?_
    refine l_sha C h hL d_H_take_138 ?_
    refine z_top (y := X 14 0 (Int32.toNatClampNeg (r_A_part X M (nI kk) 1))) rfl ?_
    have J147_1 : ∀ (ls : Array Slot) (H : Heap) (locs : List Loc), lv_has ls 4 [(0, .ref (q 32)), (1, .int (nI kk)), (2, .int (r_A_part X M (nI kk) 1)), (3, .int (r_A_part X M (nI kk) 4))] → zH dC dI k q (u3 X 11 0 (Int32.toNatClampNeg (r_A_part X M (nI kk) 1)) (r_A_part X M (nI kk) 6)) M (zA q) s.heap H locs → W p l e { frames := 3, cells := 0, slots := 0, locals := 73 } s m args below meth c H locs 0 0 (MQ below (zQc dC dI k q (x_H_take X M kk) M none) args s 0 0 (zA q)) (F0 m 147 ls [.int (jS0_H_take_147_1 X M kk), .int (r_A_part X M (nI kk) 1), .ref (q 34)]) := by
      intro ls H locs hl h
      refine s_kee C h hL d_H_take_147 (fun H locs h => ?_)
      refine lv_goto (tgt := 151) hx hb d_H_take_148 (by decide) ?_
      exact z_retvE C h hr hk (by first | rfl | (simp only [x_H_take, eq_false hh1, eq_false hh2, eq_false hh3, eq_false hh4, eq_false hh5, eq_false hh6, eq_false hh7, eq_false hh8, eq_false hh9, eq_true hh10, ↓reduceIte]; done) | (simp [x_H_take, eq_false hh1, eq_false hh2, eq_false hh3, eq_false hh4, eq_false hh5, eq_false hh6, eq_false hh7, eq_false hh8, eq_false hh9, eq_true hh10]; done)) (by first | rfl | (simp only [x_H_take, eq_false hh1, eq_false hh2, eq_false hh3, eq_false hh4, eq_false hh5, eq_false hh6, eq_false hh7, eq_false hh8, eq_false hh9, eq_true hh10, ↓reduceIte]; done) | (simp [x_H_take, eq_false hh1, eq_false hh2, eq_false hh3, eq_false hh4, eq_false hh5, eq_false hh6, eq_false hh7, eq_false hh8, eq_false hh9, eq_true hh10]; done)) d_H_take_151
    refine lv_if_ne (tgt := 146) hx hb d_H_take_139 (by decide) (fun hh11 => ?_) (fun hh11 => ?_)
    · skip
      refine lv_iconst (v := 1) hx hb d_H_take_146 (by decide) ?_
      have J := J147_1 _ _ _ (lv_sub hl [2, 3, 1, 0] rfl) h
      rw [show (jS0_H_take_147_1 X M kk) = 1 from (by first | (simp only [jS0_H_take_147_1, eq_false hh1, eq_false hh2, eq_false hh3, eq_false hh4, eq_false hh5, eq_false hh6, eq_false hh7, eq_false hh8, eq_false hh9, eq_true hh10, eq_false hh11, ↓reduceIte]; done) | (simp [jS0_H_take_147_1, eq_false hh1, eq_false hh2, eq_false hh3, eq_false hh4, eq_false hh5, eq_false hh6, eq_false hh7, eq_false hh8, eq_false hh9, eq_true hh10, eq_false hh11]; done))] at J
      exact J
    · skip
      refine lv_iconst (v := 0) hx hb d_H_take_142 (by decide) ?_
      refine lv_goto (tgt := 147) hx hb d_H_take_143 (by decide) ?_
      have J := J147_1 _ _ _ (lv_sub hl [2, 3, 1, 0] rfl) h
      rw [show (jS0_H_take_147_1 X M kk) = 0 from (by first | (simp only [jS0_H_take_147_1, eq_false hh1, eq_false hh2, eq_false hh3, eq_false hh4, eq_false hh5, eq_false hh6, eq_false hh7, eq_false hh8, eq_false hh9, eq_true hh10, eq_true hh11, ↓reduceIte]; done) | (simp [jS0_H_take_147_1, eq_false hh1, eq_false hh2, eq_false hh3, eq_false hh4, eq_false hh5, eq_false hh6, eq_false hh7, eq_false hh8, eq_false hh9, eq_true hh10, eq_true hh11]; done))] at J
      exact J
  refine lv_tableOut (tgt := 151) hx hb d_H_take_29 (z_out10 hh1 hh2 hh3 hh4 hh5 hh6 hh7 hh8 hh9 hh10) (by decide) ?_
  exact z_retvE C h hr hk (by first | rfl | (simp only [x_H_take, eq_false hh1, eq_false hh2, eq_false hh3, eq_false hh4, eq_false hh5, eq_false hh6, eq_false hh7, eq_false hh8, eq_false hh9, eq_false hh10, ↓reduceIte]; done) | (simp [x_H_take, eq_false hh1, eq_false hh2, eq_false hh3, eq_false hh4, eq_false hh5, eq_false hh6, eq_false hh7, eq_false hh8, eq_false hh9, eq_false hh10]; done)) (by first | rfl | (simp only [x_H_take, eq_false hh1, eq_false hh2, eq_false hh3, eq_false hh4, eq_false hh5, eq_false hh6, eq_false hh7, eq_false hh8, eq_false hh9, eq_false hh10, ↓reduceIte]; done) | (simp [x_H_take, eq_false hh1, eq_false hh2, eq_false hh3, eq_false hh4, eq_false hh5, eq_false hh6, eq_false hh7, eq_false hh8, eq_false hh9, eq_false hh10]; done)) d_H_take_151
theorem cr_x_C_shareWith {X : zXS} {M : zMS} {j0 : Nat} {r : Int32} {a : Int32} {n : Nat} (h : X 2 0 0 = nI n) : zCR (x_C_shareWith X M j0 r a) n 2 2 := (zCR.wk (zCR.up (by decide) (zCR.next (zCR.next (zCR.of h)))) (by decide) (by decide))
theorem cr_x_C_yieldTo {X : zXS} {M : zMS} {j0 : Nat} {r : Int32} {a : Int32} {n : Nat} (h : X 2 0 0 = nI n) : zCR (x_C_yieldTo X M j0 r a) n 1 1 := (zCR.wk (zCR.up (by decide) (zCR.next (zCR.of h))) (by decide) (by decide))
theorem cr_x_C_dropFor {X : zXS} {M : zMS} {j0 : Nat} {r : Int32} {a : Int32} {n : Nat} (h : X 2 0 0 = nI n) : zCR (x_C_dropFor X M j0 r a) n 1 1 := (zCR.ite (zCR.wk (zCR.up (by decide) (zCR.next (zCR.of h))) (by decide) (by decide)) (zCR.ite (zCR.wk (zCR.up (by decide) (zCR.next (zCR.of h))) (by decide) (by decide)) (zCR.wk (zCR.up (by decide) (zCR.next (zCR.of h))) (by decide) (by decide))))
theorem cr_x_C_change {X : zXS} {M : zMS} {j0 : Nat} {a : Int32} {v : Int32} {n : Nat} (h : X 2 0 0 = nI n) : zCR (x_C_change X M j0 a v) n 0 0 := (zCR.ite (zCR.wk (zCR.up (by decide) (zCR.up (by decide) (zCR.of h))) (by decide) (by decide)) (zCR.wk (zCR.up (by decide) (zCR.of h)) (by decide) (by decide)))
theorem cr_jX_C_finish_60_1 {X : zXS} {M : zMS} {j0 : Nat} {a : Int32} {n : Nat} (h : X 2 0 0 = nI n) : zCR (jX_C_finish_60_1 X M j0 a) n 0 0 := (zCR.ite (zCR.wk (zCR.up (by decide) (zCR.of h)) (by decide) (by decide)) (zCR.wk (zCR.bind (zCR.up (by decide) (zCR.of h)) (fun _ h => cr_x_C_change h)) (by decide) (by decide)))
theorem cr_x_C_finish {X : zXS} {M : zMS} {j0 : Nat} {a : Int32} {n : Nat} (h : X 2 0 0 = nI n) : zCR (x_C_finish X M j0 a) n 0 0 := (zCR.wk (zCR.up (by decide) (zCR.up (by decide) (zCR.bind (zCR.of h) (fun _ h => cr_jX_C_finish_60_1 h)))) (by decide) (by decide))
theorem cr_x_C_ownIfNothingOwed {X : zXS} {M : zMS} {j0 : Nat} {a : Int32} {n : Nat} (h : X 2 0 0 = nI n) : zCR (x_C_ownIfNothingOwed X M j0 a) n 0 0 := (zCR.ite (zCR.wk (zCR.bind (zCR.up (by decide) (zCR.of h)) (fun _ h => cr_x_C_finish h)) (by decide) (by decide)) (zCR.wk (zCR.of h) (by decide) (by decide)))
theorem cr_x_C_takeData {X : zXS} {M : zMS} {j0 : Nat} {a : Int32} {nn : Int32} {v : Int32} {n : Nat} (h : X 2 0 0 = nI n) : zCR (x_C_takeData X M j0 a nn v) n 0 0 := (zCR.ite (zCR.wk (zCR.bind (zCR.up (by decide) (zCR.up (by decide) (zCR.of h))) (fun _ h => cr_x_C_finish h)) (by decide) (by decide)) (zCR.wk (zCR.bind (zCR.up (by decide) (zCR.up (by decide) (zCR.up (by decide) (zCR.of h)))) (fun _ h => cr_x_C_ownIfNothingOwed h)) (by decide) (by decide)))
theorem cr_x_C_takeDropped {X : zXS} {M : zMS} {j0 : Nat} {a : Int32} {n : Nat} (h : X 2 0 0 = nI n) : zCR (x_C_takeDropped X M j0 a) n 0 0 := (zCR.ite (zCR.wk (zCR.bind (zCR.up (by decide) (zCR.of h)) (fun _ h => cr_x_C_ownIfNothingOwed h)) (by decide) (by decide)) (zCR.ite (zCR.wk (zCR.bind (zCR.up (by decide) (zCR.of h)) (fun _ h => cr_x_C_ownIfNothingOwed h)) (by decide) (by decide)) (zCR.wk (zCR.up (by decide) (zCR.of h)) (by decide) (by decide))))
theorem cr_x_C_take {X : zXS} {M : zMS} {j0 : Nat} {kk : Nat} {n : Nat} (h : X 2 0 0 = nI n) : zCR (x_C_take X M j0 kk) n 0 2 := (zCR.ite (zCR.wk (zCR.bind (zCR.of h) (fun _ h => cr_x_C_shareWith h)) (by decide) (by decide)) (zCR.ite (zCR.wk (zCR.bind (zCR.of h) (fun _ h => cr_x_C_yieldTo h)) (by decide) (by decide)) (zCR.ite (zCR.wk (zCR.bind (zCR.of h) (fun _ h => cr_x_C_dropFor h)) (by decide) (by decide)) (zCR.ite (zCR.wk (zCR.up (by decide) (zCR.of h)) (by decide) (by decide)) (zCR.ite (zCR.wk (zCR.bind (zCR.of h) (fun _ h => cr_x_C_takeData h)) (by decide) (by decide)) (zCR.ite (zCR.wk (zCR.bind (zCR.up (by decide) (zCR.up (by decide) (zCR.of h))) (fun _ h => cr_x_C_finish h)) (by decide) (by decide)) (zCR.ite (zCR.wk (zCR.bind (zCR.of h) (fun _ h => cr_x_C_takeDropped h)) (by decide) (by decide)) (zCR.wk (zCR.of h) (by decide) (by decide)))))))))
theorem cr_x_H_makeOwner {X : zXS} {M : zMS} {r : Int32} {a : Int32} {n : Nat} (h : X 2 0 0 = nI n) : zCR (x_H_makeOwner X M r a) n 0 0 := (zCR.wk (zCR.up (by decide) (zCR.up (by decide) (zCR.of h))) (by decide) (by decide))
theorem cr_x_H_takeRead {X : zXS} {M : zMS} {a : Int32} {r : Int32} {n : Nat} (h : X 2 0 0 = nI n) : zCR (x_H_takeRead X M a r) n 1 1 := (zCR.ite (zCR.wk (zCR.bind (zCR.next (zCR.of h)) (fun _ h => cr_x_H_makeOwner h)) (by decide) (by decide)) (zCR.ite (zCR.wk (zCR.up (by decide) (zCR.next (zCR.of h))) (by decide) (by decide)) (zCR.wk (zCR.up (by decide) (zCR.up (by decide) (zCR.next (zCR.of h)))) (by decide) (by decide))))
theorem cr_jX_H_dropOthers_72_1 {X : zXS} {M : zMS} {a : Int32} {r : Int32} {n : Nat} (h : X 2 0 0 = nI n) : zCR (jX_H_dropOthers_72_1 X M a r) n 1 2 := (zCR.ite (zCR.wk (zCR.next (zCR.of h)) (by decide) (by decide)) (zCR.wk (zCR.next (zCR.next (zCR.of h))) (by decide) (by decide)))
theorem cr_jX_H_dropOthers_72_2 {X : zXS} {M : zMS} {a : Int32} {r : Int32} {n : Nat} (h : X 2 0 0 = nI n) : zCR (jX_H_dropOthers_72_2 X M a r) n 1 3 := (zCR.ite (zCR.wk (zCR.bind (zCR.of h) (fun _ h => cr_jX_H_dropOthers_72_1 h)) (by decide) (by decide)) (zCR.wk (zCR.next (zCR.bind (zCR.of h) (fun _ h => cr_jX_H_dropOthers_72_1 h))) (by decide) (by decide)))
theorem cr_jX_H_dropOthers_72_3 {X : zXS} {M : zMS} {a : Int32} {r : Int32} {n : Nat} (h : X 2 0 0 = nI n) : zCR (jX_H_dropOthers_72_3 X M a r) n 1 4 := (zCR.ite (zCR.wk (zCR.bind (zCR.of h) (fun _ h => cr_jX_H_dropOthers_72_2 h)) (by decide) (by decide)) (zCR.wk (zCR.next (zCR.bind (zCR.of h) (fun _ h => cr_jX_H_dropOthers_72_2 h))) (by decide) (by decide)))
theorem cr_jX_H_dropOthers_72_4 {X : zXS} {M : zMS} {a : Int32} {r : Int32} {n : Nat} (h : X 2 0 0 = nI n) : zCR (jX_H_dropOthers_72_4 X M a r) n 1 5 := (zCR.ite (zCR.wk (zCR.bind (zCR.of h) (fun _ h => cr_jX_H_dropOthers_72_3 h)) (by decide) (by decide)) (zCR.wk (zCR.next (zCR.bind (zCR.of h) (fun _ h => cr_jX_H_dropOthers_72_3 h))) (by decide) (by decide)))
theorem cr_x_H_dropOthers {X : zXS} {M : zMS} {a : Int32} {r : Int32} {n : Nat} (h : X 2 0 0 = nI n) : zCR (x_H_dropOthers X M a r) n 1 5 := (zCR.wk (zCR.up (by decide) (zCR.bind (zCR.of h) (fun _ h => cr_jX_H_dropOthers_72_4 h))) (by decide) (by decide))
theorem cr_x_H_takeWrite {X : zXS} {M : zMS} {a : Int32} {r : Int32} {n : Nat} (h : X 2 0 0 = nI n) : zCR (x_H_takeWrite X M a r) n 1 5 := (zCR.ite (zCR.wk (zCR.bind (zCR.next (zCR.of h)) (fun _ h => cr_x_H_makeOwner h)) (by decide) (by decide)) (zCR.ite (zCR.wk (zCR.bind (zCR.bind (zCR.of h) (fun _ h => cr_x_H_dropOthers h)) (fun _ h => cr_x_H_makeOwner h)) (by decide) (by decide)) (zCR.wk (zCR.bind (zCR.next (zCR.of h)) (fun _ h => cr_x_H_makeOwner h)) (by decide) (by decide))))
theorem cr_x_H_forgetSharer {X : zXS} {M : zMS} {a : Int32} {r : Int32} {n : Nat} (h : X 2 0 0 = nI n) : zCR (x_H_forgetSharer X M a r) n 0 0 := (zCR.ite (zCR.ite (zCR.wk (zCR.up (by decide) (zCR.up (by decide) (zCR.of h))) (by decide) (by decide)) (zCR.wk (zCR.up (by decide) (zCR.of h)) (by decide) (by decide))) (zCR.wk (zCR.up (by decide) (zCR.of h)) (by decide) (by decide)))
theorem cr_x_H_takeLeave {X : zXS} {M : zMS} {kk : Nat} {a : Int32} {r : Int32} {n : Nat} (h : X 2 0 0 = nI n) : zCR (x_H_takeLeave X M kk a r) n 1 1 := (zCR.ite (zCR.ite (zCR.ite (zCR.wk (zCR.next (zCR.up (by decide) (zCR.up (by decide) (zCR.of h)))) (by decide) (by decide)) (zCR.wk (zCR.next (zCR.up (by decide) (zCR.of h))) (by decide) (by decide))) (zCR.wk (zCR.next (zCR.bind (zCR.of h) (fun _ h => cr_x_H_forgetSharer h))) (by decide) (by decide))) (zCR.wk (zCR.next (zCR.bind (zCR.of h) (fun _ h => cr_x_H_forgetSharer h))) (by decide) (by decide)))
theorem cr_x_H_take {X : zXS} {M : zMS} {kk : Nat} {n : Nat} (h : X 2 0 0 = nI n) : zCR (x_H_take X M kk) n 0 5 := (zCR.ite (zCR.wk (zCR.bind (zCR.of h) (fun _ h => cr_x_H_takeRead h)) (by decide) (by decide)) (zCR.ite (zCR.wk (zCR.bind (zCR.of h) (fun _ h => cr_x_H_takeWrite h)) (by decide) (by decide)) (zCR.ite (zCR.wk (zCR.bind (zCR.of h) (fun _ h => cr_x_H_takeLeave h)) (by decide) (by decide)) (zCR.ite (zCR.wk (zCR.bind (zCR.of h) (fun _ h => cr_x_H_takeLeave h)) (by decide) (by decide)) (zCR.ite (zCR.wk (zCR.bind (zCR.of h) (fun _ h => cr_x_H_takeLeave h)) (by decide) (by decide)) (zCR.ite (zCR.wk (zCR.of h) (by decide) (by decide)) (zCR.ite (zCR.wk (zCR.of h) (by decide) (by decide)) (zCR.ite (zCR.wk (zCR.of h) (by decide) (by decide)) (zCR.ite (zCR.wk (zCR.of h) (by decide) (by decide)) (zCR.ite (zCR.wk (zCR.up (by decide) (zCR.up (by decide) (zCR.of h))) (by decide) (by decide)) (zCR.wk (zCR.of h) (by decide) (by decide))))))))))))
