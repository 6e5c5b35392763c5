/-! the law's loop -/
set_option maxHeartbeats 4000000 in
set_option maxRecDepth 100000 in
theorem lw_loop {p : Program} {l : Launch} {e : Env} {s : State} {m : MethodId} {args : Array Value} {below : List Frame} {meth : Method} {c : Code} {cells slots : Nat} {Q : State → Prop} {dC : Nat → ClassId} {dI : Nat → Nat → Nat} {k : Nat → ClassId} {q : Nat → Nat} {A : Nat → Prop} {b L : Nat} {xs : Nat → Int32} (hL : L ≤ 2048) (C : zCx p s m args c code 4 "SharerHomeLaw" dC dI k) (hX : va_X b L xs s s.heap) (hbl : b < s.heap.size) (hbA : ¬ A b) (hcs : cells ≤ room_1.cells ∧ slots ≤ room_1.slots)
    (kx : ∀ (X : zXS) (M : zMS) (ls : Array Slot) (H : Heap) (locs : List Loc), zH dC dI k q X M A s.heap H locs → W p l e room_1 s m args below meth c H locs cells slots Q (F0 m 623 ls [])) :
    ∀ (n j : Nat) (X : zXS) (M : zMS) (ls : Array Slot) (H : Heap) (locs : List Loc), 4 * j ≤ L + 3 → L + 4 ≤ 4 * (j + n) → RR X M → zH dC dI k q X M A s.heap H locs → lv_has ls 4 [(3, .int (nI (4 * j))), (2, .ref (q 37)), (1, .ref (q 0)), (0, .ref b)] → W p l e room_1 s m args below meth c H locs cells slots Q (F0 m 18 ls []) := by
  intro n
  induction n with
  | zero => intro j X M ls H locs h1 h2; omega
  | succ n ih =>
    intro j X M ls H locs hj hn hRR h hl
    have hx := C.1
    have hb := C.2.1
    refine lv_iload_n hx hb d_L_law_18 rfl (lv_at hl 0 rfl) ?_
    refine lv_aload_n hx hb d_L_law_19 rfl (lv_at hl 3 rfl) ?_
    refine va_slen hx hb hX hbl hbA h.2.2 d_L_law_20 ?_
    refine lv_iconst (v := 4) hx hb d_L_law_21 (by decide) ?_
    refine lv_isub hx hb d_L_law_22 ?_
    refine lv_icmp_gt (tgt := 623) hx hb d_L_law_23 (by decide) (fun _ => kx X M ls H locs h) (fun hlt => ?_)
    have hin4 : 4 * j + 4 ≤ L := by
      have e1 : (nI L - nI 4).toInt = (L : Int) - (4 : Nat) := pk_sub_toInt (by omega) (by omega)
      have e2 : (nI (4 * j)).toInt = ((4 * j : Nat) : Int) := nI_toInt (by omega)
      have hlt2 : ¬ (nI L - nI 4 < nI (4 * j)) := hlt
      rw [Int32.lt_iff_toInt_lt, e1, e2] at hlt2
      omega
    have v0 : vp_in (nI (4 * j)) L := vp_in_nI (by omega) (by omega)
    have v1 : vp_in (nI (4 * j) + 1) L := by rw [show nI (4 * j) + 1 = nI (4 * j + 1) from nI_add (4 * j) 1]; exact vp_in_nI (by omega) (by omega)
    have v2 : vp_in (nI (4 * j) + 2) L := by rw [show nI (4 * j) + 2 = nI (4 * j + 2) from nI_add (4 * j) 2]; exact vp_in_nI (by omega) (by omega)
    have v3 : vp_in (nI (4 * j) + 3) L := by rw [show nI (4 * j) + 3 = nI (4 * j + 3) from nI_add (4 * j) 3]; exact vp_in_nI (by omega) (by omega)
    refine lv_aload_n hx hb d_L_law_26 rfl (lv_at hl 3 rfl) ?_
    refine lv_iload_n hx hb d_L_law_27 rfl (lv_at hl 0 rfl) ?_
    refine va_sld hx hb hX hbl hbA h.2.2 v0 d_L_law_28 ?_
    refine lv_bipush (v := 31) hx hb d_L_law_29 (by decide) ?_
    refine lv_iand hx hb d_L_law_31 ?_
    have next : ∀ (X : zXS) (M : zMS) (H : Heap) (locs : List Loc), RR X M → zH dC dI k q X M A s.heap H locs → W p l e room_1 s m args below meth c H locs cells slots Q (F0 m 617 ls []) := by
      intro X M H locs hRR h
      refine lv_iinc (k := 0) (v := nI (4 * (j + 1))) hx hb d_L_law_617 hl rfl (nI_add (4 * j) 4) (by decide) rfl (fun ls hl => ?_)
      refine lv_goto (tgt := 18) hx hb d_L_law_620 (by decide) ?_
      exact ih (j + 1) X M ls H locs (by omega) (by omega) hRR h hl
    obtain ⟨w, hw, ew⟩ := pk_andE (xs (Int32.toNatClampNeg (nI (4 * j)))) (m := 31) 5 (by decide)
    refine z_top ew ?_
    rcases (show w = 0 ∨ w = 1 ∨ w = 2 ∨ w = 3 ∨ w = 4 ∨ w = 5 ∨ w = 6 ∨ w = 7 ∨ w = 8 ∨ w = 9 ∨ w = 10 ∨ w = 11 ∨ w = 12 ∨ w = 13 ∨ w = 14 ∨ w = 15 ∨ w = 16 ∨ 17 ≤ w by omega) with rfl | rfl | rfl | rfl | rfl | rfl | rfl | rfl | rfl | rfl | rfl | rfl | rfl | rfl | rfl | rfl | rfl | hw2
    · exact lv_tableIn (off := 84) (tgt := 116) hx hb d_L_law_32 (by decide) (by decide) (by decide) (by decide) (lw_c0 C h hRR hX hbl hbA hl v1 v2 v3 hcs next)
    · exact lv_tableIn (off := 117) (tgt := 149) hx hb d_L_law_32 (by decide) (by decide) (by decide) (by decide) (lw_c1 C h hRR hX hbl hbA hl v1 v2 v3 hcs next)
    · exact lv_tableIn (off := 160) (tgt := 192) hx hb d_L_law_32 (by decide) (by decide) (by decide) (by decide) (lw_c2 C h hRR hX hbl hbA hl v1 v2 v3 hcs next)
    · exact lv_tableIn (off := 203) (tgt := 235) hx hb d_L_law_32 (by decide) (by decide) (by decide) (by decide) (lw_c3 C h hRR hX hbl hbA hl v1 v2 v3 hcs next)
    · exact lv_tableIn (off := 236) (tgt := 268) hx hb d_L_law_32 (by decide) (by decide) (by decide) (by decide) (lw_c4 C h hRR hX hbl hbA hl v1 v2 v3 hcs next)
    · exact lv_tableIn (off := 259) (tgt := 291) hx hb d_L_law_32 (by decide) (by decide) (by decide) (by decide) (lw_c5 C h hRR hX hbl hbA hl v1 v2 v3 hcs next)
    · exact lv_tableIn (off := 292) (tgt := 324) hx hb d_L_law_32 (by decide) (by decide) (by decide) (by decide) (lw_c6 C h hRR hX hbl hbA hl v1 v2 v3 hcs next)
    · exact lv_tableIn (off := 315) (tgt := 347) hx hb d_L_law_32 (by decide) (by decide) (by decide) (by decide) (lw_c7 C h hRR hX hbl hbA hl v1 v2 v3 hcs next)
    · exact lv_tableIn (off := 348) (tgt := 380) hx hb d_L_law_32 (by decide) (by decide) (by decide) (by decide) (lw_c8 C h hRR hX hbl hbA hl v1 v2 v3 hcs next)
    · exact lv_tableIn (off := 381) (tgt := 413) hx hb d_L_law_32 (by decide) (by decide) (by decide) (by decide) (lw_c9 C h hRR hX hbl hbA hl v1 v2 v3 hcs next)
    · exact lv_tableIn (off := 414) (tgt := 446) hx hb d_L_law_32 (by decide) (by decide) (by decide) (by decide) (lw_c10 C h hRR hX hbl hbA hl v1 v2 v3 hcs next)
    · exact lv_tableIn (off := 437) (tgt := 469) hx hb d_L_law_32 (by decide) (by decide) (by decide) (by decide) (lw_c11 C h hRR hX hbl hbA hl v1 v2 v3 hcs next)
    · exact lv_tableIn (off := 460) (tgt := 492) hx hb d_L_law_32 (by decide) (by decide) (by decide) (by decide) (lw_c12 C h hRR hX hbl hbA hl v1 v2 v3 hcs next)
    · exact lv_tableIn (off := 483) (tgt := 515) hx hb d_L_law_32 (by decide) (by decide) (by decide) (by decide) (lw_c13 C h hRR hX hbl hbA hl v1 v2 v3 hcs next)
    · exact lv_tableIn (off := 506) (tgt := 538) hx hb d_L_law_32 (by decide) (by decide) (by decide) (by decide) (lw_c14 C h hRR hX hbl hbA hl v1 v2 v3 hcs next)
    · exact lv_tableIn (off := 529) (tgt := 561) hx hb d_L_law_32 (by decide) (by decide) (by decide) (by decide) (lw_c15 C h hRR hX hbl hbA hl v1 v2 v3 hcs next)
    · exact lv_tableIn (off := 562) (tgt := 594) hx hb d_L_law_32 (by decide) (by decide) (by decide) (by decide) (lw_c16 C h hRR hX hbl hbA hl v1 v2 v3 hcs next)
    · refine lv_tableOut (tgt := 617) hx hb d_L_law_32 (Or.inr ?_) (by decide) (next X M H locs hRR h)
      rw [nI_toInt (by omega)]
      omega
