set_option maxHeartbeats 4000000 in
set_option maxRecDepth 100000 in
theorem lw_c0 {p : Program} {l : Launch} {e : Env} {s : State} {m : MethodId} {args : Array Value} {below : List Frame} {meth : Method} {c : Code} {H : Heap} {locs : List Loc} {cells slots : Nat} {Q : State → Prop} {ls : Array Slot} {dC : Nat → ClassId} {dI : Nat → Nat → Nat} {k : Nat → ClassId} {q : Nat → Nat} {X : zXS} {M : zMS} {A : Nat → Prop} {b L : Nat} {xs : Nat → Int32} {i : Int32} (C : zCx p s m args c code 4 "SharerHomeLaw" dC dI k) (h : zH dC dI k q X M A s.heap H locs) (hRR : RR X M) (hX : va_X b L xs s s.heap) (hbl : b < s.heap.size) (hbA : ¬ A b) (hl : lv_has ls 4 [(3, .int i), (2, .ref (q 37)), (1, .ref (q 0)), (0, .ref b)]) (h1 : vp_in (i + 1) L) (h2 : vp_in (i + 2) L) (h3 : vp_in (i + 3) L) (hcs : cells ≤ room_1.cells ∧ slots ≤ room_1.slots) (kk : ∀ (X : zXS) (M : zMS) (H : Heap) (locs : List Loc), RR X M → zH dC dI k q X M A s.heap H locs → W p l e room_1 s m args below meth c H locs cells slots Q (F0 m 617 ls [])) : W p l e room_1 s m args below meth c H locs cells slots Q (F0 m 116 ls []) := by
  have hx := C.1
  have hb := C.2.1
  obtain ⟨nX, hnX, hbX, hWX⟩ := GX.n M hRR.X
  obtain ⟨nM, hnM, hbM, hWM⟩ := GM.n hRR.M
  refine lv_aload_n hx hb d_L_law_116 rfl (lv_at hl 2 rfl) ?_
  refine lv_aload_n hx hb d_L_law_117 rfl (lv_at hl 3 rfl) ?_
  refine lv_iload_n hx hb d_L_law_118 rfl (lv_at hl 0 rfl) ?_
  refine lv_iconst (v := 1) hx hb d_L_law_119 (by decide) ?_
  refine lv_iadd hx hb d_L_law_120 ?_
  refine va_sld hx hb hX hbl hbA h.2.2 h1 d_L_law_121 ?_
  refine lv_aload_n hx hb d_L_law_122 rfl (lv_at hl 3 rfl) ?_
  refine lv_iload_n hx hb d_L_law_123 rfl (lv_at hl 0 rfl) ?_
  refine lv_iconst (v := 2) hx hb d_L_law_124 (by decide) ?_
  refine lv_iadd hx hb d_L_law_125 ?_
  refine va_sld hx hb hX hbl hbA h.2.2 h2 d_L_law_126 ?_
  refine z_callV (i := 0) C h (k_S_load l dC dI k q X M (xs (Int32.toNatClampNeg (i + 1))) (xs (Int32.toNatClampNeg (i + 2))) nX hnX hbX) co_S_load ml_L_13 im_S_load se_S_load in_S rfl rfl hd_S_load ⟨(Nat.le_of_ble_eq_true rfl), (Nat.le_of_ble_eq_true rfl)⟩ hcs hl.1 (Nat.le_of_ble_eq_true rfl) d_L_law_127 rfl (fun H locs h => ?_)
  refine W.eq (g2 := F0 m 130 ls [.int (r_S_load X M (xs (Int32.toNatClampNeg (i + 1))) (xs (Int32.toNatClampNeg (i + 2))))]) rfl ?_
  have h : zH dC dI k q (x_S_load X M (xs (Int32.toNatClampNeg (i + 1))) (xs (Int32.toNatClampNeg (i + 2)))) M A s.heap H locs := h
  refine lv_aload_n hx hb d_L_law_130 rfl (lv_at hl 1 rfl) ?_
  refine lv_aload_n hx hb d_L_law_131 rfl (lv_at hl 3 rfl) ?_
  refine lv_iload_n hx hb d_L_law_132 rfl (lv_at hl 0 rfl) ?_
  refine lv_iconst (v := 1) hx hb d_L_law_133 (by decide) ?_
  refine lv_iadd hx hb d_L_law_134 ?_
  refine va_sld hx hb hX hbl hbA h.2.2 h1 d_L_law_135 ?_
  refine lv_aload_n hx hb d_L_law_136 rfl (lv_at hl 3 rfl) ?_
  refine lv_iload_n hx hb d_L_law_137 rfl (lv_at hl 0 rfl) ?_
  refine lv_iconst (v := 2) hx hb d_L_law_138 (by decide) ?_
  refine lv_iadd hx hb d_L_law_139 ?_
  refine va_sld hx hb hX hbl hbA h.2.2 h2 d_L_law_140 ?_
  refine z_callV (i := 37) C h (k_M_load l dC dI k q (x_S_load X M (xs (Int32.toNatClampNeg (i + 1))) (xs (Int32.toNatClampNeg (i + 2)))) M (xs (Int32.toNatClampNeg (i + 1))) (xs (Int32.toNatClampNeg (i + 2))) nM hnM hbM) co_M_load ml_L_17 im_M_load se_M_load in_M rfl rfl hd_M_load ⟨(Nat.le_of_ble_eq_true rfl), (Nat.le_of_ble_eq_true rfl)⟩ hcs hl.1 (Nat.le_of_ble_eq_true rfl) d_L_law_141 rfl (fun H locs h => ?_)
  refine W.eq (g2 := F0 m 144 ls [.int (r_M_load (x_S_load X M (xs (Int32.toNatClampNeg (i + 1))) (xs (Int32.toNatClampNeg (i + 2)))) M (xs (Int32.toNatClampNeg (i + 1))) (xs (Int32.toNatClampNeg (i + 2)))), .int (r_S_load X M (xs (Int32.toNatClampNeg (i + 1))) (xs (Int32.toNatClampNeg (i + 2))))]) rfl ?_
  have h : zH dC dI k q (x_S_load X M (xs (Int32.toNatClampNeg (i + 1))) (xs (Int32.toNatClampNeg (i + 2)))) (m_M_load (x_S_load X M (xs (Int32.toNatClampNeg (i + 1))) (xs (Int32.toNatClampNeg (i + 2)))) M (xs (Int32.toNatClampNeg (i + 1))) (xs (Int32.toNatClampNeg (i + 2)))) A s.heap H locs := h
  obtain ⟨e1, R1⟩ := rr_load (X0 := (x_S_load X M (xs (Int32.toNatClampNeg (i + 1))) (xs (Int32.toNatClampNeg (i + 2))))) (M0 := M) hRR (xs (Int32.toNatClampNeg (i + 1))) (xs (Int32.toNatClampNeg (i + 2)))
  exact lv_icmp_eq (tgt := 617) hx hb d_L_law_144 (by decide) (fun _ => kk _ _ _ _ R1 h) (fun hne => absurd e1 hne)
set_option maxHeartbeats 4000000 in
set_option maxRecDepth 100000 in
theorem lw_c1 {p : Program} {l : Launch} {e : Env} {s : State} {m : MethodId} {args : Array Value} {below : List Frame} {meth : Method} {c : Code} {H : Heap} {locs : List Loc} {cells slots : Nat} {Q : State → Prop} {ls : Array Slot} {dC : Nat → ClassId} {dI : Nat → Nat → Nat} {k : Nat → ClassId} {q : Nat → Nat} {X : zXS} {M : zMS} {A : Nat → Prop} {b L : Nat} {xs : Nat → Int32} {i : Int32} (C : zCx p s m args c code 4 "SharerHomeLaw" dC dI k) (h : zH dC dI k q X M A s.heap H locs) (hRR : RR X M) (hX : va_X b L xs s s.heap) (hbl : b < s.heap.size) (hbA : ¬ A b) (hl : lv_has ls 4 [(3, .int i), (2, .ref (q 37)), (1, .ref (q 0)), (0, .ref b)]) (h1 : vp_in (i + 1) L) (h2 : vp_in (i + 2) L) (h3 : vp_in (i + 3) L) (hcs : cells ≤ room_1.cells ∧ slots ≤ room_1.slots) (kk : ∀ (X : zXS) (M : zMS) (H : Heap) (locs : List Loc), RR X M → zH dC dI k q X M A s.heap H locs → W p l e room_1 s m args below meth c H locs cells slots Q (F0 m 617 ls [])) : W p l e room_1 s m args below meth c H locs cells slots Q (F0 m 149 ls []) := by
  have hx := C.1
  have hb := C.2.1
  obtain ⟨nX, hnX, hbX, hWX⟩ := GX.n M hRR.X
  obtain ⟨nM, hnM, hbM, hWM⟩ := GM.n hRR.M
  refine lv_aload_n hx hb d_L_law_149 rfl (lv_at hl 2 rfl) ?_
  refine lv_aload_n hx hb d_L_law_150 rfl (lv_at hl 3 rfl) ?_
  refine lv_iload_n hx hb d_L_law_151 rfl (lv_at hl 0 rfl) ?_
  refine lv_iconst (v := 1) hx hb d_L_law_152 (by decide) ?_
  refine lv_iadd hx hb d_L_law_153 ?_
  refine va_sld hx hb hX hbl hbA h.2.2 h1 d_L_law_154 ?_
  refine lv_aload_n hx hb d_L_law_155 rfl (lv_at hl 3 rfl) ?_
  refine lv_iload_n hx hb d_L_law_156 rfl (lv_at hl 0 rfl) ?_
  refine lv_iconst (v := 2) hx hb d_L_law_157 (by decide) ?_
  refine lv_iadd hx hb d_L_law_158 ?_
  refine va_sld hx hb hX hbl hbA h.2.2 h2 d_L_law_159 ?_
  refine lv_aload_n hx hb d_L_law_160 rfl (lv_at hl 3 rfl) ?_
  refine lv_iload_n hx hb d_L_law_161 rfl (lv_at hl 0 rfl) ?_
  refine lv_iconst (v := 3) hx hb d_L_law_162 (by decide) ?_
  refine lv_iadd hx hb d_L_law_163 ?_
  refine va_sld hx hb hX hbl hbA h.2.2 h3 d_L_law_164 ?_
  refine z_callV (i := 0) C h (k_S_store l dC dI k q X M (xs (Int32.toNatClampNeg (i + 1))) (xs (Int32.toNatClampNeg (i + 2))) (xs (Int32.toNatClampNeg (i + 3))) nX hnX hbX) co_S_store ml_L_18 im_S_store se_S_store in_S rfl rfl hd_S_store ⟨(Nat.le_of_ble_eq_true rfl), (Nat.le_of_ble_eq_true rfl)⟩ hcs hl.1 (Nat.le_of_ble_eq_true rfl) d_L_law_165 rfl (fun H locs h => ?_)
  refine W.eq (g2 := F0 m 168 ls [.int (r_S_store X M (xs (Int32.toNatClampNeg (i + 1))) (xs (Int32.toNatClampNeg (i + 2))) (xs (Int32.toNatClampNeg (i + 3))))]) rfl ?_
  have h : zH dC dI k q (x_S_store X M (xs (Int32.toNatClampNeg (i + 1))) (xs (Int32.toNatClampNeg (i + 2))) (xs (Int32.toNatClampNeg (i + 3)))) M A s.heap H locs := h
  refine lv_aload_n hx hb d_L_law_168 rfl (lv_at hl 1 rfl) ?_
  refine lv_aload_n hx hb d_L_law_169 rfl (lv_at hl 3 rfl) ?_
  refine lv_iload_n hx hb d_L_law_170 rfl (lv_at hl 0 rfl) ?_
  refine lv_iconst (v := 1) hx hb d_L_law_171 (by decide) ?_
  refine lv_iadd hx hb d_L_law_172 ?_
  refine va_sld hx hb hX hbl hbA h.2.2 h1 d_L_law_173 ?_
  refine lv_aload_n hx hb d_L_law_174 rfl (lv_at hl 3 rfl) ?_
  refine lv_iload_n hx hb d_L_law_175 rfl (lv_at hl 0 rfl) ?_
  refine lv_iconst (v := 2) hx hb d_L_law_176 (by decide) ?_
  refine lv_iadd hx hb d_L_law_177 ?_
  refine va_sld hx hb hX hbl hbA h.2.2 h2 d_L_law_178 ?_
  refine lv_aload_n hx hb d_L_law_179 rfl (lv_at hl 3 rfl) ?_
  refine lv_iload_n hx hb d_L_law_180 rfl (lv_at hl 0 rfl) ?_
  refine lv_iconst (v := 3) hx hb d_L_law_181 (by decide) ?_
  refine lv_iadd hx hb d_L_law_182 ?_
  refine va_sld hx hb hX hbl hbA h.2.2 h3 d_L_law_183 ?_
  refine z_callV (i := 37) C h (k_M_store l dC dI k q (x_S_store X M (xs (Int32.toNatClampNeg (i + 1))) (xs (Int32.toNatClampNeg (i + 2))) (xs (Int32.toNatClampNeg (i + 3)))) M (xs (Int32.toNatClampNeg (i + 1))) (xs (Int32.toNatClampNeg (i + 2))) (xs (Int32.toNatClampNeg (i + 3))) nM hnM hbM) co_M_store ml_L_22 im_M_store se_M_store in_M rfl rfl hd_M_store ⟨(Nat.le_of_ble_eq_true rfl), (Nat.le_of_ble_eq_true rfl)⟩ hcs hl.1 (Nat.le_of_ble_eq_true rfl) d_L_law_184 rfl (fun H locs h => ?_)
  refine W.eq (g2 := F0 m 187 ls [.int (r_M_store (x_S_store X M (xs (Int32.toNatClampNeg (i + 1))) (xs (Int32.toNatClampNeg (i + 2))) (xs (Int32.toNatClampNeg (i + 3)))) M (xs (Int32.toNatClampNeg (i + 1))) (xs (Int32.toNatClampNeg (i + 2))) (xs (Int32.toNatClampNeg (i + 3)))), .int (r_S_store X M (xs (Int32.toNatClampNeg (i + 1))) (xs (Int32.toNatClampNeg (i + 2))) (xs (Int32.toNatClampNeg (i + 3))))]) rfl ?_
  have h : zH dC dI k q (x_S_store X M (xs (Int32.toNatClampNeg (i + 1))) (xs (Int32.toNatClampNeg (i + 2))) (xs (Int32.toNatClampNeg (i + 3)))) (m_M_store (x_S_store X M (xs (Int32.toNatClampNeg (i + 1))) (xs (Int32.toNatClampNeg (i + 2))) (xs (Int32.toNatClampNeg (i + 3)))) M (xs (Int32.toNatClampNeg (i + 1))) (xs (Int32.toNatClampNeg (i + 2))) (xs (Int32.toNatClampNeg (i + 3)))) A s.heap H locs := h
  obtain ⟨e1, R1⟩ := rr_store (X0 := (x_S_store X M (xs (Int32.toNatClampNeg (i + 1))) (xs (Int32.toNatClampNeg (i + 2))) (xs (Int32.toNatClampNeg (i + 3))))) (M0 := M) hRR (xs (Int32.toNatClampNeg (i + 1))) (xs (Int32.toNatClampNeg (i + 2))) (xs (Int32.toNatClampNeg (i + 3)))
  exact lv_icmp_eq (tgt := 617) hx hb d_L_law_187 (by decide) (fun _ => kk _ _ _ _ R1 h) (fun hne => absurd e1 hne)
set_option maxHeartbeats 4000000 in
set_option maxRecDepth 100000 in
theorem lw_c2 {p : Program} {l : Launch} {e : Env} {s : State} {m : MethodId} {args : Array Value} {below : List Frame} {meth : Method} {c : Code} {H : Heap} {locs : List Loc} {cells slots : Nat} {Q : State → Prop} {ls : Array Slot} {dC : Nat → ClassId} {dI : Nat → Nat → Nat} {k : Nat → ClassId} {q : Nat → Nat} {X : zXS} {M : zMS} {A : Nat → Prop} {b L : Nat} {xs : Nat → Int32} {i : Int32} (C : zCx p s m args c code 4 "SharerHomeLaw" dC dI k) (h : zH dC dI k q X M A s.heap H locs) (hRR : RR X M) (hX : va_X b L xs s s.heap) (hbl : b < s.heap.size) (hbA : ¬ A b) (hl : lv_has ls 4 [(3, .int i), (2, .ref (q 37)), (1, .ref (q 0)), (0, .ref b)]) (h1 : vp_in (i + 1) L) (h2 : vp_in (i + 2) L) (h3 : vp_in (i + 3) L) (hcs : cells ≤ room_1.cells ∧ slots ≤ room_1.slots) (kk : ∀ (X : zXS) (M : zMS) (H : Heap) (locs : List Loc), RR X M → zH dC dI k q X M A s.heap H locs → W p l e room_1 s m args below meth c H locs cells slots Q (F0 m 617 ls [])) : W p l e room_1 s m args below meth c H locs cells slots Q (F0 m 192 ls []) := by
  have hx := C.1
  have hb := C.2.1
  obtain ⟨nX, hnX, hbX, hWX⟩ := GX.n M hRR.X
  obtain ⟨nM, hnM, hbM, hWM⟩ := GM.n hRR.M
  refine lv_aload_n hx hb d_L_law_192 rfl (lv_at hl 2 rfl) ?_
  refine lv_aload_n hx hb d_L_law_193 rfl (lv_at hl 3 rfl) ?_
  refine lv_iload_n hx hb d_L_law_194 rfl (lv_at hl 0 rfl) ?_
  refine lv_iconst (v := 1) hx hb d_L_law_195 (by decide) ?_
  refine lv_iadd hx hb d_L_law_196 ?_
  refine va_sld hx hb hX hbl hbA h.2.2 h1 d_L_law_197 ?_
  refine lv_aload_n hx hb d_L_law_198 rfl (lv_at hl 3 rfl) ?_
  refine lv_iload_n hx hb d_L_law_199 rfl (lv_at hl 0 rfl) ?_
  refine lv_iconst (v := 2) hx hb d_L_law_200 (by decide) ?_
  refine lv_iadd hx hb d_L_law_201 ?_
  refine va_sld hx hb hX hbl hbA h.2.2 h2 d_L_law_202 ?_
  refine lv_aload_n hx hb d_L_law_203 rfl (lv_at hl 3 rfl) ?_
  refine lv_iload_n hx hb d_L_law_204 rfl (lv_at hl 0 rfl) ?_
  refine lv_iconst (v := 3) hx hb d_L_law_205 (by decide) ?_
  refine lv_iadd hx hb d_L_law_206 ?_
  refine va_sld hx hb hX hbl hbA h.2.2 h3 d_L_law_207 ?_
  refine z_callV (i := 0) C h (k_S_add l dC dI k q X M (xs (Int32.toNatClampNeg (i + 1))) (xs (Int32.toNatClampNeg (i + 2))) (xs (Int32.toNatClampNeg (i + 3))) nX hnX hbX) co_S_add ml_L_23 im_S_add se_S_add in_S rfl rfl hd_S_add ⟨(Nat.le_of_ble_eq_true rfl), (Nat.le_of_ble_eq_true rfl)⟩ hcs hl.1 (Nat.le_of_ble_eq_true rfl) d_L_law_208 rfl (fun H locs h => ?_)
  refine W.eq (g2 := F0 m 211 ls [.int (r_S_add X M (xs (Int32.toNatClampNeg (i + 1))) (xs (Int32.toNatClampNeg (i + 2))) (xs (Int32.toNatClampNeg (i + 3))))]) rfl ?_
  have h : zH dC dI k q (x_S_add X M (xs (Int32.toNatClampNeg (i + 1))) (xs (Int32.toNatClampNeg (i + 2))) (xs (Int32.toNatClampNeg (i + 3)))) M A s.heap H locs := h
  refine lv_aload_n hx hb d_L_law_211 rfl (lv_at hl 1 rfl) ?_
  refine lv_aload_n hx hb d_L_law_212 rfl (lv_at hl 3 rfl) ?_
  refine lv_iload_n hx hb d_L_law_213 rfl (lv_at hl 0 rfl) ?_
  refine lv_iconst (v := 1) hx hb d_L_law_214 (by decide) ?_
  refine lv_iadd hx hb d_L_law_215 ?_
  refine va_sld hx hb hX hbl hbA h.2.2 h1 d_L_law_216 ?_
  refine lv_aload_n hx hb d_L_law_217 rfl (lv_at hl 3 rfl) ?_
  refine lv_iload_n hx hb d_L_law_218 rfl (lv_at hl 0 rfl) ?_
  refine lv_iconst (v := 2) hx hb d_L_law_219 (by decide) ?_
  refine lv_iadd hx hb d_L_law_220 ?_
  refine va_sld hx hb hX hbl hbA h.2.2 h2 d_L_law_221 ?_
  refine lv_aload_n hx hb d_L_law_222 rfl (lv_at hl 3 rfl) ?_
  refine lv_iload_n hx hb d_L_law_223 rfl (lv_at hl 0 rfl) ?_
  refine lv_iconst (v := 3) hx hb d_L_law_224 (by decide) ?_
  refine lv_iadd hx hb d_L_law_225 ?_
  refine va_sld hx hb hX hbl hbA h.2.2 h3 d_L_law_226 ?_
  refine z_callV (i := 37) C h (k_M_add l dC dI k q (x_S_add X M (xs (Int32.toNatClampNeg (i + 1))) (xs (Int32.toNatClampNeg (i + 2))) (xs (Int32.toNatClampNeg (i + 3)))) M (xs (Int32.toNatClampNeg (i + 1))) (xs (Int32.toNatClampNeg (i + 2))) (xs (Int32.toNatClampNeg (i + 3))) nM hnM hbM) co_M_add ml_L_26 im_M_add se_M_add in_M rfl rfl hd_M_add ⟨(Nat.le_of_ble_eq_true rfl), (Nat.le_of_ble_eq_true rfl)⟩ hcs hl.1 (Nat.le_of_ble_eq_true rfl) d_L_law_227 rfl (fun H locs h => ?_)
  refine W.eq (g2 := F0 m 230 ls [.int (r_M_add (x_S_add X M (xs (Int32.toNatClampNeg (i + 1))) (xs (Int32.toNatClampNeg (i + 2))) (xs (Int32.toNatClampNeg (i + 3)))) M (xs (Int32.toNatClampNeg (i + 1))) (xs (Int32.toNatClampNeg (i + 2))) (xs (Int32.toNatClampNeg (i + 3)))), .int (r_S_add X M (xs (Int32.toNatClampNeg (i + 1))) (xs (Int32.toNatClampNeg (i + 2))) (xs (Int32.toNatClampNeg (i + 3))))]) rfl ?_
  have h : zH dC dI k q (x_S_add X M (xs (Int32.toNatClampNeg (i + 1))) (xs (Int32.toNatClampNeg (i + 2))) (xs (Int32.toNatClampNeg (i + 3)))) (m_M_add (x_S_add X M (xs (Int32.toNatClampNeg (i + 1))) (xs (Int32.toNatClampNeg (i + 2))) (xs (Int32.toNatClampNeg (i + 3)))) M (xs (Int32.toNatClampNeg (i + 1))) (xs (Int32.toNatClampNeg (i + 2))) (xs (Int32.toNatClampNeg (i + 3)))) A s.heap H locs := h
  obtain ⟨e1, R1⟩ := rr_add (X0 := (x_S_add X M (xs (Int32.toNatClampNeg (i + 1))) (xs (Int32.toNatClampNeg (i + 2))) (xs (Int32.toNatClampNeg (i + 3))))) (M0 := M) hRR (xs (Int32.toNatClampNeg (i + 1))) (xs (Int32.toNatClampNeg (i + 2))) (xs (Int32.toNatClampNeg (i + 3)))
  exact lv_icmp_eq (tgt := 617) hx hb d_L_law_230 (by decide) (fun _ => kk _ _ _ _ R1 h) (fun hne => absurd e1 hne)
set_option maxHeartbeats 4000000 in
set_option maxRecDepth 100000 in
theorem lw_c3 {p : Program} {l : Launch} {e : Env} {s : State} {m : MethodId} {args : Array Value} {below : List Frame} {meth : Method} {c : Code} {H : Heap} {locs : List Loc} {cells slots : Nat} {Q : State → Prop} {ls : Array Slot} {dC : Nat → ClassId} {dI : Nat → Nat → Nat} {k : Nat → ClassId} {q : Nat → Nat} {X : zXS} {M : zMS} {A : Nat → Prop} {b L : Nat} {xs : Nat → Int32} {i : Int32} (C : zCx p s m args c code 4 "SharerHomeLaw" dC dI k) (h : zH dC dI k q X M A s.heap H locs) (hRR : RR X M) (hX : va_X b L xs s s.heap) (hbl : b < s.heap.size) (hbA : ¬ A b) (hl : lv_has ls 4 [(3, .int i), (2, .ref (q 37)), (1, .ref (q 0)), (0, .ref b)]) (h1 : vp_in (i + 1) L) (h2 : vp_in (i + 2) L) (h3 : vp_in (i + 3) L) (hcs : cells ≤ room_1.cells ∧ slots ≤ room_1.slots) (kk : ∀ (X : zXS) (M : zMS) (H : Heap) (locs : List Loc), RR X M → zH dC dI k q X M A s.heap H locs → W p l e room_1 s m args below meth c H locs cells slots Q (F0 m 617 ls [])) : W p l e room_1 s m args below meth c H locs cells slots Q (F0 m 235 ls []) := by
  have hx := C.1
  have hb := C.2.1
  obtain ⟨nX, hnX, hbX, hWX⟩ := GX.n M hRR.X
  obtain ⟨nM, hnM, hbM, hWM⟩ := GM.n hRR.M
  refine lv_aload_n hx hb d_L_law_235 rfl (lv_at hl 2 rfl) ?_
  refine lv_aload_n hx hb d_L_law_236 rfl (lv_at hl 3 rfl) ?_
  refine lv_iload_n hx hb d_L_law_237 rfl (lv_at hl 0 rfl) ?_
  refine lv_iconst (v := 1) hx hb d_L_law_238 (by decide) ?_
  refine lv_iadd hx hb d_L_law_239 ?_
  refine va_sld hx hb hX hbl hbA h.2.2 h1 d_L_law_240 ?_
  refine lv_aload_n hx hb d_L_law_241 rfl (lv_at hl 3 rfl) ?_
  refine lv_iload_n hx hb d_L_law_242 rfl (lv_at hl 0 rfl) ?_
  refine lv_iconst (v := 2) hx hb d_L_law_243 (by decide) ?_
  refine lv_iadd hx hb d_L_law_244 ?_
  refine va_sld hx hb hX hbl hbA h.2.2 h2 d_L_law_245 ?_
  refine z_callV (i := 0) C h (k_S_leave l dC dI k q X M (xs (Int32.toNatClampNeg (i + 1))) (xs (Int32.toNatClampNeg (i + 2))) nX hnX hbX) co_S_leave ml_L_27 im_S_leave se_S_leave in_S rfl rfl hd_S_leave ⟨(Nat.le_of_ble_eq_true rfl), (Nat.le_of_ble_eq_true rfl)⟩ hcs hl.1 (Nat.le_of_ble_eq_true rfl) d_L_law_246 rfl (fun H locs h => ?_)
  refine W.eq (g2 := F0 m 249 ls [.int (r_S_leave X M (xs (Int32.toNatClampNeg (i + 1))) (xs (Int32.toNatClampNeg (i + 2))))]) rfl ?_
  have h : zH dC dI k q (x_S_leave X M (xs (Int32.toNatClampNeg (i + 1))) (xs (Int32.toNatClampNeg (i + 2)))) M A s.heap H locs := h
  refine lv_aload_n hx hb d_L_law_249 rfl (lv_at hl 1 rfl) ?_
  refine lv_aload_n hx hb d_L_law_250 rfl (lv_at hl 3 rfl) ?_
  refine lv_iload_n hx hb d_L_law_251 rfl (lv_at hl 0 rfl) ?_
  refine lv_iconst (v := 1) hx hb d_L_law_252 (by decide) ?_
  refine lv_iadd hx hb d_L_law_253 ?_
  refine va_sld hx hb hX hbl hbA h.2.2 h1 d_L_law_254 ?_
  refine lv_aload_n hx hb d_L_law_255 rfl (lv_at hl 3 rfl) ?_
  refine lv_iload_n hx hb d_L_law_256 rfl (lv_at hl 0 rfl) ?_
  refine lv_iconst (v := 2) hx hb d_L_law_257 (by decide) ?_
  refine lv_iadd hx hb d_L_law_258 ?_
  refine va_sld hx hb hX hbl hbA h.2.2 h2 d_L_law_259 ?_
  refine z_callV (i := 37) C h (k_M_leave l dC dI k q (x_S_leave X M (xs (Int32.toNatClampNeg (i + 1))) (xs (Int32.toNatClampNeg (i + 2)))) M (xs (Int32.toNatClampNeg (i + 1))) (xs (Int32.toNatClampNeg (i + 2))) nM hnM hbM) co_M_leave ml_L_30 im_M_leave se_M_leave in_M rfl rfl hd_M_leave ⟨(Nat.le_of_ble_eq_true rfl), (Nat.le_of_ble_eq_true rfl)⟩ hcs hl.1 (Nat.le_of_ble_eq_true rfl) d_L_law_260 rfl (fun H locs h => ?_)
  refine W.eq (g2 := F0 m 263 ls [.int (r_M_leave (x_S_leave X M (xs (Int32.toNatClampNeg (i + 1))) (xs (Int32.toNatClampNeg (i + 2)))) M (xs (Int32.toNatClampNeg (i + 1))) (xs (Int32.toNatClampNeg (i + 2)))), .int (r_S_leave X M (xs (Int32.toNatClampNeg (i + 1))) (xs (Int32.toNatClampNeg (i + 2))))]) rfl ?_
  have h : zH dC dI k q (x_S_leave X M (xs (Int32.toNatClampNeg (i + 1))) (xs (Int32.toNatClampNeg (i + 2)))) (m_M_leave (x_S_leave X M (xs (Int32.toNatClampNeg (i + 1))) (xs (Int32.toNatClampNeg (i + 2)))) M (xs (Int32.toNatClampNeg (i + 1))) (xs (Int32.toNatClampNeg (i + 2)))) A s.heap H locs := h
  obtain ⟨e1, R1⟩ := rr_leave (X0 := (x_S_leave X M (xs (Int32.toNatClampNeg (i + 1))) (xs (Int32.toNatClampNeg (i + 2))))) (M0 := M) hRR (xs (Int32.toNatClampNeg (i + 1))) (xs (Int32.toNatClampNeg (i + 2)))
  exact lv_icmp_eq (tgt := 617) hx hb d_L_law_263 (by decide) (fun _ => kk _ _ _ _ R1 h) (fun hne => absurd e1 hne)
set_option maxHeartbeats 4000000 in
set_option maxRecDepth 100000 in
theorem lw_c4 {p : Program} {l : Launch} {e : Env} {s : State} {m : MethodId} {args : Array Value} {below : List Frame} {meth : Method} {c : Code} {H : Heap} {locs : List Loc} {cells slots : Nat} {Q : State → Prop} {ls : Array Slot} {dC : Nat → ClassId} {dI : Nat → Nat → Nat} {k : Nat → ClassId} {q : Nat → Nat} {X : zXS} {M : zMS} {A : Nat → Prop} {b L : Nat} {xs : Nat → Int32} {i : Int32} (C : zCx p s m args c code 4 "SharerHomeLaw" dC dI k) (h : zH dC dI k q X M A s.heap H locs) (hRR : RR X M) (hX : va_X b L xs s s.heap) (hbl : b < s.heap.size) (hbA : ¬ A b) (hl : lv_has ls 4 [(3, .int i), (2, .ref (q 37)), (1, .ref (q 0)), (0, .ref b)]) (h1 : vp_in (i + 1) L) (h2 : vp_in (i + 2) L) (h3 : vp_in (i + 3) L) (hcs : cells ≤ room_1.cells ∧ slots ≤ room_1.slots) (kk : ∀ (X : zXS) (M : zMS) (H : Heap) (locs : List Loc), RR X M → zH dC dI k q X M A s.heap H locs → W p l e room_1 s m args below meth c H locs cells slots Q (F0 m 617 ls [])) : W p l e room_1 s m args below meth c H locs cells slots Q (F0 m 268 ls []) := by
  have hx := C.1
  have hb := C.2.1
  obtain ⟨nX, hnX, hbX, hWX⟩ := GX.n M hRR.X
  obtain ⟨nM, hnM, hbM, hWM⟩ := GM.n hRR.M
  refine lv_aload_n hx hb d_L_law_268 rfl (lv_at hl 2 rfl) ?_
  refine lv_aload_n hx hb d_L_law_269 rfl (lv_at hl 3 rfl) ?_
  refine lv_iload_n hx hb d_L_law_270 rfl (lv_at hl 0 rfl) ?_
  refine lv_iconst (v := 1) hx hb d_L_law_271 (by decide) ?_
  refine lv_iadd hx hb d_L_law_272 ?_
  refine va_sld hx hb hX hbl hbA h.2.2 h1 d_L_law_273 ?_
  refine z_callV (i := 0) C h (k_S_deliver l dC dI k q X M (xs (Int32.toNatClampNeg (i + 1))) nX hnX hbX hWX) co_S_deliver ml_L_31 im_S_deliver se_S_deliver in_S rfl rfl hd_S_deliver ⟨(Nat.le_of_ble_eq_true rfl), (Nat.le_of_ble_eq_true rfl)⟩ hcs hl.1 (Nat.le_of_ble_eq_true rfl) d_L_law_274 rfl (fun H locs h => ?_)
  refine W.eq (g2 := F0 m 277 ls [.int (r_S_deliver X M (xs (Int32.toNatClampNeg (i + 1))))]) rfl ?_
  have h : zH dC dI k q (x_S_deliver X M (xs (Int32.toNatClampNeg (i + 1)))) M A s.heap H locs := h
  refine lv_aload_n hx hb d_L_law_277 rfl (lv_at hl 1 rfl) ?_
  refine lv_aload_n hx hb d_L_law_278 rfl (lv_at hl 3 rfl) ?_
  refine lv_iload_n hx hb d_L_law_279 rfl (lv_at hl 0 rfl) ?_
  refine lv_iconst (v := 1) hx hb d_L_law_280 (by decide) ?_
  refine lv_iadd hx hb d_L_law_281 ?_
  refine va_sld hx hb hX hbl hbA h.2.2 h1 d_L_law_282 ?_
  refine z_callV (i := 37) C h (k_M_deliver l dC dI k q (x_S_deliver X M (xs (Int32.toNatClampNeg (i + 1)))) M (xs (Int32.toNatClampNeg (i + 1))) nM hnM hbM hWM) co_M_deliver ml_L_35 im_M_deliver se_M_deliver in_M rfl rfl hd_M_deliver ⟨(Nat.le_of_ble_eq_true rfl), (Nat.le_of_ble_eq_true rfl)⟩ hcs hl.1 (Nat.le_of_ble_eq_true rfl) d_L_law_283 rfl (fun H locs h => ?_)
  refine W.eq (g2 := F0 m 286 ls [.int (r_M_deliver (x_S_deliver X M (xs (Int32.toNatClampNeg (i + 1)))) M (xs (Int32.toNatClampNeg (i + 1)))), .int (r_S_deliver X M (xs (Int32.toNatClampNeg (i + 1))))]) rfl ?_
  have h : zH dC dI k q (x_S_deliver X M (xs (Int32.toNatClampNeg (i + 1)))) (m_M_deliver (x_S_deliver X M (xs (Int32.toNatClampNeg (i + 1)))) M (xs (Int32.toNatClampNeg (i + 1)))) A s.heap H locs := h
  obtain ⟨e1, R1⟩ := rr_deliver (X0 := (x_S_deliver X M (xs (Int32.toNatClampNeg (i + 1))))) (M0 := M) hRR (xs (Int32.toNatClampNeg (i + 1)))
  exact lv_icmp_eq (tgt := 617) hx hb d_L_law_286 (by decide) (fun _ => kk _ _ _ _ R1 h) (fun hne => absurd e1 hne)
set_option maxHeartbeats 4000000 in
set_option maxRecDepth 100000 in
theorem lw_c5 {p : Program} {l : Launch} {e : Env} {s : State} {m : MethodId} {args : Array Value} {below : List Frame} {meth : Method} {c : Code} {H : Heap} {locs : List Loc} {cells slots : Nat} {Q : State → Prop} {ls : Array Slot} {dC : Nat → ClassId} {dI : Nat → Nat → Nat} {k : Nat → ClassId} {q : Nat → Nat} {X : zXS} {M : zMS} {A : Nat → Prop} {b L : Nat} {xs : Nat → Int32} {i : Int32} (C : zCx p s m args c code 4 "SharerHomeLaw" dC dI k) (h : zH dC dI k q X M A s.heap H locs) (hRR : RR X M) (hX : va_X b L xs s s.heap) (hbl : b < s.heap.size) (hbA : ¬ A b) (hl : lv_has ls 4 [(3, .int i), (2, .ref (q 37)), (1, .ref (q 0)), (0, .ref b)]) (h1 : vp_in (i + 1) L) (h2 : vp_in (i + 2) L) (h3 : vp_in (i + 3) L) (hcs : cells ≤ room_1.cells ∧ slots ≤ room_1.slots) (kk : ∀ (X : zXS) (M : zMS) (H : Heap) (locs : List Loc), RR X M → zH dC dI k q X M A s.heap H locs → W p l e room_1 s m args below meth c H locs cells slots Q (F0 m 617 ls [])) : W p l e room_1 s m args below meth c H locs cells slots Q (F0 m 291 ls []) := by
  have hx := C.1
  have hb := C.2.1
  obtain ⟨nX, hnX, hbX, hWX⟩ := GX.n M hRR.X
  obtain ⟨nM, hnM, hbM, hWM⟩ := GM.n hRR.M
  refine lv_aload_n hx hb d_L_law_291 rfl (lv_at hl 2 rfl) ?_
  refine lv_aload_n hx hb d_L_law_292 rfl (lv_at hl 3 rfl) ?_
  refine lv_iload_n hx hb d_L_law_293 rfl (lv_at hl 0 rfl) ?_
  refine lv_iconst (v := 1) hx hb d_L_law_294 (by decide) ?_
  refine lv_iadd hx hb d_L_law_295 ?_
  refine va_sld hx hb hX hbl hbA h.2.2 h1 d_L_law_296 ?_
  refine lv_aload_n hx hb d_L_law_297 rfl (lv_at hl 3 rfl) ?_
  refine lv_iload_n hx hb d_L_law_298 rfl (lv_at hl 0 rfl) ?_
  refine lv_iconst (v := 2) hx hb d_L_law_299 (by decide) ?_
  refine lv_iadd hx hb d_L_law_300 ?_
  refine va_sld hx hb hX hbl hbA h.2.2 h2 d_L_law_301 ?_
  refine z_callV (i := 0) C h (k_S_message l dC dI k q X M (xs (Int32.toNatClampNeg (i + 1))) (xs (Int32.toNatClampNeg (i + 2))) nX hnX hbX) co_S_message ml_L_36 im_S_message se_S_message in_S rfl rfl hd_S_message ⟨(Nat.le_of_ble_eq_true rfl), (Nat.le_of_ble_eq_true rfl)⟩ hcs hl.1 (Nat.le_of_ble_eq_true rfl) d_L_law_302 rfl (fun H locs h => ?_)
  refine W.eq (g2 := F0 m 305 ls [.int (r_S_message X M (xs (Int32.toNatClampNeg (i + 1))) (xs (Int32.toNatClampNeg (i + 2))))]) rfl ?_
  have h : zH dC dI k q X M A s.heap H locs := h
  refine lv_aload_n hx hb d_L_law_305 rfl (lv_at hl 1 rfl) ?_
  refine lv_aload_n hx hb d_L_law_306 rfl (lv_at hl 3 rfl) ?_
  refine lv_iload_n hx hb d_L_law_307 rfl (lv_at hl 0 rfl) ?_
  refine lv_iconst (v := 1) hx hb d_L_law_308 (by decide) ?_
  refine lv_iadd hx hb d_L_law_309 ?_
  refine va_sld hx hb hX hbl hbA h.2.2 h1 d_L_law_310 ?_
  refine lv_aload_n hx hb d_L_law_311 rfl (lv_at hl 3 rfl) ?_
  refine lv_iload_n hx hb d_L_law_312 rfl (lv_at hl 0 rfl) ?_
  refine lv_iconst (v := 2) hx hb d_L_law_313 (by decide) ?_
  refine lv_iadd hx hb d_L_law_314 ?_
  refine va_sld hx hb hX hbl hbA h.2.2 h2 d_L_law_315 ?_
  refine z_callV (i := 37) C h (k_M_message l dC dI k q X M (xs (Int32.toNatClampNeg (i + 1))) (xs (Int32.toNatClampNeg (i + 2))) nM hnM hbM) co_M_message ml_L_39 im_M_message se_M_message in_M rfl rfl hd_M_message ⟨(Nat.le_of_ble_eq_true rfl), (Nat.le_of_ble_eq_true rfl)⟩ hcs hl.1 (Nat.le_of_ble_eq_true rfl) d_L_law_316 rfl (fun H locs h => ?_)
  refine W.eq (g2 := F0 m 319 ls [.int (r_M_message X M (xs (Int32.toNatClampNeg (i + 1))) (xs (Int32.toNatClampNeg (i + 2)))), .int (r_S_message X M (xs (Int32.toNatClampNeg (i + 1))) (xs (Int32.toNatClampNeg (i + 2))))]) rfl ?_
  have h : zH dC dI k q X M A s.heap H locs := h
  have e1 := rr_message (X0 := X) (M0 := M) hRR (xs (Int32.toNatClampNeg (i + 1))) (xs (Int32.toNatClampNeg (i + 2)))
  have R1 := hRR
  exact lv_icmp_eq (tgt := 617) hx hb d_L_law_319 (by decide) (fun _ => kk _ _ _ _ R1 h) (fun hne => absurd e1 hne)
set_option maxHeartbeats 4000000 in
set_option maxRecDepth 100000 in
theorem lw_c6 {p : Program} {l : Launch} {e : Env} {s : State} {m : MethodId} {args : Array Value} {below : List Frame} {meth : Method} {c : Code} {H : Heap} {locs : List Loc} {cells slots : Nat} {Q : State → Prop} {ls : Array Slot} {dC : Nat → ClassId} {dI : Nat → Nat → Nat} {k : Nat → ClassId} {q : Nat → Nat} {X : zXS} {M : zMS} {A : Nat → Prop} {b L : Nat} {xs : Nat → Int32} {i : Int32} (C : zCx p s m args c code 4 "SharerHomeLaw" dC dI k) (h : zH dC dI k q X M A s.heap H locs) (hRR : RR X M) (hX : va_X b L xs s s.heap) (hbl : b < s.heap.size) (hbA : ¬ A b) (hl : lv_has ls 4 [(3, .int i), (2, .ref (q 37)), (1, .ref (q 0)), (0, .ref b)]) (h1 : vp_in (i + 1) L) (h2 : vp_in (i + 2) L) (h3 : vp_in (i + 3) L) (hcs : cells ≤ room_1.cells ∧ slots ≤ room_1.slots) (kk : ∀ (X : zXS) (M : zMS) (H : Heap) (locs : List Loc), RR X M → zH dC dI k q X M A s.heap H locs → W p l e room_1 s m args below meth c H locs cells slots Q (F0 m 617 ls [])) : W p l e room_1 s m args below meth c H locs cells slots Q (F0 m 324 ls []) := by
  have hx := C.1
  have hb := C.2.1
  obtain ⟨nX, hnX, hbX, hWX⟩ := GX.n M hRR.X
  obtain ⟨nM, hnM, hbM, hWM⟩ := GM.n hRR.M
  refine lv_aload_n hx hb d_L_law_324 rfl (lv_at hl 2 rfl) ?_
  refine lv_aload_n hx hb d_L_law_325 rfl (lv_at hl 3 rfl) ?_
  refine lv_iload_n hx hb d_L_law_326 rfl (lv_at hl 0 rfl) ?_
  refine lv_iconst (v := 1) hx hb d_L_law_327 (by decide) ?_
  refine lv_iadd hx hb d_L_law_328 ?_
  refine va_sld hx hb hX hbl hbA h.2.2 h1 d_L_law_329 ?_
  refine z_callV (i := 0) C h (k_S_carried l dC dI k q X M (xs (Int32.toNatClampNeg (i + 1))) nX hnX hbX) co_S_carried ml_L_40 im_S_carried se_S_carried in_S rfl rfl hd_S_carried ⟨(Nat.le_of_ble_eq_true rfl), (Nat.le_of_ble_eq_true rfl)⟩ hcs hl.1 (Nat.le_of_ble_eq_true rfl) d_L_law_330 rfl (fun H locs h => ?_)
  refine W.eq (g2 := F0 m 333 ls [.int (r_S_carried X M (xs (Int32.toNatClampNeg (i + 1))))]) rfl ?_
  have h : zH dC dI k q X M A s.heap H locs := h
  refine lv_aload_n hx hb d_L_law_333 rfl (lv_at hl 1 rfl) ?_
  refine lv_aload_n hx hb d_L_law_334 rfl (lv_at hl 3 rfl) ?_
  refine lv_iload_n hx hb d_L_law_335 rfl (lv_at hl 0 rfl) ?_
  refine lv_iconst (v := 1) hx hb d_L_law_336 (by decide) ?_
  refine lv_iadd hx hb d_L_law_337 ?_
  refine va_sld hx hb hX hbl hbA h.2.2 h1 d_L_law_338 ?_
  refine z_callV (i := 37) C h (k_M_carried l dC dI k q X M (xs (Int32.toNatClampNeg (i + 1))) nM hnM hbM) co_M_carried ml_L_43 im_M_carried se_M_carried in_M rfl rfl hd_M_carried ⟨(Nat.le_of_ble_eq_true rfl), (Nat.le_of_ble_eq_true rfl)⟩ hcs hl.1 (Nat.le_of_ble_eq_true rfl) d_L_law_339 rfl (fun H locs h => ?_)
  refine W.eq (g2 := F0 m 342 ls [.int (r_M_carried X M (xs (Int32.toNatClampNeg (i + 1)))), .int (r_S_carried X M (xs (Int32.toNatClampNeg (i + 1))))]) rfl ?_
  have h : zH dC dI k q X M A s.heap H locs := h
  have e1 := rr_carried (X0 := X) (M0 := M) hRR (xs (Int32.toNatClampNeg (i + 1)))
  have R1 := hRR
  exact lv_icmp_eq (tgt := 617) hx hb d_L_law_342 (by decide) (fun _ => kk _ _ _ _ R1 h) (fun hne => absurd e1 hne)
set_option maxHeartbeats 4000000 in
set_option maxRecDepth 100000 in
theorem lw_c7 {p : Program} {l : Launch} {e : Env} {s : State} {m : MethodId} {args : Array Value} {below : List Frame} {meth : Method} {c : Code} {H : Heap} {locs : List Loc} {cells slots : Nat} {Q : State → Prop} {ls : Array Slot} {dC : Nat → ClassId} {dI : Nat → Nat → Nat} {k : Nat → ClassId} {q : Nat → Nat} {X : zXS} {M : zMS} {A : Nat → Prop} {b L : Nat} {xs : Nat → Int32} {i : Int32} (C : zCx p s m args c code 4 "SharerHomeLaw" dC dI k) (h : zH dC dI k q X M A s.heap H locs) (hRR : RR X M) (hX : va_X b L xs s s.heap) (hbl : b < s.heap.size) (hbA : ¬ A b) (hl : lv_has ls 4 [(3, .int i), (2, .ref (q 37)), (1, .ref (q 0)), (0, .ref b)]) (h1 : vp_in (i + 1) L) (h2 : vp_in (i + 2) L) (h3 : vp_in (i + 3) L) (hcs : cells ≤ room_1.cells ∧ slots ≤ room_1.slots) (kk : ∀ (X : zXS) (M : zMS) (H : Heap) (locs : List Loc), RR X M → zH dC dI k q X M A s.heap H locs → W p l e room_1 s m args below meth c H locs cells slots Q (F0 m 617 ls [])) : W p l e room_1 s m args below meth c H locs cells slots Q (F0 m 347 ls []) := by
  have hx := C.1
  have hb := C.2.1
  obtain ⟨nX, hnX, hbX, hWX⟩ := GX.n M hRR.X
  obtain ⟨nM, hnM, hbM, hWM⟩ := GM.n hRR.M
  refine lv_aload_n hx hb d_L_law_347 rfl (lv_at hl 2 rfl) ?_
  refine lv_aload_n hx hb d_L_law_348 rfl (lv_at hl 3 rfl) ?_
  refine lv_iload_n hx hb d_L_law_349 rfl (lv_at hl 0 rfl) ?_
  refine lv_iconst (v := 1) hx hb d_L_law_350 (by decide) ?_
  refine lv_iadd hx hb d_L_law_351 ?_
  refine va_sld hx hb hX hbl hbA h.2.2 h1 d_L_law_352 ?_
  refine lv_aload_n hx hb d_L_law_353 rfl (lv_at hl 3 rfl) ?_
  refine lv_iload_n hx hb d_L_law_354 rfl (lv_at hl 0 rfl) ?_
  refine lv_iconst (v := 2) hx hb d_L_law_355 (by decide) ?_
  refine lv_iadd hx hb d_L_law_356 ?_
  refine va_sld hx hb hX hbl hbA h.2.2 h2 d_L_law_357 ?_
  refine z_callV (i := 0) C h (k_S_state l dC dI k q X M (xs (Int32.toNatClampNeg (i + 1))) (xs (Int32.toNatClampNeg (i + 2)))) co_S_state ml_L_44 im_S_state se_S_state in_S rfl rfl hd_S_state ⟨(Nat.le_of_ble_eq_true rfl), (Nat.le_of_ble_eq_true rfl)⟩ hcs hl.1 (Nat.le_of_ble_eq_true rfl) d_L_law_358 rfl (fun H locs h => ?_)
  refine W.eq (g2 := F0 m 361 ls [.int (r_S_state X M (xs (Int32.toNatClampNeg (i + 1))) (xs (Int32.toNatClampNeg (i + 2))))]) rfl ?_
  have h : zH dC dI k q X M A s.heap H locs := h
  refine lv_aload_n hx hb d_L_law_361 rfl (lv_at hl 1 rfl) ?_
  refine lv_aload_n hx hb d_L_law_362 rfl (lv_at hl 3 rfl) ?_
  refine lv_iload_n hx hb d_L_law_363 rfl (lv_at hl 0 rfl) ?_
  refine lv_iconst (v := 1) hx hb d_L_law_364 (by decide) ?_
  refine lv_iadd hx hb d_L_law_365 ?_
  refine va_sld hx hb hX hbl hbA h.2.2 h1 d_L_law_366 ?_
  refine lv_aload_n hx hb d_L_law_367 rfl (lv_at hl 3 rfl) ?_
  refine lv_iload_n hx hb d_L_law_368 rfl (lv_at hl 0 rfl) ?_
  refine lv_iconst (v := 2) hx hb d_L_law_369 (by decide) ?_
  refine lv_iadd hx hb d_L_law_370 ?_
  refine va_sld hx hb hX hbl hbA h.2.2 h2 d_L_law_371 ?_
  refine z_callV (i := 37) C h (k_M_state l dC dI k q X M (xs (Int32.toNatClampNeg (i + 1))) (xs (Int32.toNatClampNeg (i + 2)))) co_M_state ml_L_47 im_M_state se_M_state in_M rfl rfl hd_M_state ⟨(Nat.le_of_ble_eq_true rfl), (Nat.le_of_ble_eq_true rfl)⟩ hcs hl.1 (Nat.le_of_ble_eq_true rfl) d_L_law_372 rfl (fun H locs h => ?_)
  refine W.eq (g2 := F0 m 375 ls [.int (r_M_state X M (xs (Int32.toNatClampNeg (i + 1))) (xs (Int32.toNatClampNeg (i + 2)))), .int (r_S_state X M (xs (Int32.toNatClampNeg (i + 1))) (xs (Int32.toNatClampNeg (i + 2))))]) rfl ?_
  have h : zH dC dI k q X M A s.heap H locs := h
  have e1 := rr_state (X0 := X) (M0 := M) hRR (xs (Int32.toNatClampNeg (i + 1))) (xs (Int32.toNatClampNeg (i + 2)))
  have R1 := hRR
  exact lv_icmp_eq (tgt := 617) hx hb d_L_law_375 (by decide) (fun _ => kk _ _ _ _ R1 h) (fun hne => absurd e1 hne)
set_option maxHeartbeats 4000000 in
set_option maxRecDepth 100000 in
theorem lw_c8 {p : Program} {l : Launch} {e : Env} {s : State} {m : MethodId} {args : Array Value} {below : List Frame} {meth : Method} {c : Code} {H : Heap} {locs : List Loc} {cells slots : Nat} {Q : State → Prop} {ls : Array Slot} {dC : Nat → ClassId} {dI : Nat → Nat → Nat} {k : Nat → ClassId} {q : Nat → Nat} {X : zXS} {M : zMS} {A : Nat → Prop} {b L : Nat} {xs : Nat → Int32} {i : Int32} (C : zCx p s m args c code 4 "SharerHomeLaw" dC dI k) (h : zH dC dI k q X M A s.heap H locs) (hRR : RR X M) (hX : va_X b L xs s s.heap) (hbl : b < s.heap.size) (hbA : ¬ A b) (hl : lv_has ls 4 [(3, .int i), (2, .ref (q 37)), (1, .ref (q 0)), (0, .ref b)]) (h1 : vp_in (i + 1) L) (h2 : vp_in (i + 2) L) (h3 : vp_in (i + 3) L) (hcs : cells ≤ room_1.cells ∧ slots ≤ room_1.slots) (kk : ∀ (X : zXS) (M : zMS) (H : Heap) (locs : List Loc), RR X M → zH dC dI k q X M A s.heap H locs → W p l e room_1 s m args below meth c H locs cells slots Q (F0 m 617 ls [])) : W p l e room_1 s m args below meth c H locs cells slots Q (F0 m 380 ls []) := by
  have hx := C.1
  have hb := C.2.1
  obtain ⟨nX, hnX, hbX, hWX⟩ := GX.n M hRR.X
  obtain ⟨nM, hnM, hbM, hWM⟩ := GM.n hRR.M
  refine lv_aload_n hx hb d_L_law_380 rfl (lv_at hl 2 rfl) ?_
  refine lv_aload_n hx hb d_L_law_381 rfl (lv_at hl 3 rfl) ?_
  refine lv_iload_n hx hb d_L_law_382 rfl (lv_at hl 0 rfl) ?_
  refine lv_iconst (v := 1) hx hb d_L_law_383 (by decide) ?_
  refine lv_iadd hx hb d_L_law_384 ?_
  refine va_sld hx hb hX hbl hbA h.2.2 h1 d_L_law_385 ?_
  refine lv_aload_n hx hb d_L_law_386 rfl (lv_at hl 3 rfl) ?_
  refine lv_iload_n hx hb d_L_law_387 rfl (lv_at hl 0 rfl) ?_
  refine lv_iconst (v := 2) hx hb d_L_law_388 (by decide) ?_
  refine lv_iadd hx hb d_L_law_389 ?_
  refine va_sld hx hb hX hbl hbA h.2.2 h2 d_L_law_390 ?_
  refine z_callV (i := 0) C h (k_S_value l dC dI k q X M (xs (Int32.toNatClampNeg (i + 1))) (xs (Int32.toNatClampNeg (i + 2)))) co_S_value ml_L_48 im_S_value se_S_value in_S rfl rfl hd_S_value ⟨(Nat.le_of_ble_eq_true rfl), (Nat.le_of_ble_eq_true rfl)⟩ hcs hl.1 (Nat.le_of_ble_eq_true rfl) d_L_law_391 rfl (fun H locs h => ?_)
  refine W.eq (g2 := F0 m 394 ls [.int (r_S_value X M (xs (Int32.toNatClampNeg (i + 1))) (xs (Int32.toNatClampNeg (i + 2))))]) rfl ?_
  have h : zH dC dI k q X M A s.heap H locs := h
  refine lv_aload_n hx hb d_L_law_394 rfl (lv_at hl 1 rfl) ?_
  refine lv_aload_n hx hb d_L_law_395 rfl (lv_at hl 3 rfl) ?_
  refine lv_iload_n hx hb d_L_law_396 rfl (lv_at hl 0 rfl) ?_
  refine lv_iconst (v := 1) hx hb d_L_law_397 (by decide) ?_
  refine lv_iadd hx hb d_L_law_398 ?_
  refine va_sld hx hb hX hbl hbA h.2.2 h1 d_L_law_399 ?_
  refine lv_aload_n hx hb d_L_law_400 rfl (lv_at hl 3 rfl) ?_
  refine lv_iload_n hx hb d_L_law_401 rfl (lv_at hl 0 rfl) ?_
  refine lv_iconst (v := 2) hx hb d_L_law_402 (by decide) ?_
  refine lv_iadd hx hb d_L_law_403 ?_
  refine va_sld hx hb hX hbl hbA h.2.2 h2 d_L_law_404 ?_
  refine z_callV (i := 37) C h (k_M_value l dC dI k q X M (xs (Int32.toNatClampNeg (i + 1))) (xs (Int32.toNatClampNeg (i + 2)))) co_M_value ml_L_51 im_M_value se_M_value in_M rfl rfl hd_M_value ⟨(Nat.le_of_ble_eq_true rfl), (Nat.le_of_ble_eq_true rfl)⟩ hcs hl.1 (Nat.le_of_ble_eq_true rfl) d_L_law_405 rfl (fun H locs h => ?_)
  refine W.eq (g2 := F0 m 408 ls [.int (r_M_value X M (xs (Int32.toNatClampNeg (i + 1))) (xs (Int32.toNatClampNeg (i + 2)))), .int (r_S_value X M (xs (Int32.toNatClampNeg (i + 1))) (xs (Int32.toNatClampNeg (i + 2))))]) rfl ?_
  have h : zH dC dI k q X M A s.heap H locs := h
  have e1 := rr_value (X0 := X) (M0 := M) hRR (xs (Int32.toNatClampNeg (i + 1))) (xs (Int32.toNatClampNeg (i + 2)))
  have R1 := hRR
  exact lv_icmp_eq (tgt := 617) hx hb d_L_law_408 (by decide) (fun _ => kk _ _ _ _ R1 h) (fun hne => absurd e1 hne)
set_option maxHeartbeats 4000000 in
set_option maxRecDepth 100000 in
theorem lw_c9 {p : Program} {l : Launch} {e : Env} {s : State} {m : MethodId} {args : Array Value} {below : List Frame} {meth : Method} {c : Code} {H : Heap} {locs : List Loc} {cells slots : Nat} {Q : State → Prop} {ls : Array Slot} {dC : Nat → ClassId} {dI : Nat → Nat → Nat} {k : Nat → ClassId} {q : Nat → Nat} {X : zXS} {M : zMS} {A : Nat → Prop} {b L : Nat} {xs : Nat → Int32} {i : Int32} (C : zCx p s m args c code 4 "SharerHomeLaw" dC dI k) (h : zH dC dI k q X M A s.heap H locs) (hRR : RR X M) (hX : va_X b L xs s s.heap) (hbl : b < s.heap.size) (hbA : ¬ A b) (hl : lv_has ls 4 [(3, .int i), (2, .ref (q 37)), (1, .ref (q 0)), (0, .ref b)]) (h1 : vp_in (i + 1) L) (h2 : vp_in (i + 2) L) (h3 : vp_in (i + 3) L) (hcs : cells ≤ room_1.cells ∧ slots ≤ room_1.slots) (kk : ∀ (X : zXS) (M : zMS) (H : Heap) (locs : List Loc), RR X M → zH dC dI k q X M A s.heap H locs → W p l e room_1 s m args below meth c H locs cells slots Q (F0 m 617 ls [])) : W p l e room_1 s m args below meth c H locs cells slots Q (F0 m 413 ls []) := by
  have hx := C.1
  have hb := C.2.1
  obtain ⟨nX, hnX, hbX, hWX⟩ := GX.n M hRR.X
  obtain ⟨nM, hnM, hbM, hWM⟩ := GM.n hRR.M
  refine lv_aload_n hx hb d_L_law_413 rfl (lv_at hl 2 rfl) ?_
  refine lv_aload_n hx hb d_L_law_414 rfl (lv_at hl 3 rfl) ?_
  refine lv_iload_n hx hb d_L_law_415 rfl (lv_at hl 0 rfl) ?_
  refine lv_iconst (v := 1) hx hb d_L_law_416 (by decide) ?_
  refine lv_iadd hx hb d_L_law_417 ?_
  refine va_sld hx hb hX hbl hbA h.2.2 h1 d_L_law_418 ?_
  refine lv_aload_n hx hb d_L_law_419 rfl (lv_at hl 3 rfl) ?_
  refine lv_iload_n hx hb d_L_law_420 rfl (lv_at hl 0 rfl) ?_
  refine lv_iconst (v := 2) hx hb d_L_law_421 (by decide) ?_
  refine lv_iadd hx hb d_L_law_422 ?_
  refine va_sld hx hb hX hbl hbA h.2.2 h2 d_L_law_423 ?_
  refine z_callV (i := 0) C h (k_S_due l dC dI k q X M (xs (Int32.toNatClampNeg (i + 1))) (xs (Int32.toNatClampNeg (i + 2)))) co_S_due ml_L_52 im_S_due se_S_due in_S rfl rfl hd_S_due ⟨(Nat.le_of_ble_eq_true rfl), (Nat.le_of_ble_eq_true rfl)⟩ hcs hl.1 (Nat.le_of_ble_eq_true rfl) d_L_law_424 rfl (fun H locs h => ?_)
  refine W.eq (g2 := F0 m 427 ls [.int (r_S_due X M (xs (Int32.toNatClampNeg (i + 1))) (xs (Int32.toNatClampNeg (i + 2))))]) rfl ?_
  have h : zH dC dI k q X M A s.heap H locs := h
  refine lv_aload_n hx hb d_L_law_427 rfl (lv_at hl 1 rfl) ?_
  refine lv_aload_n hx hb d_L_law_428 rfl (lv_at hl 3 rfl) ?_
  refine lv_iload_n hx hb d_L_law_429 rfl (lv_at hl 0 rfl) ?_
  refine lv_iconst (v := 1) hx hb d_L_law_430 (by decide) ?_
  refine lv_iadd hx hb d_L_law_431 ?_
  refine va_sld hx hb hX hbl hbA h.2.2 h1 d_L_law_432 ?_
  refine lv_aload_n hx hb d_L_law_433 rfl (lv_at hl 3 rfl) ?_
  refine lv_iload_n hx hb d_L_law_434 rfl (lv_at hl 0 rfl) ?_
  refine lv_iconst (v := 2) hx hb d_L_law_435 (by decide) ?_
  refine lv_iadd hx hb d_L_law_436 ?_
  refine va_sld hx hb hX hbl hbA h.2.2 h2 d_L_law_437 ?_
  refine z_callV (i := 37) C h (k_M_due l dC dI k q X M (xs (Int32.toNatClampNeg (i + 1))) (xs (Int32.toNatClampNeg (i + 2)))) co_M_due ml_L_55 im_M_due se_M_due in_M rfl rfl hd_M_due ⟨(Nat.le_of_ble_eq_true rfl), (Nat.le_of_ble_eq_true rfl)⟩ hcs hl.1 (Nat.le_of_ble_eq_true rfl) d_L_law_438 rfl (fun H locs h => ?_)
  refine W.eq (g2 := F0 m 441 ls [.int (r_M_due X M (xs (Int32.toNatClampNeg (i + 1))) (xs (Int32.toNatClampNeg (i + 2)))), .int (r_S_due X M (xs (Int32.toNatClampNeg (i + 1))) (xs (Int32.toNatClampNeg (i + 2))))]) rfl ?_
  have h : zH dC dI k q X M A s.heap H locs := h
  have e1 := rr_due (X0 := X) (M0 := M) hRR (xs (Int32.toNatClampNeg (i + 1))) (xs (Int32.toNatClampNeg (i + 2)))
  have R1 := hRR
  exact lv_icmp_eq (tgt := 617) hx hb d_L_law_441 (by decide) (fun _ => kk _ _ _ _ R1 h) (fun hne => absurd e1 hne)
set_option maxHeartbeats 4000000 in
set_option maxRecDepth 100000 in
theorem lw_c10 {p : Program} {l : Launch} {e : Env} {s : State} {m : MethodId} {args : Array Value} {below : List Frame} {meth : Method} {c : Code} {H : Heap} {locs : List Loc} {cells slots : Nat} {Q : State → Prop} {ls : Array Slot} {dC : Nat → ClassId} {dI : Nat → Nat → Nat} {k : Nat → ClassId} {q : Nat → Nat} {X : zXS} {M : zMS} {A : Nat → Prop} {b L : Nat} {xs : Nat → Int32} {i : Int32} (C : zCx p s m args c code 4 "SharerHomeLaw" dC dI k) (h : zH dC dI k q X M A s.heap H locs) (hRR : RR X M) (hX : va_X b L xs s s.heap) (hbl : b < s.heap.size) (hbA : ¬ A b) (hl : lv_has ls 4 [(3, .int i), (2, .ref (q 37)), (1, .ref (q 0)), (0, .ref b)]) (h1 : vp_in (i + 1) L) (h2 : vp_in (i + 2) L) (h3 : vp_in (i + 3) L) (hcs : cells ≤ room_1.cells ∧ slots ≤ room_1.slots) (kk : ∀ (X : zXS) (M : zMS) (H : Heap) (locs : List Loc), RR X M → zH dC dI k q X M A s.heap H locs → W p l e room_1 s m args below meth c H locs cells slots Q (F0 m 617 ls [])) : W p l e room_1 s m args below meth c H locs cells slots Q (F0 m 446 ls []) := by
  have hx := C.1
  have hb := C.2.1
  obtain ⟨nX, hnX, hbX, hWX⟩ := GX.n M hRR.X
  obtain ⟨nM, hnM, hbM, hWM⟩ := GM.n hRR.M
  refine lv_aload_n hx hb d_L_law_446 rfl (lv_at hl 2 rfl) ?_
  refine lv_aload_n hx hb d_L_law_447 rfl (lv_at hl 3 rfl) ?_
  refine lv_iload_n hx hb d_L_law_448 rfl (lv_at hl 0 rfl) ?_
  refine lv_iconst (v := 1) hx hb d_L_law_449 (by decide) ?_
  refine lv_iadd hx hb d_L_law_450 ?_
  refine va_sld hx hb hX hbl hbA h.2.2 h1 d_L_law_451 ?_
  refine z_callV (i := 0) C h (k_S_home l dC dI k q X M (xs (Int32.toNatClampNeg (i + 1)))) co_S_home ml_L_56 im_S_home se_S_home in_S rfl rfl hd_S_home ⟨(Nat.le_of_ble_eq_true rfl), (Nat.le_of_ble_eq_true rfl)⟩ hcs hl.1 (Nat.le_of_ble_eq_true rfl) d_L_law_452 rfl (fun H locs h => ?_)
  refine W.eq (g2 := F0 m 455 ls [.int (r_S_home X M (xs (Int32.toNatClampNeg (i + 1))))]) rfl ?_
  have h : zH dC dI k q X M A s.heap H locs := h
  refine lv_aload_n hx hb d_L_law_455 rfl (lv_at hl 1 rfl) ?_
  refine lv_aload_n hx hb d_L_law_456 rfl (lv_at hl 3 rfl) ?_
  refine lv_iload_n hx hb d_L_law_457 rfl (lv_at hl 0 rfl) ?_
  refine lv_iconst (v := 1) hx hb d_L_law_458 (by decide) ?_
  refine lv_iadd hx hb d_L_law_459 ?_
  refine va_sld hx hb hX hbl hbA h.2.2 h1 d_L_law_460 ?_
  refine z_callV (i := 37) C h (k_M_home l dC dI k q X M (xs (Int32.toNatClampNeg (i + 1)))) co_M_home ml_L_59 im_M_home se_M_home in_M rfl rfl hd_M_home ⟨(Nat.le_of_ble_eq_true rfl), (Nat.le_of_ble_eq_true rfl)⟩ hcs hl.1 (Nat.le_of_ble_eq_true rfl) d_L_law_461 rfl (fun H locs h => ?_)
  refine W.eq (g2 := F0 m 464 ls [.int (r_M_home X M (xs (Int32.toNatClampNeg (i + 1)))), .int (r_S_home X M (xs (Int32.toNatClampNeg (i + 1))))]) rfl ?_
  have h : zH dC dI k q X M A s.heap H locs := h
  have e1 := rr_home (X0 := X) (M0 := M) hRR (xs (Int32.toNatClampNeg (i + 1)))
  have R1 := hRR
  exact lv_icmp_eq (tgt := 617) hx hb d_L_law_464 (by decide) (fun _ => kk _ _ _ _ R1 h) (fun hne => absurd e1 hne)
set_option maxHeartbeats 4000000 in
set_option maxRecDepth 100000 in
theorem lw_c11 {p : Program} {l : Launch} {e : Env} {s : State} {m : MethodId} {args : Array Value} {below : List Frame} {meth : Method} {c : Code} {H : Heap} {locs : List Loc} {cells slots : Nat} {Q : State → Prop} {ls : Array Slot} {dC : Nat → ClassId} {dI : Nat → Nat → Nat} {k : Nat → ClassId} {q : Nat → Nat} {X : zXS} {M : zMS} {A : Nat → Prop} {b L : Nat} {xs : Nat → Int32} {i : Int32} (C : zCx p s m args c code 4 "SharerHomeLaw" dC dI k) (h : zH dC dI k q X M A s.heap H locs) (hRR : RR X M) (hX : va_X b L xs s s.heap) (hbl : b < s.heap.size) (hbA : ¬ A b) (hl : lv_has ls 4 [(3, .int i), (2, .ref (q 37)), (1, .ref (q 0)), (0, .ref b)]) (h1 : vp_in (i + 1) L) (h2 : vp_in (i + 2) L) (h3 : vp_in (i + 3) L) (hcs : cells ≤ room_1.cells ∧ slots ≤ room_1.slots) (kk : ∀ (X : zXS) (M : zMS) (H : Heap) (locs : List Loc), RR X M → zH dC dI k q X M A s.heap H locs → W p l e room_1 s m args below meth c H locs cells slots Q (F0 m 617 ls [])) : W p l e room_1 s m args below meth c H locs cells slots Q (F0 m 469 ls []) := by
  have hx := C.1
  have hb := C.2.1
  obtain ⟨nX, hnX, hbX, hWX⟩ := GX.n M hRR.X
  obtain ⟨nM, hnM, hbM, hWM⟩ := GM.n hRR.M
  refine lv_aload_n hx hb d_L_law_469 rfl (lv_at hl 2 rfl) ?_
  refine lv_aload_n hx hb d_L_law_470 rfl (lv_at hl 3 rfl) ?_
  refine lv_iload_n hx hb d_L_law_471 rfl (lv_at hl 0 rfl) ?_
  refine lv_iconst (v := 1) hx hb d_L_law_472 (by decide) ?_
  refine lv_iadd hx hb d_L_law_473 ?_
  refine va_sld hx hb hX hbl hbA h.2.2 h1 d_L_law_474 ?_
  refine z_callV (i := 0) C h (k_S_memory l dC dI k q X M (xs (Int32.toNatClampNeg (i + 1)))) co_S_memory ml_L_60 im_S_memory se_S_memory in_S rfl rfl hd_S_memory ⟨(Nat.le_of_ble_eq_true rfl), (Nat.le_of_ble_eq_true rfl)⟩ hcs hl.1 (Nat.le_of_ble_eq_true rfl) d_L_law_475 rfl (fun H locs h => ?_)
  refine W.eq (g2 := F0 m 478 ls [.int (r_S_memory X M (xs (Int32.toNatClampNeg (i + 1))))]) rfl ?_
  have h : zH dC dI k q X M A s.heap H locs := h
  refine lv_aload_n hx hb d_L_law_478 rfl (lv_at hl 1 rfl) ?_
  refine lv_aload_n hx hb d_L_law_479 rfl (lv_at hl 3 rfl) ?_
  refine lv_iload_n hx hb d_L_law_480 rfl (lv_at hl 0 rfl) ?_
  refine lv_iconst (v := 1) hx hb d_L_law_481 (by decide) ?_
  refine lv_iadd hx hb d_L_law_482 ?_
  refine va_sld hx hb hX hbl hbA h.2.2 h1 d_L_law_483 ?_
  refine z_callV (i := 37) C h (k_M_memory l dC dI k q X M (xs (Int32.toNatClampNeg (i + 1)))) co_M_memory ml_L_63 im_M_memory se_M_memory in_M rfl rfl hd_M_memory ⟨(Nat.le_of_ble_eq_true rfl), (Nat.le_of_ble_eq_true rfl)⟩ hcs hl.1 (Nat.le_of_ble_eq_true rfl) d_L_law_484 rfl (fun H locs h => ?_)
  refine W.eq (g2 := F0 m 487 ls [.int (r_M_memory X M (xs (Int32.toNatClampNeg (i + 1)))), .int (r_S_memory X M (xs (Int32.toNatClampNeg (i + 1))))]) rfl ?_
  have h : zH dC dI k q X M A s.heap H locs := h
  have e1 := rr_memory (X0 := X) (M0 := M) hRR (xs (Int32.toNatClampNeg (i + 1)))
  have R1 := hRR
  exact lv_icmp_eq (tgt := 617) hx hb d_L_law_487 (by decide) (fun _ => kk _ _ _ _ R1 h) (fun hne => absurd e1 hne)
set_option maxHeartbeats 4000000 in
set_option maxRecDepth 100000 in
theorem lw_c12 {p : Program} {l : Launch} {e : Env} {s : State} {m : MethodId} {args : Array Value} {below : List Frame} {meth : Method} {c : Code} {H : Heap} {locs : List Loc} {cells slots : Nat} {Q : State → Prop} {ls : Array Slot} {dC : Nat → ClassId} {dI : Nat → Nat → Nat} {k : Nat → ClassId} {q : Nat → Nat} {X : zXS} {M : zMS} {A : Nat → Prop} {b L : Nat} {xs : Nat → Int32} {i : Int32} (C : zCx p s m args c code 4 "SharerHomeLaw" dC dI k) (h : zH dC dI k q X M A s.heap H locs) (hRR : RR X M) (hX : va_X b L xs s s.heap) (hbl : b < s.heap.size) (hbA : ¬ A b) (hl : lv_has ls 4 [(3, .int i), (2, .ref (q 37)), (1, .ref (q 0)), (0, .ref b)]) (h1 : vp_in (i + 1) L) (h2 : vp_in (i + 2) L) (h3 : vp_in (i + 3) L) (hcs : cells ≤ room_1.cells ∧ slots ≤ room_1.slots) (kk : ∀ (X : zXS) (M : zMS) (H : Heap) (locs : List Loc), RR X M → zH dC dI k q X M A s.heap H locs → W p l e room_1 s m args below meth c H locs cells slots Q (F0 m 617 ls [])) : W p l e room_1 s m args below meth c H locs cells slots Q (F0 m 492 ls []) := by
  have hx := C.1
  have hb := C.2.1
  obtain ⟨nX, hnX, hbX, hWX⟩ := GX.n M hRR.X
  obtain ⟨nM, hnM, hbM, hWM⟩ := GM.n hRR.M
  refine lv_aload_n hx hb d_L_law_492 rfl (lv_at hl 2 rfl) ?_
  refine lv_aload_n hx hb d_L_law_493 rfl (lv_at hl 3 rfl) ?_
  refine lv_iload_n hx hb d_L_law_494 rfl (lv_at hl 0 rfl) ?_
  refine lv_iconst (v := 1) hx hb d_L_law_495 (by decide) ?_
  refine lv_iadd hx hb d_L_law_496 ?_
  refine va_sld hx hb hX hbl hbA h.2.2 h1 d_L_law_497 ?_
  refine z_callV (i := 0) C h (k_S_waits l dC dI k q X M (xs (Int32.toNatClampNeg (i + 1)))) co_S_waits ml_L_64 im_S_waits se_S_waits in_S rfl rfl hd_S_waits ⟨(Nat.le_of_ble_eq_true rfl), (Nat.le_of_ble_eq_true rfl)⟩ hcs hl.1 (Nat.le_of_ble_eq_true rfl) d_L_law_498 rfl (fun H locs h => ?_)
  refine W.eq (g2 := F0 m 501 ls [.int (r_S_waits X M (xs (Int32.toNatClampNeg (i + 1))))]) rfl ?_
  have h : zH dC dI k q X M A s.heap H locs := h
  refine lv_aload_n hx hb d_L_law_501 rfl (lv_at hl 1 rfl) ?_
  refine lv_aload_n hx hb d_L_law_502 rfl (lv_at hl 3 rfl) ?_
  refine lv_iload_n hx hb d_L_law_503 rfl (lv_at hl 0 rfl) ?_
  refine lv_iconst (v := 1) hx hb d_L_law_504 (by decide) ?_
  refine lv_iadd hx hb d_L_law_505 ?_
  refine va_sld hx hb hX hbl hbA h.2.2 h1 d_L_law_506 ?_
  refine z_callV (i := 37) C h (k_M_waits l dC dI k q X M (xs (Int32.toNatClampNeg (i + 1)))) co_M_waits ml_L_68 im_M_waits se_M_waits in_M rfl rfl hd_M_waits ⟨(Nat.le_of_ble_eq_true rfl), (Nat.le_of_ble_eq_true rfl)⟩ hcs hl.1 (Nat.le_of_ble_eq_true rfl) d_L_law_507 rfl (fun H locs h => ?_)
  refine W.eq (g2 := F0 m 510 ls [.int (r_M_waits X M (xs (Int32.toNatClampNeg (i + 1)))), .int (r_S_waits X M (xs (Int32.toNatClampNeg (i + 1))))]) rfl ?_
  have h : zH dC dI k q X M A s.heap H locs := h
  have e1 := rr_waits (X0 := X) (M0 := M) hRR (xs (Int32.toNatClampNeg (i + 1)))
  have R1 := hRR
  exact lv_icmp_eq (tgt := 617) hx hb d_L_law_510 (by decide) (fun _ => kk _ _ _ _ R1 h) (fun hne => absurd e1 hne)
set_option maxHeartbeats 4000000 in
set_option maxRecDepth 100000 in
theorem lw_c13 {p : Program} {l : Launch} {e : Env} {s : State} {m : MethodId} {args : Array Value} {below : List Frame} {meth : Method} {c : Code} {H : Heap} {locs : List Loc} {cells slots : Nat} {Q : State → Prop} {ls : Array Slot} {dC : Nat → ClassId} {dI : Nat → Nat → Nat} {k : Nat → ClassId} {q : Nat → Nat} {X : zXS} {M : zMS} {A : Nat → Prop} {b L : Nat} {xs : Nat → Int32} {i : Int32} (C : zCx p s m args c code 4 "SharerHomeLaw" dC dI k) (h : zH dC dI k q X M A s.heap H locs) (hRR : RR X M) (hX : va_X b L xs s s.heap) (hbl : b < s.heap.size) (hbA : ¬ A b) (hl : lv_has ls 4 [(3, .int i), (2, .ref (q 37)), (1, .ref (q 0)), (0, .ref b)]) (h1 : vp_in (i + 1) L) (h2 : vp_in (i + 2) L) (h3 : vp_in (i + 3) L) (hcs : cells ≤ room_1.cells ∧ slots ≤ room_1.slots) (kk : ∀ (X : zXS) (M : zMS) (H : Heap) (locs : List Loc), RR X M → zH dC dI k q X M A s.heap H locs → W p l e room_1 s m args below meth c H locs cells slots Q (F0 m 617 ls [])) : W p l e room_1 s m args below meth c H locs cells slots Q (F0 m 515 ls []) := by
  have hx := C.1
  have hb := C.2.1
  obtain ⟨nX, hnX, hbX, hWX⟩ := GX.n M hRR.X
  obtain ⟨nM, hnM, hbM, hWM⟩ := GM.n hRR.M
  refine lv_aload_n hx hb d_L_law_515 rfl (lv_at hl 2 rfl) ?_
  refine lv_aload_n hx hb d_L_law_516 rfl (lv_at hl 3 rfl) ?_
  refine lv_iload_n hx hb d_L_law_517 rfl (lv_at hl 0 rfl) ?_
  refine lv_iconst (v := 1) hx hb d_L_law_518 (by decide) ?_
  refine lv_iadd hx hb d_L_law_519 ?_
  refine va_sld hx hb hX hbl hbA h.2.2 h1 d_L_law_520 ?_
  refine z_callV (i := 0) C h (k_S_done l dC dI k q X M (xs (Int32.toNatClampNeg (i + 1)))) co_S_done ml_L_69 im_S_done se_S_done in_S rfl rfl hd_S_done ⟨(Nat.le_of_ble_eq_true rfl), (Nat.le_of_ble_eq_true rfl)⟩ hcs hl.1 (Nat.le_of_ble_eq_true rfl) d_L_law_521 rfl (fun H locs h => ?_)
  refine W.eq (g2 := F0 m 524 ls [.int (r_S_done X M (xs (Int32.toNatClampNeg (i + 1))))]) rfl ?_
  have h : zH dC dI k q X M A s.heap H locs := h
  refine lv_aload_n hx hb d_L_law_524 rfl (lv_at hl 1 rfl) ?_
  refine lv_aload_n hx hb d_L_law_525 rfl (lv_at hl 3 rfl) ?_
  refine lv_iload_n hx hb d_L_law_526 rfl (lv_at hl 0 rfl) ?_
  refine lv_iconst (v := 1) hx hb d_L_law_527 (by decide) ?_
  refine lv_iadd hx hb d_L_law_528 ?_
  refine va_sld hx hb hX hbl hbA h.2.2 h1 d_L_law_529 ?_
  refine z_callV (i := 37) C h (k_M_done l dC dI k q X M (xs (Int32.toNatClampNeg (i + 1)))) co_M_done ml_L_72 im_M_done se_M_done in_M rfl rfl hd_M_done ⟨(Nat.le_of_ble_eq_true rfl), (Nat.le_of_ble_eq_true rfl)⟩ hcs hl.1 (Nat.le_of_ble_eq_true rfl) d_L_law_530 rfl (fun H locs h => ?_)
  refine W.eq (g2 := F0 m 533 ls [.int (r_M_done X M (xs (Int32.toNatClampNeg (i + 1)))), .int (r_S_done X M (xs (Int32.toNatClampNeg (i + 1))))]) rfl ?_
  have h : zH dC dI k q X M A s.heap H locs := h
  have e1 := rr_done (X0 := X) (M0 := M) hRR (xs (Int32.toNatClampNeg (i + 1)))
  have R1 := hRR
  exact lv_icmp_eq (tgt := 617) hx hb d_L_law_533 (by decide) (fun _ => kk _ _ _ _ R1 h) (fun hne => absurd e1 hne)
set_option maxHeartbeats 4000000 in
set_option maxRecDepth 100000 in
theorem lw_c14 {p : Program} {l : Launch} {e : Env} {s : State} {m : MethodId} {args : Array Value} {below : List Frame} {meth : Method} {c : Code} {H : Heap} {locs : List Loc} {cells slots : Nat} {Q : State → Prop} {ls : Array Slot} {dC : Nat → ClassId} {dI : Nat → Nat → Nat} {k : Nat → ClassId} {q : Nat → Nat} {X : zXS} {M : zMS} {A : Nat → Prop} {b L : Nat} {xs : Nat → Int32} {i : Int32} (C : zCx p s m args c code 4 "SharerHomeLaw" dC dI k) (h : zH dC dI k q X M A s.heap H locs) (hRR : RR X M) (hX : va_X b L xs s s.heap) (hbl : b < s.heap.size) (hbA : ¬ A b) (hl : lv_has ls 4 [(3, .int i), (2, .ref (q 37)), (1, .ref (q 0)), (0, .ref b)]) (h1 : vp_in (i + 1) L) (h2 : vp_in (i + 2) L) (h3 : vp_in (i + 3) L) (hcs : cells ≤ room_1.cells ∧ slots ≤ room_1.slots) (kk : ∀ (X : zXS) (M : zMS) (H : Heap) (locs : List Loc), RR X M → zH dC dI k q X M A s.heap H locs → W p l e room_1 s m args below meth c H locs cells slots Q (F0 m 617 ls [])) : W p l e room_1 s m args below meth c H locs cells slots Q (F0 m 538 ls []) := by
  have hx := C.1
  have hb := C.2.1
  obtain ⟨nX, hnX, hbX, hWX⟩ := GX.n M hRR.X
  obtain ⟨nM, hnM, hbM, hWM⟩ := GM.n hRR.M
  refine lv_aload_n hx hb d_L_law_538 rfl (lv_at hl 2 rfl) ?_
  refine lv_aload_n hx hb d_L_law_539 rfl (lv_at hl 3 rfl) ?_
  refine lv_iload_n hx hb d_L_law_540 rfl (lv_at hl 0 rfl) ?_
  refine lv_iconst (v := 1) hx hb d_L_law_541 (by decide) ?_
  refine lv_iadd hx hb d_L_law_542 ?_
  refine va_sld hx hb hX hbl hbA h.2.2 h1 d_L_law_543 ?_
  refine z_callV (i := 0) C h (k_S_result l dC dI k q X M (xs (Int32.toNatClampNeg (i + 1)))) co_S_result ml_L_73 im_S_result se_S_result in_S rfl rfl hd_S_result ⟨(Nat.le_of_ble_eq_true rfl), (Nat.le_of_ble_eq_true rfl)⟩ hcs hl.1 (Nat.le_of_ble_eq_true rfl) d_L_law_544 rfl (fun H locs h => ?_)
  refine W.eq (g2 := F0 m 547 ls [.int (r_S_result X M (xs (Int32.toNatClampNeg (i + 1))))]) rfl ?_
  have h : zH dC dI k q X M A s.heap H locs := h
  refine lv_aload_n hx hb d_L_law_547 rfl (lv_at hl 1 rfl) ?_
  refine lv_aload_n hx hb d_L_law_548 rfl (lv_at hl 3 rfl) ?_
  refine lv_iload_n hx hb d_L_law_549 rfl (lv_at hl 0 rfl) ?_
  refine lv_iconst (v := 1) hx hb d_L_law_550 (by decide) ?_
  refine lv_iadd hx hb d_L_law_551 ?_
  refine va_sld hx hb hX hbl hbA h.2.2 h1 d_L_law_552 ?_
  refine z_callV (i := 37) C h (k_M_result l dC dI k q X M (xs (Int32.toNatClampNeg (i + 1)))) co_M_result ml_L_76 im_M_result se_M_result in_M rfl rfl hd_M_result ⟨(Nat.le_of_ble_eq_true rfl), (Nat.le_of_ble_eq_true rfl)⟩ hcs hl.1 (Nat.le_of_ble_eq_true rfl) d_L_law_553 rfl (fun H locs h => ?_)
  refine W.eq (g2 := F0 m 556 ls [.int (r_M_result X M (xs (Int32.toNatClampNeg (i + 1)))), .int (r_S_result X M (xs (Int32.toNatClampNeg (i + 1))))]) rfl ?_
  have h : zH dC dI k q X M A s.heap H locs := h
  have e1 := rr_result (X0 := X) (M0 := M) hRR (xs (Int32.toNatClampNeg (i + 1)))
  have R1 := hRR
  exact lv_icmp_eq (tgt := 617) hx hb d_L_law_556 (by decide) (fun _ => kk _ _ _ _ R1 h) (fun hne => absurd e1 hne)
set_option maxHeartbeats 4000000 in
set_option maxRecDepth 100000 in
theorem lw_c15 {p : Program} {l : Launch} {e : Env} {s : State} {m : MethodId} {args : Array Value} {below : List Frame} {meth : Method} {c : Code} {H : Heap} {locs : List Loc} {cells slots : Nat} {Q : State → Prop} {ls : Array Slot} {dC : Nat → ClassId} {dI : Nat → Nat → Nat} {k : Nat → ClassId} {q : Nat → Nat} {X : zXS} {M : zMS} {A : Nat → Prop} {b L : Nat} {xs : Nat → Int32} {i : Int32} (C : zCx p s m args c code 4 "SharerHomeLaw" dC dI k) (h : zH dC dI k q X M A s.heap H locs) (hRR : RR X M) (hX : va_X b L xs s s.heap) (hbl : b < s.heap.size) (hbA : ¬ A b) (hl : lv_has ls 4 [(3, .int i), (2, .ref (q 37)), (1, .ref (q 0)), (0, .ref b)]) (h1 : vp_in (i + 1) L) (h2 : vp_in (i + 2) L) (h3 : vp_in (i + 3) L) (hcs : cells ≤ room_1.cells ∧ slots ≤ room_1.slots) (kk : ∀ (X : zXS) (M : zMS) (H : Heap) (locs : List Loc), RR X M → zH dC dI k q X M A s.heap H locs → W p l e room_1 s m args below meth c H locs cells slots Q (F0 m 617 ls [])) : W p l e room_1 s m args below meth c H locs cells slots Q (F0 m 561 ls []) := by
  have hx := C.1
  have hb := C.2.1
  obtain ⟨nX, hnX, hbX, hWX⟩ := GX.n M hRR.X
  obtain ⟨nM, hnM, hbM, hWM⟩ := GM.n hRR.M
  refine lv_aload_n hx hb d_L_law_561 rfl (lv_at hl 2 rfl) ?_
  refine lv_aload_n hx hb d_L_law_562 rfl (lv_at hl 3 rfl) ?_
  refine lv_iload_n hx hb d_L_law_563 rfl (lv_at hl 0 rfl) ?_
  refine lv_iconst (v := 1) hx hb d_L_law_564 (by decide) ?_
  refine lv_iadd hx hb d_L_law_565 ?_
  refine va_sld hx hb hX hbl hbA h.2.2 h1 d_L_law_566 ?_
  refine lv_aload_n hx hb d_L_law_567 rfl (lv_at hl 3 rfl) ?_
  refine lv_iload_n hx hb d_L_law_568 rfl (lv_at hl 0 rfl) ?_
  refine lv_iconst (v := 2) hx hb d_L_law_569 (by decide) ?_
  refine lv_iadd hx hb d_L_law_570 ?_
  refine va_sld hx hb hX hbl hbA h.2.2 h2 d_L_law_571 ?_
  refine z_callV (i := 0) C h (k_S_tally l dC dI k q X M (xs (Int32.toNatClampNeg (i + 1))) (xs (Int32.toNatClampNeg (i + 2)))) co_S_tally ml_L_77 im_S_tally se_S_tally in_S rfl rfl hd_S_tally ⟨(Nat.le_of_ble_eq_true rfl), (Nat.le_of_ble_eq_true rfl)⟩ hcs hl.1 (Nat.le_of_ble_eq_true rfl) d_L_law_572 rfl (fun H locs h => ?_)
  refine W.eq (g2 := F0 m 575 ls [.int (r_S_tally X M (xs (Int32.toNatClampNeg (i + 1))) (xs (Int32.toNatClampNeg (i + 2))))]) rfl ?_
  have h : zH dC dI k q X M A s.heap H locs := h
  refine lv_aload_n hx hb d_L_law_575 rfl (lv_at hl 1 rfl) ?_
  refine lv_aload_n hx hb d_L_law_576 rfl (lv_at hl 3 rfl) ?_
  refine lv_iload_n hx hb d_L_law_577 rfl (lv_at hl 0 rfl) ?_
  refine lv_iconst (v := 1) hx hb d_L_law_578 (by decide) ?_
  refine lv_iadd hx hb d_L_law_579 ?_
  refine va_sld hx hb hX hbl hbA h.2.2 h1 d_L_law_580 ?_
  refine lv_aload_n hx hb d_L_law_581 rfl (lv_at hl 3 rfl) ?_
  refine lv_iload_n hx hb d_L_law_582 rfl (lv_at hl 0 rfl) ?_
  refine lv_iconst (v := 2) hx hb d_L_law_583 (by decide) ?_
  refine lv_iadd hx hb d_L_law_584 ?_
  refine va_sld hx hb hX hbl hbA h.2.2 h2 d_L_law_585 ?_
  refine z_callV (i := 37) C h (k_M_tally l dC dI k q X M (xs (Int32.toNatClampNeg (i + 1))) (xs (Int32.toNatClampNeg (i + 2)))) co_M_tally ml_L_80 im_M_tally se_M_tally in_M rfl rfl hd_M_tally ⟨(Nat.le_of_ble_eq_true rfl), (Nat.le_of_ble_eq_true rfl)⟩ hcs hl.1 (Nat.le_of_ble_eq_true rfl) d_L_law_586 rfl (fun H locs h => ?_)
  refine W.eq (g2 := F0 m 589 ls [.int (r_M_tally X M (xs (Int32.toNatClampNeg (i + 1))) (xs (Int32.toNatClampNeg (i + 2)))), .int (r_S_tally X M (xs (Int32.toNatClampNeg (i + 1))) (xs (Int32.toNatClampNeg (i + 2))))]) rfl ?_
  have h : zH dC dI k q X M A s.heap H locs := h
  have e1 := rr_tally (X0 := X) (M0 := M) hRR (xs (Int32.toNatClampNeg (i + 1))) (xs (Int32.toNatClampNeg (i + 2)))
  have R1 := hRR
  exact lv_icmp_eq (tgt := 617) hx hb d_L_law_589 (by decide) (fun _ => kk _ _ _ _ R1 h) (fun hne => absurd e1 hne)
set_option maxHeartbeats 4000000 in
set_option maxRecDepth 100000 in
theorem lw_c16 {p : Program} {l : Launch} {e : Env} {s : State} {m : MethodId} {args : Array Value} {below : List Frame} {meth : Method} {c : Code} {H : Heap} {locs : List Loc} {cells slots : Nat} {Q : State → Prop} {ls : Array Slot} {dC : Nat → ClassId} {dI : Nat → Nat → Nat} {k : Nat → ClassId} {q : Nat → Nat} {X : zXS} {M : zMS} {A : Nat → Prop} {b L : Nat} {xs : Nat → Int32} {i : Int32} (C : zCx p s m args c code 4 "SharerHomeLaw" dC dI k) (h : zH dC dI k q X M A s.heap H locs) (hRR : RR X M) (hX : va_X b L xs s s.heap) (hbl : b < s.heap.size) (hbA : ¬ A b) (hl : lv_has ls 4 [(3, .int i), (2, .ref (q 37)), (1, .ref (q 0)), (0, .ref b)]) (h1 : vp_in (i + 1) L) (h2 : vp_in (i + 2) L) (h3 : vp_in (i + 3) L) (hcs : cells ≤ room_1.cells ∧ slots ≤ room_1.slots) (kk : ∀ (X : zXS) (M : zMS) (H : Heap) (locs : List Loc), RR X M → zH dC dI k q X M A s.heap H locs → W p l e room_1 s m args below meth c H locs cells slots Q (F0 m 617 ls [])) : W p l e room_1 s m args below meth c H locs cells slots Q (F0 m 594 ls []) := by
  have hx := C.1
  have hb := C.2.1
  obtain ⟨nX, hnX, hbX, hWX⟩ := GX.n M hRR.X
  obtain ⟨nM, hnM, hbM, hWM⟩ := GM.n hRR.M
  refine lv_aload_n hx hb d_L_law_594 rfl (lv_at hl 2 rfl) ?_
  refine lv_aload_n hx hb d_L_law_595 rfl (lv_at hl 3 rfl) ?_
  refine lv_iload_n hx hb d_L_law_596 rfl (lv_at hl 0 rfl) ?_
  refine lv_iconst (v := 1) hx hb d_L_law_597 (by decide) ?_
  refine lv_iadd hx hb d_L_law_598 ?_
  refine va_sld hx hb hX hbl hbA h.2.2 h1 d_L_law_599 ?_
  refine z_callV (i := 0) C h (k_S_run l dC dI k q X M (xs (Int32.toNatClampNeg (i + 1))) GX (GX_run M) hRR.X) co_S_run ml_L_81 im_S_run se_S_run in_S rfl rfl hd_S_run ⟨(Nat.le_of_ble_eq_true rfl), (Nat.le_of_ble_eq_true rfl)⟩ hcs hl.1 (Nat.le_of_ble_eq_true rfl) d_L_law_600 rfl (fun H locs h => ?_)
  refine W.eq (g2 := F0 m 603 ls [.int (r_S_run X M (xs (Int32.toNatClampNeg (i + 1))))]) rfl ?_
  have h : zH dC dI k q (x_S_run X M (xs (Int32.toNatClampNeg (i + 1)))) M A s.heap H locs := h
  refine lv_aload_n hx hb d_L_law_603 rfl (lv_at hl 1 rfl) ?_
  refine lv_aload_n hx hb d_L_law_604 rfl (lv_at hl 3 rfl) ?_
  refine lv_iload_n hx hb d_L_law_605 rfl (lv_at hl 0 rfl) ?_
  refine lv_iconst (v := 1) hx hb d_L_law_606 (by decide) ?_
  refine lv_iadd hx hb d_L_law_607 ?_
  refine va_sld hx hb hX hbl hbA h.2.2 h1 d_L_law_608 ?_
  refine z_callV (i := 37) C h (k_M_run l dC dI k q (x_S_run X M (xs (Int32.toNatClampNeg (i + 1)))) M (xs (Int32.toNatClampNeg (i + 1))) GM (GM_run (x_S_run X M (xs (Int32.toNatClampNeg (i + 1))))) hRR.M) co_M_run ml_L_84 im_M_run se_M_run in_M rfl rfl hd_M_run ⟨(Nat.le_of_ble_eq_true rfl), (Nat.le_of_ble_eq_true rfl)⟩ hcs hl.1 (Nat.le_of_ble_eq_true rfl) d_L_law_609 rfl (fun H locs h => ?_)
  refine W.eq (g2 := F0 m 612 ls [.int (r_M_run (x_S_run X M (xs (Int32.toNatClampNeg (i + 1)))) M (xs (Int32.toNatClampNeg (i + 1)))), .int (r_S_run X M (xs (Int32.toNatClampNeg (i + 1))))]) rfl ?_
  have h : zH dC dI k q (x_S_run X M (xs (Int32.toNatClampNeg (i + 1)))) (m_M_run (x_S_run X M (xs (Int32.toNatClampNeg (i + 1)))) M (xs (Int32.toNatClampNeg (i + 1)))) A s.heap H locs := h
  obtain ⟨e1, R1⟩ := rr_run (X0 := (x_S_run X M (xs (Int32.toNatClampNeg (i + 1))))) (M0 := M) hRR (xs (Int32.toNatClampNeg (i + 1)))
  exact lv_icmp_eq (tgt := 617) hx hb d_L_law_612 (by decide) (fun _ => kk _ _ _ _ R1 h) (fun hne => absurd e1 hne)
