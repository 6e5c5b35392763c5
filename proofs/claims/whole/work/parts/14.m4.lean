def zRow (M : zMS) (n : Nat) : Prop := ∃ j, j ≤ n ∧ M 15 0 = nI j
theorem zRow.of {M : zMS} {n : Nat} (h : M 15 0 = nI n) : zRow M n := ⟨n, Nat.le_refl _, h⟩
theorem zRow.room {M : zMS} {n : Nat} (h : zRow M n) (hn : n < 200) : vp_in (M 15 0) 200 := by
  obtain ⟨j, h1, h2⟩ := h
  rw [h2]; exact vp_in_nI (by omega) (by omega)
theorem zRow.next {M : zMS} {n : Nat} {w a f t r k v : Int32} (h : zRow M n) : zRow (m_send M w a f t r k v) (n + 1) := by
  obtain ⟨j, h1, h2⟩ := h
  exact ⟨j + 1, by omega, nI_next h2⟩
theorem zRow.wk {M : zMS} {n k : Nat} (h : zRow M n) (hk : n ≤ k) : zRow M k := by
  obtain ⟨j, h1, h2⟩ := h
  exact ⟨j, by omega, h2⟩
theorem zRow.up {M : zMS} {n t i : Nat} {v : Int32} (ht : 15 ≠ t) (h : zRow M n) : zRow (u2 M t i v) n := by
  obtain ⟨j, h1, h2⟩ := h
  refine ⟨j, h1, ?_⟩
  show (if 15 = t then _ else M 15) 0 = _
  rw [if_neg ht]; exact h2
theorem zRow.ite {c : Prop} [Decidable c] {A B : zMS} {n : Nat} (hA : zRow A n) (hB : zRow B n) : zRow (if c then A else B) n := by
  split <;> assumption
theorem hd_M_toWrite : y_M_toWrite.cls ≠ "java/lang/invoke/MethodHandle" ∧ y_M_toWrite.cls ≠ "java/lang/invoke/VarHandle" ∧ (parseMethodDescriptor y_M_toWrite.desc).map (fun d => d.parameters.length) = some 2 := by decide +kernel
def jL3_M_toWrite_64_1 (X : zXS) (M : zMS) (a : Int32) (r : Int32) : Int32 := (if 0 = r then 0 else (if (((M 13 (Int32.toNatClampNeg a)) >>> (0 &&& 31)) &&& 1) = 1 then 1 else 0))
def jL3_M_toWrite_64_2 (X : zXS) (M : zMS) (a : Int32) (r : Int32) : Int32 := (if 1 = r then (jL3_M_toWrite_64_1 X M a r) else (if (((M 13 (Int32.toNatClampNeg a)) >>> (1 &&& 31)) &&& 1) = 1 then ((jL3_M_toWrite_64_1 X M a r) + 1) else (jL3_M_toWrite_64_1 X M a r)))
def jL3_M_toWrite_64_3 (X : zXS) (M : zMS) (a : Int32) (r : Int32) : Int32 := (if 2 = r then (jL3_M_toWrite_64_2 X M a r) else (if (((M 13 (Int32.toNatClampNeg a)) >>> (2 &&& 31)) &&& 1) = 1 then ((jL3_M_toWrite_64_2 X M a r) + 1) else (jL3_M_toWrite_64_2 X M a r)))
def jL3_M_toWrite_64_4 (X : zXS) (M : zMS) (a : Int32) (r : Int32) : Int32 := (if 3 = r then (jL3_M_toWrite_64_3 X M a r) else (if (((M 13 (Int32.toNatClampNeg a)) >>> (3 &&& 31)) &&& 1) = 1 then ((jL3_M_toWrite_64_3 X M a r) + 1) else (jL3_M_toWrite_64_3 X M a r)))
def jM_M_toWrite_129_1 (X : zXS) (M : zMS) (a : Int32) (r : Int32) : zMS := (if 0 = r then (m_send M 9 a 4 r r (jL3_M_toWrite_64_4 X M a r) (M 14 (Int32.toNatClampNeg a))) else (if ((((m_send M 9 a 4 r r (jL3_M_toWrite_64_4 X M a r) (M 14 (Int32.toNatClampNeg a))) 13 (Int32.toNatClampNeg a)) >>> (0 &&& 31)) &&& 1) = 1 then (m_send (m_send M 9 a 4 r r (jL3_M_toWrite_64_4 X M a r) (M 14 (Int32.toNatClampNeg a))) 7 a 4 0 r 0 0) else (m_send M 9 a 4 r r (jL3_M_toWrite_64_4 X M a r) (M 14 (Int32.toNatClampNeg a)))))
def jM_M_toWrite_129_2 (X : zXS) (M : zMS) (a : Int32) (r : Int32) : zMS := (if 1 = r then (jM_M_toWrite_129_1 X M a r) else (if ((((jM_M_toWrite_129_1 X M a r) 13 (Int32.toNatClampNeg a)) >>> (1 &&& 31)) &&& 1) = 1 then (m_send (jM_M_toWrite_129_1 X M a r) 7 a 4 1 r 0 0) else (jM_M_toWrite_129_1 X M a r)))
def jM_M_toWrite_129_3 (X : zXS) (M : zMS) (a : Int32) (r : Int32) : zMS := (if 2 = r then (jM_M_toWrite_129_2 X M a r) else (if ((((jM_M_toWrite_129_2 X M a r) 13 (Int32.toNatClampNeg a)) >>> (2 &&& 31)) &&& 1) = 1 then (m_send (jM_M_toWrite_129_2 X M a r) 7 a 4 2 r 0 0) else (jM_M_toWrite_129_2 X M a r)))
def jM_M_toWrite_129_4 (X : zXS) (M : zMS) (a : Int32) (r : Int32) : zMS := (if 3 = r then (jM_M_toWrite_129_3 X M a r) else (if ((((jM_M_toWrite_129_3 X M a r) 13 (Int32.toNatClampNeg a)) >>> (3 &&& 31)) &&& 1) = 1 then (m_send (jM_M_toWrite_129_3 X M a r) 7 a 4 3 r 0 0) else (jM_M_toWrite_129_3 X M a r)))
def m_M_toWrite (X : zXS) (M : zMS) (a : Int32) (r : Int32) : zMS := (if (M 11 (Int32.toNatClampNeg a)) = 2 then (u2 (u2 (m_send M 6 a 4 (M 12 (Int32.toNatClampNeg a)) r 0 0) 12 (Int32.toNatClampNeg a) r) 11 (Int32.toNatClampNeg a) 2) else (u2 (u2 (u2 (jM_M_toWrite_129_4 X M a r) 13 (Int32.toNatClampNeg a) 0) 12 (Int32.toNatClampNeg a) r) 11 (Int32.toNatClampNeg a) 2))
set_option maxHeartbeats 1000000 in
set_option maxRecDepth 100000 in
theorem k_M_toWrite (l : Launch) (dC : Nat → ClassId) (dI : Nat → Nat → Nat) (k : Nat → ClassId) (q : Nat → Nat) (X : zXS) (M : zMS) (a : Int32) (r : Int32)  (n : Nat) (hn : M 15 0 = nI n) (hb9 : n + 8 < 200) (ha : vp_in a 4) (hr4 : vp_in r 4) : zMet l dC dI k q y_M_toWrite c_M_toWrite 5 none 2 53 [.ref (q 37), .int a, .int r] none X M X (m_M_toWrite X M a r) := by
  refine zMet.of (by decide) (Nat.le_of_ble_eq_true rfl) ?_
  intro p e s m args below meth c ls C hr hk hl h
  have hx := C.1
  have hb := C.2.1
  have hl : lv_has ls 5 [(0, .ref (q 37)), (1, .int a), (2, .int r)] := hl
  refine lv_aload_n hx hb d_M_toWrite_0 rfl (lv_at hl 0 rfl) ?_
  refine g_M_44 C h d_M_toWrite_1 ?_
  refine lv_iload_n hx hb d_M_toWrite_4 rfl (lv_at hl 1 rfl) ?_
  refine l_M11 C h ha d_M_toWrite_5 ?_
  refine lv_iconst (v := 2) hx hb d_M_toWrite_6 (by decide) ?_
  refine lv_icmp_ne (tgt := 29) hx hb d_M_toWrite_7 (by decide) (fun hh1 => ?_) (fun hh1 => ?_)
  · skip
    refine lv_iconst (v := 0) hx hb d_M_toWrite_29 (by decide) ?_
    refine lv_istore_n hx hb d_M_toWrite_30 rfl hl (by decide) rfl (fun ls hl => ?_)
    have hl : lv_has ls 5 [(3, .int 0), (0, .ref (q 37)), (1, .int a), (2, .int r)] := hl
    refine lv_iconst (v := 0) hx hb d_M_toWrite_31 (by decide) ?_
    refine lv_istore hx hb d_M_toWrite_32 hl (by decide) rfl (fun ls hl => ?_)
    have hl : lv_has ls 5 [(4, .int 0), (3, .int 0), (0, .ref (q 37)), (1, .int a), (2, .int r)] := hl
    refine lv_iload hx hb d_M_toWrite_34 (lv_at hl 0 rfl) ?_
    refine lv_iconst (v := 4) hx hb d_M_toWrite_36 (by decide) ?_
    refine lv_icmp_ge (tgt := 70) hx hb d_M_toWrite_37 (by decide) (fun hh2 => absurd hh2 (by decide)) (fun _ => ?_)
    have J64_1 : ∀ (ls : Array Slot) (H : Heap) (locs : List Loc), lv_has ls 5 [(0, .ref (q 37)), (1, .int a), (2, .int r), (3, .int (jL3_M_toWrite_64_1 X M a r)), (4, .int 0)] → zH dC dI k q X M (zA q) s.heap H locs → W p l e { frames := 2, cells := 0, slots := 0, locals := 53 } s m args below meth c H locs 0 0 (MQ below (zQc dC dI k q X (m_M_toWrite X M a r) none) args s 0 0 (zA q)) (F0 m 64 ls []) := by
      intro ls H locs hl h
      refine lv_iinc (k := 4) (v := 1) hx hb d_M_toWrite_64 hl rfl (by decide) (by decide) rfl (fun ls hl => ?_)
      have hl : lv_has ls 5 [(4, .int 1), (0, .ref (q 37)), (1, .int a), (2, .int r), (3, .int (jL3_M_toWrite_64_1 X M a r))] := hl
      refine lv_goto (tgt := 34) hx hb d_M_toWrite_67 (by decide) ?_
      refine lv_iload hx hb d_M_toWrite_34 (lv_at hl 0 rfl) ?_
      refine lv_iconst (v := 4) hx hb d_M_toWrite_36 (by decide) ?_
      refine lv_icmp_ge (tgt := 70) hx hb d_M_toWrite_37 (by decide) (fun hh3 => absurd hh3 (by decide)) (fun _ => ?_)
      have J64_2 : ∀ (ls : Array Slot) (H : Heap) (locs : List Loc), lv_has ls 5 [(0, .ref (q 37)), (1, .int a), (2, .int r), (3, .int (jL3_M_toWrite_64_2 X M a r)), (4, .int 1)] → zH dC dI k q X M (zA q) s.heap H locs → W p l e { frames := 2, cells := 0, slots := 0, locals := 53 } s m args below meth c H locs 0 0 (MQ below (zQc dC dI k q X (m_M_toWrite X M a r) none) args s 0 0 (zA q)) (F0 m 64 ls []) := by
        intro ls H locs hl h
        refine lv_iinc (k := 4) (v := 2) hx hb d_M_toWrite_64 hl rfl (by decide) (by decide) rfl (fun ls hl => ?_)
        have hl : lv_has ls 5 [(4, .int 2), (0, .ref (q 37)), (1, .int a), (2, .int r), (3, .int (jL3_M_toWrite_64_2 X M a r))] := hl
        refine lv_goto (tgt := 34) hx hb d_M_toWrite_67 (by decide) ?_
        refine lv_iload hx hb d_M_toWrite_34 (lv_at hl 0 rfl) ?_
        refine lv_iconst (v := 4) hx hb d_M_toWrite_36 (by decide) ?_
        refine lv_icmp_ge (tgt := 70) hx hb d_M_toWrite_37 (by decide) (fun hh4 => absurd hh4 (by decide)) (fun _ => ?_)
        have J64_3 : ∀ (ls : Array Slot) (H : Heap) (locs : List Loc), lv_has ls 5 [(0, .ref (q 37)), (1, .int a), (2, .int r), (3, .int (jL3_M_toWrite_64_3 X M a r)), (4, .int 2)] → zH dC dI k q X M (zA q) s.heap H locs → W p l e { frames := 2, cells := 0, slots := 0, locals := 53 } s m args below meth c H locs 0 0 (MQ below (zQc dC dI k q X (m_M_toWrite X M a r) none) args s 0 0 (zA q)) (F0 m 64 ls []) := by
          intro ls H locs hl h
          refine lv_iinc (k := 4) (v := 3) hx hb d_M_toWrite_64 hl rfl (by decide) (by decide) rfl (fun ls hl => ?_)
          have hl : lv_has ls 5 [(4, .int 3), (0, .ref (q 37)), (1, .int a), (2, .int r), (3, .int (jL3_M_toWrite_64_3 X M a r))] := hl
          refine lv_goto (tgt := 34) hx hb d_M_toWrite_67 (by decide) ?_
          refine lv_iload hx hb d_M_toWrite_34 (lv_at hl 0 rfl) ?_
          refine lv_iconst (v := 4) hx hb d_M_toWrite_36 (by decide) ?_
          refine lv_icmp_ge (tgt := 70) hx hb d_M_toWrite_37 (by decide) (fun hh5 => absurd hh5 (by decide)) (fun _ => ?_)
          have J64_4 : ∀ (ls : Array Slot) (H : Heap) (locs : List Loc), lv_has ls 5 [(0, .ref (q 37)), (1, .int a), (2, .int r), (3, .int (jL3_M_toWrite_64_4 X M a r)), (4, .int 3)] → zH dC dI k q X M (zA q) s.heap H locs → W p l e { frames := 2, cells := 0, slots := 0, locals := 53 } s m args below meth c H locs 0 0 (MQ below (zQc dC dI k q X (m_M_toWrite X M a r) none) args s 0 0 (zA q)) (F0 m 64 ls []) := by
            intro ls H locs hl h
            refine lv_iinc (k := 4) (v := 4) hx hb d_M_toWrite_64 hl rfl (by decide) (by decide) rfl (fun ls hl => ?_)
            have hl : lv_has ls 5 [(4, .int 4), (0, .ref (q 37)), (1, .int a), (2, .int r), (3, .int (jL3_M_toWrite_64_4 X M a r))] := hl
            refine lv_goto (tgt := 34) hx hb d_M_toWrite_67 (by decide) ?_
            refine lv_iload hx hb d_M_toWrite_34 (lv_at hl 0 rfl) ?_
            refine lv_iconst (v := 4) hx hb d_M_toWrite_36 (by decide) ?_
            refine lv_icmp_ge (tgt := 70) hx hb d_M_toWrite_37 (by decide) (fun _ => ?_) (fun hh6 => absurd (by decide) hh6)
            refine lv_aload_n hx hb d_M_toWrite_70 rfl (lv_at hl 1 rfl) ?_
            refine lv_bipush (v := 9) hx hb d_M_toWrite_71 (by decide) ?_
            refine lv_iload_n hx hb d_M_toWrite_73 rfl (lv_at hl 2 rfl) ?_
            refine lv_iconst (v := 4) hx hb d_M_toWrite_74 (by decide) ?_
            refine lv_iload_n hx hb d_M_toWrite_75 rfl (lv_at hl 3 rfl) ?_
            refine lv_iload_n hx hb d_M_toWrite_76 rfl (lv_at hl 3 rfl) ?_
            refine lv_iload_n hx hb d_M_toWrite_77 rfl (lv_at hl 4 rfl) ?_
            refine lv_aload_n hx hb d_M_toWrite_78 rfl (lv_at hl 1 rfl) ?_
            refine g_M_53 C h d_M_toWrite_79 ?_
            refine lv_iload_n hx hb d_M_toWrite_82 rfl (lv_at hl 2 rfl) ?_
            refine l_M14 C h ha d_M_toWrite_83 ?_
            refine z_callV (i := 37) C h (k_M_sendWith l dC dI k q X M 9 a 4 r r (jL3_M_toWrite_64_4 X M a r) (M 14 (Int32.toNatClampNeg a)) (zRow.room (zRow.of hn) (by omega)) (vp4 hr4 ha)) co_M_sendWith ml_M_77 im_M_sendWith se_M_sendWith in_M rfl rfl hd_M_sendWith ⟨by decide, by decide⟩ ⟨Nat.zero_le _, Nat.zero_le _⟩ hl.1 (Nat.le_of_ble_eq_true rfl) d_M_toWrite_84 rfl (fun H locs h => ?_)
            refine W.eq (g2 := F0 m 87 ls []) rfl ?_
            have h : zH dC dI k q X (m_send M 9 a 4 r r (jL3_M_toWrite_64_4 X M a r) (M 14 (Int32.toNatClampNeg a))) (zA q) s.heap H locs := h
            refine lv_iconst (v := 0) hx hb d_M_toWrite_87 (by decide) ?_
            refine lv_istore hx hb d_M_toWrite_88 hl (by decide) rfl (fun ls hl => ?_)
            have hl : lv_has ls 5 [(4, .int 0), (0, .ref (q 37)), (1, .int a), (2, .int r), (3, .int (jL3_M_toWrite_64_4 X M a r))] := hl
            refine lv_iload hx hb d_M_toWrite_90 (lv_at hl 0 rfl) ?_
            refine lv_iconst (v := 4) hx hb d_M_toWrite_92 (by decide) ?_
            refine lv_icmp_ge (tgt := 135) hx hb d_M_toWrite_93 (by decide) (fun hh7 => absurd hh7 (by decide)) (fun _ => ?_)
            have J129_1 : ∀ (ls : Array Slot) (H : Heap) (locs : List Loc), lv_has ls 5 [(0, .ref (q 37)), (1, .int a), (2, .int r), (3, .int (jL3_M_toWrite_64_4 X M a r)), (4, .int 0)] → zH dC dI k q X (jM_M_toWrite_129_1 X M a r) (zA q) s.heap H locs → W p l e { frames := 2, cells := 0, slots := 0, locals := 53 } s m args below meth c H locs 0 0 (MQ below (zQc dC dI k q X (m_M_toWrite X M a r) none) args s 0 0 (zA q)) (F0 m 129 ls []) := by
              intro ls H locs hl h
              have hqjM_M_toWrite_129_1 : zRow (jM_M_toWrite_129_1 X M a r) (n + 2) := (zRow.ite (zRow.wk (zRow.next (zRow.of hn)) (by omega)) (zRow.ite (zRow.wk (zRow.next (zRow.next (zRow.of hn))) (by omega)) (zRow.wk (zRow.next (zRow.of hn)) (by omega))))
              refine lv_iinc (k := 4) (v := 1) hx hb d_M_toWrite_129 hl rfl (by decide) (by decide) rfl (fun ls hl => ?_)
              have hl : lv_has ls 5 [(4, .int 1), (0, .ref (q 37)), (1, .int a), (2, .int r), (3, .int (jL3_M_toWrite_64_4 X M a r))] := hl
              refine lv_goto (tgt := 90) hx hb d_M_toWrite_132 (by decide) ?_
              refine lv_iload hx hb d_M_toWrite_90 (lv_at hl 0 rfl) ?_
              refine lv_iconst (v := 4) hx hb d_M_toWrite_92 (by decide) ?_
              refine lv_icmp_ge (tgt := 135) hx hb d_M_toWrite_93 (by decide) (fun hh8 => absurd hh8 (by decide)) (fun _ => ?_)
              have J129_2 : ∀ (ls : Array Slot) (H : Heap) (locs : List Loc), lv_has ls 5 [(0, .ref (q 37)), (1, .int a), (2, .int r), (3, .int (jL3_M_toWrite_64_4 X M a r)), (4, .int 1)] → zH dC dI k q X (jM_M_toWrite_129_2 X M a r) (zA q) s.heap H locs → W p l e { frames := 2, cells := 0, slots := 0, locals := 53 } s m args below meth c H locs 0 0 (MQ below (zQc dC dI k q X (m_M_toWrite X M a r) none) args s 0 0 (zA q)) (F0 m 129 ls []) := by
                intro ls H locs hl h
                have hqjM_M_toWrite_129_2 : zRow (jM_M_toWrite_129_2 X M a r) (n + 3) := (zRow.ite (zRow.wk hqjM_M_toWrite_129_1 (by omega)) (zRow.ite (zRow.wk (zRow.next hqjM_M_toWrite_129_1) (by omega)) (zRow.wk hqjM_M_toWrite_129_1 (by omega))))
                refine lv_iinc (k := 4) (v := 2) hx hb d_M_toWrite_129 hl rfl (by decide) (by decide) rfl (fun ls hl => ?_)
                have hl : lv_has ls 5 [(4, .int 2), (0, .ref (q 37)), (1, .int a), (2, .int r), (3, .int (jL3_M_toWrite_64_4 X M a r))] := hl
                refine lv_goto (tgt := 90) hx hb d_M_toWrite_132 (by decide) ?_
                refine lv_iload hx hb d_M_toWrite_90 (lv_at hl 0 rfl) ?_
                refine lv_iconst (v := 4) hx hb d_M_toWrite_92 (by decide) ?_
                refine lv_icmp_ge (tgt := 135) hx hb d_M_toWrite_93 (by decide) (fun hh9 => absurd hh9 (by decide)) (fun _ => ?_)
                have J129_3 : ∀ (ls : Array Slot) (H : Heap) (locs : List Loc), lv_has ls 5 [(0, .ref (q 37)), (1, .int a), (2, .int r), (3, .int (jL3_M_toWrite_64_4 X M a r)), (4, .int 2)] → zH dC dI k q X (jM_M_toWrite_129_3 X M a r) (zA q) s.heap H locs → W p l e { frames := 2, cells := 0, slots := 0, locals := 53 } s m args below meth c H locs 0 0 (MQ below (zQc dC dI k q X (m_M_toWrite X M a r) none) args s 0 0 (zA q)) (F0 m 129 ls []) := by
                  intro ls H locs hl h
                  have hqjM_M_toWrite_129_3 : zRow (jM_M_toWrite_129_3 X M a r) (n + 4) := (zRow.ite (zRow.wk hqjM_M_toWrite_129_2 (by omega)) (zRow.ite (zRow.wk (zRow.next hqjM_M_toWrite_129_2) (by omega)) (zRow.wk hqjM_M_toWrite_129_2 (by omega))))
                  refine lv_iinc (k := 4) (v := 3) hx hb d_M_toWrite_129 hl rfl (by decide) (by decide) rfl (fun ls hl => ?_)
                  have hl : lv_has ls 5 [(4, .int 3), (0, .ref (q 37)), (1, .int a), (2, .int r), (3, .int (jL3_M_toWrite_64_4 X M a r))] := hl
                  refine lv_goto (tgt := 90) hx hb d_M_toWrite_132 (by decide) ?_
                  refine lv_iload hx hb d_M_toWrite_90 (lv_at hl 0 rfl) ?_
                  refine lv_iconst (v := 4) hx hb d_M_toWrite_92 (by decide) ?_
                  refine lv_icmp_ge (tgt := 135) hx hb d_M_toWrite_93 (by decide) (fun hh10 => absurd hh10 (by decide)) (fun _ => ?_)
                  have J129_4 : ∀ (ls : Array Slot) (H : Heap) (locs : List Loc), lv_has ls 5 [(0, .ref (q 37)), (1, .int a), (2, .int r), (3, .int (jL3_M_toWrite_64_4 X M a r)), (4, .int 3)] → zH dC dI k q X (jM_M_toWrite_129_4 X M a r) (zA q) s.heap H locs → W p l e { frames := 2, cells := 0, slots := 0, locals := 53 } s m args below meth c H locs 0 0 (MQ below (zQc dC dI k q X (m_M_toWrite X M a r) none) args s 0 0 (zA q)) (F0 m 129 ls []) := by
                    intro ls H locs hl h
                    have hqjM_M_toWrite_129_4 : zRow (jM_M_toWrite_129_4 X M a r) (n + 5) := (zRow.ite (zRow.wk hqjM_M_toWrite_129_3 (by omega)) (zRow.ite (zRow.wk (zRow.next hqjM_M_toWrite_129_3) (by omega)) (zRow.wk hqjM_M_toWrite_129_3 (by omega))))
                    refine lv_iinc (k := 4) (v := 4) hx hb d_M_toWrite_129 hl rfl (by decide) (by decide) rfl (fun ls hl => ?_)
                    have hl : lv_has ls 5 [(4, .int 4), (0, .ref (q 37)), (1, .int a), (2, .int r), (3, .int (jL3_M_toWrite_64_4 X M a r))] := hl
                    refine lv_goto (tgt := 90) hx hb d_M_toWrite_132 (by decide) ?_
                    refine lv_iload hx hb d_M_toWrite_90 (lv_at hl 0 rfl) ?_
                    refine lv_iconst (v := 4) hx hb d_M_toWrite_92 (by decide) ?_
                    refine lv_icmp_ge (tgt := 135) hx hb d_M_toWrite_93 (by decide) (fun _ => ?_) (fun hh11 => absurd (by decide) hh11)
                    refine lv_aload_n hx hb d_M_toWrite_135 rfl (lv_at hl 1 rfl) ?_
                    refine g_M_50 C h d_M_toWrite_136 ?_
                    refine lv_iload_n hx hb d_M_toWrite_139 rfl (lv_at hl 2 rfl) ?_
                    refine lv_iconst (v := 0) hx hb d_M_toWrite_140 (by decide) ?_
                    refine s_M13 C h ha d_M_toWrite_141 (fun H locs h => ?_)
                    refine lv_aload_n hx hb d_M_toWrite_142 rfl (lv_at hl 1 rfl) ?_
                    refine g_M_47 C h d_M_toWrite_143 ?_
                    refine lv_iload_n hx hb d_M_toWrite_146 rfl (lv_at hl 2 rfl) ?_
                    refine lv_iload_n hx hb d_M_toWrite_147 rfl (lv_at hl 3 rfl) ?_
                    refine s_M12 C h ha d_M_toWrite_148 (fun H locs h => ?_)
                    refine lv_aload_n hx hb d_M_toWrite_149 rfl (lv_at hl 1 rfl) ?_
                    refine g_M_44 C h d_M_toWrite_150 ?_
                    refine lv_iload_n hx hb d_M_toWrite_153 rfl (lv_at hl 2 rfl) ?_
                    refine lv_iconst (v := 2) hx hb d_M_toWrite_154 (by decide) ?_
                    refine s_M11 C h ha d_M_toWrite_155 (fun H locs h => ?_)
                    exact z_retvE C h hr hk (by first | rfl | (simp only [m_M_toWrite, eq_false hh1, ↓reduceIte]; done) | (simp [m_M_toWrite, eq_false hh1]; done)) (by first | rfl | (simp only [m_M_toWrite, eq_false hh1, ↓reduceIte]; done) | (simp [m_M_toWrite, eq_false hh1]; done)) d_M_toWrite_156
                  refine lv_iload hx hb d_M_toWrite_96 (lv_at hl 0 rfl) ?_
                  refine lv_iload_n hx hb d_M_toWrite_98 rfl (lv_at hl 3 rfl) ?_
                  refine lv_icmp_eq (tgt := 129) hx hb d_M_toWrite_99 (by decide) (fun hh12 => ?_) (fun hh12 => ?_)
                  · skip
                    exact J129_4 _ _ _ (lv_sub hl [1, 2, 3, 4, 0] rfl) (by rw [show (jM_M_toWrite_129_4 X M a r) = (jM_M_toWrite_129_3 X M a r) from (by first | (simp only [jM_M_toWrite_129_4, eq_false hh1, eq_true hh12, ↓reduceIte]; done) | (simp [jM_M_toWrite_129_4, eq_false hh1, eq_true hh12]; done))]; exact h)
                  · skip
                    refine lv_aload_n hx hb d_M_toWrite_102 rfl (lv_at hl 1 rfl) ?_
                    refine g_M_50 C h d_M_toWrite_103 ?_
                    refine lv_iload_n hx hb d_M_toWrite_106 rfl (lv_at hl 2 rfl) ?_
                    refine l_M13 C h ha d_M_toWrite_107 ?_
                    refine lv_iload hx hb d_M_toWrite_108 (lv_at hl 0 rfl) ?_
                    refine lv_ishr hx hb d_M_toWrite_110 ?_
                    refine lv_iconst (v := 1) hx hb d_M_toWrite_111 (by decide) ?_
                    refine lv_iand hx hb d_M_toWrite_112 ?_
                    refine lv_iconst (v := 1) hx hb d_M_toWrite_113 (by decide) ?_
                    refine lv_icmp_ne (tgt := 129) hx hb d_M_toWrite_114 (by decide) (fun hh13 => ?_) (fun hh13 => ?_)
                    · skip
                      exact J129_4 _ _ _ (lv_sub hl [1, 2, 3, 4, 0] rfl) (by rw [show (jM_M_toWrite_129_4 X M a r) = (jM_M_toWrite_129_3 X M a r) from (by first | (simp only [jM_M_toWrite_129_4, eq_false hh1, eq_false hh12, eq_false hh13, ↓reduceIte]; done) | (simp [jM_M_toWrite_129_4, eq_false hh1, eq_false hh12, eq_false hh13]; done))]; exact h)
                    · skip
                      refine lv_aload_n hx hb d_M_toWrite_117 rfl (lv_at hl 1 rfl) ?_
                      refine lv_bipush (v := 7) hx hb d_M_toWrite_118 (by decide) ?_
                      refine lv_iload_n hx hb d_M_toWrite_120 rfl (lv_at hl 2 rfl) ?_
                      refine lv_iconst (v := 4) hx hb d_M_toWrite_121 (by decide) ?_
                      refine lv_iload hx hb d_M_toWrite_122 (lv_at hl 0 rfl) ?_
                      refine lv_iload_n hx hb d_M_toWrite_124 rfl (lv_at hl 3 rfl) ?_
                      refine lv_iconst (v := 0) hx hb d_M_toWrite_125 (by decide) ?_
                      refine z_callV (i := 37) C h (k_M_send l dC dI k q X (jM_M_toWrite_129_3 X M a r) 7 a 4 3 r 0 (zRow.room hqjM_M_toWrite_129_3 (by omega)) (vp4 hr4 ha)) co_M_send ml_M_130 im_M_send se_M_send in_M rfl rfl hd_M_send ⟨by decide, by decide⟩ ⟨Nat.zero_le _, Nat.zero_le _⟩ hl.1 (Nat.le_of_ble_eq_true rfl) d_M_toWrite_126 rfl (fun H locs h => ?_)
                      refine W.eq (g2 := F0 m 129 ls []) rfl ?_
                      have h : zH dC dI k q X (m_send (jM_M_toWrite_129_3 X M a r) 7 a 4 3 r 0 0) (zA q) s.heap H locs := h
                      exact J129_4 _ _ _ (lv_sub hl [1, 2, 3, 4, 0] rfl) (by rw [show (jM_M_toWrite_129_4 X M a r) = (m_send (jM_M_toWrite_129_3 X M a r) 7 a 4 3 r 0 0) from (by first | (simp only [jM_M_toWrite_129_4, eq_false hh1, eq_false hh12, eq_true hh13, ↓reduceIte]; done) | (simp [jM_M_toWrite_129_4, eq_false hh1, eq_false hh12, eq_true hh13]; done))]; exact h)
                refine lv_iload hx hb d_M_toWrite_96 (lv_at hl 0 rfl) ?_
                refine lv_iload_n hx hb d_M_toWrite_98 rfl (lv_at hl 3 rfl) ?_
                refine lv_icmp_eq (tgt := 129) hx hb d_M_toWrite_99 (by decide) (fun hh14 => ?_) (fun hh14 => ?_)
                · skip
                  exact J129_3 _ _ _ (lv_sub hl [1, 2, 3, 4, 0] rfl) (by rw [show (jM_M_toWrite_129_3 X M a r) = (jM_M_toWrite_129_2 X M a r) from (by first | (simp only [jM_M_toWrite_129_3, eq_false hh1, eq_true hh14, ↓reduceIte]; done) | (simp [jM_M_toWrite_129_3, eq_false hh1, eq_true hh14]; done))]; exact h)
                · skip
                  refine lv_aload_n hx hb d_M_toWrite_102 rfl (lv_at hl 1 rfl) ?_
                  refine g_M_50 C h d_M_toWrite_103 ?_
                  refine lv_iload_n hx hb d_M_toWrite_106 rfl (lv_at hl 2 rfl) ?_
                  refine l_M13 C h ha d_M_toWrite_107 ?_
                  refine lv_iload hx hb d_M_toWrite_108 (lv_at hl 0 rfl) ?_
                  refine lv_ishr hx hb d_M_toWrite_110 ?_
                  refine lv_iconst (v := 1) hx hb d_M_toWrite_111 (by decide) ?_
                  refine lv_iand hx hb d_M_toWrite_112 ?_
                  refine lv_iconst (v := 1) hx hb d_M_toWrite_113 (by decide) ?_
                  refine lv_icmp_ne (tgt := 129) hx hb d_M_toWrite_114 (by decide) (fun hh15 => ?_) (fun hh15 => ?_)
                  · skip
                    exact J129_3 _ _ _ (lv_sub hl [1, 2, 3, 4, 0] rfl) (by rw [show (jM_M_toWrite_129_3 X M a r) = (jM_M_toWrite_129_2 X M a r) from (by first | (simp only [jM_M_toWrite_129_3, eq_false hh1, eq_false hh14, eq_false hh15, ↓reduceIte]; done) | (simp [jM_M_toWrite_129_3, eq_false hh1, eq_false hh14, eq_false hh15]; done))]; exact h)
                  · skip
                    refine lv_aload_n hx hb d_M_toWrite_117 rfl (lv_at hl 1 rfl) ?_
                    refine lv_bipush (v := 7) hx hb d_M_toWrite_118 (by decide) ?_
                    refine lv_iload_n hx hb d_M_toWrite_120 rfl (lv_at hl 2 rfl) ?_
                    refine lv_iconst (v := 4) hx hb d_M_toWrite_121 (by decide) ?_
                    refine lv_iload hx hb d_M_toWrite_122 (lv_at hl 0 rfl) ?_
                    refine lv_iload_n hx hb d_M_toWrite_124 rfl (lv_at hl 3 rfl) ?_
                    refine lv_iconst (v := 0) hx hb d_M_toWrite_125 (by decide) ?_
                    refine z_callV (i := 37) C h (k_M_send l dC dI k q X (jM_M_toWrite_129_2 X M a r) 7 a 4 2 r 0 (zRow.room hqjM_M_toWrite_129_2 (by omega)) (vp4 hr4 ha)) co_M_send ml_M_130 im_M_send se_M_send in_M rfl rfl hd_M_send ⟨by decide, by decide⟩ ⟨Nat.zero_le _, Nat.zero_le _⟩ hl.1 (Nat.le_of_ble_eq_true rfl) d_M_toWrite_126 rfl (fun H locs h => ?_)
                    refine W.eq (g2 := F0 m 129 ls []) rfl ?_
                    have h : zH dC dI k q X (m_send (jM_M_toWrite_129_2 X M a r) 7 a 4 2 r 0 0) (zA q) s.heap H locs := h
                    exact J129_3 _ _ _ (lv_sub hl [1, 2, 3, 4, 0] rfl) (by rw [show (jM_M_toWrite_129_3 X M a r) = (m_send (jM_M_toWrite_129_2 X M a r) 7 a 4 2 r 0 0) from (by first | (simp only [jM_M_toWrite_129_3, eq_false hh1, eq_false hh14, eq_true hh15, ↓reduceIte]; done) | (simp [jM_M_toWrite_129_3, eq_false hh1, eq_false hh14, eq_true hh15]; done))]; exact h)
              refine lv_iload hx hb d_M_toWrite_96 (lv_at hl 0 rfl) ?_
              refine lv_iload_n hx hb d_M_toWrite_98 rfl (lv_at hl 3 rfl) ?_
              refine lv_icmp_eq (tgt := 129) hx hb d_M_toWrite_99 (by decide) (fun hh16 => ?_) (fun hh16 => ?_)
              · skip
                exact J129_2 _ _ _ (lv_sub hl [1, 2, 3, 4, 0] rfl) (by rw [show (jM_M_toWrite_129_2 X M a r) = (jM_M_toWrite_129_1 X M a r) from (by first | (simp only [jM_M_toWrite_129_2, eq_false hh1, eq_true hh16, ↓reduceIte]; done) | (simp [jM_M_toWrite_129_2, eq_false hh1, eq_true hh16]; done))]; exact h)
              · skip
                refine lv_aload_n hx hb d_M_toWrite_102 rfl (lv_at hl 1 rfl) ?_
                refine g_M_50 C h d_M_toWrite_103 ?_
                refine lv_iload_n hx hb d_M_toWrite_106 rfl (lv_at hl 2 rfl) ?_
                refine l_M13 C h ha d_M_toWrite_107 ?_
                refine lv_iload hx hb d_M_toWrite_108 (lv_at hl 0 rfl) ?_
                refine lv_ishr hx hb d_M_toWrite_110 ?_
                refine lv_iconst (v := 1) hx hb d_M_toWrite_111 (by decide) ?_
                refine lv_iand hx hb d_M_toWrite_112 ?_
                refine lv_iconst (v := 1) hx hb d_M_toWrite_113 (by decide) ?_
                refine lv_icmp_ne (tgt := 129) hx hb d_M_toWrite_114 (by decide) (fun hh17 => ?_) (fun hh17 => ?_)
                · skip
                  exact J129_2 _ _ _ (lv_sub hl [1, 2, 3, 4, 0] rfl) (by rw [show (jM_M_toWrite_129_2 X M a r) = (jM_M_toWrite_129_1 X M a r) from (by first | (simp only [jM_M_toWrite_129_2, eq_false hh1, eq_false hh16, eq_false hh17, ↓reduceIte]; done) | (simp [jM_M_toWrite_129_2, eq_false hh1, eq_false hh16, eq_false hh17]; done))]; exact h)
                · skip
                  refine lv_aload_n hx hb d_M_toWrite_117 rfl (lv_at hl 1 rfl) ?_
                  refine lv_bipush (v := 7) hx hb d_M_toWrite_118 (by decide) ?_
                  refine lv_iload_n hx hb d_M_toWrite_120 rfl (lv_at hl 2 rfl) ?_
                  refine lv_iconst (v := 4) hx hb d_M_toWrite_121 (by decide) ?_
                  refine lv_iload hx hb d_M_toWrite_122 (lv_at hl 0 rfl) ?_
                  refine lv_iload_n hx hb d_M_toWrite_124 rfl (lv_at hl 3 rfl) ?_
                  refine lv_iconst (v := 0) hx hb d_M_toWrite_125 (by decide) ?_
                  refine z_callV (i := 37) C h (k_M_send l dC dI k q X (jM_M_toWrite_129_1 X M a r) 7 a 4 1 r 0 (zRow.room hqjM_M_toWrite_129_1 (by omega)) (vp4 hr4 ha)) co_M_send ml_M_130 im_M_send se_M_send in_M rfl rfl hd_M_send ⟨by decide, by decide⟩ ⟨Nat.zero_le _, Nat.zero_le _⟩ hl.1 (Nat.le_of_ble_eq_true rfl) d_M_toWrite_126 rfl (fun H locs h => ?_)
                  refine W.eq (g2 := F0 m 129 ls []) rfl ?_
                  have h : zH dC dI k q X (m_send (jM_M_toWrite_129_1 X M a r) 7 a 4 1 r 0 0) (zA q) s.heap H locs := h
                  exact J129_2 _ _ _ (lv_sub hl [1, 2, 3, 4, 0] rfl) (by rw [show (jM_M_toWrite_129_2 X M a r) = (m_send (jM_M_toWrite_129_1 X M a r) 7 a 4 1 r 0 0) from (by first | (simp only [jM_M_toWrite_129_2, eq_false hh1, eq_false hh16, eq_true hh17, ↓reduceIte]; done) | (simp [jM_M_toWrite_129_2, eq_false hh1, eq_false hh16, eq_true hh17]; done))]; exact h)
            refine lv_iload hx hb d_M_toWrite_96 (lv_at hl 0 rfl) ?_
            refine lv_iload_n hx hb d_M_toWrite_98 rfl (lv_at hl 3 rfl) ?_
            refine lv_icmp_eq (tgt := 129) hx hb d_M_toWrite_99 (by decide) (fun hh18 => ?_) (fun hh18 => ?_)
            · skip
              exact J129_1 _ _ _ (lv_sub hl [1, 2, 3, 4, 0] rfl) (by rw [show (jM_M_toWrite_129_1 X M a r) = (m_send M 9 a 4 r r (jL3_M_toWrite_64_4 X M a r) (M 14 (Int32.toNatClampNeg a))) from (by first | (simp only [jM_M_toWrite_129_1, eq_false hh1, eq_true hh18, ↓reduceIte]; done) | (simp [jM_M_toWrite_129_1, eq_false hh1, eq_true hh18]; done))]; exact h)
            · skip
              refine lv_aload_n hx hb d_M_toWrite_102 rfl (lv_at hl 1 rfl) ?_
              refine g_M_50 C h d_M_toWrite_103 ?_
              refine lv_iload_n hx hb d_M_toWrite_106 rfl (lv_at hl 2 rfl) ?_
              refine l_M13 C h ha d_M_toWrite_107 ?_
              refine lv_iload hx hb d_M_toWrite_108 (lv_at hl 0 rfl) ?_
              refine lv_ishr hx hb d_M_toWrite_110 ?_
              refine lv_iconst (v := 1) hx hb d_M_toWrite_111 (by decide) ?_
              refine lv_iand hx hb d_M_toWrite_112 ?_
              refine lv_iconst (v := 1) hx hb d_M_toWrite_113 (by decide) ?_
              refine lv_icmp_ne (tgt := 129) hx hb d_M_toWrite_114 (by decide) (fun hh19 => ?_) (fun hh19 => ?_)
              · skip
                exact J129_1 _ _ _ (lv_sub hl [1, 2, 3, 4, 0] rfl) (by rw [show (jM_M_toWrite_129_1 X M a r) = (m_send M 9 a 4 r r (jL3_M_toWrite_64_4 X M a r) (M 14 (Int32.toNatClampNeg a))) from (by first | (simp only [jM_M_toWrite_129_1, eq_false hh1, eq_false hh18, eq_false hh19, ↓reduceIte]; done) | (simp [jM_M_toWrite_129_1, eq_false hh1, eq_false hh18, eq_false hh19]; done))]; exact h)
              · skip
                refine lv_aload_n hx hb d_M_toWrite_117 rfl (lv_at hl 1 rfl) ?_
                refine lv_bipush (v := 7) hx hb d_M_toWrite_118 (by decide) ?_
                refine lv_iload_n hx hb d_M_toWrite_120 rfl (lv_at hl 2 rfl) ?_
                refine lv_iconst (v := 4) hx hb d_M_toWrite_121 (by decide) ?_
                refine lv_iload hx hb d_M_toWrite_122 (lv_at hl 0 rfl) ?_
                refine lv_iload_n hx hb d_M_toWrite_124 rfl (lv_at hl 3 rfl) ?_
                refine lv_iconst (v := 0) hx hb d_M_toWrite_125 (by decide) ?_
                refine z_callV (i := 37) C h (k_M_send l dC dI k q X (m_send M 9 a 4 r r (jL3_M_toWrite_64_4 X M a r) (M 14 (Int32.toNatClampNeg a))) 7 a 4 0 r 0 (zRow.room (zRow.next (zRow.of hn)) (by omega)) (vp4 hr4 ha)) co_M_send ml_M_130 im_M_send se_M_send in_M rfl rfl hd_M_send ⟨by decide, by decide⟩ ⟨Nat.zero_le _, Nat.zero_le _⟩ hl.1 (Nat.le_of_ble_eq_true rfl) d_M_toWrite_126 rfl (fun H locs h => ?_)
                refine W.eq (g2 := F0 m 129 ls []) rfl ?_
                have h : zH dC dI k q X (m_send (m_send M 9 a 4 r r (jL3_M_toWrite_64_4 X M a r) (M 14 (Int32.toNatClampNeg a))) 7 a 4 0 r 0 0) (zA q) s.heap H locs := h
                exact J129_1 _ _ _ (lv_sub hl [1, 2, 3, 4, 0] rfl) (by rw [show (jM_M_toWrite_129_1 X M a r) = (m_send (m_send M 9 a 4 r r (jL3_M_toWrite_64_4 X M a r) (M 14 (Int32.toNatClampNeg a))) 7 a 4 0 r 0 0) from (by first | (simp only [jM_M_toWrite_129_1, eq_false hh1, eq_false hh18, eq_true hh19, ↓reduceIte]; done) | (simp [jM_M_toWrite_129_1, eq_false hh1, eq_false hh18, eq_true hh19]; done))]; exact h)
          refine lv_iload hx hb d_M_toWrite_40 (lv_at hl 0 rfl) ?_
          refine lv_iload_n hx hb d_M_toWrite_42 rfl (lv_at hl 3 rfl) ?_
          refine lv_icmp_eq (tgt := 64) hx hb d_M_toWrite_43 (by decide) (fun hh20 => ?_) (fun hh20 => ?_)
          · skip
            exact J64_4 _ _ _ (by have hl := lv_sub hl [1, 2, 3, 4, 0] rfl; rw [show (jL3_M_toWrite_64_4 X M a r) = (jL3_M_toWrite_64_3 X M a r) from (by first | (simp only [jL3_M_toWrite_64_4, eq_false hh1, eq_true hh20, ↓reduceIte]; done) | (simp [jL3_M_toWrite_64_4, eq_false hh1, eq_true hh20]; done))]; exact hl) h
          · skip
            refine lv_aload_n hx hb d_M_toWrite_46 rfl (lv_at hl 1 rfl) ?_
            refine g_M_50 C h d_M_toWrite_47 ?_
            refine lv_iload_n hx hb d_M_toWrite_50 rfl (lv_at hl 2 rfl) ?_
            refine l_M13 C h ha d_M_toWrite_51 ?_
            refine lv_iload hx hb d_M_toWrite_52 (lv_at hl 0 rfl) ?_
            refine lv_ishr hx hb d_M_toWrite_54 ?_
            refine lv_iconst (v := 1) hx hb d_M_toWrite_55 (by decide) ?_
            refine lv_iand hx hb d_M_toWrite_56 ?_
            refine lv_iconst (v := 1) hx hb d_M_toWrite_57 (by decide) ?_
            refine lv_icmp_ne (tgt := 64) hx hb d_M_toWrite_58 (by decide) (fun hh21 => ?_) (fun hh21 => ?_)
            · skip
              exact J64_4 _ _ _ (by have hl := lv_sub hl [1, 2, 3, 4, 0] rfl; rw [show (jL3_M_toWrite_64_4 X M a r) = (jL3_M_toWrite_64_3 X M a r) from (by first | (simp only [jL3_M_toWrite_64_4, eq_false hh1, eq_false hh20, eq_false hh21, ↓reduceIte]; done) | (simp [jL3_M_toWrite_64_4, eq_false hh1, eq_false hh20, eq_false hh21]; done))]; exact hl) h
            · skip
              refine lv_iinc (k := 4) (v := ((jL3_M_toWrite_64_3 X M a r) + 1)) hx hb d_M_toWrite_61 hl rfl rfl (by decide) rfl (fun ls hl => ?_)
              have hl : lv_has ls 5 [(3, .int ((jL3_M_toWrite_64_3 X M a r) + 1)), (4, .int 3), (0, .ref (q 37)), (1, .int a), (2, .int r)] := hl
              exact J64_4 _ _ _ (by have hl := lv_sub hl [2, 3, 4, 0, 1] rfl; rw [show (jL3_M_toWrite_64_4 X M a r) = ((jL3_M_toWrite_64_3 X M a r) + 1) from (by first | (simp only [jL3_M_toWrite_64_4, eq_false hh1, eq_false hh20, eq_true hh21, ↓reduceIte]; done) | (simp [jL3_M_toWrite_64_4, eq_false hh1, eq_false hh20, eq_true hh21]; done))]; exact hl) h
        refine lv_iload hx hb d_M_toWrite_40 (lv_at hl 0 rfl) ?_
        refine lv_iload_n hx hb d_M_toWrite_42 rfl (lv_at hl 3 rfl) ?_
        refine lv_icmp_eq (tgt := 64) hx hb d_M_toWrite_43 (by decide) (fun hh22 => ?_) (fun hh22 => ?_)
        · skip
          exact J64_3 _ _ _ (by have hl := lv_sub hl [1, 2, 3, 4, 0] rfl; rw [show (jL3_M_toWrite_64_3 X M a r) = (jL3_M_toWrite_64_2 X M a r) from (by first | (simp only [jL3_M_toWrite_64_3, eq_false hh1, eq_true hh22, ↓reduceIte]; done) | (simp [jL3_M_toWrite_64_3, eq_false hh1, eq_true hh22]; done))]; exact hl) h
        · skip
          refine lv_aload_n hx hb d_M_toWrite_46 rfl (lv_at hl 1 rfl) ?_
          refine g_M_50 C h d_M_toWrite_47 ?_
          refine lv_iload_n hx hb d_M_toWrite_50 rfl (lv_at hl 2 rfl) ?_
          refine l_M13 C h ha d_M_toWrite_51 ?_
          refine lv_iload hx hb d_M_toWrite_52 (lv_at hl 0 rfl) ?_
          refine lv_ishr hx hb d_M_toWrite_54 ?_
          refine lv_iconst (v := 1) hx hb d_M_toWrite_55 (by decide) ?_
          refine lv_iand hx hb d_M_toWrite_56 ?_
          refine lv_iconst (v := 1) hx hb d_M_toWrite_57 (by decide) ?_
          refine lv_icmp_ne (tgt := 64) hx hb d_M_toWrite_58 (by decide) (fun hh23 => ?_) (fun hh23 => ?_)
          · skip
            exact J64_3 _ _ _ (by have hl := lv_sub hl [1, 2, 3, 4, 0] rfl; rw [show (jL3_M_toWrite_64_3 X M a r) = (jL3_M_toWrite_64_2 X M a r) from (by first | (simp only [jL3_M_toWrite_64_3, eq_false hh1, eq_false hh22, eq_false hh23, ↓reduceIte]; done) | (simp [jL3_M_toWrite_64_3, eq_false hh1, eq_false hh22, eq_false hh23]; done))]; exact hl) h
          · skip
            refine lv_iinc (k := 4) (v := ((jL3_M_toWrite_64_2 X M a r) + 1)) hx hb d_M_toWrite_61 hl rfl rfl (by decide) rfl (fun ls hl => ?_)
            have hl : lv_has ls 5 [(3, .int ((jL3_M_toWrite_64_2 X M a r) + 1)), (4, .int 2), (0, .ref (q 37)), (1, .int a), (2, .int r)] := hl
            exact J64_3 _ _ _ (by have hl := lv_sub hl [2, 3, 4, 0, 1] rfl; rw [show (jL3_M_toWrite_64_3 X M a r) = ((jL3_M_toWrite_64_2 X M a r) + 1) from (by first | (simp only [jL3_M_toWrite_64_3, eq_false hh1, eq_false hh22, eq_true hh23, ↓reduceIte]; done) | (simp [jL3_M_toWrite_64_3, eq_false hh1, eq_false hh22, eq_true hh23]; done))]; exact hl) h
      refine lv_iload hx hb d_M_toWrite_40 (lv_at hl 0 rfl) ?_
      refine lv_iload_n hx hb d_M_toWrite_42 rfl (lv_at hl 3 rfl) ?_
      refine lv_icmp_eq (tgt := 64) hx hb d_M_toWrite_43 (by decide) (fun hh24 => ?_) (fun hh24 => ?_)
      · skip
        exact J64_2 _ _ _ (by have hl := lv_sub hl [1, 2, 3, 4, 0] rfl; rw [show (jL3_M_toWrite_64_2 X M a r) = (jL3_M_toWrite_64_1 X M a r) from (by first | (simp only [jL3_M_toWrite_64_2, eq_false hh1, eq_true hh24, ↓reduceIte]; done) | (simp [jL3_M_toWrite_64_2, eq_false hh1, eq_true hh24]; done))]; exact hl) h
      · skip
        refine lv_aload_n hx hb d_M_toWrite_46 rfl (lv_at hl 1 rfl) ?_
        refine g_M_50 C h d_M_toWrite_47 ?_
        refine lv_iload_n hx hb d_M_toWrite_50 rfl (lv_at hl 2 rfl) ?_
        refine l_M13 C h ha d_M_toWrite_51 ?_
        refine lv_iload hx hb d_M_toWrite_52 (lv_at hl 0 rfl) ?_
        refine lv_ishr hx hb d_M_toWrite_54 ?_
        refine lv_iconst (v := 1) hx hb d_M_toWrite_55 (by decide) ?_
        refine lv_iand hx hb d_M_toWrite_56 ?_
        refine lv_iconst (v := 1) hx hb d_M_toWrite_57 (by decide) ?_
        refine lv_icmp_ne (tgt := 64) hx hb d_M_toWrite_58 (by decide) (fun hh25 => ?_) (fun hh25 => ?_)
        · skip
          exact J64_2 _ _ _ (by have hl := lv_sub hl [1, 2, 3, 4, 0] rfl; rw [show (jL3_M_toWrite_64_2 X M a r) = (jL3_M_toWrite_64_1 X M a r) from (by first | (simp only [jL3_M_toWrite_64_2, eq_false hh1, eq_false hh24, eq_false hh25, ↓reduceIte]; done) | (simp [jL3_M_toWrite_64_2, eq_false hh1, eq_false hh24, eq_false hh25]; done))]; exact hl) h
        · skip
          refine lv_iinc (k := 4) (v := ((jL3_M_toWrite_64_1 X M a r) + 1)) hx hb d_M_toWrite_61 hl rfl rfl (by decide) rfl (fun ls hl => ?_)
          have hl : lv_has ls 5 [(3, .int ((jL3_M_toWrite_64_1 X M a r) + 1)), (4, .int 1), (0, .ref (q 37)), (1, .int a), (2, .int r)] := hl
          exact J64_2 _ _ _ (by have hl := lv_sub hl [2, 3, 4, 0, 1] rfl; rw [show (jL3_M_toWrite_64_2 X M a r) = ((jL3_M_toWrite_64_1 X M a r) + 1) from (by first | (simp only [jL3_M_toWrite_64_2, eq_false hh1, eq_false hh24, eq_true hh25, ↓reduceIte]; done) | (simp [jL3_M_toWrite_64_2, eq_false hh1, eq_false hh24, eq_true hh25]; done))]; exact hl) h
    refine lv_iload hx hb d_M_toWrite_40 (lv_at hl 0 rfl) ?_
    refine lv_iload_n hx hb d_M_toWrite_42 rfl (lv_at hl 4 rfl) ?_
    refine lv_icmp_eq (tgt := 64) hx hb d_M_toWrite_43 (by decide) (fun hh26 => ?_) (fun hh26 => ?_)
    · skip
      exact J64_1 _ _ _ (by have hl := lv_sub hl [2, 3, 4, 1, 0] rfl; rw [show (jL3_M_toWrite_64_1 X M a r) = 0 from (by first | (simp only [jL3_M_toWrite_64_1, eq_false hh1, eq_true hh26, ↓reduceIte]; done) | (simp [jL3_M_toWrite_64_1, eq_false hh1, eq_true hh26]; done))]; exact hl) h
    · skip
      refine lv_aload_n hx hb d_M_toWrite_46 rfl (lv_at hl 2 rfl) ?_
      refine g_M_50 C h d_M_toWrite_47 ?_
      refine lv_iload_n hx hb d_M_toWrite_50 rfl (lv_at hl 3 rfl) ?_
      refine l_M13 C h ha d_M_toWrite_51 ?_
      refine lv_iload hx hb d_M_toWrite_52 (lv_at hl 0 rfl) ?_
      refine lv_ishr hx hb d_M_toWrite_54 ?_
      refine lv_iconst (v := 1) hx hb d_M_toWrite_55 (by decide) ?_
      refine lv_iand hx hb d_M_toWrite_56 ?_
      refine lv_iconst (v := 1) hx hb d_M_toWrite_57 (by decide) ?_
      refine lv_icmp_ne (tgt := 64) hx hb d_M_toWrite_58 (by decide) (fun hh27 => ?_) (fun hh27 => ?_)
      · skip
        exact J64_1 _ _ _ (by have hl := lv_sub hl [2, 3, 4, 1, 0] rfl; rw [show (jL3_M_toWrite_64_1 X M a r) = 0 from (by first | (simp only [jL3_M_toWrite_64_1, eq_false hh1, eq_false hh26, eq_false hh27, ↓reduceIte]; done) | (simp [jL3_M_toWrite_64_1, eq_false hh1, eq_false hh26, eq_false hh27]; done))]; exact hl) h
      · skip
        refine lv_iinc (k := 1) (v := 1) hx hb d_M_toWrite_61 hl rfl (by decide) (by decide) rfl (fun ls hl => ?_)
        have hl : lv_has ls 5 [(3, .int 1), (4, .int 0), (0, .ref (q 37)), (1, .int a), (2, .int r)] := hl
        exact J64_1 _ _ _ (by have hl := lv_sub hl [2, 3, 4, 0, 1] rfl; rw [show (jL3_M_toWrite_64_1 X M a r) = 1 from (by first | (simp only [jL3_M_toWrite_64_1, eq_false hh1, eq_false hh26, eq_true hh27, ↓reduceIte]; done) | (simp [jL3_M_toWrite_64_1, eq_false hh1, eq_false hh26, eq_true hh27]; done))]; exact hl) h
  · skip
    refine lv_aload_n hx hb d_M_toWrite_10 rfl (lv_at hl 0 rfl) ?_
    refine lv_bipush (v := 6) hx hb d_M_toWrite_11 (by decide) ?_
    refine lv_iload_n hx hb d_M_toWrite_13 rfl (lv_at hl 1 rfl) ?_
    refine lv_iconst (v := 4) hx hb d_M_toWrite_14 (by decide) ?_
    refine lv_aload_n hx hb d_M_toWrite_15 rfl (lv_at hl 0 rfl) ?_
    refine g_M_47 C h d_M_toWrite_16 ?_
    refine lv_iload_n hx hb d_M_toWrite_19 rfl (lv_at hl 1 rfl) ?_
    refine l_M12 C h ha d_M_toWrite_20 ?_
    refine lv_iload_n hx hb d_M_toWrite_21 rfl (lv_at hl 2 rfl) ?_
    refine lv_iconst (v := 0) hx hb d_M_toWrite_22 (by decide) ?_
    refine z_callV (i := 37) C h (k_M_send l dC dI k q X M 6 a 4 (M 12 (Int32.toNatClampNeg a)) r 0 (zRow.room (zRow.of hn) (by omega)) (vp4 hr4 ha)) co_M_send ml_M_130 im_M_send se_M_send in_M rfl rfl hd_M_send ⟨by decide, by decide⟩ ⟨Nat.zero_le _, Nat.zero_le _⟩ hl.1 (Nat.le_of_ble_eq_true rfl) d_M_toWrite_23 rfl (fun H locs h => ?_)
    refine W.eq (g2 := F0 m 26 ls []) rfl ?_
    have h : zH dC dI k q X (m_send M 6 a 4 (M 12 (Int32.toNatClampNeg a)) r 0 0) (zA q) s.heap H locs := h
    refine lv_goto (tgt := 142) hx hb d_M_toWrite_26 (by decide) ?_
    refine lv_aload_n hx hb d_M_toWrite_142 rfl (lv_at hl 0 rfl) ?_
    refine g_M_47 C h d_M_toWrite_143 ?_
    refine lv_iload_n hx hb d_M_toWrite_146 rfl (lv_at hl 1 rfl) ?_
    refine lv_iload_n hx hb d_M_toWrite_147 rfl (lv_at hl 2 rfl) ?_
    refine s_M12 C h ha d_M_toWrite_148 (fun H locs h => ?_)
    refine lv_aload_n hx hb d_M_toWrite_149 rfl (lv_at hl 0 rfl) ?_
    refine g_M_44 C h d_M_toWrite_150 ?_
    refine lv_iload_n hx hb d_M_toWrite_153 rfl (lv_at hl 1 rfl) ?_
    refine lv_iconst (v := 2) hx hb d_M_toWrite_154 (by decide) ?_
    refine s_M11 C h ha d_M_toWrite_155 (fun H locs h => ?_)
    exact z_retvE C h hr hk (by first | rfl | (simp only [m_M_toWrite, eq_true hh1, ↓reduceIte]; done) | (simp [m_M_toWrite, eq_true hh1]; done)) (by first | rfl | (simp only [m_M_toWrite, eq_true hh1, ↓reduceIte]; done) | (simp [m_M_toWrite, eq_true hh1]; done)) d_M_toWrite_156
